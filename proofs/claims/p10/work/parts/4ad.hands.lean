set_option linter.all false
abbrev c_MH_written : ByteArray := prog_13_method_23_code
abbrev y_MH_written : MethodName := ⟨"LatticeKeysModel$Hands", "written", "([B)V"⟩
abbrev w_MH_written : List Cond := Cond.code y_MH_written c_MH_written 8 none :: WG
theorem dMH_written_0 : decode c_MH_written 0 = .ok (.iconst 0, 1) := by decide +kernel
theorem dMH_written_1 : decode c_MH_written 1 = .ok (.istore_n 2, 1) := by decide +kernel
theorem dMH_written_2 : decode c_MH_written 2 = .ok (.iload_n 2, 1) := by decide +kernel
theorem dMH_written_3 : decode c_MH_written 3 = .ok (.aload_n 0, 1) := by decide +kernel
theorem dMH_written_4 : decode c_MH_written 4 = .ok (.getfield 132, 3) := by decide +kernel
theorem dMH_written_7 : decode c_MH_written 7 = .ok (.if_icmp .ge 18, 3) := by decide +kernel
theorem dMH_written_10 : decode c_MH_written 10 = .ok (.aload_n 1, 1) := by decide +kernel
theorem dMH_written_11 : decode c_MH_written 11 = .ok (.iload_n 2, 1) := by decide +kernel
theorem dMH_written_12 : decode c_MH_written 12 = .ok (.aload_n 0, 1) := by decide +kernel
theorem dMH_written_13 : decode c_MH_written 13 = .ok (.getfield 78, 3) := by decide +kernel
theorem dMH_written_16 : decode c_MH_written 16 = .ok (.iload_n 2, 1) := by decide +kernel
theorem dMH_written_17 : decode c_MH_written 17 = .ok (.baload, 1) := by decide +kernel
theorem dMH_written_18 : decode c_MH_written 18 = .ok (.bastore, 1) := by decide +kernel
theorem dMH_written_19 : decode c_MH_written 19 = .ok (.iinc 2 1, 3) := by decide +kernel
theorem dMH_written_22 : decode c_MH_written 22 = .ok (.goto (-20), 3) := by decide +kernel
theorem dMH_written_25 : decode c_MH_written 25 = .ok (.aload_n 0, 1) := by decide +kernel
theorem dMH_written_26 : decode c_MH_written 26 = .ok (.getfield 103, 3) := by decide +kernel
theorem dMH_written_29 : decode c_MH_written 29 = .ok (.ifCond .ne 8, 3) := by decide +kernel
theorem dMH_written_32 : decode c_MH_written 32 = .ok (.bipush 18, 2) := by decide +kernel
theorem dMH_written_34 : decode c_MH_written 34 = .ok (.goto 5, 3) := by decide +kernel
theorem dMH_written_37 : decode c_MH_written 37 = .ok (.bipush 20, 2) := by decide +kernel
theorem dMH_written_39 : decode c_MH_written 39 = .ok (.istore_n 2, 1) := by decide +kernel
theorem dMH_written_40 : decode c_MH_written 40 = .ok (.bipush 8, 2) := by decide +kernel
theorem dMH_written_42 : decode c_MH_written 42 = .ok (.aload_n 0, 1) := by decide +kernel
theorem dMH_written_43 : decode c_MH_written 43 = .ok (.getfield 132, 3) := by decide +kernel
theorem dMH_written_46 : decode c_MH_written 46 = .ok (.imul, 1) := by decide +kernel
theorem dMH_written_47 : decode c_MH_written 47 = .ok (.istore_n 3, 1) := by decide +kernel
theorem dMH_written_48 : decode c_MH_written 48 = .ok (.iconst 0, 1) := by decide +kernel
theorem dMH_written_49 : decode c_MH_written 49 = .ok (.istore 4, 2) := by decide +kernel
theorem dMH_written_51 : decode c_MH_written 51 = .ok (.iload 4, 2) := by decide +kernel
theorem dMH_written_53 : decode c_MH_written 53 = .ok (.aload_n 0, 1) := by decide +kernel
theorem dMH_written_54 : decode c_MH_written 54 = .ok (.getfield 110, 3) := by decide +kernel
theorem dMH_written_57 : decode c_MH_written 57 = .ok (.if_icmp .ge 53, 3) := by decide +kernel
theorem dMH_written_60 : decode c_MH_written 60 = .ok (.iconst 0, 1) := by decide +kernel
theorem dMH_written_61 : decode c_MH_written 61 = .ok (.istore 5, 2) := by decide +kernel
theorem dMH_written_63 : decode c_MH_written 63 = .ok (.iload 5, 2) := by decide +kernel
theorem dMH_written_65 : decode c_MH_written 65 = .ok (.sipush 256, 3) := by decide +kernel
theorem dMH_written_68 : decode c_MH_written 68 = .ok (.if_icmp .ge 36, 3) := by decide +kernel
theorem dMH_written_71 : decode c_MH_written 71 = .ok (.aload_n 1, 1) := by decide +kernel
theorem dMH_written_72 : decode c_MH_written 72 = .ok (.iload_n 3, 1) := by decide +kernel
theorem dMH_written_73 : decode c_MH_written 73 = .ok (.iload_n 2, 1) := by decide +kernel
theorem dMH_written_74 : decode c_MH_written 74 = .ok (.aload_n 0, 1) := by decide +kernel
theorem dMH_written_75 : decode c_MH_written 75 = .ok (.getfield 118, 3) := by decide +kernel
theorem dMH_written_78 : decode c_MH_written 78 = .ok (.aload_n 0, 1) := by decide +kernel
theorem dMH_written_79 : decode c_MH_written 79 = .ok (.getfield 39, 3) := by decide +kernel
theorem dMH_written_82 : decode c_MH_written 82 = .ok (.iload 4, 2) := by decide +kernel
theorem dMH_written_84 : decode c_MH_written 84 = .ok (.aaload, 1) := by decide +kernel
theorem dMH_written_85 : decode c_MH_written 85 = .ok (.iload 5, 2) := by decide +kernel
theorem dMH_written_87 : decode c_MH_written 87 = .ok (.iaload, 1) := by decide +kernel
theorem dMH_written_88 : decode c_MH_written 88 = .ok (.invokestatic 201, 3) := by decide +kernel
theorem dMH_written_91 : decode c_MH_written 91 = .ok (.invokestatic 187, 3) := by decide +kernel
theorem dMH_written_94 : decode c_MH_written 94 = .ok (.iload_n 3, 1) := by decide +kernel
theorem dMH_written_95 : decode c_MH_written 95 = .ok (.iload_n 2, 1) := by decide +kernel
theorem dMH_written_96 : decode c_MH_written 96 = .ok (.iadd, 1) := by decide +kernel
theorem dMH_written_97 : decode c_MH_written 97 = .ok (.istore_n 3, 1) := by decide +kernel
theorem dMH_written_98 : decode c_MH_written 98 = .ok (.iinc 5 1, 3) := by decide +kernel
theorem dMH_written_101 : decode c_MH_written 101 = .ok (.goto (-38), 3) := by decide +kernel
theorem dMH_written_104 : decode c_MH_written 104 = .ok (.iinc 4 1, 3) := by decide +kernel
theorem dMH_written_107 : decode c_MH_written 107 = .ok (.goto (-56), 3) := by decide +kernel
theorem dMH_written_110 : decode c_MH_written 110 = .ok (.iload_n 3, 1) := by decide +kernel
theorem dMH_written_111 : decode c_MH_written 111 = .ok (.bipush 8, 2) := by decide +kernel
theorem dMH_written_113 : decode c_MH_written 113 = .ok (.idiv, 1) := by decide +kernel
theorem dMH_written_114 : decode c_MH_written 114 = .ok (.istore 4, 2) := by decide +kernel
theorem dMH_written_116 : decode c_MH_written 116 = .ok (.iconst 0, 1) := by decide +kernel
theorem dMH_written_117 : decode c_MH_written 117 = .ok (.istore 5, 2) := by decide +kernel
theorem dMH_written_119 : decode c_MH_written 119 = .ok (.iconst 0, 1) := by decide +kernel
theorem dMH_written_120 : decode c_MH_written 120 = .ok (.istore 6, 2) := by decide +kernel
theorem dMH_written_122 : decode c_MH_written 122 = .ok (.iload 6, 2) := by decide +kernel
theorem dMH_written_124 : decode c_MH_written 124 = .ok (.getstatic 100, 3) := by decide +kernel
theorem dMH_written_127 : decode c_MH_written 127 = .ok (.aload_n 0, 1) := by decide +kernel
theorem dMH_written_128 : decode c_MH_written 128 = .ok (.getfield 103, 3) := by decide +kernel
theorem dMH_written_131 : decode c_MH_written 131 = .ok (.iaload, 1) := by decide +kernel
theorem dMH_written_132 : decode c_MH_written 132 = .ok (.aload_n 0, 1) := by decide +kernel
theorem dMH_written_133 : decode c_MH_written 133 = .ok (.getfield 107, 3) := by decide +kernel
theorem dMH_written_136 : decode c_MH_written 136 = .ok (.iadd, 1) := by decide +kernel
theorem dMH_written_137 : decode c_MH_written 137 = .ok (.if_icmp .ge 17, 3) := by decide +kernel
theorem dMH_written_140 : decode c_MH_written 140 = .ok (.aload_n 1, 1) := by decide +kernel
theorem dMH_written_141 : decode c_MH_written 141 = .ok (.iload 4, 2) := by decide +kernel
theorem dMH_written_143 : decode c_MH_written 143 = .ok (.iload 6, 2) := by decide +kernel
theorem dMH_written_145 : decode c_MH_written 145 = .ok (.iadd, 1) := by decide +kernel
theorem dMH_written_146 : decode c_MH_written 146 = .ok (.iconst 0, 1) := by decide +kernel
theorem dMH_written_147 : decode c_MH_written 147 = .ok (.bastore, 1) := by decide +kernel
theorem dMH_written_148 : decode c_MH_written 148 = .ok (.iinc 6 1, 3) := by decide +kernel
theorem dMH_written_151 : decode c_MH_written 151 = .ok (.goto (-29), 3) := by decide +kernel
theorem dMH_written_154 : decode c_MH_written 154 = .ok (.iconst 0, 1) := by decide +kernel
theorem dMH_written_155 : decode c_MH_written 155 = .ok (.istore 6, 2) := by decide +kernel
theorem dMH_written_157 : decode c_MH_written 157 = .ok (.iload 6, 2) := by decide +kernel
theorem dMH_written_159 : decode c_MH_written 159 = .ok (.aload_n 0, 1) := by decide +kernel
theorem dMH_written_160 : decode c_MH_written 160 = .ok (.getfield 107, 3) := by decide +kernel
theorem dMH_written_163 : decode c_MH_written 163 = .ok (.if_icmp .ge 74, 3) := by decide +kernel
theorem dMH_written_166 : decode c_MH_written 166 = .ok (.iconst 0, 1) := by decide +kernel
theorem dMH_written_167 : decode c_MH_written 167 = .ok (.istore 7, 2) := by decide +kernel
theorem dMH_written_169 : decode c_MH_written 169 = .ok (.iload 7, 2) := by decide +kernel
theorem dMH_written_171 : decode c_MH_written 171 = .ok (.sipush 256, 3) := by decide +kernel
theorem dMH_written_174 : decode c_MH_written 174 = .ok (.if_icmp .ge 38, 3) := by decide +kernel
theorem dMH_written_177 : decode c_MH_written 177 = .ok (.aload_n 0, 1) := by decide +kernel
theorem dMH_written_178 : decode c_MH_written 178 = .ok (.getfield 48, 3) := by decide +kernel
theorem dMH_written_181 : decode c_MH_written 181 = .ok (.iload 6, 2) := by decide +kernel
theorem dMH_written_183 : decode c_MH_written 183 = .ok (.aaload, 1) := by decide +kernel
theorem dMH_written_184 : decode c_MH_written 184 = .ok (.iload 7, 2) := by decide +kernel
theorem dMH_written_186 : decode c_MH_written 186 = .ok (.iaload, 1) := by decide +kernel
theorem dMH_written_187 : decode c_MH_written 187 = .ok (.ifCond .ne 6, 3) := by decide +kernel
theorem dMH_written_190 : decode c_MH_written 190 = .ok (.goto 16, 3) := by decide +kernel
theorem dMH_written_193 : decode c_MH_written 193 = .ok (.aload_n 1, 1) := by decide +kernel
theorem dMH_written_194 : decode c_MH_written 194 = .ok (.iload 4, 2) := by decide +kernel
theorem dMH_written_196 : decode c_MH_written 196 = .ok (.iload 5, 2) := by decide +kernel
theorem dMH_written_198 : decode c_MH_written 198 = .ok (.iadd, 1) := by decide +kernel
theorem dMH_written_199 : decode c_MH_written 199 = .ok (.iload 7, 2) := by decide +kernel
theorem dMH_written_201 : decode c_MH_written 201 = .ok (.i2b, 1) := by decide +kernel
theorem dMH_written_202 : decode c_MH_written 202 = .ok (.bastore, 1) := by decide +kernel
theorem dMH_written_203 : decode c_MH_written 203 = .ok (.iinc 5 1, 3) := by decide +kernel
theorem dMH_written_206 : decode c_MH_written 206 = .ok (.iinc 7 1, 3) := by decide +kernel
theorem dMH_written_209 : decode c_MH_written 209 = .ok (.goto (-40), 3) := by decide +kernel
theorem dMH_written_212 : decode c_MH_written 212 = .ok (.aload_n 1, 1) := by decide +kernel
theorem dMH_written_213 : decode c_MH_written 213 = .ok (.iload 4, 2) := by decide +kernel
theorem dMH_written_215 : decode c_MH_written 215 = .ok (.getstatic 100, 3) := by decide +kernel
theorem dMH_written_218 : decode c_MH_written 218 = .ok (.aload_n 0, 1) := by decide +kernel
theorem dMH_written_219 : decode c_MH_written 219 = .ok (.getfield 103, 3) := by decide +kernel
theorem dMH_written_222 : decode c_MH_written 222 = .ok (.iaload, 1) := by decide +kernel
theorem dMH_written_223 : decode c_MH_written 223 = .ok (.iadd, 1) := by decide +kernel
theorem dMH_written_224 : decode c_MH_written 224 = .ok (.iload 6, 2) := by decide +kernel
theorem dMH_written_226 : decode c_MH_written 226 = .ok (.iadd, 1) := by decide +kernel
theorem dMH_written_227 : decode c_MH_written 227 = .ok (.iload 5, 2) := by decide +kernel
theorem dMH_written_229 : decode c_MH_written 229 = .ok (.i2b, 1) := by decide +kernel
theorem dMH_written_230 : decode c_MH_written 230 = .ok (.bastore, 1) := by decide +kernel
theorem dMH_written_231 : decode c_MH_written 231 = .ok (.iinc 6 1, 3) := by decide +kernel
theorem dMH_written_234 : decode c_MH_written 234 = .ok (.goto (-77), 3) := by decide +kernel
theorem dMH_written_237 : decode c_MH_written 237 = .ok (.return_, 1) := by decide +kernel
abbrev c_MH_readHints : ByteArray := prog_13_method_24_code
abbrev y_MH_readHints : MethodName := ⟨"LatticeKeysModel$Hands", "readHints", "([BI)Z"⟩
abbrev w_MH_readHints : List Cond := Cond.code y_MH_readHints c_MH_readHints 8 (some .boolean) :: WG
theorem dMH_readHints_0 : decode c_MH_readHints 0 = .ok (.iconst 0, 1) := by decide +kernel
theorem dMH_readHints_1 : decode c_MH_readHints 1 = .ok (.istore_n 3, 1) := by decide +kernel
theorem dMH_readHints_2 : decode c_MH_readHints 2 = .ok (.iconst 0, 1) := by decide +kernel
theorem dMH_readHints_3 : decode c_MH_readHints 3 = .ok (.istore 4, 2) := by decide +kernel
theorem dMH_readHints_5 : decode c_MH_readHints 5 = .ok (.iload 4, 2) := by decide +kernel
theorem dMH_readHints_7 : decode c_MH_readHints 7 = .ok (.aload_n 0, 1) := by decide +kernel
theorem dMH_readHints_8 : decode c_MH_readHints 8 = .ok (.getfield 107, 3) := by decide +kernel
theorem dMH_readHints_11 : decode c_MH_readHints 11 = .ok (.if_icmp .ge 146, 3) := by decide +kernel
theorem dMH_readHints_14 : decode c_MH_readHints 14 = .ok (.iconst 0, 1) := by decide +kernel
theorem dMH_readHints_15 : decode c_MH_readHints 15 = .ok (.istore 5, 2) := by decide +kernel
theorem dMH_readHints_17 : decode c_MH_readHints 17 = .ok (.iload 5, 2) := by decide +kernel
theorem dMH_readHints_19 : decode c_MH_readHints 19 = .ok (.sipush 256, 3) := by decide +kernel
theorem dMH_readHints_22 : decode c_MH_readHints 22 = .ok (.if_icmp .ge 20, 3) := by decide +kernel
theorem dMH_readHints_25 : decode c_MH_readHints 25 = .ok (.aload_n 0, 1) := by decide +kernel
theorem dMH_readHints_26 : decode c_MH_readHints 26 = .ok (.getfield 48, 3) := by decide +kernel
theorem dMH_readHints_29 : decode c_MH_readHints 29 = .ok (.iload 4, 2) := by decide +kernel
theorem dMH_readHints_31 : decode c_MH_readHints 31 = .ok (.aaload, 1) := by decide +kernel
theorem dMH_readHints_32 : decode c_MH_readHints 32 = .ok (.iload 5, 2) := by decide +kernel
theorem dMH_readHints_34 : decode c_MH_readHints 34 = .ok (.iconst 0, 1) := by decide +kernel
theorem dMH_readHints_35 : decode c_MH_readHints 35 = .ok (.iastore, 1) := by decide +kernel
theorem dMH_readHints_36 : decode c_MH_readHints 36 = .ok (.iinc 5 1, 3) := by decide +kernel
theorem dMH_readHints_39 : decode c_MH_readHints 39 = .ok (.goto (-22), 3) := by decide +kernel
theorem dMH_readHints_42 : decode c_MH_readHints 42 = .ok (.aload_n 1, 1) := by decide +kernel
theorem dMH_readHints_43 : decode c_MH_readHints 43 = .ok (.iload_n 2, 1) := by decide +kernel
theorem dMH_readHints_44 : decode c_MH_readHints 44 = .ok (.getstatic 100, 3) := by decide +kernel
theorem dMH_readHints_47 : decode c_MH_readHints 47 = .ok (.aload_n 0, 1) := by decide +kernel
theorem dMH_readHints_48 : decode c_MH_readHints 48 = .ok (.getfield 103, 3) := by decide +kernel
theorem dMH_readHints_51 : decode c_MH_readHints 51 = .ok (.iaload, 1) := by decide +kernel
theorem dMH_readHints_52 : decode c_MH_readHints 52 = .ok (.iadd, 1) := by decide +kernel
theorem dMH_readHints_53 : decode c_MH_readHints 53 = .ok (.iload 4, 2) := by decide +kernel
theorem dMH_readHints_55 : decode c_MH_readHints 55 = .ok (.iadd, 1) := by decide +kernel
theorem dMH_readHints_56 : decode c_MH_readHints 56 = .ok (.baload, 1) := by decide +kernel
theorem dMH_readHints_57 : decode c_MH_readHints 57 = .ok (.sipush 255, 3) := by decide +kernel
theorem dMH_readHints_60 : decode c_MH_readHints 60 = .ok (.iand, 1) := by decide +kernel
theorem dMH_readHints_61 : decode c_MH_readHints 61 = .ok (.istore 5, 2) := by decide +kernel
theorem dMH_readHints_63 : decode c_MH_readHints 63 = .ok (.iload 5, 2) := by decide +kernel
theorem dMH_readHints_65 : decode c_MH_readHints 65 = .ok (.iload_n 3, 1) := by decide +kernel
theorem dMH_readHints_66 : decode c_MH_readHints 66 = .ok (.if_icmp .lt 16, 3) := by decide +kernel
theorem dMH_readHints_69 : decode c_MH_readHints 69 = .ok (.iload 5, 2) := by decide +kernel
theorem dMH_readHints_71 : decode c_MH_readHints 71 = .ok (.getstatic 100, 3) := by decide +kernel
theorem dMH_readHints_74 : decode c_MH_readHints 74 = .ok (.aload_n 0, 1) := by decide +kernel
theorem dMH_readHints_75 : decode c_MH_readHints 75 = .ok (.getfield 103, 3) := by decide +kernel
theorem dMH_readHints_78 : decode c_MH_readHints 78 = .ok (.iaload, 1) := by decide +kernel
theorem dMH_readHints_79 : decode c_MH_readHints 79 = .ok (.if_icmp .le 5, 3) := by decide +kernel
theorem dMH_readHints_82 : decode c_MH_readHints 82 = .ok (.iconst 0, 1) := by decide +kernel
theorem dMH_readHints_83 : decode c_MH_readHints 83 = .ok (.ireturn, 1) := by decide +kernel
theorem dMH_readHints_84 : decode c_MH_readHints 84 = .ok (.iload_n 3, 1) := by decide +kernel
theorem dMH_readHints_85 : decode c_MH_readHints 85 = .ok (.istore 6, 2) := by decide +kernel
theorem dMH_readHints_87 : decode c_MH_readHints 87 = .ok (.iload 6, 2) := by decide +kernel
theorem dMH_readHints_89 : decode c_MH_readHints 89 = .ok (.iload 5, 2) := by decide +kernel
theorem dMH_readHints_91 : decode c_MH_readHints 91 = .ok (.if_icmp .ge 57, 3) := by decide +kernel
theorem dMH_readHints_94 : decode c_MH_readHints 94 = .ok (.aload_n 1, 1) := by decide +kernel
theorem dMH_readHints_95 : decode c_MH_readHints 95 = .ok (.iload_n 2, 1) := by decide +kernel
theorem dMH_readHints_96 : decode c_MH_readHints 96 = .ok (.iload 6, 2) := by decide +kernel
theorem dMH_readHints_98 : decode c_MH_readHints 98 = .ok (.iadd, 1) := by decide +kernel
theorem dMH_readHints_99 : decode c_MH_readHints 99 = .ok (.baload, 1) := by decide +kernel
theorem dMH_readHints_100 : decode c_MH_readHints 100 = .ok (.sipush 255, 3) := by decide +kernel
theorem dMH_readHints_103 : decode c_MH_readHints 103 = .ok (.iand, 1) := by decide +kernel
theorem dMH_readHints_104 : decode c_MH_readHints 104 = .ok (.istore 7, 2) := by decide +kernel
theorem dMH_readHints_106 : decode c_MH_readHints 106 = .ok (.iload 6, 2) := by decide +kernel
theorem dMH_readHints_108 : decode c_MH_readHints 108 = .ok (.iload_n 3, 1) := by decide +kernel
theorem dMH_readHints_109 : decode c_MH_readHints 109 = .ok (.if_icmp .le 22, 3) := by decide +kernel
theorem dMH_readHints_112 : decode c_MH_readHints 112 = .ok (.aload_n 1, 1) := by decide +kernel
theorem dMH_readHints_113 : decode c_MH_readHints 113 = .ok (.iload_n 2, 1) := by decide +kernel
theorem dMH_readHints_114 : decode c_MH_readHints 114 = .ok (.iload 6, 2) := by decide +kernel
theorem dMH_readHints_116 : decode c_MH_readHints 116 = .ok (.iadd, 1) := by decide +kernel
theorem dMH_readHints_117 : decode c_MH_readHints 117 = .ok (.iconst 1, 1) := by decide +kernel
theorem dMH_readHints_118 : decode c_MH_readHints 118 = .ok (.isub, 1) := by decide +kernel
theorem dMH_readHints_119 : decode c_MH_readHints 119 = .ok (.baload, 1) := by decide +kernel
theorem dMH_readHints_120 : decode c_MH_readHints 120 = .ok (.sipush 255, 3) := by decide +kernel
theorem dMH_readHints_123 : decode c_MH_readHints 123 = .ok (.iand, 1) := by decide +kernel
theorem dMH_readHints_124 : decode c_MH_readHints 124 = .ok (.iload 7, 2) := by decide +kernel
theorem dMH_readHints_126 : decode c_MH_readHints 126 = .ok (.if_icmp .lt 5, 3) := by decide +kernel
theorem dMH_readHints_129 : decode c_MH_readHints 129 = .ok (.iconst 0, 1) := by decide +kernel
theorem dMH_readHints_130 : decode c_MH_readHints 130 = .ok (.ireturn, 1) := by decide +kernel
theorem dMH_readHints_131 : decode c_MH_readHints 131 = .ok (.aload_n 0, 1) := by decide +kernel
theorem dMH_readHints_132 : decode c_MH_readHints 132 = .ok (.getfield 48, 3) := by decide +kernel
theorem dMH_readHints_135 : decode c_MH_readHints 135 = .ok (.iload 4, 2) := by decide +kernel
theorem dMH_readHints_137 : decode c_MH_readHints 137 = .ok (.aaload, 1) := by decide +kernel
theorem dMH_readHints_138 : decode c_MH_readHints 138 = .ok (.iload 7, 2) := by decide +kernel
theorem dMH_readHints_140 : decode c_MH_readHints 140 = .ok (.iconst 1, 1) := by decide +kernel
theorem dMH_readHints_141 : decode c_MH_readHints 141 = .ok (.iastore, 1) := by decide +kernel
theorem dMH_readHints_142 : decode c_MH_readHints 142 = .ok (.iinc 6 1, 3) := by decide +kernel
theorem dMH_readHints_145 : decode c_MH_readHints 145 = .ok (.goto (-58), 3) := by decide +kernel
theorem dMH_readHints_148 : decode c_MH_readHints 148 = .ok (.iload 5, 2) := by decide +kernel
theorem dMH_readHints_150 : decode c_MH_readHints 150 = .ok (.istore_n 3, 1) := by decide +kernel
theorem dMH_readHints_151 : decode c_MH_readHints 151 = .ok (.iinc 4 1, 3) := by decide +kernel
theorem dMH_readHints_154 : decode c_MH_readHints 154 = .ok (.goto (-149), 3) := by decide +kernel
theorem dMH_readHints_157 : decode c_MH_readHints 157 = .ok (.iload_n 3, 1) := by decide +kernel
theorem dMH_readHints_158 : decode c_MH_readHints 158 = .ok (.istore 4, 2) := by decide +kernel
theorem dMH_readHints_160 : decode c_MH_readHints 160 = .ok (.iload 4, 2) := by decide +kernel
theorem dMH_readHints_162 : decode c_MH_readHints 162 = .ok (.getstatic 100, 3) := by decide +kernel
theorem dMH_readHints_165 : decode c_MH_readHints 165 = .ok (.aload_n 0, 1) := by decide +kernel
theorem dMH_readHints_166 : decode c_MH_readHints 166 = .ok (.getfield 103, 3) := by decide +kernel
theorem dMH_readHints_169 : decode c_MH_readHints 169 = .ok (.iaload, 1) := by decide +kernel
theorem dMH_readHints_170 : decode c_MH_readHints 170 = .ok (.if_icmp .ge 20, 3) := by decide +kernel
theorem dMH_readHints_173 : decode c_MH_readHints 173 = .ok (.aload_n 1, 1) := by decide +kernel
theorem dMH_readHints_174 : decode c_MH_readHints 174 = .ok (.iload_n 2, 1) := by decide +kernel
theorem dMH_readHints_175 : decode c_MH_readHints 175 = .ok (.iload 4, 2) := by decide +kernel
theorem dMH_readHints_177 : decode c_MH_readHints 177 = .ok (.iadd, 1) := by decide +kernel
theorem dMH_readHints_178 : decode c_MH_readHints 178 = .ok (.baload, 1) := by decide +kernel
theorem dMH_readHints_179 : decode c_MH_readHints 179 = .ok (.ifCond .eq 5, 3) := by decide +kernel
theorem dMH_readHints_182 : decode c_MH_readHints 182 = .ok (.iconst 0, 1) := by decide +kernel
theorem dMH_readHints_183 : decode c_MH_readHints 183 = .ok (.ireturn, 1) := by decide +kernel
theorem dMH_readHints_184 : decode c_MH_readHints 184 = .ok (.iinc 4 1, 3) := by decide +kernel
theorem dMH_readHints_187 : decode c_MH_readHints 187 = .ok (.goto (-27), 3) := by decide +kernel
theorem dMH_readHints_190 : decode c_MH_readHints 190 = .ok (.iconst 1, 1) := by decide +kernel
theorem dMH_readHints_191 : decode c_MH_readHints 191 = .ok (.ireturn, 1) := by decide +kernel
def M_MH_written_0 (pt : Nat) (k : Nat) : Prop := k = pt ∨ (0 : Nat) = 1
noncomputable def F_MH_written_0_L5 (pt : Nat) (i22 : Nat) (kk : Nat → Nat → Sto → Sto) : Nat → Nat → Nat → Sto → Sto
  | 0, i26, az22, s29 => kk (i22 + 1) az22 s29
  | n26 + 1, i26, az22, s29 => bnd ((s29.1 225 27).toNatClampNeg) fun z33 => bnd (F_MH_minus (nI 131072) (s29.1 ((335 + i22)) i26) s29) fun q21 => bnd (F_M_pack pt 8192 az22 18 (q21.1) q21.2) fun s30 => F_MH_written_0_L5 pt i22 kk n26 (i26 + 1) (az22 + 18) s30
noncomputable def F_MH_written_0_L4 (pt : Nat) (az21 : Nat) (i24 : Nat) (kk : Nat → Nat → Sto → Sto) : Nat → Nat → Nat → Sto → Sto
  | 0, i25, my22, s25 => bnd ((s25.1 225 23).toNatClampNeg) fun z29 => bnd (sB s25 pt (((az21 / 8) + 80) + i24) ((nI my22).toInt8.toInt32)) fun s26 => kk (i24 + 1) my22 s26
  | n25 + 1, i25, my22, s25 => if (s25.1 ((360 + i24)) i25) = 0 then F_MH_written_0_L4 pt az21 i24 kk n25 (i25 + 1) my22 s25 else bnd (sB s25 pt ((az21 / 8) + my22) ((nI i25).toInt8.toInt32)) fun s27 => F_MH_written_0_L4 pt az21 i24 kk n25 (i25 + 1) (my22 + 1) s27
noncomputable def F_MH_written_0_L3 (pt : Nat) (az21 : Nat) : Nat → Nat → Nat → Sto → Sto
  | 0, i24, my21, s24 => bnd ((s24.1 225 24).toNatClampNeg) fun z27 => s24
  | n24 + 1, i24, my21, s24 => bnd ((s24.1 225 24).toNatClampNeg) fun z28 => F_MH_written_0_L4 pt az21 i24 (F_MH_written_0_L3 pt az21 n24) 256 0 my21 s24
noncomputable def F_MH_written_0_L2 (pt : Nat) (az21 : Nat) : Nat → Nat → Sto → Sto
  | 0, i23, s23 => bnd ((s23.1 225 23).toNatClampNeg) fun z25 => bnd ((s23.1 225 24).toNatClampNeg) fun z26 => F_MH_written_0_L3 pt az21 4 0 0 s23
  | n23 + 1, i23, s23 => bnd ((s23.1 225 23).toNatClampNeg) fun z30 => bnd ((s23.1 225 24).toNatClampNeg) fun z31 => bnd (sB s23 pt ((az21 / 8) + i23) (nI 0)) fun s28 => F_MH_written_0_L2 pt az21 n23 (i23 + 1) s28
noncomputable def F_MH_written_0_L1 (pt : Nat) : Nat → Nat → Nat → Sto → Sto
  | 0, i22, az21, s22 => bnd ((s22.1 225 25).toNatClampNeg) fun z24 => F_MH_written_0_L2 pt az21 84 0 s22
  | n22 + 1, i22, az21, s22 => bnd ((s22.1 225 25).toNatClampNeg) fun z32 => F_MH_written_0_L5 pt i22 (F_MH_written_0_L1 pt n22) 256 0 az21 s22
noncomputable def F_MH_written_0_L0 (pt : Nat) : Nat → Nat → Sto → Sto
  | 0, i21, s21 => bnd ((s21.1 225 30).toNatClampNeg) fun z21 => bnd ((s21.1 225 23).toNatClampNeg) fun z22 => bnd ((s21.1 225 30).toNatClampNeg) fun z23 => F_MH_written_0_L1 pt 4 0 256 s21
  | n21 + 1, i21, s21 => bnd ((s21.1 225 30).toNatClampNeg) fun z34 => bnd (sB s21 pt i21 (s21.1 376 i21)) fun s31 => F_MH_written_0_L0 pt n21 (i21 + 1) s31
noncomputable def F_MH_written_0 (pt : Nat) (s : Sto) : Sto := F_MH_written_0_L0 pt 32 0 s
set_option maxHeartbeats 8000000 in
set_option maxRecDepth 100000 in
theorem N_MH_written_0 (l : Launch) (g : Gd) (sz : Nat) (T : TyN) (s : Sto) (pl : va_W) (hO : okn g T s pl) (hU : inj T) (h0 to : Nat) (pt : Nat) (k_h0 : T h0 = some 225) (k_to : T to = some pt) (n_to : nsp pt = (1, 8192, [])) (e_c0 : s.1 225 23 = nI 0) (e_c1 : s.1 225 24 = nI 4) (e_c2 : s.1 225 25 = nI 4) (e_c3 : s.1 225 26 = nI 2) (e_c4 : s.1 225 27 = nI 131072) (e_c5 : s.1 225 28 = nI 95232) (e_c6 : s.1 225 29 = nI 78) (e_c7 : s.1 225 30 = nI 32)  : Met l y_MH_written w_MH_written ({ frames := 1, cells := 0, slots := 0, locals := 26 } : Room) (va_Pc [.ref h0, .ref to] (pr (en g) g.1 vcl sz ([] ++ pl))) (va_Qv (fun (u : (Sto) × va_W) => (u.1 = F_MH_written_0 pt s ∧ frm (M_MH_written_0 pt) s u.1 ∧ True) ∧ okn g T u.1 u.2) (po g.1 vcl (va_A ([] ++ pl) sz) (fun (u : (Sto) × va_W) => [] ++ u.2)) (va_A ([] ++ pl) sz)) 0 0 (va_A ([] ++ pl) sz) := by
  refine mc_entry (cc := c_MH_written) (maxL := 8) (ret := none) (by decide) rfl (Nat.le_of_ble_eq_true rfl) ?_
  intro p e s0 m args below meth c ls F hr hlk hnm hsz hP hD hE hA hl
  obtain ⟨hx, hb, hml, hown, hts⟩ := id F
  have hK := hE.1
  generalize va_A ([] ++ pl) sz = A at hD hE hA ⊢
  have hS : va_S A s0.heap s0.heap [] := va_S.rf
  have hl : lv_has ls 8 [(0, .ref h0), (1, .ref to)] := hl
  have hR : F_MH_written_0 pt s = F_MH_written_0 pt s := rfl
  have hF : frm (M_MH_written_0 pt) s s := frm_rf
  have ne_172_pt : 172 ≠ pt := nsp_ne (p := 172) rfl n_to (show (5 : Nat) ≠ 1 by decide)
  have ne_225_pt : 225 ≠ pt := nsp_ne (p := 225) rfl n_to (show (5 : Nat) ≠ 1 by decide)
  refine lv_iconst (v := nI 0) hx hb dMH_written_0 (by decide) ?_
  refine lv_istore_n (lv' := [(2, .int (nI 0)), (0, .ref h0), (1, .ref to)]) hx hb dMH_written_1 rfl hl (by decide) rfl (fun ls hl => ?_)
  have lp21 : ∀ (n21 : Nat) (i21 : Nat) (s21 : Sto) (pl : va_W) (ls : Array Slot) (H : Heap) (locs : List Loc), n21 + i21 = 32 → frm (M_MH_written_0 pt) s s21 → s21.1 225 23 = nI 0 → s21.1 225 24 = nI 4 → s21.1 225 25 = nI 4 → s21.1 225 26 = nI 2 → s21.1 225 27 = nI 131072 → s21.1 225 28 = nI 95232 → s21.1 225 29 = nI 78 → s21.1 225 30 = nI 32 → F_MH_written_0 pt s = F_MH_written_0_L0 pt n21 i21 s21 → lv_has ls 8 [(2, .int (nI i21)), (0, .ref h0), (1, .ref to)] → okn g T s21 pl → va_P g.1 vcl ([] ++ pl) H → va_D A ([] ++ pl) → va_S A s0.heap H locs → W p l e ({ frames := 1, cells := 0, slots := 0, locals := 26 } : Room) s0 m args below meth c H locs 0 0 (MQ below (va_Qv (fun (u : (Sto) × va_W) => (u.1 = F_MH_written_0 pt s ∧ frm (M_MH_written_0 pt) s u.1 ∧ True) ∧ okn g T u.1 u.2) (po g.1 vcl A (fun (u : (Sto) × va_W) => [] ++ u.2)) A) args s0 0 0 A) (F0 m 2 ls []) := by
    intro n21
    induction n21 with
    | zero =>
      intro i21 s21 pl ls H locs hm21 hF hf21 hf22 hf23 hf24 hf25 hf26 hf27 hf28 hR hl hO hP hD hS
      refine lv_iload_n hx hb dMH_written_2 rfl (lv_at hl 0 rfl) ?_
      refine lv_aload_n hx hb dMH_written_3 rfl (lv_at hl 1 rfl) ?_
      refine nw_get (C := "LatticeKeysModel$Hands") (TT := T_MH) (N := 31) hx hb hts (wg_ft i_MH) hown hK hO k_h0 (kn := 225) (ci := 12) (fl := [(3, 172), (3, 181), (3, 226), (3, 291), (3, 299), (3, 308), (3, 317), (3, 326), (3, 334), (3, 342), (3, 350), (3, 359), (3, 368), (3, 369), (3, 370), (3, 371), (3, 372), (3, 373), (3, 374), (3, 375), (3, 376), (3, 377), (3, 378), (0, 0), (0, 0), (0, 0), (0, 0), (0, 0), (0, 0), (0, 0), (0, 0)]) rfl hP rfl 30 (by decide) (hts _ (wg_t kw_1462)) (fun _ h9 => h9) (cd := (0, 0)) rfl dMH_written_4 (fun v21 hv21 => ?_)
      obtain rfl := (show v21 = .int (s21.1 225 30) from hv21)
      obtain ⟨z21, ez21, hz21, hz22⟩ := cl_of (b := 2147483648) hf28 (by omega) (by decide)
      replace hR := bnd_step hR ez21
      refine mi_as hz21 ?_
      subst hz22
      refine mi_ge (tgt := 25) hx hb dMH_written_7 (by decide) (by omega) (by omega) (fun h21 => ?_) (fun h21 => absurd h21 (by omega))
      refine lv_aload_n hx hb dMH_written_25 rfl (lv_at hl 1 rfl) ?_
      refine nw_get (C := "LatticeKeysModel$Hands") (TT := T_MH) (N := 31) hx hb hts (wg_ft i_MH) hown hK hO k_h0 (kn := 225) (ci := 12) (fl := [(3, 172), (3, 181), (3, 226), (3, 291), (3, 299), (3, 308), (3, 317), (3, 326), (3, 334), (3, 342), (3, 350), (3, 359), (3, 368), (3, 369), (3, 370), (3, 371), (3, 372), (3, 373), (3, 374), (3, 375), (3, 376), (3, 377), (3, 378), (0, 0), (0, 0), (0, 0), (0, 0), (0, 0), (0, 0), (0, 0), (0, 0)]) rfl hP rfl 23 (by decide) (hts _ (wg_t kw_1455)) (fun _ h9 => h9) (cd := (0, 0)) rfl dMH_written_26 (fun v22 hv22 => ?_)
      obtain rfl := (show v22 = .int (s21.1 225 23) from hv22)
      obtain ⟨z22, ez22, hz23, hz24⟩ := cl_of (b := 2147483648) hf21 (by omega) (by decide)
      replace hR := bnd_step hR ez22
      refine mi_as hz23 ?_
      subst hz24
      refine lv_if_ne (tgt := 37) hx hb dMH_written_29 (by decide) (fun h22 => absurd h22 (by decide)) (fun h22 => ?_)
      refine lv_bipush (v := nI 18) hx hb dMH_written_32 (by decide) ?_
      refine lv_goto (tgt := 39) hx hb dMH_written_34 (by decide) ?_
      refine lv_istore_n (lv' := [(2, .int (nI 18)), (0, .ref h0), (1, .ref to)]) hx hb dMH_written_39 rfl hl (by decide) rfl (fun ls hl => ?_)
      refine lv_bipush (v := nI 8) hx hb dMH_written_40 (by decide) ?_
      refine lv_aload_n hx hb dMH_written_42 rfl (lv_at hl 1 rfl) ?_
      refine nw_get (C := "LatticeKeysModel$Hands") (TT := T_MH) (N := 31) hx hb hts (wg_ft i_MH) hown hK hO k_h0 (kn := 225) (ci := 12) (fl := [(3, 172), (3, 181), (3, 226), (3, 291), (3, 299), (3, 308), (3, 317), (3, 326), (3, 334), (3, 342), (3, 350), (3, 359), (3, 368), (3, 369), (3, 370), (3, 371), (3, 372), (3, 373), (3, 374), (3, 375), (3, 376), (3, 377), (3, 378), (0, 0), (0, 0), (0, 0), (0, 0), (0, 0), (0, 0), (0, 0), (0, 0)]) rfl hP rfl 30 (by decide) (hts _ (wg_t kw_1462)) (fun _ h9 => h9) (cd := (0, 0)) rfl dMH_written_43 (fun v23 hv23 => ?_)
      obtain rfl := (show v23 = .int (s21.1 225 30) from hv23)
      obtain ⟨z23, ez23, hz25, hz26⟩ := cl_of (b := 2147483648) hf28 (by omega) (by decide)
      replace hR := bnd_step hR ez23
      refine mi_as hz25 ?_
      subst hz26
      refine mi_imul hx hb dMH_written_46 ?_
      refine mi_as (show nI (8 * 32) = nI 256 from rfl) ?_
      refine lv_istore_n (lv' := [(3, .int (nI 256)), (2, .int (nI 18)), (0, .ref h0), (1, .ref to)]) hx hb dMH_written_47 rfl hl (by decide) rfl (fun ls hl => ?_)
      refine lv_iconst (v := nI 0) hx hb dMH_written_48 (by decide) ?_
      refine lv_istore (lv' := [(4, .int (nI 0)), (3, .int (nI 256)), (2, .int (nI 18)), (0, .ref h0), (1, .ref to)]) hx hb dMH_written_49 hl (by decide) rfl (fun ls hl => ?_)
      have lp22 : ∀ (n22 : Nat) (i22 : Nat) (az21 : Nat) (s22 : Sto) (pl : va_W) (ls : Array Slot) (H : Heap) (locs : List Loc), n22 + i22 = 4 → (az21 = 256 + 4608 * i22) → frm (M_MH_written_0 pt) s s22 → s22.1 225 23 = nI 0 → s22.1 225 24 = nI 4 → s22.1 225 25 = nI 4 → s22.1 225 26 = nI 2 → s22.1 225 27 = nI 131072 → s22.1 225 28 = nI 95232 → s22.1 225 29 = nI 78 → s22.1 225 30 = nI 32 → F_MH_written_0 pt s = F_MH_written_0_L1 pt n22 i22 az21 s22 → lv_has ls 8 [(4, .int (nI i22)), (3, .int (nI az21)), (2, .int (nI 18)), (0, .ref h0), (1, .ref to)] → okn g T s22 pl → va_P g.1 vcl ([] ++ pl) H → va_D A ([] ++ pl) → va_S A s0.heap H locs → W p l e ({ frames := 1, cells := 0, slots := 0, locals := 26 } : Room) s0 m args below meth c H locs 0 0 (MQ below (va_Qv (fun (u : (Sto) × va_W) => (u.1 = F_MH_written_0 pt s ∧ frm (M_MH_written_0 pt) s u.1 ∧ True) ∧ okn g T u.1 u.2) (po g.1 vcl A (fun (u : (Sto) × va_W) => [] ++ u.2)) A) args s0 0 0 A) (F0 m 51 ls []) := by
        intro n22
        induction n22 with
        | zero =>
          intro i22 az21 s22 pl ls H locs hm22 hi21 hF hf29 hf30 hf31 hf32 hf33 hf34 hf35 hf36 hR hl hO hP hD hS
          refine lv_iload hx hb dMH_written_51 (lv_at hl 0 rfl) ?_
          refine lv_aload_n hx hb dMH_written_53 rfl (lv_at hl 3 rfl) ?_
          refine nw_get (C := "LatticeKeysModel$Hands") (TT := T_MH) (N := 31) hx hb hts (wg_ft i_MH) hown hK hO k_h0 (kn := 225) (ci := 12) (fl := [(3, 172), (3, 181), (3, 226), (3, 291), (3, 299), (3, 308), (3, 317), (3, 326), (3, 334), (3, 342), (3, 350), (3, 359), (3, 368), (3, 369), (3, 370), (3, 371), (3, 372), (3, 373), (3, 374), (3, 375), (3, 376), (3, 377), (3, 378), (0, 0), (0, 0), (0, 0), (0, 0), (0, 0), (0, 0), (0, 0), (0, 0)]) rfl hP rfl 25 (by decide) (hts _ (wg_t kw_1457)) (fun _ h9 => h9) (cd := (0, 0)) rfl dMH_written_54 (fun v24 hv24 => ?_)
          obtain rfl := (show v24 = .int (s22.1 225 25) from hv24)
          obtain ⟨z24, ez24, hz27, hz28⟩ := cl_of (b := 2147483648) hf31 (by omega) (by decide)
          replace hR := bnd_step hR ez24
          refine mi_as hz27 ?_
          subst hz28
          refine mi_ge (tgt := 110) hx hb dMH_written_57 (by decide) (by omega) (by omega) (fun h23 => ?_) (fun h23 => absurd h23 (by omega))
          refine lv_iload_n hx hb dMH_written_110 rfl (lv_at hl 1 rfl) ?_
          refine lv_bipush (v := nI 8) hx hb dMH_written_111 (by decide) ?_
          refine mi_idiv hx hb dMH_written_113 (by omega) (by omega) (by omega) ?_
          refine lv_istore (lv' := [(4, .int (nI (az21 / 8))), (3, .int (nI az21)), (2, .int (nI 18)), (0, .ref h0), (1, .ref to)]) hx hb dMH_written_114 hl (by decide) rfl (fun ls hl => ?_)
          refine lv_iconst (v := nI 0) hx hb dMH_written_116 (by decide) ?_
          refine lv_istore (lv' := [(5, .int (nI 0)), (4, .int (nI (az21 / 8))), (3, .int (nI az21)), (2, .int (nI 18)), (0, .ref h0), (1, .ref to)]) hx hb dMH_written_117 hl (by decide) rfl (fun ls hl => ?_)
          refine lv_iconst (v := nI 0) hx hb dMH_written_119 (by decide) ?_
          refine lv_istore (lv' := [(6, .int (nI 0)), (5, .int (nI 0)), (4, .int (nI (az21 / 8))), (3, .int (nI az21)), (2, .int (nI 18)), (0, .ref h0), (1, .ref to)]) hx hb dMH_written_120 hl (by decide) rfl (fun ls hl => ?_)
          have lp23 : ∀ (n23 : Nat) (i23 : Nat) (s23 : Sto) (pl : va_W) (ls : Array Slot) (H : Heap) (locs : List Loc), n23 + i23 = 84 → frm (M_MH_written_0 pt) s s23 → s23.1 225 23 = nI 0 → s23.1 225 24 = nI 4 → s23.1 225 25 = nI 4 → s23.1 225 26 = nI 2 → s23.1 225 27 = nI 131072 → s23.1 225 28 = nI 95232 → s23.1 225 29 = nI 78 → s23.1 225 30 = nI 32 → F_MH_written_0 pt s = F_MH_written_0_L2 pt az21 n23 i23 s23 → lv_has ls 8 [(6, .int (nI i23)), (5, .int (nI 0)), (4, .int (nI (az21 / 8))), (0, .ref h0), (1, .ref to)] → okn g T s23 pl → va_P g.1 vcl ([] ++ pl) H → va_D A ([] ++ pl) → va_S A s0.heap H locs → W p l e ({ frames := 1, cells := 0, slots := 0, locals := 26 } : Room) s0 m args below meth c H locs 0 0 (MQ below (va_Qv (fun (u : (Sto) × va_W) => (u.1 = F_MH_written_0 pt s ∧ frm (M_MH_written_0 pt) s u.1 ∧ True) ∧ okn g T u.1 u.2) (po g.1 vcl A (fun (u : (Sto) × va_W) => [] ++ u.2)) A) args s0 0 0 A) (F0 m 122 ls []) := by
            intro n23
            induction n23 with
            | zero =>
              intro i23 s23 pl ls H locs hm23 hF hf37 hf38 hf39 hf40 hf41 hf42 hf43 hf44 hR hl hO hP hD hS
              refine lv_iload hx hb dMH_written_122 (lv_at hl 0 rfl) ?_
              refine va_gets hx hb (hE.2.1 27 _ rfl).1 hS hown (hts _ (wg_t kw_1912)) (fun _ h9 => h9) dMH_written_124 ?_
              refine lv_aload_n hx hb dMH_written_127 rfl (lv_at hl 3 rfl) ?_
              refine nw_get (C := "LatticeKeysModel$Hands") (TT := T_MH) (N := 31) hx hb hts (wg_ft i_MH) hown hK hO k_h0 (kn := 225) (ci := 12) (fl := [(3, 172), (3, 181), (3, 226), (3, 291), (3, 299), (3, 308), (3, 317), (3, 326), (3, 334), (3, 342), (3, 350), (3, 359), (3, 368), (3, 369), (3, 370), (3, 371), (3, 372), (3, 373), (3, 374), (3, 375), (3, 376), (3, 377), (3, 378), (0, 0), (0, 0), (0, 0), (0, 0), (0, 0), (0, 0), (0, 0), (0, 0)]) rfl hP rfl 23 (by decide) (hts _ (wg_t kw_1455)) (fun _ h9 => h9) (cd := (0, 0)) rfl dMH_written_128 (fun v25 hv25 => ?_)
              obtain rfl := (show v25 = .int (s23.1 225 23) from hv25)
              obtain ⟨z25, ez25, hz29, hz30⟩ := cl_of (b := 2147483648) hf37 (by omega) (by decide)
              replace hR := bnd_step hR ez25
              refine mi_as hz29 ?_
              subst hz30
              refine va_ti (v := .int (nI 80)) hx hb (hE.2.1 27 _ rfl).2 hS (vp_in_nI (by decide) (by decide)) (by decide +kernel) dMH_written_131 ?_
              refine lv_aload_n hx hb dMH_written_132 rfl (lv_at hl 3 rfl) ?_
              refine nw_get (C := "LatticeKeysModel$Hands") (TT := T_MH) (N := 31) hx hb hts (wg_ft i_MH) hown hK hO k_h0 (kn := 225) (ci := 12) (fl := [(3, 172), (3, 181), (3, 226), (3, 291), (3, 299), (3, 308), (3, 317), (3, 326), (3, 334), (3, 342), (3, 350), (3, 359), (3, 368), (3, 369), (3, 370), (3, 371), (3, 372), (3, 373), (3, 374), (3, 375), (3, 376), (3, 377), (3, 378), (0, 0), (0, 0), (0, 0), (0, 0), (0, 0), (0, 0), (0, 0), (0, 0)]) rfl hP rfl 24 (by decide) (hts _ (wg_t kw_1456)) (fun _ h9 => h9) (cd := (0, 0)) rfl dMH_written_133 (fun v26 hv26 => ?_)
              obtain rfl := (show v26 = .int (s23.1 225 24) from hv26)
              obtain ⟨z26, ez26, hz31, hz32⟩ := cl_of (b := 2147483648) hf38 (by omega) (by decide)
              replace hR := bnd_step hR ez26
              refine mi_as hz31 ?_
              subst hz32
              refine mi_iadd hx hb dMH_written_136 ?_
              refine mi_as (show nI (80 + 4) = nI 84 from rfl) ?_
              refine mi_ge (tgt := 154) hx hb dMH_written_137 (by decide) (by omega) (by omega) (fun h24 => ?_) (fun h24 => absurd h24 (by omega))
              refine lv_iconst (v := nI 0) hx hb dMH_written_154 (by decide) ?_
              refine lv_istore (lv' := [(6, .int (nI 0)), (5, .int (nI 0)), (4, .int (nI (az21 / 8))), (0, .ref h0), (1, .ref to)]) hx hb dMH_written_155 hl (by decide) rfl (fun ls hl => ?_)
              have lp24 : ∀ (n24 : Nat) (i24 : Nat) (my21 : Nat) (s24 : Sto) (pl : va_W) (ls : Array Slot) (H : Heap) (locs : List Loc), n24 + i24 = 4 → (my21 ≤ 256 * i24) → frm (M_MH_written_0 pt) s s24 → s24.1 225 23 = nI 0 → s24.1 225 24 = nI 4 → s24.1 225 25 = nI 4 → s24.1 225 26 = nI 2 → s24.1 225 27 = nI 131072 → s24.1 225 28 = nI 95232 → s24.1 225 29 = nI 78 → s24.1 225 30 = nI 32 → F_MH_written_0 pt s = F_MH_written_0_L3 pt az21 n24 i24 my21 s24 → lv_has ls 8 [(6, .int (nI i24)), (5, .int (nI my21)), (4, .int (nI (az21 / 8))), (0, .ref h0), (1, .ref to)] → okn g T s24 pl → va_P g.1 vcl ([] ++ pl) H → va_D A ([] ++ pl) → va_S A s0.heap H locs → W p l e ({ frames := 1, cells := 0, slots := 0, locals := 26 } : Room) s0 m args below meth c H locs 0 0 (MQ below (va_Qv (fun (u : (Sto) × va_W) => (u.1 = F_MH_written_0 pt s ∧ frm (M_MH_written_0 pt) s u.1 ∧ True) ∧ okn g T u.1 u.2) (po g.1 vcl A (fun (u : (Sto) × va_W) => [] ++ u.2)) A) args s0 0 0 A) (F0 m 157 ls []) := by
                intro n24
                induction n24 with
                | zero =>
                  intro i24 my21 s24 pl ls H locs hm24 hi22 hF hf45 hf46 hf47 hf48 hf49 hf50 hf51 hf52 hR hl hO hP hD hS
                  refine lv_iload hx hb dMH_written_157 (lv_at hl 0 rfl) ?_
                  refine lv_aload_n hx hb dMH_written_159 rfl (lv_at hl 3 rfl) ?_
                  refine nw_get (C := "LatticeKeysModel$Hands") (TT := T_MH) (N := 31) hx hb hts (wg_ft i_MH) hown hK hO k_h0 (kn := 225) (ci := 12) (fl := [(3, 172), (3, 181), (3, 226), (3, 291), (3, 299), (3, 308), (3, 317), (3, 326), (3, 334), (3, 342), (3, 350), (3, 359), (3, 368), (3, 369), (3, 370), (3, 371), (3, 372), (3, 373), (3, 374), (3, 375), (3, 376), (3, 377), (3, 378), (0, 0), (0, 0), (0, 0), (0, 0), (0, 0), (0, 0), (0, 0), (0, 0)]) rfl hP rfl 24 (by decide) (hts _ (wg_t kw_1456)) (fun _ h9 => h9) (cd := (0, 0)) rfl dMH_written_160 (fun v27 hv27 => ?_)
                  obtain rfl := (show v27 = .int (s24.1 225 24) from hv27)
                  obtain ⟨z27, ez27, hz33, hz34⟩ := cl_of (b := 2147483648) hf46 (by omega) (by decide)
                  replace hR := bnd_step hR ez27
                  refine mi_as hz33 ?_
                  subst hz34
                  refine mi_ge (tgt := 237) hx hb dMH_written_163 (by decide) (by omega) (by omega) (fun h25 => ?_) (fun h25 => absurd h25 (by omega))
                  exact mp_vret hx hb hr hlk hP hD hS (s24, pl) ⟨⟨hR.symm, hF, trivial⟩, hO⟩ [] rfl rfl rfl (by omega) (by omega) dMH_written_237
                | succ n24 ih24 =>
                  intro i24 my21 s24 pl ls H locs hm24 hi22 hF hf53 hf54 hf55 hf56 hf57 hf58 hf59 hf60 hR hl hO hP hD hS
                  refine lv_iload hx hb dMH_written_157 (lv_at hl 0 rfl) ?_
                  refine lv_aload_n hx hb dMH_written_159 rfl (lv_at hl 3 rfl) ?_
                  refine nw_get (C := "LatticeKeysModel$Hands") (TT := T_MH) (N := 31) hx hb hts (wg_ft i_MH) hown hK hO k_h0 (kn := 225) (ci := 12) (fl := [(3, 172), (3, 181), (3, 226), (3, 291), (3, 299), (3, 308), (3, 317), (3, 326), (3, 334), (3, 342), (3, 350), (3, 359), (3, 368), (3, 369), (3, 370), (3, 371), (3, 372), (3, 373), (3, 374), (3, 375), (3, 376), (3, 377), (3, 378), (0, 0), (0, 0), (0, 0), (0, 0), (0, 0), (0, 0), (0, 0), (0, 0)]) rfl hP rfl 24 (by decide) (hts _ (wg_t kw_1456)) (fun _ h9 => h9) (cd := (0, 0)) rfl dMH_written_160 (fun v28 hv28 => ?_)
                  obtain rfl := (show v28 = .int (s24.1 225 24) from hv28)
                  obtain ⟨z28, ez28, hz35, hz36⟩ := cl_of (b := 2147483648) hf54 (by omega) (by decide)
                  replace hR := bnd_step hR ez28
                  refine mi_as hz35 ?_
                  subst hz36
                  refine mi_ge (tgt := 237) hx hb dMH_written_163 (by decide) (by omega) (by omega) (fun h26 => absurd h26 (by omega)) (fun h26 => ?_)
                  refine lv_iconst (v := nI 0) hx hb dMH_written_166 (by decide) ?_
                  refine lv_istore (lv' := [(7, .int (nI 0)), (6, .int (nI i24)), (5, .int (nI my21)), (4, .int (nI (az21 / 8))), (0, .ref h0), (1, .ref to)]) hx hb dMH_written_167 hl (by decide) rfl (fun ls hl => ?_)
                  have lp25 : ∀ (n25 : Nat) (i25 : Nat) (my22 : Nat) (s25 : Sto) (pl : va_W) (ls : Array Slot) (H : Heap) (locs : List Loc), n25 + i25 = 256 → (my22 ≤ 256 * i24 + i25) → frm (M_MH_written_0 pt) s s25 → s25.1 225 23 = nI 0 → s25.1 225 24 = nI 4 → s25.1 225 25 = nI 4 → s25.1 225 26 = nI 2 → s25.1 225 27 = nI 131072 → s25.1 225 28 = nI 95232 → s25.1 225 29 = nI 78 → s25.1 225 30 = nI 32 → F_MH_written_0 pt s = F_MH_written_0_L4 pt az21 i24 (F_MH_written_0_L3 pt az21 n24) n25 i25 my22 s25 → lv_has ls 8 [(7, .int (nI i25)), (6, .int (nI i24)), (5, .int (nI my22)), (4, .int (nI (az21 / 8))), (0, .ref h0), (1, .ref to)] → okn g T s25 pl → va_P g.1 vcl ([] ++ pl) H → va_D A ([] ++ pl) → va_S A s0.heap H locs → W p l e ({ frames := 1, cells := 0, slots := 0, locals := 26 } : Room) s0 m args below meth c H locs 0 0 (MQ below (va_Qv (fun (u : (Sto) × va_W) => (u.1 = F_MH_written_0 pt s ∧ frm (M_MH_written_0 pt) s u.1 ∧ True) ∧ okn g T u.1 u.2) (po g.1 vcl A (fun (u : (Sto) × va_W) => [] ++ u.2)) A) args s0 0 0 A) (F0 m 169 ls []) := by
                    intro n25
                    induction n25 with
                    | zero =>
                      intro i25 my22 s25 pl ls H locs hm25 hi23 hF hf61 hf62 hf63 hf64 hf65 hf66 hf67 hf68 hR hl hO hP hD hS
                      refine lv_iload hx hb dMH_written_169 (lv_at hl 0 rfl) ?_
                      refine lv_sipush (v := nI 256) hx hb dMH_written_171 (by decide) ?_
                      refine mi_ge (tgt := 212) hx hb dMH_written_174 (by decide) (by omega) (by omega) (fun h27 => ?_) (fun h27 => absurd h27 (by omega))
                      refine lv_aload_n hx hb dMH_written_212 rfl (lv_at hl 5 rfl) ?_
                      refine lv_iload hx hb dMH_written_213 (lv_at hl 3 rfl) ?_
                      refine va_gets hx hb (hE.2.1 27 _ rfl).1 hS hown (hts _ (wg_t kw_1912)) (fun _ h9 => h9) dMH_written_215 ?_
                      refine lv_aload_n hx hb dMH_written_218 rfl (lv_at hl 4 rfl) ?_
                      refine nw_get (C := "LatticeKeysModel$Hands") (TT := T_MH) (N := 31) hx hb hts (wg_ft i_MH) hown hK hO k_h0 (kn := 225) (ci := 12) (fl := [(3, 172), (3, 181), (3, 226), (3, 291), (3, 299), (3, 308), (3, 317), (3, 326), (3, 334), (3, 342), (3, 350), (3, 359), (3, 368), (3, 369), (3, 370), (3, 371), (3, 372), (3, 373), (3, 374), (3, 375), (3, 376), (3, 377), (3, 378), (0, 0), (0, 0), (0, 0), (0, 0), (0, 0), (0, 0), (0, 0), (0, 0)]) rfl hP rfl 23 (by decide) (hts _ (wg_t kw_1455)) (fun _ h9 => h9) (cd := (0, 0)) rfl dMH_written_219 (fun v29 hv29 => ?_)
                      obtain rfl := (show v29 = .int (s25.1 225 23) from hv29)
                      obtain ⟨z29, ez29, hz37, hz38⟩ := cl_of (b := 2147483648) hf61 (by omega) (by decide)
                      replace hR := bnd_step hR ez29
                      refine mi_as hz37 ?_
                      subst hz38
                      refine va_ti (v := .int (nI 80)) hx hb (hE.2.1 27 _ rfl).2 hS (vp_in_nI (by decide) (by decide)) (by decide +kernel) dMH_written_222 ?_
                      refine mi_iadd hx hb dMH_written_223 ?_
                      refine lv_iload hx hb dMH_written_224 (lv_at hl 1 rfl) ?_
                      refine mi_iadd hx hb dMH_written_226 ?_
                      refine lv_iload hx hb dMH_written_227 (lv_at hl 2 rfl) ?_
                      refine lv_i2b hx hb dMH_written_229 rfl ?_
                      refine nw_bast hx hb hK hO hU k_to (k := pt) n_to hP hD hS (by omega) (by omega) dMH_written_230 (fun s26 pl H locs es21 hO hP hD hS => ?_)
                      replace hR := bnd_step hR es21
                      have hF := frm_sB hF es21 (by unfold M_MH_written_0; omega)
                      have hf69 : s26.1 225 23 = nI 0 := fc_B hf61 es21 (by omega)
                      have hf70 : s26.1 225 24 = nI 4 := fc_B hf62 es21 (by omega)
                      have hf71 : s26.1 225 25 = nI 4 := fc_B hf63 es21 (by omega)
                      have hf72 : s26.1 225 26 = nI 2 := fc_B hf64 es21 (by omega)
                      have hf73 : s26.1 225 27 = nI 131072 := fc_B hf65 es21 (by omega)
                      have hf74 : s26.1 225 28 = nI 95232 := fc_B hf66 es21 (by omega)
                      have hf75 : s26.1 225 29 = nI 78 := fc_B hf67 es21 (by omega)
                      have hf76 : s26.1 225 30 = nI 32 := fc_B hf68 es21 (by omega)
                      refine mi_iinc (k := 1) (x := i24) (d := 1) (y := i24 + 1) (lv' := [(6, .int (nI (i24 + 1))), (7, .int (nI i25)), (5, .int (nI my22)), (4, .int (nI (az21 / 8))), (0, .ref h0), (1, .ref to)]) hx hb dMH_written_231 hl rfl (by decide) rfl (by decide) rfl (fun ls hl => ?_)
                      refine lv_goto (tgt := 157) hx hb dMH_written_234 (by decide) ?_
                      exact ih24 (i24 + 1) my22 s26 pl ls H locs (by omega) (by omega) hF hf69 hf70 hf71 hf72 hf73 hf74 hf75 hf76 hR (lv_sub hl [0, 2, 3, 4, 5] rfl) hO hP hD hS
                    | succ n25 ih25 =>
                      intro i25 my22 s25 pl ls H locs hm25 hi23 hF hf77 hf78 hf79 hf80 hf81 hf82 hf83 hf84 hR hl hO hP hD hS
                      refine lv_iload hx hb dMH_written_169 (lv_at hl 0 rfl) ?_
                      refine lv_sipush (v := nI 256) hx hb dMH_written_171 (by decide) ?_
                      refine mi_ge (tgt := 212) hx hb dMH_written_174 (by decide) (by omega) (by omega) (fun h28 => absurd h28 (by omega)) (fun h28 => ?_)
                      refine lv_aload_n hx hb dMH_written_177 rfl (lv_at hl 4 rfl) ?_
                      refine nw_get (C := "LatticeKeysModel$Hands") (TT := T_MH) (N := 31) hx hb hts (wg_ft i_MH) hown hK hO k_h0 (kn := 225) (ci := 12) (fl := [(3, 172), (3, 181), (3, 226), (3, 291), (3, 299), (3, 308), (3, 317), (3, 326), (3, 334), (3, 342), (3, 350), (3, 359), (3, 368), (3, 369), (3, 370), (3, 371), (3, 372), (3, 373), (3, 374), (3, 375), (3, 376), (3, 377), (3, 378), (0, 0), (0, 0), (0, 0), (0, 0), (0, 0), (0, 0), (0, 0), (0, 0)]) rfl hP rfl 11 (by decide) (hts _ (wg_t kw_1443)) (fun _ h9 => h9) (cd := (3, 359)) rfl dMH_written_178 (fun v30 hv30 => ?_)
                      obtain ⟨r21, rfl, kr21⟩ := (show ∃ r : Nat, v30 = .ref r ∧ T r = some 359 from hv30)
                      refine lv_iload hx hb dMH_written_181 (lv_at hl 1 rfl) ?_
                      refine nw_aald3 hx hb hK hO kr21 (k := 359) (b := 360) rfl hP (by omega) (by omega) dMH_written_183 (fun r22 kr22 => ?_)
                      have hn21 : nsp (360 + i24) = (0, 256, []) := rows_ok 360 8 (by decide) _ (by omega)
                      refine lv_iload hx hb dMH_written_184 (lv_at hl 0 rfl) ?_
                      refine nw_iald hx hb hK hO kr22 (k := (360 + i24)) hn21 hP (by omega) (by omega) dMH_written_186 ?_
                      refine lv_if_ne (tgt := 193) hx hb dMH_written_187 (by decide) (fun h29 => ?_) (fun h29 => ?_)
                      · replace hR := hR.trans (if_neg h29)
                        refine lv_aload_n hx hb dMH_written_193 rfl (lv_at hl 5 rfl) ?_
                        refine lv_iload hx hb dMH_written_194 (lv_at hl 3 rfl) ?_
                        refine lv_iload hx hb dMH_written_196 (lv_at hl 2 rfl) ?_
                        refine mi_iadd hx hb dMH_written_198 ?_
                        refine lv_iload hx hb dMH_written_199 (lv_at hl 0 rfl) ?_
                        refine lv_i2b hx hb dMH_written_201 rfl ?_
                        refine nw_bast hx hb hK hO hU k_to (k := pt) n_to hP hD hS (by omega) (by omega) dMH_written_202 (fun s27 pl H locs es22 hO hP hD hS => ?_)
                        replace hR := bnd_step hR es22
                        have hF := frm_sB hF es22 (by unfold M_MH_written_0; omega)
                        have hf85 : s27.1 225 23 = nI 0 := fc_B hf77 es22 (by omega)
                        have hf86 : s27.1 225 24 = nI 4 := fc_B hf78 es22 (by omega)
                        have hf87 : s27.1 225 25 = nI 4 := fc_B hf79 es22 (by omega)
                        have hf88 : s27.1 225 26 = nI 2 := fc_B hf80 es22 (by omega)
                        have hf89 : s27.1 225 27 = nI 131072 := fc_B hf81 es22 (by omega)
                        have hf90 : s27.1 225 28 = nI 95232 := fc_B hf82 es22 (by omega)
                        have hf91 : s27.1 225 29 = nI 78 := fc_B hf83 es22 (by omega)
                        have hf92 : s27.1 225 30 = nI 32 := fc_B hf84 es22 (by omega)
                        refine mi_iinc (k := 2) (x := my22) (d := 1) (y := my22 + 1) (lv' := [(5, .int (nI (my22 + 1))), (7, .int (nI i25)), (6, .int (nI i24)), (4, .int (nI (az21 / 8))), (0, .ref h0), (1, .ref to)]) hx hb dMH_written_203 hl rfl (by decide) rfl (by decide) rfl (fun ls hl => ?_)
                        refine mi_iinc (k := 1) (x := i25) (d := 1) (y := i25 + 1) (lv' := [(7, .int (nI (i25 + 1))), (5, .int (nI (my22 + 1))), (6, .int (nI i24)), (4, .int (nI (az21 / 8))), (0, .ref h0), (1, .ref to)]) hx hb dMH_written_206 hl rfl (by decide) rfl (by decide) rfl (fun ls hl => ?_)
                        refine lv_goto (tgt := 169) hx hb dMH_written_209 (by decide) ?_
                        exact ih25 (i25 + 1) (my22 + 1) s27 pl ls H locs (by omega) (by omega) hF hf85 hf86 hf87 hf88 hf89 hf90 hf91 hf92 hR (lv_sub hl [0, 2, 1, 3, 4, 5] rfl) hO hP hD hS
                      · replace hR := hR.trans (if_pos h29)
                        refine lv_goto (tgt := 206) hx hb dMH_written_190 (by decide) ?_
                        refine mi_iinc (k := 0) (x := i25) (d := 1) (y := i25 + 1) (lv' := [(7, .int (nI (i25 + 1))), (6, .int (nI i24)), (5, .int (nI my22)), (4, .int (nI (az21 / 8))), (0, .ref h0), (1, .ref to)]) hx hb dMH_written_206 hl rfl (by decide) rfl (by decide) rfl (fun ls hl => ?_)
                        refine lv_goto (tgt := 169) hx hb dMH_written_209 (by decide) ?_
                        exact ih25 (i25 + 1) my22 s25 pl ls H locs (by omega) (by omega) hF hf77 hf78 hf79 hf80 hf81 hf82 hf83 hf84 hR (lv_sub hl [0, 1, 2, 3, 4, 5] rfl) hO hP hD hS
                  exact lp25 256 0 my21 s24 pl ls _ _ (by omega) (by omega) hF hf53 hf54 hf55 hf56 hf57 hf58 hf59 hf60 hR (lv_sub hl [0, 1, 2, 3, 4, 5] rfl) hO hP hD hS
              exact lp24 4 0 0 s23 pl ls _ _ (by omega) (by omega) hF hf37 hf38 hf39 hf40 hf41 hf42 hf43 hf44 hR (lv_sub hl [0, 1, 2, 3, 4] rfl) hO hP hD hS
            | succ n23 ih23 =>
              intro i23 s23 pl ls H locs hm23 hF hf93 hf94 hf95 hf96 hf97 hf98 hf99 hf100 hR hl hO hP hD hS
              refine lv_iload hx hb dMH_written_122 (lv_at hl 0 rfl) ?_
              refine va_gets hx hb (hE.2.1 27 _ rfl).1 hS hown (hts _ (wg_t kw_1912)) (fun _ h9 => h9) dMH_written_124 ?_
              refine lv_aload_n hx hb dMH_written_127 rfl (lv_at hl 3 rfl) ?_
              refine nw_get (C := "LatticeKeysModel$Hands") (TT := T_MH) (N := 31) hx hb hts (wg_ft i_MH) hown hK hO k_h0 (kn := 225) (ci := 12) (fl := [(3, 172), (3, 181), (3, 226), (3, 291), (3, 299), (3, 308), (3, 317), (3, 326), (3, 334), (3, 342), (3, 350), (3, 359), (3, 368), (3, 369), (3, 370), (3, 371), (3, 372), (3, 373), (3, 374), (3, 375), (3, 376), (3, 377), (3, 378), (0, 0), (0, 0), (0, 0), (0, 0), (0, 0), (0, 0), (0, 0), (0, 0)]) rfl hP rfl 23 (by decide) (hts _ (wg_t kw_1455)) (fun _ h9 => h9) (cd := (0, 0)) rfl dMH_written_128 (fun v31 hv31 => ?_)
              obtain rfl := (show v31 = .int (s23.1 225 23) from hv31)
              obtain ⟨z30, ez30, hz39, hz40⟩ := cl_of (b := 2147483648) hf93 (by omega) (by decide)
              replace hR := bnd_step hR ez30
              refine mi_as hz39 ?_
              subst hz40
              refine va_ti (v := .int (nI 80)) hx hb (hE.2.1 27 _ rfl).2 hS (vp_in_nI (by decide) (by decide)) (by decide +kernel) dMH_written_131 ?_
              refine lv_aload_n hx hb dMH_written_132 rfl (lv_at hl 3 rfl) ?_
              refine nw_get (C := "LatticeKeysModel$Hands") (TT := T_MH) (N := 31) hx hb hts (wg_ft i_MH) hown hK hO k_h0 (kn := 225) (ci := 12) (fl := [(3, 172), (3, 181), (3, 226), (3, 291), (3, 299), (3, 308), (3, 317), (3, 326), (3, 334), (3, 342), (3, 350), (3, 359), (3, 368), (3, 369), (3, 370), (3, 371), (3, 372), (3, 373), (3, 374), (3, 375), (3, 376), (3, 377), (3, 378), (0, 0), (0, 0), (0, 0), (0, 0), (0, 0), (0, 0), (0, 0), (0, 0)]) rfl hP rfl 24 (by decide) (hts _ (wg_t kw_1456)) (fun _ h9 => h9) (cd := (0, 0)) rfl dMH_written_133 (fun v32 hv32 => ?_)
              obtain rfl := (show v32 = .int (s23.1 225 24) from hv32)
              obtain ⟨z31, ez31, hz41, hz42⟩ := cl_of (b := 2147483648) hf94 (by omega) (by decide)
              replace hR := bnd_step hR ez31
              refine mi_as hz41 ?_
              subst hz42
              refine mi_iadd hx hb dMH_written_136 ?_
              refine mi_as (show nI (80 + 4) = nI 84 from rfl) ?_
              refine mi_ge (tgt := 154) hx hb dMH_written_137 (by decide) (by omega) (by omega) (fun h30 => absurd h30 (by omega)) (fun h30 => ?_)
              refine lv_aload_n hx hb dMH_written_140 rfl (lv_at hl 4 rfl) ?_
              refine lv_iload hx hb dMH_written_141 (lv_at hl 2 rfl) ?_
              refine lv_iload hx hb dMH_written_143 (lv_at hl 0 rfl) ?_
              refine mi_iadd hx hb dMH_written_145 ?_
              refine lv_iconst (v := nI 0) hx hb dMH_written_146 (by decide) ?_
              refine nw_bast hx hb hK hO hU k_to (k := pt) n_to hP hD hS (by omega) (by omega) dMH_written_147 (fun s28 pl H locs es23 hO hP hD hS => ?_)
              replace hR := bnd_step hR es23
              have hF := frm_sB hF es23 (by unfold M_MH_written_0; omega)
              have hf101 : s28.1 225 23 = nI 0 := fc_B hf93 es23 (by omega)
              have hf102 : s28.1 225 24 = nI 4 := fc_B hf94 es23 (by omega)
              have hf103 : s28.1 225 25 = nI 4 := fc_B hf95 es23 (by omega)
              have hf104 : s28.1 225 26 = nI 2 := fc_B hf96 es23 (by omega)
              have hf105 : s28.1 225 27 = nI 131072 := fc_B hf97 es23 (by omega)
              have hf106 : s28.1 225 28 = nI 95232 := fc_B hf98 es23 (by omega)
              have hf107 : s28.1 225 29 = nI 78 := fc_B hf99 es23 (by omega)
              have hf108 : s28.1 225 30 = nI 32 := fc_B hf100 es23 (by omega)
              refine mi_iinc (k := 0) (x := i23) (d := 1) (y := i23 + 1) (lv' := [(6, .int (nI (i23 + 1))), (5, .int (nI 0)), (4, .int (nI (az21 / 8))), (0, .ref h0), (1, .ref to)]) hx hb dMH_written_148 hl rfl (by decide) rfl (by decide) rfl (fun ls hl => ?_)
              refine lv_goto (tgt := 122) hx hb dMH_written_151 (by decide) ?_
              exact ih23 (i23 + 1) s28 pl ls H locs (by omega) hF hf101 hf102 hf103 hf104 hf105 hf106 hf107 hf108 hR (lv_sub hl [0, 1, 2, 3, 4] rfl) hO hP hD hS
          exact lp23 84 0 s22 pl ls _ _ (by omega) hF hf29 hf30 hf31 hf32 hf33 hf34 hf35 hf36 hR (lv_sub hl [0, 1, 2, 5, 6] rfl) hO hP hD hS
        | succ n22 ih22 =>
          intro i22 az21 s22 pl ls H locs hm22 hi21 hF hf109 hf110 hf111 hf112 hf113 hf114 hf115 hf116 hR hl hO hP hD hS
          refine lv_iload hx hb dMH_written_51 (lv_at hl 0 rfl) ?_
          refine lv_aload_n hx hb dMH_written_53 rfl (lv_at hl 3 rfl) ?_
          refine nw_get (C := "LatticeKeysModel$Hands") (TT := T_MH) (N := 31) hx hb hts (wg_ft i_MH) hown hK hO k_h0 (kn := 225) (ci := 12) (fl := [(3, 172), (3, 181), (3, 226), (3, 291), (3, 299), (3, 308), (3, 317), (3, 326), (3, 334), (3, 342), (3, 350), (3, 359), (3, 368), (3, 369), (3, 370), (3, 371), (3, 372), (3, 373), (3, 374), (3, 375), (3, 376), (3, 377), (3, 378), (0, 0), (0, 0), (0, 0), (0, 0), (0, 0), (0, 0), (0, 0), (0, 0)]) rfl hP rfl 25 (by decide) (hts _ (wg_t kw_1457)) (fun _ h9 => h9) (cd := (0, 0)) rfl dMH_written_54 (fun v33 hv33 => ?_)
          obtain rfl := (show v33 = .int (s22.1 225 25) from hv33)
          obtain ⟨z32, ez32, hz43, hz44⟩ := cl_of (b := 2147483648) hf111 (by omega) (by decide)
          replace hR := bnd_step hR ez32
          refine mi_as hz43 ?_
          subst hz44
          refine mi_ge (tgt := 110) hx hb dMH_written_57 (by decide) (by omega) (by omega) (fun h31 => absurd h31 (by omega)) (fun h31 => ?_)
          refine lv_iconst (v := nI 0) hx hb dMH_written_60 (by decide) ?_
          refine lv_istore (lv' := [(5, .int (nI 0)), (4, .int (nI i22)), (3, .int (nI az21)), (2, .int (nI 18)), (0, .ref h0), (1, .ref to)]) hx hb dMH_written_61 hl (by decide) rfl (fun ls hl => ?_)
          have lp26 : ∀ (n26 : Nat) (i26 : Nat) (az22 : Nat) (s29 : Sto) (pl : va_W) (ls : Array Slot) (H : Heap) (locs : List Loc), n26 + i26 = 256 → (az22 = 256 + 4608 * i22 + 18 * i26) → frm (M_MH_written_0 pt) s s29 → s29.1 225 23 = nI 0 → s29.1 225 24 = nI 4 → s29.1 225 25 = nI 4 → s29.1 225 26 = nI 2 → s29.1 225 27 = nI 131072 → s29.1 225 28 = nI 95232 → s29.1 225 29 = nI 78 → s29.1 225 30 = nI 32 → F_MH_written_0 pt s = F_MH_written_0_L5 pt i22 (F_MH_written_0_L1 pt n22) n26 i26 az22 s29 → lv_has ls 8 [(5, .int (nI i26)), (4, .int (nI i22)), (3, .int (nI az22)), (2, .int (nI 18)), (0, .ref h0), (1, .ref to)] → okn g T s29 pl → va_P g.1 vcl ([] ++ pl) H → va_D A ([] ++ pl) → va_S A s0.heap H locs → W p l e ({ frames := 1, cells := 0, slots := 0, locals := 26 } : Room) s0 m args below meth c H locs 0 0 (MQ below (va_Qv (fun (u : (Sto) × va_W) => (u.1 = F_MH_written_0 pt s ∧ frm (M_MH_written_0 pt) s u.1 ∧ True) ∧ okn g T u.1 u.2) (po g.1 vcl A (fun (u : (Sto) × va_W) => [] ++ u.2)) A) args s0 0 0 A) (F0 m 63 ls []) := by
            intro n26
            induction n26 with
            | zero =>
              intro i26 az22 s29 pl ls H locs hm26 hi24 hF hf117 hf118 hf119 hf120 hf121 hf122 hf123 hf124 hR hl hO hP hD hS
              refine lv_iload hx hb dMH_written_63 (lv_at hl 0 rfl) ?_
              refine lv_sipush (v := nI 256) hx hb dMH_written_65 (by decide) ?_
              refine mi_ge (tgt := 104) hx hb dMH_written_68 (by decide) (by omega) (by omega) (fun h32 => ?_) (fun h32 => absurd h32 (by omega))
              refine mi_iinc (k := 1) (x := i22) (d := 1) (y := i22 + 1) (lv' := [(4, .int (nI (i22 + 1))), (5, .int (nI i26)), (3, .int (nI az22)), (2, .int (nI 18)), (0, .ref h0), (1, .ref to)]) hx hb dMH_written_104 hl rfl (by decide) rfl (by decide) rfl (fun ls hl => ?_)
              refine lv_goto (tgt := 51) hx hb dMH_written_107 (by decide) ?_
              exact ih22 (i22 + 1) az22 s29 pl ls H locs (by omega) (by omega) hF hf117 hf118 hf119 hf120 hf121 hf122 hf123 hf124 hR (lv_sub hl [0, 2, 3, 4, 5] rfl) hO hP hD hS
            | succ n26 ih26 =>
              intro i26 az22 s29 pl ls H locs hm26 hi24 hF hf125 hf126 hf127 hf128 hf129 hf130 hf131 hf132 hR hl hO hP hD hS
              refine lv_iload hx hb dMH_written_63 (lv_at hl 0 rfl) ?_
              refine lv_sipush (v := nI 256) hx hb dMH_written_65 (by decide) ?_
              refine mi_ge (tgt := 104) hx hb dMH_written_68 (by decide) (by omega) (by omega) (fun h33 => absurd h33 (by omega)) (fun h33 => ?_)
              refine lv_aload_n hx hb dMH_written_71 rfl (lv_at hl 5 rfl) ?_
              refine lv_iload_n hx hb dMH_written_72 rfl (lv_at hl 2 rfl) ?_
              refine lv_iload_n hx hb dMH_written_73 rfl (lv_at hl 3 rfl) ?_
              refine lv_aload_n hx hb dMH_written_74 rfl (lv_at hl 4 rfl) ?_
              refine nw_get (C := "LatticeKeysModel$Hands") (TT := T_MH) (N := 31) hx hb hts (wg_ft i_MH) hown hK hO k_h0 (kn := 225) (ci := 12) (fl := [(3, 172), (3, 181), (3, 226), (3, 291), (3, 299), (3, 308), (3, 317), (3, 326), (3, 334), (3, 342), (3, 350), (3, 359), (3, 368), (3, 369), (3, 370), (3, 371), (3, 372), (3, 373), (3, 374), (3, 375), (3, 376), (3, 377), (3, 378), (0, 0), (0, 0), (0, 0), (0, 0), (0, 0), (0, 0), (0, 0), (0, 0)]) rfl hP rfl 27 (by decide) (hts _ (wg_t kw_1459)) (fun _ h9 => h9) (cd := (0, 0)) rfl dMH_written_75 (fun v34 hv34 => ?_)
              obtain rfl := (show v34 = .int (s29.1 225 27) from hv34)
              obtain ⟨z33, ez33, hz45, hz46⟩ := cl_of (b := 2147483648) hf129 (by omega) (by decide)
              replace hR := bnd_step hR ez33
              refine mi_as hz45 ?_
              subst hz46
              refine lv_aload_n hx hb dMH_written_78 rfl (lv_at hl 4 rfl) ?_
              refine nw_get (C := "LatticeKeysModel$Hands") (TT := T_MH) (N := 31) hx hb hts (wg_ft i_MH) hown hK hO k_h0 (kn := 225) (ci := 12) (fl := [(3, 172), (3, 181), (3, 226), (3, 291), (3, 299), (3, 308), (3, 317), (3, 326), (3, 334), (3, 342), (3, 350), (3, 359), (3, 368), (3, 369), (3, 370), (3, 371), (3, 372), (3, 373), (3, 374), (3, 375), (3, 376), (3, 377), (3, 378), (0, 0), (0, 0), (0, 0), (0, 0), (0, 0), (0, 0), (0, 0), (0, 0)]) rfl hP rfl 8 (by decide) (hts _ (wg_t kw_1440)) (fun _ h9 => h9) (cd := (3, 334)) rfl dMH_written_79 (fun v35 hv35 => ?_)
              obtain ⟨r23, rfl, kr23⟩ := (show ∃ r : Nat, v35 = .ref r ∧ T r = some 334 from hv35)
              refine lv_iload hx hb dMH_written_82 (lv_at hl 1 rfl) ?_
              refine nw_aald3 hx hb hK hO kr23 (k := 334) (b := 335) rfl hP (by omega) (by omega) dMH_written_84 (fun r24 kr24 => ?_)
              have hn22 : nsp (335 + i22) = (0, 256, []) := rows_ok 335 7 (by decide) _ (by omega)
              refine lv_iload hx hb dMH_written_85 (lv_at hl 0 rfl) ?_
              refine nw_iald hx hb hK hO kr24 (k := (335 + i22)) hn22 hP (by omega) (by omega) dMH_written_87 ?_
              refine mp_i (cx := []) (wr := []) hP hD hS hA [] [] rfl rfl rfl (by decide) (va_runS (As := [.int (nI 131072), .int ((s29.1 ((335 + i22)) i26))]) (rest := [.int (nI 18), .int (nI az22), .ref to]) F (N_MH_minus l g _ T s29 pl hO hU (nI 131072) (s29.1 ((335 + i22)) i26)) (va_cwS 2 hts (wg_app (wg_c kw_1865 (wg_c kw_1866 (wg_c kw_13 wg_n))) kw_1867) rfl rfl rfl (by decide +kernel) ⟨by decide, by decide⟩) (pp_S (en_ok g) hP hD hS hA hE [] rfl rfl) rfl rfl hl.1 rfl (lv_room (Nat.le_of_ble_eq_true rfl)) dMH_written_88 ⟨by omega, by omega⟩) (fun r25 u21 H locs hu21 hP hD hS => ?_)
              obtain ⟨q21, pl⟩ := u21
              obtain ⟨⟨eq21, rfl, hFc21, -⟩, hO⟩ := hu21
              have hO : okn g T q21.2 pl := hO
              have hP : va_P g.1 vcl ([] ++ pl) _ := hP
              have hD : va_D _ ([] ++ pl) := hD
              have hFc21 : frm (M_MH_minus) s29 q21.2 := hFc21
              replace hR := bnd_step hR eq21
              have hF := frm_tr hF hFc21 (fun k hk => by unfold M_MH_minus at hk; unfold M_MH_written_0; omega)
              have hf133 : q21.2.1 225 23 = nI 0 := fc_F hf125 hFc21 (by unfold M_MH_minus; omega)
              have hf134 : q21.2.1 225 24 = nI 4 := fc_F hf126 hFc21 (by unfold M_MH_minus; omega)
              have hf135 : q21.2.1 225 25 = nI 4 := fc_F hf127 hFc21 (by unfold M_MH_minus; omega)
              have hf136 : q21.2.1 225 26 = nI 2 := fc_F hf128 hFc21 (by unfold M_MH_minus; omega)
              have hf137 : q21.2.1 225 27 = nI 131072 := fc_F hf129 hFc21 (by unfold M_MH_minus; omega)
              have hf138 : q21.2.1 225 28 = nI 95232 := fc_F hf130 hFc21 (by unfold M_MH_minus; omega)
              have hf139 : q21.2.1 225 29 = nI 78 := fc_F hf131 hFc21 (by unfold M_MH_minus; omega)
              have hf140 : q21.2.1 225 30 = nI 32 := fc_F hf132 hFc21 (by unfold M_MH_minus; omega)
              refine W.widen (k := 0) (n := 0) (by omega) (by omega) ?_
              refine mp_v (cx := []) (wr := []) hP hD hS hA [] [] rfl rfl rfl (by decide) (va_runSN (As := [.ref to, .int (nI az22), .int (nI 18), .int q21.1]) (rest := []) F (N_M_pack l g _ T q21.2 pl hO hU to pt 8192 az22 18 (q21.1) k_to n_to (by omega) (by omega)) ⟨va_cnB 4 hts (wg_in kw_1690) rfl rfl rfl (hE.2.2.2.2.2.2.2.2.2.1) (hts _ (wg_t kw_9)) (by decide +kernel) ⟨by decide, by decide⟩, hts _ (wg_t kw_1689), trivial⟩ (pp_S (en_ok g) hP hD hS hA hE [] rfl rfl) rfl rfl hl.1 rfl (lv_room (Nat.le_of_ble_eq_true rfl)) dMH_written_91 ⟨by omega, by omega⟩) (fun  u22 H locs hu22 hP hD hS => ?_)
              obtain ⟨s30, pl⟩ := u22
              obtain ⟨⟨eq22, hFc22, -⟩, hO⟩ := hu22
              have hO : okn g T s30 pl := hO
              have hP : va_P g.1 vcl ([] ++ pl) _ := hP
              have hD : va_D _ ([] ++ pl) := hD
              have hFc22 : frm (M_M_pack pt) q21.2 s30 := hFc22
              replace hR := bnd_step hR eq22
              have hF := frm_tr hF hFc22 (fun k hk => by unfold M_M_pack at hk; unfold M_MH_written_0; omega)
              have hf141 : s30.1 225 23 = nI 0 := fc_F hf133 hFc22 (by unfold M_M_pack; omega)
              have hf142 : s30.1 225 24 = nI 4 := fc_F hf134 hFc22 (by unfold M_M_pack; omega)
              have hf143 : s30.1 225 25 = nI 4 := fc_F hf135 hFc22 (by unfold M_M_pack; omega)
              have hf144 : s30.1 225 26 = nI 2 := fc_F hf136 hFc22 (by unfold M_M_pack; omega)
              have hf145 : s30.1 225 27 = nI 131072 := fc_F hf137 hFc22 (by unfold M_M_pack; omega)
              have hf146 : s30.1 225 28 = nI 95232 := fc_F hf138 hFc22 (by unfold M_M_pack; omega)
              have hf147 : s30.1 225 29 = nI 78 := fc_F hf139 hFc22 (by unfold M_M_pack; omega)
              have hf148 : s30.1 225 30 = nI 32 := fc_F hf140 hFc22 (by unfold M_M_pack; omega)
              refine W.widen (k := 0) (n := 0) (by omega) (by omega) ?_
              refine lv_iload_n hx hb dMH_written_94 rfl (lv_at hl 2 rfl) ?_
              refine lv_iload_n hx hb dMH_written_95 rfl (lv_at hl 3 rfl) ?_
              refine mi_iadd hx hb dMH_written_96 ?_
              refine lv_istore_n (lv' := [(3, .int (nI (az22 + 18))), (5, .int (nI i26)), (4, .int (nI i22)), (2, .int (nI 18)), (0, .ref h0), (1, .ref to)]) hx hb dMH_written_97 rfl hl (by decide) rfl (fun ls hl => ?_)
              refine mi_iinc (k := 1) (x := i26) (d := 1) (y := i26 + 1) (lv' := [(5, .int (nI (i26 + 1))), (3, .int (nI (az22 + 18))), (4, .int (nI i22)), (2, .int (nI 18)), (0, .ref h0), (1, .ref to)]) hx hb dMH_written_98 hl rfl (by decide) rfl (by decide) rfl (fun ls hl => ?_)
              refine lv_goto (tgt := 63) hx hb dMH_written_101 (by decide) ?_
              exact ih26 (i26 + 1) (az22 + 18) s30 pl ls H locs (by omega) (by omega) hF hf141 hf142 hf143 hf144 hf145 hf146 hf147 hf148 hR (lv_sub hl [0, 2, 1, 3, 4, 5] rfl) hO hP hD hS
          exact lp26 256 0 az21 s22 pl ls _ _ (by omega) (by omega) hF hf109 hf110 hf111 hf112 hf113 hf114 hf115 hf116 hR (lv_sub hl [0, 1, 2, 3, 4, 5] rfl) hO hP hD hS
      exact lp22 4 0 256 s21 pl ls _ _ (by omega) (by omega) hF hf21 hf22 hf23 hf24 hf25 hf26 hf27 hf28 hR (lv_sub hl [0, 1, 2, 3, 4] rfl) hO hP hD hS
    | succ n21 ih21 =>
      intro i21 s21 pl ls H locs hm21 hF hf149 hf150 hf151 hf152 hf153 hf154 hf155 hf156 hR hl hO hP hD hS
      refine lv_iload_n hx hb dMH_written_2 rfl (lv_at hl 0 rfl) ?_
      refine lv_aload_n hx hb dMH_written_3 rfl (lv_at hl 1 rfl) ?_
      refine nw_get (C := "LatticeKeysModel$Hands") (TT := T_MH) (N := 31) hx hb hts (wg_ft i_MH) hown hK hO k_h0 (kn := 225) (ci := 12) (fl := [(3, 172), (3, 181), (3, 226), (3, 291), (3, 299), (3, 308), (3, 317), (3, 326), (3, 334), (3, 342), (3, 350), (3, 359), (3, 368), (3, 369), (3, 370), (3, 371), (3, 372), (3, 373), (3, 374), (3, 375), (3, 376), (3, 377), (3, 378), (0, 0), (0, 0), (0, 0), (0, 0), (0, 0), (0, 0), (0, 0), (0, 0)]) rfl hP rfl 30 (by decide) (hts _ (wg_t kw_1462)) (fun _ h9 => h9) (cd := (0, 0)) rfl dMH_written_4 (fun v36 hv36 => ?_)
      obtain rfl := (show v36 = .int (s21.1 225 30) from hv36)
      obtain ⟨z34, ez34, hz47, hz48⟩ := cl_of (b := 2147483648) hf156 (by omega) (by decide)
      replace hR := bnd_step hR ez34
      refine mi_as hz47 ?_
      subst hz48
      refine mi_ge (tgt := 25) hx hb dMH_written_7 (by decide) (by omega) (by omega) (fun h34 => absurd h34 (by omega)) (fun h34 => ?_)
      refine lv_aload_n hx hb dMH_written_10 rfl (lv_at hl 2 rfl) ?_
      refine lv_iload_n hx hb dMH_written_11 rfl (lv_at hl 0 rfl) ?_
      refine lv_aload_n hx hb dMH_written_12 rfl (lv_at hl 1 rfl) ?_
      refine nw_get (C := "LatticeKeysModel$Hands") (TT := T_MH) (N := 31) hx hb hts (wg_ft i_MH) hown hK hO k_h0 (kn := 225) (ci := 12) (fl := [(3, 172), (3, 181), (3, 226), (3, 291), (3, 299), (3, 308), (3, 317), (3, 326), (3, 334), (3, 342), (3, 350), (3, 359), (3, 368), (3, 369), (3, 370), (3, 371), (3, 372), (3, 373), (3, 374), (3, 375), (3, 376), (3, 377), (3, 378), (0, 0), (0, 0), (0, 0), (0, 0), (0, 0), (0, 0), (0, 0), (0, 0)]) rfl hP rfl 20 (by decide) (hts _ (wg_t kw_1452)) (fun _ h9 => h9) (cd := (3, 376)) rfl dMH_written_13 (fun v37 hv37 => ?_)
      obtain ⟨r26, rfl, kr25⟩ := (show ∃ r : Nat, v37 = .ref r ∧ T r = some 376 from hv37)
      refine lv_iload_n hx hb dMH_written_16 rfl (lv_at hl 0 rfl) ?_
      refine nw_bald hx hb hK hO kr25 (k := 376) rfl hP (by omega) (by omega) dMH_written_17 ?_
      refine nw_bast hx hb hK hO hU k_to (k := pt) n_to hP hD hS (by omega) (by omega) dMH_written_18 (fun s31 pl H locs es24 hO hP hD hS => ?_)
      replace hR := bnd_step hR es24
      have hF := frm_sB hF es24 (by unfold M_MH_written_0; omega)
      have hf157 : s31.1 225 23 = nI 0 := fc_B hf149 es24 (by omega)
      have hf158 : s31.1 225 24 = nI 4 := fc_B hf150 es24 (by omega)
      have hf159 : s31.1 225 25 = nI 4 := fc_B hf151 es24 (by omega)
      have hf160 : s31.1 225 26 = nI 2 := fc_B hf152 es24 (by omega)
      have hf161 : s31.1 225 27 = nI 131072 := fc_B hf153 es24 (by omega)
      have hf162 : s31.1 225 28 = nI 95232 := fc_B hf154 es24 (by omega)
      have hf163 : s31.1 225 29 = nI 78 := fc_B hf155 es24 (by omega)
      have hf164 : s31.1 225 30 = nI 32 := fc_B hf156 es24 (by omega)
      refine mi_iinc (k := 0) (x := i21) (d := 1) (y := i21 + 1) (lv' := [(2, .int (nI (i21 + 1))), (0, .ref h0), (1, .ref to)]) hx hb dMH_written_19 hl rfl (by decide) rfl (by decide) rfl (fun ls hl => ?_)
      refine lv_goto (tgt := 2) hx hb dMH_written_22 (by decide) ?_
      exact ih21 (i21 + 1) s31 pl ls H locs (by omega) hF hf157 hf158 hf159 hf160 hf161 hf162 hf163 hf164 hR (lv_sub hl [0, 1, 2] rfl) hO hP hD hS
  exact lp21 32 0 s pl ls _ _ (by omega) hF e_c0 e_c1 e_c2 e_c3 e_c4 e_c5 e_c6 e_c7 hR (lv_sub hl [0, 1, 2] rfl) hO hP hD hS
def M_MH_written_1 (pt : Nat) (k : Nat) : Prop := k = pt ∨ (0 : Nat) = 1
noncomputable def F_MH_written_1_L5 (pt : Nat) (i22 : Nat) (kk : Nat → Nat → Sto → Sto) : Nat → Nat → Nat → Sto → Sto
  | 0, i26, az22, s29 => kk (i22 + 1) az22 s29
  | n26 + 1, i26, az22, s29 => bnd ((s29.1 225 27).toNatClampNeg) fun z33 => bnd (F_MH_minus (nI 524288) (s29.1 ((335 + i22)) i26) s29) fun q21 => bnd (F_M_pack pt 8192 az22 20 (q21.1) q21.2) fun s30 => F_MH_written_1_L5 pt i22 kk n26 (i26 + 1) (az22 + 20) s30
noncomputable def F_MH_written_1_L4 (pt : Nat) (az21 : Nat) (i24 : Nat) (kk : Nat → Nat → Sto → Sto) : Nat → Nat → Nat → Sto → Sto
  | 0, i25, my22, s25 => bnd ((s25.1 225 23).toNatClampNeg) fun z29 => bnd (sB s25 pt (((az21 / 8) + 55) + i24) ((nI my22).toInt8.toInt32)) fun s26 => kk (i24 + 1) my22 s26
  | n25 + 1, i25, my22, s25 => if (s25.1 ((360 + i24)) i25) = 0 then F_MH_written_1_L4 pt az21 i24 kk n25 (i25 + 1) my22 s25 else bnd (sB s25 pt ((az21 / 8) + my22) ((nI i25).toInt8.toInt32)) fun s27 => F_MH_written_1_L4 pt az21 i24 kk n25 (i25 + 1) (my22 + 1) s27
noncomputable def F_MH_written_1_L3 (pt : Nat) (az21 : Nat) : Nat → Nat → Nat → Sto → Sto
  | 0, i24, my21, s24 => bnd ((s24.1 225 24).toNatClampNeg) fun z27 => s24
  | n24 + 1, i24, my21, s24 => bnd ((s24.1 225 24).toNatClampNeg) fun z28 => F_MH_written_1_L4 pt az21 i24 (F_MH_written_1_L3 pt az21 n24) 256 0 my21 s24
noncomputable def F_MH_written_1_L2 (pt : Nat) (az21 : Nat) : Nat → Nat → Sto → Sto
  | 0, i23, s23 => bnd ((s23.1 225 23).toNatClampNeg) fun z25 => bnd ((s23.1 225 24).toNatClampNeg) fun z26 => F_MH_written_1_L3 pt az21 6 0 0 s23
  | n23 + 1, i23, s23 => bnd ((s23.1 225 23).toNatClampNeg) fun z30 => bnd ((s23.1 225 24).toNatClampNeg) fun z31 => bnd (sB s23 pt ((az21 / 8) + i23) (nI 0)) fun s28 => F_MH_written_1_L2 pt az21 n23 (i23 + 1) s28
noncomputable def F_MH_written_1_L1 (pt : Nat) : Nat → Nat → Nat → Sto → Sto
  | 0, i22, az21, s22 => bnd ((s22.1 225 25).toNatClampNeg) fun z24 => F_MH_written_1_L2 pt az21 61 0 s22
  | n22 + 1, i22, az21, s22 => bnd ((s22.1 225 25).toNatClampNeg) fun z32 => F_MH_written_1_L5 pt i22 (F_MH_written_1_L1 pt n22) 256 0 az21 s22
noncomputable def F_MH_written_1_L0 (pt : Nat) : Nat → Nat → Sto → Sto
  | 0, i21, s21 => bnd ((s21.1 225 30).toNatClampNeg) fun z21 => bnd ((s21.1 225 23).toNatClampNeg) fun z22 => bnd ((s21.1 225 30).toNatClampNeg) fun z23 => F_MH_written_1_L1 pt 5 0 384 s21
  | n21 + 1, i21, s21 => bnd ((s21.1 225 30).toNatClampNeg) fun z34 => bnd (sB s21 pt i21 (s21.1 376 i21)) fun s31 => F_MH_written_1_L0 pt n21 (i21 + 1) s31
noncomputable def F_MH_written_1 (pt : Nat) (s : Sto) : Sto := F_MH_written_1_L0 pt 48 0 s
set_option maxHeartbeats 8000000 in
set_option maxRecDepth 100000 in
theorem N_MH_written_1 (l : Launch) (g : Gd) (sz : Nat) (T : TyN) (s : Sto) (pl : va_W) (hO : okn g T s pl) (hU : inj T) (h0 to : Nat) (pt : Nat) (k_h0 : T h0 = some 225) (k_to : T to = some pt) (n_to : nsp pt = (1, 8192, [])) (e_c0 : s.1 225 23 = nI 1) (e_c1 : s.1 225 24 = nI 6) (e_c2 : s.1 225 25 = nI 5) (e_c3 : s.1 225 26 = nI 4) (e_c4 : s.1 225 27 = nI 524288) (e_c5 : s.1 225 28 = nI 261888) (e_c6 : s.1 225 29 = nI 196) (e_c7 : s.1 225 30 = nI 48)  : Met l y_MH_written w_MH_written ({ frames := 1, cells := 0, slots := 0, locals := 26 } : Room) (va_Pc [.ref h0, .ref to] (pr (en g) g.1 vcl sz ([] ++ pl))) (va_Qv (fun (u : (Sto) × va_W) => (u.1 = F_MH_written_1 pt s ∧ frm (M_MH_written_1 pt) s u.1 ∧ True) ∧ okn g T u.1 u.2) (po g.1 vcl (va_A ([] ++ pl) sz) (fun (u : (Sto) × va_W) => [] ++ u.2)) (va_A ([] ++ pl) sz)) 0 0 (va_A ([] ++ pl) sz) := by
  refine mc_entry (cc := c_MH_written) (maxL := 8) (ret := none) (by decide) rfl (Nat.le_of_ble_eq_true rfl) ?_
  intro p e s0 m args below meth c ls F hr hlk hnm hsz hP hD hE hA hl
  obtain ⟨hx, hb, hml, hown, hts⟩ := id F
  have hK := hE.1
  generalize va_A ([] ++ pl) sz = A at hD hE hA ⊢
  have hS : va_S A s0.heap s0.heap [] := va_S.rf
  have hl : lv_has ls 8 [(0, .ref h0), (1, .ref to)] := hl
  have hR : F_MH_written_1 pt s = F_MH_written_1 pt s := rfl
  have hF : frm (M_MH_written_1 pt) s s := frm_rf
  have ne_172_pt : 172 ≠ pt := nsp_ne (p := 172) rfl n_to (show (5 : Nat) ≠ 1 by decide)
  have ne_225_pt : 225 ≠ pt := nsp_ne (p := 225) rfl n_to (show (5 : Nat) ≠ 1 by decide)
  refine lv_iconst (v := nI 0) hx hb dMH_written_0 (by decide) ?_
  refine lv_istore_n (lv' := [(2, .int (nI 0)), (0, .ref h0), (1, .ref to)]) hx hb dMH_written_1 rfl hl (by decide) rfl (fun ls hl => ?_)
  have lp21 : ∀ (n21 : Nat) (i21 : Nat) (s21 : Sto) (pl : va_W) (ls : Array Slot) (H : Heap) (locs : List Loc), n21 + i21 = 48 → frm (M_MH_written_1 pt) s s21 → s21.1 225 23 = nI 1 → s21.1 225 24 = nI 6 → s21.1 225 25 = nI 5 → s21.1 225 26 = nI 4 → s21.1 225 27 = nI 524288 → s21.1 225 28 = nI 261888 → s21.1 225 29 = nI 196 → s21.1 225 30 = nI 48 → F_MH_written_1 pt s = F_MH_written_1_L0 pt n21 i21 s21 → lv_has ls 8 [(2, .int (nI i21)), (0, .ref h0), (1, .ref to)] → okn g T s21 pl → va_P g.1 vcl ([] ++ pl) H → va_D A ([] ++ pl) → va_S A s0.heap H locs → W p l e ({ frames := 1, cells := 0, slots := 0, locals := 26 } : Room) s0 m args below meth c H locs 0 0 (MQ below (va_Qv (fun (u : (Sto) × va_W) => (u.1 = F_MH_written_1 pt s ∧ frm (M_MH_written_1 pt) s u.1 ∧ True) ∧ okn g T u.1 u.2) (po g.1 vcl A (fun (u : (Sto) × va_W) => [] ++ u.2)) A) args s0 0 0 A) (F0 m 2 ls []) := by
    intro n21
    induction n21 with
    | zero =>
      intro i21 s21 pl ls H locs hm21 hF hf21 hf22 hf23 hf24 hf25 hf26 hf27 hf28 hR hl hO hP hD hS
      refine lv_iload_n hx hb dMH_written_2 rfl (lv_at hl 0 rfl) ?_
      refine lv_aload_n hx hb dMH_written_3 rfl (lv_at hl 1 rfl) ?_
      refine nw_get (C := "LatticeKeysModel$Hands") (TT := T_MH) (N := 31) hx hb hts (wg_ft i_MH) hown hK hO k_h0 (kn := 225) (ci := 12) (fl := [(3, 172), (3, 181), (3, 226), (3, 291), (3, 299), (3, 308), (3, 317), (3, 326), (3, 334), (3, 342), (3, 350), (3, 359), (3, 368), (3, 369), (3, 370), (3, 371), (3, 372), (3, 373), (3, 374), (3, 375), (3, 376), (3, 377), (3, 378), (0, 0), (0, 0), (0, 0), (0, 0), (0, 0), (0, 0), (0, 0), (0, 0)]) rfl hP rfl 30 (by decide) (hts _ (wg_t kw_1462)) (fun _ h9 => h9) (cd := (0, 0)) rfl dMH_written_4 (fun v21 hv21 => ?_)
      obtain rfl := (show v21 = .int (s21.1 225 30) from hv21)
      obtain ⟨z21, ez21, hz21, hz22⟩ := cl_of (b := 2147483648) hf28 (by omega) (by decide)
      replace hR := bnd_step hR ez21
      refine mi_as hz21 ?_
      subst hz22
      refine mi_ge (tgt := 25) hx hb dMH_written_7 (by decide) (by omega) (by omega) (fun h21 => ?_) (fun h21 => absurd h21 (by omega))
      refine lv_aload_n hx hb dMH_written_25 rfl (lv_at hl 1 rfl) ?_
      refine nw_get (C := "LatticeKeysModel$Hands") (TT := T_MH) (N := 31) hx hb hts (wg_ft i_MH) hown hK hO k_h0 (kn := 225) (ci := 12) (fl := [(3, 172), (3, 181), (3, 226), (3, 291), (3, 299), (3, 308), (3, 317), (3, 326), (3, 334), (3, 342), (3, 350), (3, 359), (3, 368), (3, 369), (3, 370), (3, 371), (3, 372), (3, 373), (3, 374), (3, 375), (3, 376), (3, 377), (3, 378), (0, 0), (0, 0), (0, 0), (0, 0), (0, 0), (0, 0), (0, 0), (0, 0)]) rfl hP rfl 23 (by decide) (hts _ (wg_t kw_1455)) (fun _ h9 => h9) (cd := (0, 0)) rfl dMH_written_26 (fun v22 hv22 => ?_)
      obtain rfl := (show v22 = .int (s21.1 225 23) from hv22)
      obtain ⟨z22, ez22, hz23, hz24⟩ := cl_of (b := 2147483648) hf21 (by omega) (by decide)
      replace hR := bnd_step hR ez22
      refine mi_as hz23 ?_
      subst hz24
      refine lv_if_ne (tgt := 37) hx hb dMH_written_29 (by decide) (fun h22 => ?_) (fun h22 => absurd h22 (by decide))
      refine lv_bipush (v := nI 20) hx hb dMH_written_37 (by decide) ?_
      refine lv_istore_n (lv' := [(2, .int (nI 20)), (0, .ref h0), (1, .ref to)]) hx hb dMH_written_39 rfl hl (by decide) rfl (fun ls hl => ?_)
      refine lv_bipush (v := nI 8) hx hb dMH_written_40 (by decide) ?_
      refine lv_aload_n hx hb dMH_written_42 rfl (lv_at hl 1 rfl) ?_
      refine nw_get (C := "LatticeKeysModel$Hands") (TT := T_MH) (N := 31) hx hb hts (wg_ft i_MH) hown hK hO k_h0 (kn := 225) (ci := 12) (fl := [(3, 172), (3, 181), (3, 226), (3, 291), (3, 299), (3, 308), (3, 317), (3, 326), (3, 334), (3, 342), (3, 350), (3, 359), (3, 368), (3, 369), (3, 370), (3, 371), (3, 372), (3, 373), (3, 374), (3, 375), (3, 376), (3, 377), (3, 378), (0, 0), (0, 0), (0, 0), (0, 0), (0, 0), (0, 0), (0, 0), (0, 0)]) rfl hP rfl 30 (by decide) (hts _ (wg_t kw_1462)) (fun _ h9 => h9) (cd := (0, 0)) rfl dMH_written_43 (fun v23 hv23 => ?_)
      obtain rfl := (show v23 = .int (s21.1 225 30) from hv23)
      obtain ⟨z23, ez23, hz25, hz26⟩ := cl_of (b := 2147483648) hf28 (by omega) (by decide)
      replace hR := bnd_step hR ez23
      refine mi_as hz25 ?_
      subst hz26
      refine mi_imul hx hb dMH_written_46 ?_
      refine mi_as (show nI (8 * 48) = nI 384 from rfl) ?_
      refine lv_istore_n (lv' := [(3, .int (nI 384)), (2, .int (nI 20)), (0, .ref h0), (1, .ref to)]) hx hb dMH_written_47 rfl hl (by decide) rfl (fun ls hl => ?_)
      refine lv_iconst (v := nI 0) hx hb dMH_written_48 (by decide) ?_
      refine lv_istore (lv' := [(4, .int (nI 0)), (3, .int (nI 384)), (2, .int (nI 20)), (0, .ref h0), (1, .ref to)]) hx hb dMH_written_49 hl (by decide) rfl (fun ls hl => ?_)
      have lp22 : ∀ (n22 : Nat) (i22 : Nat) (az21 : Nat) (s22 : Sto) (pl : va_W) (ls : Array Slot) (H : Heap) (locs : List Loc), n22 + i22 = 5 → (az21 = 384 + 5120 * i22) → frm (M_MH_written_1 pt) s s22 → s22.1 225 23 = nI 1 → s22.1 225 24 = nI 6 → s22.1 225 25 = nI 5 → s22.1 225 26 = nI 4 → s22.1 225 27 = nI 524288 → s22.1 225 28 = nI 261888 → s22.1 225 29 = nI 196 → s22.1 225 30 = nI 48 → F_MH_written_1 pt s = F_MH_written_1_L1 pt n22 i22 az21 s22 → lv_has ls 8 [(4, .int (nI i22)), (3, .int (nI az21)), (2, .int (nI 20)), (0, .ref h0), (1, .ref to)] → okn g T s22 pl → va_P g.1 vcl ([] ++ pl) H → va_D A ([] ++ pl) → va_S A s0.heap H locs → W p l e ({ frames := 1, cells := 0, slots := 0, locals := 26 } : Room) s0 m args below meth c H locs 0 0 (MQ below (va_Qv (fun (u : (Sto) × va_W) => (u.1 = F_MH_written_1 pt s ∧ frm (M_MH_written_1 pt) s u.1 ∧ True) ∧ okn g T u.1 u.2) (po g.1 vcl A (fun (u : (Sto) × va_W) => [] ++ u.2)) A) args s0 0 0 A) (F0 m 51 ls []) := by
        intro n22
        induction n22 with
        | zero =>
          intro i22 az21 s22 pl ls H locs hm22 hi21 hF hf29 hf30 hf31 hf32 hf33 hf34 hf35 hf36 hR hl hO hP hD hS
          refine lv_iload hx hb dMH_written_51 (lv_at hl 0 rfl) ?_
          refine lv_aload_n hx hb dMH_written_53 rfl (lv_at hl 3 rfl) ?_
          refine nw_get (C := "LatticeKeysModel$Hands") (TT := T_MH) (N := 31) hx hb hts (wg_ft i_MH) hown hK hO k_h0 (kn := 225) (ci := 12) (fl := [(3, 172), (3, 181), (3, 226), (3, 291), (3, 299), (3, 308), (3, 317), (3, 326), (3, 334), (3, 342), (3, 350), (3, 359), (3, 368), (3, 369), (3, 370), (3, 371), (3, 372), (3, 373), (3, 374), (3, 375), (3, 376), (3, 377), (3, 378), (0, 0), (0, 0), (0, 0), (0, 0), (0, 0), (0, 0), (0, 0), (0, 0)]) rfl hP rfl 25 (by decide) (hts _ (wg_t kw_1457)) (fun _ h9 => h9) (cd := (0, 0)) rfl dMH_written_54 (fun v24 hv24 => ?_)
          obtain rfl := (show v24 = .int (s22.1 225 25) from hv24)
          obtain ⟨z24, ez24, hz27, hz28⟩ := cl_of (b := 2147483648) hf31 (by omega) (by decide)
          replace hR := bnd_step hR ez24
          refine mi_as hz27 ?_
          subst hz28
          refine mi_ge (tgt := 110) hx hb dMH_written_57 (by decide) (by omega) (by omega) (fun h23 => ?_) (fun h23 => absurd h23 (by omega))
          refine lv_iload_n hx hb dMH_written_110 rfl (lv_at hl 1 rfl) ?_
          refine lv_bipush (v := nI 8) hx hb dMH_written_111 (by decide) ?_
          refine mi_idiv hx hb dMH_written_113 (by omega) (by omega) (by omega) ?_
          refine lv_istore (lv' := [(4, .int (nI (az21 / 8))), (3, .int (nI az21)), (2, .int (nI 20)), (0, .ref h0), (1, .ref to)]) hx hb dMH_written_114 hl (by decide) rfl (fun ls hl => ?_)
          refine lv_iconst (v := nI 0) hx hb dMH_written_116 (by decide) ?_
          refine lv_istore (lv' := [(5, .int (nI 0)), (4, .int (nI (az21 / 8))), (3, .int (nI az21)), (2, .int (nI 20)), (0, .ref h0), (1, .ref to)]) hx hb dMH_written_117 hl (by decide) rfl (fun ls hl => ?_)
          refine lv_iconst (v := nI 0) hx hb dMH_written_119 (by decide) ?_
          refine lv_istore (lv' := [(6, .int (nI 0)), (5, .int (nI 0)), (4, .int (nI (az21 / 8))), (3, .int (nI az21)), (2, .int (nI 20)), (0, .ref h0), (1, .ref to)]) hx hb dMH_written_120 hl (by decide) rfl (fun ls hl => ?_)
          have lp23 : ∀ (n23 : Nat) (i23 : Nat) (s23 : Sto) (pl : va_W) (ls : Array Slot) (H : Heap) (locs : List Loc), n23 + i23 = 61 → frm (M_MH_written_1 pt) s s23 → s23.1 225 23 = nI 1 → s23.1 225 24 = nI 6 → s23.1 225 25 = nI 5 → s23.1 225 26 = nI 4 → s23.1 225 27 = nI 524288 → s23.1 225 28 = nI 261888 → s23.1 225 29 = nI 196 → s23.1 225 30 = nI 48 → F_MH_written_1 pt s = F_MH_written_1_L2 pt az21 n23 i23 s23 → lv_has ls 8 [(6, .int (nI i23)), (5, .int (nI 0)), (4, .int (nI (az21 / 8))), (0, .ref h0), (1, .ref to)] → okn g T s23 pl → va_P g.1 vcl ([] ++ pl) H → va_D A ([] ++ pl) → va_S A s0.heap H locs → W p l e ({ frames := 1, cells := 0, slots := 0, locals := 26 } : Room) s0 m args below meth c H locs 0 0 (MQ below (va_Qv (fun (u : (Sto) × va_W) => (u.1 = F_MH_written_1 pt s ∧ frm (M_MH_written_1 pt) s u.1 ∧ True) ∧ okn g T u.1 u.2) (po g.1 vcl A (fun (u : (Sto) × va_W) => [] ++ u.2)) A) args s0 0 0 A) (F0 m 122 ls []) := by
            intro n23
            induction n23 with
            | zero =>
              intro i23 s23 pl ls H locs hm23 hF hf37 hf38 hf39 hf40 hf41 hf42 hf43 hf44 hR hl hO hP hD hS
              refine lv_iload hx hb dMH_written_122 (lv_at hl 0 rfl) ?_
              refine va_gets hx hb (hE.2.1 27 _ rfl).1 hS hown (hts _ (wg_t kw_1912)) (fun _ h9 => h9) dMH_written_124 ?_
              refine lv_aload_n hx hb dMH_written_127 rfl (lv_at hl 3 rfl) ?_
              refine nw_get (C := "LatticeKeysModel$Hands") (TT := T_MH) (N := 31) hx hb hts (wg_ft i_MH) hown hK hO k_h0 (kn := 225) (ci := 12) (fl := [(3, 172), (3, 181), (3, 226), (3, 291), (3, 299), (3, 308), (3, 317), (3, 326), (3, 334), (3, 342), (3, 350), (3, 359), (3, 368), (3, 369), (3, 370), (3, 371), (3, 372), (3, 373), (3, 374), (3, 375), (3, 376), (3, 377), (3, 378), (0, 0), (0, 0), (0, 0), (0, 0), (0, 0), (0, 0), (0, 0), (0, 0)]) rfl hP rfl 23 (by decide) (hts _ (wg_t kw_1455)) (fun _ h9 => h9) (cd := (0, 0)) rfl dMH_written_128 (fun v25 hv25 => ?_)
              obtain rfl := (show v25 = .int (s23.1 225 23) from hv25)
              obtain ⟨z25, ez25, hz29, hz30⟩ := cl_of (b := 2147483648) hf37 (by omega) (by decide)
              replace hR := bnd_step hR ez25
              refine mi_as hz29 ?_
              subst hz30
              refine va_ti (v := .int (nI 55)) hx hb (hE.2.1 27 _ rfl).2 hS (vp_in_nI (by decide) (by decide)) (by decide +kernel) dMH_written_131 ?_
              refine lv_aload_n hx hb dMH_written_132 rfl (lv_at hl 3 rfl) ?_
              refine nw_get (C := "LatticeKeysModel$Hands") (TT := T_MH) (N := 31) hx hb hts (wg_ft i_MH) hown hK hO k_h0 (kn := 225) (ci := 12) (fl := [(3, 172), (3, 181), (3, 226), (3, 291), (3, 299), (3, 308), (3, 317), (3, 326), (3, 334), (3, 342), (3, 350), (3, 359), (3, 368), (3, 369), (3, 370), (3, 371), (3, 372), (3, 373), (3, 374), (3, 375), (3, 376), (3, 377), (3, 378), (0, 0), (0, 0), (0, 0), (0, 0), (0, 0), (0, 0), (0, 0), (0, 0)]) rfl hP rfl 24 (by decide) (hts _ (wg_t kw_1456)) (fun _ h9 => h9) (cd := (0, 0)) rfl dMH_written_133 (fun v26 hv26 => ?_)
              obtain rfl := (show v26 = .int (s23.1 225 24) from hv26)
              obtain ⟨z26, ez26, hz31, hz32⟩ := cl_of (b := 2147483648) hf38 (by omega) (by decide)
              replace hR := bnd_step hR ez26
              refine mi_as hz31 ?_
              subst hz32
              refine mi_iadd hx hb dMH_written_136 ?_
              refine mi_as (show nI (55 + 6) = nI 61 from rfl) ?_
              refine mi_ge (tgt := 154) hx hb dMH_written_137 (by decide) (by omega) (by omega) (fun h24 => ?_) (fun h24 => absurd h24 (by omega))
              refine lv_iconst (v := nI 0) hx hb dMH_written_154 (by decide) ?_
              refine lv_istore (lv' := [(6, .int (nI 0)), (5, .int (nI 0)), (4, .int (nI (az21 / 8))), (0, .ref h0), (1, .ref to)]) hx hb dMH_written_155 hl (by decide) rfl (fun ls hl => ?_)
              have lp24 : ∀ (n24 : Nat) (i24 : Nat) (my21 : Nat) (s24 : Sto) (pl : va_W) (ls : Array Slot) (H : Heap) (locs : List Loc), n24 + i24 = 6 → (my21 ≤ 256 * i24) → frm (M_MH_written_1 pt) s s24 → s24.1 225 23 = nI 1 → s24.1 225 24 = nI 6 → s24.1 225 25 = nI 5 → s24.1 225 26 = nI 4 → s24.1 225 27 = nI 524288 → s24.1 225 28 = nI 261888 → s24.1 225 29 = nI 196 → s24.1 225 30 = nI 48 → F_MH_written_1 pt s = F_MH_written_1_L3 pt az21 n24 i24 my21 s24 → lv_has ls 8 [(6, .int (nI i24)), (5, .int (nI my21)), (4, .int (nI (az21 / 8))), (0, .ref h0), (1, .ref to)] → okn g T s24 pl → va_P g.1 vcl ([] ++ pl) H → va_D A ([] ++ pl) → va_S A s0.heap H locs → W p l e ({ frames := 1, cells := 0, slots := 0, locals := 26 } : Room) s0 m args below meth c H locs 0 0 (MQ below (va_Qv (fun (u : (Sto) × va_W) => (u.1 = F_MH_written_1 pt s ∧ frm (M_MH_written_1 pt) s u.1 ∧ True) ∧ okn g T u.1 u.2) (po g.1 vcl A (fun (u : (Sto) × va_W) => [] ++ u.2)) A) args s0 0 0 A) (F0 m 157 ls []) := by
                intro n24
                induction n24 with
                | zero =>
                  intro i24 my21 s24 pl ls H locs hm24 hi22 hF hf45 hf46 hf47 hf48 hf49 hf50 hf51 hf52 hR hl hO hP hD hS
                  refine lv_iload hx hb dMH_written_157 (lv_at hl 0 rfl) ?_
                  refine lv_aload_n hx hb dMH_written_159 rfl (lv_at hl 3 rfl) ?_
                  refine nw_get (C := "LatticeKeysModel$Hands") (TT := T_MH) (N := 31) hx hb hts (wg_ft i_MH) hown hK hO k_h0 (kn := 225) (ci := 12) (fl := [(3, 172), (3, 181), (3, 226), (3, 291), (3, 299), (3, 308), (3, 317), (3, 326), (3, 334), (3, 342), (3, 350), (3, 359), (3, 368), (3, 369), (3, 370), (3, 371), (3, 372), (3, 373), (3, 374), (3, 375), (3, 376), (3, 377), (3, 378), (0, 0), (0, 0), (0, 0), (0, 0), (0, 0), (0, 0), (0, 0), (0, 0)]) rfl hP rfl 24 (by decide) (hts _ (wg_t kw_1456)) (fun _ h9 => h9) (cd := (0, 0)) rfl dMH_written_160 (fun v27 hv27 => ?_)
                  obtain rfl := (show v27 = .int (s24.1 225 24) from hv27)
                  obtain ⟨z27, ez27, hz33, hz34⟩ := cl_of (b := 2147483648) hf46 (by omega) (by decide)
                  replace hR := bnd_step hR ez27
                  refine mi_as hz33 ?_
                  subst hz34
                  refine mi_ge (tgt := 237) hx hb dMH_written_163 (by decide) (by omega) (by omega) (fun h25 => ?_) (fun h25 => absurd h25 (by omega))
                  exact mp_vret hx hb hr hlk hP hD hS (s24, pl) ⟨⟨hR.symm, hF, trivial⟩, hO⟩ [] rfl rfl rfl (by omega) (by omega) dMH_written_237
                | succ n24 ih24 =>
                  intro i24 my21 s24 pl ls H locs hm24 hi22 hF hf53 hf54 hf55 hf56 hf57 hf58 hf59 hf60 hR hl hO hP hD hS
                  refine lv_iload hx hb dMH_written_157 (lv_at hl 0 rfl) ?_
                  refine lv_aload_n hx hb dMH_written_159 rfl (lv_at hl 3 rfl) ?_
                  refine nw_get (C := "LatticeKeysModel$Hands") (TT := T_MH) (N := 31) hx hb hts (wg_ft i_MH) hown hK hO k_h0 (kn := 225) (ci := 12) (fl := [(3, 172), (3, 181), (3, 226), (3, 291), (3, 299), (3, 308), (3, 317), (3, 326), (3, 334), (3, 342), (3, 350), (3, 359), (3, 368), (3, 369), (3, 370), (3, 371), (3, 372), (3, 373), (3, 374), (3, 375), (3, 376), (3, 377), (3, 378), (0, 0), (0, 0), (0, 0), (0, 0), (0, 0), (0, 0), (0, 0), (0, 0)]) rfl hP rfl 24 (by decide) (hts _ (wg_t kw_1456)) (fun _ h9 => h9) (cd := (0, 0)) rfl dMH_written_160 (fun v28 hv28 => ?_)
                  obtain rfl := (show v28 = .int (s24.1 225 24) from hv28)
                  obtain ⟨z28, ez28, hz35, hz36⟩ := cl_of (b := 2147483648) hf54 (by omega) (by decide)
                  replace hR := bnd_step hR ez28
                  refine mi_as hz35 ?_
                  subst hz36
                  refine mi_ge (tgt := 237) hx hb dMH_written_163 (by decide) (by omega) (by omega) (fun h26 => absurd h26 (by omega)) (fun h26 => ?_)
                  refine lv_iconst (v := nI 0) hx hb dMH_written_166 (by decide) ?_
                  refine lv_istore (lv' := [(7, .int (nI 0)), (6, .int (nI i24)), (5, .int (nI my21)), (4, .int (nI (az21 / 8))), (0, .ref h0), (1, .ref to)]) hx hb dMH_written_167 hl (by decide) rfl (fun ls hl => ?_)
                  have lp25 : ∀ (n25 : Nat) (i25 : Nat) (my22 : Nat) (s25 : Sto) (pl : va_W) (ls : Array Slot) (H : Heap) (locs : List Loc), n25 + i25 = 256 → (my22 ≤ 256 * i24 + i25) → frm (M_MH_written_1 pt) s s25 → s25.1 225 23 = nI 1 → s25.1 225 24 = nI 6 → s25.1 225 25 = nI 5 → s25.1 225 26 = nI 4 → s25.1 225 27 = nI 524288 → s25.1 225 28 = nI 261888 → s25.1 225 29 = nI 196 → s25.1 225 30 = nI 48 → F_MH_written_1 pt s = F_MH_written_1_L4 pt az21 i24 (F_MH_written_1_L3 pt az21 n24) n25 i25 my22 s25 → lv_has ls 8 [(7, .int (nI i25)), (6, .int (nI i24)), (5, .int (nI my22)), (4, .int (nI (az21 / 8))), (0, .ref h0), (1, .ref to)] → okn g T s25 pl → va_P g.1 vcl ([] ++ pl) H → va_D A ([] ++ pl) → va_S A s0.heap H locs → W p l e ({ frames := 1, cells := 0, slots := 0, locals := 26 } : Room) s0 m args below meth c H locs 0 0 (MQ below (va_Qv (fun (u : (Sto) × va_W) => (u.1 = F_MH_written_1 pt s ∧ frm (M_MH_written_1 pt) s u.1 ∧ True) ∧ okn g T u.1 u.2) (po g.1 vcl A (fun (u : (Sto) × va_W) => [] ++ u.2)) A) args s0 0 0 A) (F0 m 169 ls []) := by
                    intro n25
                    induction n25 with
                    | zero =>
                      intro i25 my22 s25 pl ls H locs hm25 hi23 hF hf61 hf62 hf63 hf64 hf65 hf66 hf67 hf68 hR hl hO hP hD hS
                      refine lv_iload hx hb dMH_written_169 (lv_at hl 0 rfl) ?_
                      refine lv_sipush (v := nI 256) hx hb dMH_written_171 (by decide) ?_
                      refine mi_ge (tgt := 212) hx hb dMH_written_174 (by decide) (by omega) (by omega) (fun h27 => ?_) (fun h27 => absurd h27 (by omega))
                      refine lv_aload_n hx hb dMH_written_212 rfl (lv_at hl 5 rfl) ?_
                      refine lv_iload hx hb dMH_written_213 (lv_at hl 3 rfl) ?_
                      refine va_gets hx hb (hE.2.1 27 _ rfl).1 hS hown (hts _ (wg_t kw_1912)) (fun _ h9 => h9) dMH_written_215 ?_
                      refine lv_aload_n hx hb dMH_written_218 rfl (lv_at hl 4 rfl) ?_
                      refine nw_get (C := "LatticeKeysModel$Hands") (TT := T_MH) (N := 31) hx hb hts (wg_ft i_MH) hown hK hO k_h0 (kn := 225) (ci := 12) (fl := [(3, 172), (3, 181), (3, 226), (3, 291), (3, 299), (3, 308), (3, 317), (3, 326), (3, 334), (3, 342), (3, 350), (3, 359), (3, 368), (3, 369), (3, 370), (3, 371), (3, 372), (3, 373), (3, 374), (3, 375), (3, 376), (3, 377), (3, 378), (0, 0), (0, 0), (0, 0), (0, 0), (0, 0), (0, 0), (0, 0), (0, 0)]) rfl hP rfl 23 (by decide) (hts _ (wg_t kw_1455)) (fun _ h9 => h9) (cd := (0, 0)) rfl dMH_written_219 (fun v29 hv29 => ?_)
                      obtain rfl := (show v29 = .int (s25.1 225 23) from hv29)
                      obtain ⟨z29, ez29, hz37, hz38⟩ := cl_of (b := 2147483648) hf61 (by omega) (by decide)
                      replace hR := bnd_step hR ez29
                      refine mi_as hz37 ?_
                      subst hz38
                      refine va_ti (v := .int (nI 55)) hx hb (hE.2.1 27 _ rfl).2 hS (vp_in_nI (by decide) (by decide)) (by decide +kernel) dMH_written_222 ?_
                      refine mi_iadd hx hb dMH_written_223 ?_
                      refine lv_iload hx hb dMH_written_224 (lv_at hl 1 rfl) ?_
                      refine mi_iadd hx hb dMH_written_226 ?_
                      refine lv_iload hx hb dMH_written_227 (lv_at hl 2 rfl) ?_
                      refine lv_i2b hx hb dMH_written_229 rfl ?_
                      refine nw_bast hx hb hK hO hU k_to (k := pt) n_to hP hD hS (by omega) (by omega) dMH_written_230 (fun s26 pl H locs es21 hO hP hD hS => ?_)
                      replace hR := bnd_step hR es21
                      have hF := frm_sB hF es21 (by unfold M_MH_written_1; omega)
                      have hf69 : s26.1 225 23 = nI 1 := fc_B hf61 es21 (by omega)
                      have hf70 : s26.1 225 24 = nI 6 := fc_B hf62 es21 (by omega)
                      have hf71 : s26.1 225 25 = nI 5 := fc_B hf63 es21 (by omega)
                      have hf72 : s26.1 225 26 = nI 4 := fc_B hf64 es21 (by omega)
                      have hf73 : s26.1 225 27 = nI 524288 := fc_B hf65 es21 (by omega)
                      have hf74 : s26.1 225 28 = nI 261888 := fc_B hf66 es21 (by omega)
                      have hf75 : s26.1 225 29 = nI 196 := fc_B hf67 es21 (by omega)
                      have hf76 : s26.1 225 30 = nI 48 := fc_B hf68 es21 (by omega)
                      refine mi_iinc (k := 1) (x := i24) (d := 1) (y := i24 + 1) (lv' := [(6, .int (nI (i24 + 1))), (7, .int (nI i25)), (5, .int (nI my22)), (4, .int (nI (az21 / 8))), (0, .ref h0), (1, .ref to)]) hx hb dMH_written_231 hl rfl (by decide) rfl (by decide) rfl (fun ls hl => ?_)
                      refine lv_goto (tgt := 157) hx hb dMH_written_234 (by decide) ?_
                      exact ih24 (i24 + 1) my22 s26 pl ls H locs (by omega) (by omega) hF hf69 hf70 hf71 hf72 hf73 hf74 hf75 hf76 hR (lv_sub hl [0, 2, 3, 4, 5] rfl) hO hP hD hS
                    | succ n25 ih25 =>
                      intro i25 my22 s25 pl ls H locs hm25 hi23 hF hf77 hf78 hf79 hf80 hf81 hf82 hf83 hf84 hR hl hO hP hD hS
                      refine lv_iload hx hb dMH_written_169 (lv_at hl 0 rfl) ?_
                      refine lv_sipush (v := nI 256) hx hb dMH_written_171 (by decide) ?_
                      refine mi_ge (tgt := 212) hx hb dMH_written_174 (by decide) (by omega) (by omega) (fun h28 => absurd h28 (by omega)) (fun h28 => ?_)
                      refine lv_aload_n hx hb dMH_written_177 rfl (lv_at hl 4 rfl) ?_
                      refine nw_get (C := "LatticeKeysModel$Hands") (TT := T_MH) (N := 31) hx hb hts (wg_ft i_MH) hown hK hO k_h0 (kn := 225) (ci := 12) (fl := [(3, 172), (3, 181), (3, 226), (3, 291), (3, 299), (3, 308), (3, 317), (3, 326), (3, 334), (3, 342), (3, 350), (3, 359), (3, 368), (3, 369), (3, 370), (3, 371), (3, 372), (3, 373), (3, 374), (3, 375), (3, 376), (3, 377), (3, 378), (0, 0), (0, 0), (0, 0), (0, 0), (0, 0), (0, 0), (0, 0), (0, 0)]) rfl hP rfl 11 (by decide) (hts _ (wg_t kw_1443)) (fun _ h9 => h9) (cd := (3, 359)) rfl dMH_written_178 (fun v30 hv30 => ?_)
                      obtain ⟨r21, rfl, kr21⟩ := (show ∃ r : Nat, v30 = .ref r ∧ T r = some 359 from hv30)
                      refine lv_iload hx hb dMH_written_181 (lv_at hl 1 rfl) ?_
                      refine nw_aald3 hx hb hK hO kr21 (k := 359) (b := 360) rfl hP (by omega) (by omega) dMH_written_183 (fun r22 kr22 => ?_)
                      have hn21 : nsp (360 + i24) = (0, 256, []) := rows_ok 360 8 (by decide) _ (by omega)
                      refine lv_iload hx hb dMH_written_184 (lv_at hl 0 rfl) ?_
                      refine nw_iald hx hb hK hO kr22 (k := (360 + i24)) hn21 hP (by omega) (by omega) dMH_written_186 ?_
                      refine lv_if_ne (tgt := 193) hx hb dMH_written_187 (by decide) (fun h29 => ?_) (fun h29 => ?_)
                      · replace hR := hR.trans (if_neg h29)
                        refine lv_aload_n hx hb dMH_written_193 rfl (lv_at hl 5 rfl) ?_
                        refine lv_iload hx hb dMH_written_194 (lv_at hl 3 rfl) ?_
                        refine lv_iload hx hb dMH_written_196 (lv_at hl 2 rfl) ?_
                        refine mi_iadd hx hb dMH_written_198 ?_
                        refine lv_iload hx hb dMH_written_199 (lv_at hl 0 rfl) ?_
                        refine lv_i2b hx hb dMH_written_201 rfl ?_
                        refine nw_bast hx hb hK hO hU k_to (k := pt) n_to hP hD hS (by omega) (by omega) dMH_written_202 (fun s27 pl H locs es22 hO hP hD hS => ?_)
                        replace hR := bnd_step hR es22
                        have hF := frm_sB hF es22 (by unfold M_MH_written_1; omega)
                        have hf85 : s27.1 225 23 = nI 1 := fc_B hf77 es22 (by omega)
                        have hf86 : s27.1 225 24 = nI 6 := fc_B hf78 es22 (by omega)
                        have hf87 : s27.1 225 25 = nI 5 := fc_B hf79 es22 (by omega)
                        have hf88 : s27.1 225 26 = nI 4 := fc_B hf80 es22 (by omega)
                        have hf89 : s27.1 225 27 = nI 524288 := fc_B hf81 es22 (by omega)
                        have hf90 : s27.1 225 28 = nI 261888 := fc_B hf82 es22 (by omega)
                        have hf91 : s27.1 225 29 = nI 196 := fc_B hf83 es22 (by omega)
                        have hf92 : s27.1 225 30 = nI 48 := fc_B hf84 es22 (by omega)
                        refine mi_iinc (k := 2) (x := my22) (d := 1) (y := my22 + 1) (lv' := [(5, .int (nI (my22 + 1))), (7, .int (nI i25)), (6, .int (nI i24)), (4, .int (nI (az21 / 8))), (0, .ref h0), (1, .ref to)]) hx hb dMH_written_203 hl rfl (by decide) rfl (by decide) rfl (fun ls hl => ?_)
                        refine mi_iinc (k := 1) (x := i25) (d := 1) (y := i25 + 1) (lv' := [(7, .int (nI (i25 + 1))), (5, .int (nI (my22 + 1))), (6, .int (nI i24)), (4, .int (nI (az21 / 8))), (0, .ref h0), (1, .ref to)]) hx hb dMH_written_206 hl rfl (by decide) rfl (by decide) rfl (fun ls hl => ?_)
                        refine lv_goto (tgt := 169) hx hb dMH_written_209 (by decide) ?_
                        exact ih25 (i25 + 1) (my22 + 1) s27 pl ls H locs (by omega) (by omega) hF hf85 hf86 hf87 hf88 hf89 hf90 hf91 hf92 hR (lv_sub hl [0, 2, 1, 3, 4, 5] rfl) hO hP hD hS
                      · replace hR := hR.trans (if_pos h29)
                        refine lv_goto (tgt := 206) hx hb dMH_written_190 (by decide) ?_
                        refine mi_iinc (k := 0) (x := i25) (d := 1) (y := i25 + 1) (lv' := [(7, .int (nI (i25 + 1))), (6, .int (nI i24)), (5, .int (nI my22)), (4, .int (nI (az21 / 8))), (0, .ref h0), (1, .ref to)]) hx hb dMH_written_206 hl rfl (by decide) rfl (by decide) rfl (fun ls hl => ?_)
                        refine lv_goto (tgt := 169) hx hb dMH_written_209 (by decide) ?_
                        exact ih25 (i25 + 1) my22 s25 pl ls H locs (by omega) (by omega) hF hf77 hf78 hf79 hf80 hf81 hf82 hf83 hf84 hR (lv_sub hl [0, 1, 2, 3, 4, 5] rfl) hO hP hD hS
                  exact lp25 256 0 my21 s24 pl ls _ _ (by omega) (by omega) hF hf53 hf54 hf55 hf56 hf57 hf58 hf59 hf60 hR (lv_sub hl [0, 1, 2, 3, 4, 5] rfl) hO hP hD hS
              exact lp24 6 0 0 s23 pl ls _ _ (by omega) (by omega) hF hf37 hf38 hf39 hf40 hf41 hf42 hf43 hf44 hR (lv_sub hl [0, 1, 2, 3, 4] rfl) hO hP hD hS
            | succ n23 ih23 =>
              intro i23 s23 pl ls H locs hm23 hF hf93 hf94 hf95 hf96 hf97 hf98 hf99 hf100 hR hl hO hP hD hS
              refine lv_iload hx hb dMH_written_122 (lv_at hl 0 rfl) ?_
              refine va_gets hx hb (hE.2.1 27 _ rfl).1 hS hown (hts _ (wg_t kw_1912)) (fun _ h9 => h9) dMH_written_124 ?_
              refine lv_aload_n hx hb dMH_written_127 rfl (lv_at hl 3 rfl) ?_
              refine nw_get (C := "LatticeKeysModel$Hands") (TT := T_MH) (N := 31) hx hb hts (wg_ft i_MH) hown hK hO k_h0 (kn := 225) (ci := 12) (fl := [(3, 172), (3, 181), (3, 226), (3, 291), (3, 299), (3, 308), (3, 317), (3, 326), (3, 334), (3, 342), (3, 350), (3, 359), (3, 368), (3, 369), (3, 370), (3, 371), (3, 372), (3, 373), (3, 374), (3, 375), (3, 376), (3, 377), (3, 378), (0, 0), (0, 0), (0, 0), (0, 0), (0, 0), (0, 0), (0, 0), (0, 0)]) rfl hP rfl 23 (by decide) (hts _ (wg_t kw_1455)) (fun _ h9 => h9) (cd := (0, 0)) rfl dMH_written_128 (fun v31 hv31 => ?_)
              obtain rfl := (show v31 = .int (s23.1 225 23) from hv31)
              obtain ⟨z30, ez30, hz39, hz40⟩ := cl_of (b := 2147483648) hf93 (by omega) (by decide)
              replace hR := bnd_step hR ez30
              refine mi_as hz39 ?_
              subst hz40
              refine va_ti (v := .int (nI 55)) hx hb (hE.2.1 27 _ rfl).2 hS (vp_in_nI (by decide) (by decide)) (by decide +kernel) dMH_written_131 ?_
              refine lv_aload_n hx hb dMH_written_132 rfl (lv_at hl 3 rfl) ?_
              refine nw_get (C := "LatticeKeysModel$Hands") (TT := T_MH) (N := 31) hx hb hts (wg_ft i_MH) hown hK hO k_h0 (kn := 225) (ci := 12) (fl := [(3, 172), (3, 181), (3, 226), (3, 291), (3, 299), (3, 308), (3, 317), (3, 326), (3, 334), (3, 342), (3, 350), (3, 359), (3, 368), (3, 369), (3, 370), (3, 371), (3, 372), (3, 373), (3, 374), (3, 375), (3, 376), (3, 377), (3, 378), (0, 0), (0, 0), (0, 0), (0, 0), (0, 0), (0, 0), (0, 0), (0, 0)]) rfl hP rfl 24 (by decide) (hts _ (wg_t kw_1456)) (fun _ h9 => h9) (cd := (0, 0)) rfl dMH_written_133 (fun v32 hv32 => ?_)
              obtain rfl := (show v32 = .int (s23.1 225 24) from hv32)
              obtain ⟨z31, ez31, hz41, hz42⟩ := cl_of (b := 2147483648) hf94 (by omega) (by decide)
              replace hR := bnd_step hR ez31
              refine mi_as hz41 ?_
              subst hz42
              refine mi_iadd hx hb dMH_written_136 ?_
              refine mi_as (show nI (55 + 6) = nI 61 from rfl) ?_
              refine mi_ge (tgt := 154) hx hb dMH_written_137 (by decide) (by omega) (by omega) (fun h30 => absurd h30 (by omega)) (fun h30 => ?_)
              refine lv_aload_n hx hb dMH_written_140 rfl (lv_at hl 4 rfl) ?_
              refine lv_iload hx hb dMH_written_141 (lv_at hl 2 rfl) ?_
              refine lv_iload hx hb dMH_written_143 (lv_at hl 0 rfl) ?_
              refine mi_iadd hx hb dMH_written_145 ?_
              refine lv_iconst (v := nI 0) hx hb dMH_written_146 (by decide) ?_
              refine nw_bast hx hb hK hO hU k_to (k := pt) n_to hP hD hS (by omega) (by omega) dMH_written_147 (fun s28 pl H locs es23 hO hP hD hS => ?_)
              replace hR := bnd_step hR es23
              have hF := frm_sB hF es23 (by unfold M_MH_written_1; omega)
              have hf101 : s28.1 225 23 = nI 1 := fc_B hf93 es23 (by omega)
              have hf102 : s28.1 225 24 = nI 6 := fc_B hf94 es23 (by omega)
              have hf103 : s28.1 225 25 = nI 5 := fc_B hf95 es23 (by omega)
              have hf104 : s28.1 225 26 = nI 4 := fc_B hf96 es23 (by omega)
              have hf105 : s28.1 225 27 = nI 524288 := fc_B hf97 es23 (by omega)
              have hf106 : s28.1 225 28 = nI 261888 := fc_B hf98 es23 (by omega)
              have hf107 : s28.1 225 29 = nI 196 := fc_B hf99 es23 (by omega)
              have hf108 : s28.1 225 30 = nI 48 := fc_B hf100 es23 (by omega)
              refine mi_iinc (k := 0) (x := i23) (d := 1) (y := i23 + 1) (lv' := [(6, .int (nI (i23 + 1))), (5, .int (nI 0)), (4, .int (nI (az21 / 8))), (0, .ref h0), (1, .ref to)]) hx hb dMH_written_148 hl rfl (by decide) rfl (by decide) rfl (fun ls hl => ?_)
              refine lv_goto (tgt := 122) hx hb dMH_written_151 (by decide) ?_
              exact ih23 (i23 + 1) s28 pl ls H locs (by omega) hF hf101 hf102 hf103 hf104 hf105 hf106 hf107 hf108 hR (lv_sub hl [0, 1, 2, 3, 4] rfl) hO hP hD hS
          exact lp23 61 0 s22 pl ls _ _ (by omega) hF hf29 hf30 hf31 hf32 hf33 hf34 hf35 hf36 hR (lv_sub hl [0, 1, 2, 5, 6] rfl) hO hP hD hS
        | succ n22 ih22 =>
          intro i22 az21 s22 pl ls H locs hm22 hi21 hF hf109 hf110 hf111 hf112 hf113 hf114 hf115 hf116 hR hl hO hP hD hS
          refine lv_iload hx hb dMH_written_51 (lv_at hl 0 rfl) ?_
          refine lv_aload_n hx hb dMH_written_53 rfl (lv_at hl 3 rfl) ?_
          refine nw_get (C := "LatticeKeysModel$Hands") (TT := T_MH) (N := 31) hx hb hts (wg_ft i_MH) hown hK hO k_h0 (kn := 225) (ci := 12) (fl := [(3, 172), (3, 181), (3, 226), (3, 291), (3, 299), (3, 308), (3, 317), (3, 326), (3, 334), (3, 342), (3, 350), (3, 359), (3, 368), (3, 369), (3, 370), (3, 371), (3, 372), (3, 373), (3, 374), (3, 375), (3, 376), (3, 377), (3, 378), (0, 0), (0, 0), (0, 0), (0, 0), (0, 0), (0, 0), (0, 0), (0, 0)]) rfl hP rfl 25 (by decide) (hts _ (wg_t kw_1457)) (fun _ h9 => h9) (cd := (0, 0)) rfl dMH_written_54 (fun v33 hv33 => ?_)
          obtain rfl := (show v33 = .int (s22.1 225 25) from hv33)
          obtain ⟨z32, ez32, hz43, hz44⟩ := cl_of (b := 2147483648) hf111 (by omega) (by decide)
          replace hR := bnd_step hR ez32
          refine mi_as hz43 ?_
          subst hz44
          refine mi_ge (tgt := 110) hx hb dMH_written_57 (by decide) (by omega) (by omega) (fun h31 => absurd h31 (by omega)) (fun h31 => ?_)
          refine lv_iconst (v := nI 0) hx hb dMH_written_60 (by decide) ?_
          refine lv_istore (lv' := [(5, .int (nI 0)), (4, .int (nI i22)), (3, .int (nI az21)), (2, .int (nI 20)), (0, .ref h0), (1, .ref to)]) hx hb dMH_written_61 hl (by decide) rfl (fun ls hl => ?_)
          have lp26 : ∀ (n26 : Nat) (i26 : Nat) (az22 : Nat) (s29 : Sto) (pl : va_W) (ls : Array Slot) (H : Heap) (locs : List Loc), n26 + i26 = 256 → (az22 = 384 + 5120 * i22 + 20 * i26) → frm (M_MH_written_1 pt) s s29 → s29.1 225 23 = nI 1 → s29.1 225 24 = nI 6 → s29.1 225 25 = nI 5 → s29.1 225 26 = nI 4 → s29.1 225 27 = nI 524288 → s29.1 225 28 = nI 261888 → s29.1 225 29 = nI 196 → s29.1 225 30 = nI 48 → F_MH_written_1 pt s = F_MH_written_1_L5 pt i22 (F_MH_written_1_L1 pt n22) n26 i26 az22 s29 → lv_has ls 8 [(5, .int (nI i26)), (4, .int (nI i22)), (3, .int (nI az22)), (2, .int (nI 20)), (0, .ref h0), (1, .ref to)] → okn g T s29 pl → va_P g.1 vcl ([] ++ pl) H → va_D A ([] ++ pl) → va_S A s0.heap H locs → W p l e ({ frames := 1, cells := 0, slots := 0, locals := 26 } : Room) s0 m args below meth c H locs 0 0 (MQ below (va_Qv (fun (u : (Sto) × va_W) => (u.1 = F_MH_written_1 pt s ∧ frm (M_MH_written_1 pt) s u.1 ∧ True) ∧ okn g T u.1 u.2) (po g.1 vcl A (fun (u : (Sto) × va_W) => [] ++ u.2)) A) args s0 0 0 A) (F0 m 63 ls []) := by
            intro n26
            induction n26 with
            | zero =>
              intro i26 az22 s29 pl ls H locs hm26 hi24 hF hf117 hf118 hf119 hf120 hf121 hf122 hf123 hf124 hR hl hO hP hD hS
              refine lv_iload hx hb dMH_written_63 (lv_at hl 0 rfl) ?_
              refine lv_sipush (v := nI 256) hx hb dMH_written_65 (by decide) ?_
              refine mi_ge (tgt := 104) hx hb dMH_written_68 (by decide) (by omega) (by omega) (fun h32 => ?_) (fun h32 => absurd h32 (by omega))
              refine mi_iinc (k := 1) (x := i22) (d := 1) (y := i22 + 1) (lv' := [(4, .int (nI (i22 + 1))), (5, .int (nI i26)), (3, .int (nI az22)), (2, .int (nI 20)), (0, .ref h0), (1, .ref to)]) hx hb dMH_written_104 hl rfl (by decide) rfl (by decide) rfl (fun ls hl => ?_)
              refine lv_goto (tgt := 51) hx hb dMH_written_107 (by decide) ?_
              exact ih22 (i22 + 1) az22 s29 pl ls H locs (by omega) (by omega) hF hf117 hf118 hf119 hf120 hf121 hf122 hf123 hf124 hR (lv_sub hl [0, 2, 3, 4, 5] rfl) hO hP hD hS
            | succ n26 ih26 =>
              intro i26 az22 s29 pl ls H locs hm26 hi24 hF hf125 hf126 hf127 hf128 hf129 hf130 hf131 hf132 hR hl hO hP hD hS
              refine lv_iload hx hb dMH_written_63 (lv_at hl 0 rfl) ?_
              refine lv_sipush (v := nI 256) hx hb dMH_written_65 (by decide) ?_
              refine mi_ge (tgt := 104) hx hb dMH_written_68 (by decide) (by omega) (by omega) (fun h33 => absurd h33 (by omega)) (fun h33 => ?_)
              refine lv_aload_n hx hb dMH_written_71 rfl (lv_at hl 5 rfl) ?_
              refine lv_iload_n hx hb dMH_written_72 rfl (lv_at hl 2 rfl) ?_
              refine lv_iload_n hx hb dMH_written_73 rfl (lv_at hl 3 rfl) ?_
              refine lv_aload_n hx hb dMH_written_74 rfl (lv_at hl 4 rfl) ?_
              refine nw_get (C := "LatticeKeysModel$Hands") (TT := T_MH) (N := 31) hx hb hts (wg_ft i_MH) hown hK hO k_h0 (kn := 225) (ci := 12) (fl := [(3, 172), (3, 181), (3, 226), (3, 291), (3, 299), (3, 308), (3, 317), (3, 326), (3, 334), (3, 342), (3, 350), (3, 359), (3, 368), (3, 369), (3, 370), (3, 371), (3, 372), (3, 373), (3, 374), (3, 375), (3, 376), (3, 377), (3, 378), (0, 0), (0, 0), (0, 0), (0, 0), (0, 0), (0, 0), (0, 0), (0, 0)]) rfl hP rfl 27 (by decide) (hts _ (wg_t kw_1459)) (fun _ h9 => h9) (cd := (0, 0)) rfl dMH_written_75 (fun v34 hv34 => ?_)
              obtain rfl := (show v34 = .int (s29.1 225 27) from hv34)
              obtain ⟨z33, ez33, hz45, hz46⟩ := cl_of (b := 2147483648) hf129 (by omega) (by decide)
              replace hR := bnd_step hR ez33
              refine mi_as hz45 ?_
              subst hz46
              refine lv_aload_n hx hb dMH_written_78 rfl (lv_at hl 4 rfl) ?_
              refine nw_get (C := "LatticeKeysModel$Hands") (TT := T_MH) (N := 31) hx hb hts (wg_ft i_MH) hown hK hO k_h0 (kn := 225) (ci := 12) (fl := [(3, 172), (3, 181), (3, 226), (3, 291), (3, 299), (3, 308), (3, 317), (3, 326), (3, 334), (3, 342), (3, 350), (3, 359), (3, 368), (3, 369), (3, 370), (3, 371), (3, 372), (3, 373), (3, 374), (3, 375), (3, 376), (3, 377), (3, 378), (0, 0), (0, 0), (0, 0), (0, 0), (0, 0), (0, 0), (0, 0), (0, 0)]) rfl hP rfl 8 (by decide) (hts _ (wg_t kw_1440)) (fun _ h9 => h9) (cd := (3, 334)) rfl dMH_written_79 (fun v35 hv35 => ?_)
              obtain ⟨r23, rfl, kr23⟩ := (show ∃ r : Nat, v35 = .ref r ∧ T r = some 334 from hv35)
              refine lv_iload hx hb dMH_written_82 (lv_at hl 1 rfl) ?_
              refine nw_aald3 hx hb hK hO kr23 (k := 334) (b := 335) rfl hP (by omega) (by omega) dMH_written_84 (fun r24 kr24 => ?_)
              have hn22 : nsp (335 + i22) = (0, 256, []) := rows_ok 335 7 (by decide) _ (by omega)
              refine lv_iload hx hb dMH_written_85 (lv_at hl 0 rfl) ?_
              refine nw_iald hx hb hK hO kr24 (k := (335 + i22)) hn22 hP (by omega) (by omega) dMH_written_87 ?_
              refine mp_i (cx := []) (wr := []) hP hD hS hA [] [] rfl rfl rfl (by decide) (va_runS (As := [.int (nI 524288), .int ((s29.1 ((335 + i22)) i26))]) (rest := [.int (nI 20), .int (nI az22), .ref to]) F (N_MH_minus l g _ T s29 pl hO hU (nI 524288) (s29.1 ((335 + i22)) i26)) (va_cwS 2 hts (wg_app (wg_c kw_1865 (wg_c kw_1866 (wg_c kw_13 wg_n))) kw_1867) rfl rfl rfl (by decide +kernel) ⟨by decide, by decide⟩) (pp_S (en_ok g) hP hD hS hA hE [] rfl rfl) rfl rfl hl.1 rfl (lv_room (Nat.le_of_ble_eq_true rfl)) dMH_written_88 ⟨by omega, by omega⟩) (fun r25 u21 H locs hu21 hP hD hS => ?_)
              obtain ⟨q21, pl⟩ := u21
              obtain ⟨⟨eq21, rfl, hFc21, -⟩, hO⟩ := hu21
              have hO : okn g T q21.2 pl := hO
              have hP : va_P g.1 vcl ([] ++ pl) _ := hP
              have hD : va_D _ ([] ++ pl) := hD
              have hFc21 : frm (M_MH_minus) s29 q21.2 := hFc21
              replace hR := bnd_step hR eq21
              have hF := frm_tr hF hFc21 (fun k hk => by unfold M_MH_minus at hk; unfold M_MH_written_1; omega)
              have hf133 : q21.2.1 225 23 = nI 1 := fc_F hf125 hFc21 (by unfold M_MH_minus; omega)
              have hf134 : q21.2.1 225 24 = nI 6 := fc_F hf126 hFc21 (by unfold M_MH_minus; omega)
              have hf135 : q21.2.1 225 25 = nI 5 := fc_F hf127 hFc21 (by unfold M_MH_minus; omega)
              have hf136 : q21.2.1 225 26 = nI 4 := fc_F hf128 hFc21 (by unfold M_MH_minus; omega)
              have hf137 : q21.2.1 225 27 = nI 524288 := fc_F hf129 hFc21 (by unfold M_MH_minus; omega)
              have hf138 : q21.2.1 225 28 = nI 261888 := fc_F hf130 hFc21 (by unfold M_MH_minus; omega)
              have hf139 : q21.2.1 225 29 = nI 196 := fc_F hf131 hFc21 (by unfold M_MH_minus; omega)
              have hf140 : q21.2.1 225 30 = nI 48 := fc_F hf132 hFc21 (by unfold M_MH_minus; omega)
              refine W.widen (k := 0) (n := 0) (by omega) (by omega) ?_
              refine mp_v (cx := []) (wr := []) hP hD hS hA [] [] rfl rfl rfl (by decide) (va_runSN (As := [.ref to, .int (nI az22), .int (nI 20), .int q21.1]) (rest := []) F (N_M_pack l g _ T q21.2 pl hO hU to pt 8192 az22 20 (q21.1) k_to n_to (by omega) (by omega)) ⟨va_cnB 4 hts (wg_in kw_1690) rfl rfl rfl (hE.2.2.2.2.2.2.2.2.2.1) (hts _ (wg_t kw_9)) (by decide +kernel) ⟨by decide, by decide⟩, hts _ (wg_t kw_1689), trivial⟩ (pp_S (en_ok g) hP hD hS hA hE [] rfl rfl) rfl rfl hl.1 rfl (lv_room (Nat.le_of_ble_eq_true rfl)) dMH_written_91 ⟨by omega, by omega⟩) (fun  u22 H locs hu22 hP hD hS => ?_)
              obtain ⟨s30, pl⟩ := u22
              obtain ⟨⟨eq22, hFc22, -⟩, hO⟩ := hu22
              have hO : okn g T s30 pl := hO
              have hP : va_P g.1 vcl ([] ++ pl) _ := hP
              have hD : va_D _ ([] ++ pl) := hD
              have hFc22 : frm (M_M_pack pt) q21.2 s30 := hFc22
              replace hR := bnd_step hR eq22
              have hF := frm_tr hF hFc22 (fun k hk => by unfold M_M_pack at hk; unfold M_MH_written_1; omega)
              have hf141 : s30.1 225 23 = nI 1 := fc_F hf133 hFc22 (by unfold M_M_pack; omega)
              have hf142 : s30.1 225 24 = nI 6 := fc_F hf134 hFc22 (by unfold M_M_pack; omega)
              have hf143 : s30.1 225 25 = nI 5 := fc_F hf135 hFc22 (by unfold M_M_pack; omega)
              have hf144 : s30.1 225 26 = nI 4 := fc_F hf136 hFc22 (by unfold M_M_pack; omega)
              have hf145 : s30.1 225 27 = nI 524288 := fc_F hf137 hFc22 (by unfold M_M_pack; omega)
              have hf146 : s30.1 225 28 = nI 261888 := fc_F hf138 hFc22 (by unfold M_M_pack; omega)
              have hf147 : s30.1 225 29 = nI 196 := fc_F hf139 hFc22 (by unfold M_M_pack; omega)
              have hf148 : s30.1 225 30 = nI 48 := fc_F hf140 hFc22 (by unfold M_M_pack; omega)
              refine W.widen (k := 0) (n := 0) (by omega) (by omega) ?_
              refine lv_iload_n hx hb dMH_written_94 rfl (lv_at hl 2 rfl) ?_
              refine lv_iload_n hx hb dMH_written_95 rfl (lv_at hl 3 rfl) ?_
              refine mi_iadd hx hb dMH_written_96 ?_
              refine lv_istore_n (lv' := [(3, .int (nI (az22 + 20))), (5, .int (nI i26)), (4, .int (nI i22)), (2, .int (nI 20)), (0, .ref h0), (1, .ref to)]) hx hb dMH_written_97 rfl hl (by decide) rfl (fun ls hl => ?_)
              refine mi_iinc (k := 1) (x := i26) (d := 1) (y := i26 + 1) (lv' := [(5, .int (nI (i26 + 1))), (3, .int (nI (az22 + 20))), (4, .int (nI i22)), (2, .int (nI 20)), (0, .ref h0), (1, .ref to)]) hx hb dMH_written_98 hl rfl (by decide) rfl (by decide) rfl (fun ls hl => ?_)
              refine lv_goto (tgt := 63) hx hb dMH_written_101 (by decide) ?_
              exact ih26 (i26 + 1) (az22 + 20) s30 pl ls H locs (by omega) (by omega) hF hf141 hf142 hf143 hf144 hf145 hf146 hf147 hf148 hR (lv_sub hl [0, 2, 1, 3, 4, 5] rfl) hO hP hD hS
          exact lp26 256 0 az21 s22 pl ls _ _ (by omega) (by omega) hF hf109 hf110 hf111 hf112 hf113 hf114 hf115 hf116 hR (lv_sub hl [0, 1, 2, 3, 4, 5] rfl) hO hP hD hS
      exact lp22 5 0 384 s21 pl ls _ _ (by omega) (by omega) hF hf21 hf22 hf23 hf24 hf25 hf26 hf27 hf28 hR (lv_sub hl [0, 1, 2, 3, 4] rfl) hO hP hD hS
    | succ n21 ih21 =>
      intro i21 s21 pl ls H locs hm21 hF hf149 hf150 hf151 hf152 hf153 hf154 hf155 hf156 hR hl hO hP hD hS
      refine lv_iload_n hx hb dMH_written_2 rfl (lv_at hl 0 rfl) ?_
      refine lv_aload_n hx hb dMH_written_3 rfl (lv_at hl 1 rfl) ?_
      refine nw_get (C := "LatticeKeysModel$Hands") (TT := T_MH) (N := 31) hx hb hts (wg_ft i_MH) hown hK hO k_h0 (kn := 225) (ci := 12) (fl := [(3, 172), (3, 181), (3, 226), (3, 291), (3, 299), (3, 308), (3, 317), (3, 326), (3, 334), (3, 342), (3, 350), (3, 359), (3, 368), (3, 369), (3, 370), (3, 371), (3, 372), (3, 373), (3, 374), (3, 375), (3, 376), (3, 377), (3, 378), (0, 0), (0, 0), (0, 0), (0, 0), (0, 0), (0, 0), (0, 0), (0, 0)]) rfl hP rfl 30 (by decide) (hts _ (wg_t kw_1462)) (fun _ h9 => h9) (cd := (0, 0)) rfl dMH_written_4 (fun v36 hv36 => ?_)
      obtain rfl := (show v36 = .int (s21.1 225 30) from hv36)
      obtain ⟨z34, ez34, hz47, hz48⟩ := cl_of (b := 2147483648) hf156 (by omega) (by decide)
      replace hR := bnd_step hR ez34
      refine mi_as hz47 ?_
      subst hz48
      refine mi_ge (tgt := 25) hx hb dMH_written_7 (by decide) (by omega) (by omega) (fun h34 => absurd h34 (by omega)) (fun h34 => ?_)
      refine lv_aload_n hx hb dMH_written_10 rfl (lv_at hl 2 rfl) ?_
      refine lv_iload_n hx hb dMH_written_11 rfl (lv_at hl 0 rfl) ?_
      refine lv_aload_n hx hb dMH_written_12 rfl (lv_at hl 1 rfl) ?_
      refine nw_get (C := "LatticeKeysModel$Hands") (TT := T_MH) (N := 31) hx hb hts (wg_ft i_MH) hown hK hO k_h0 (kn := 225) (ci := 12) (fl := [(3, 172), (3, 181), (3, 226), (3, 291), (3, 299), (3, 308), (3, 317), (3, 326), (3, 334), (3, 342), (3, 350), (3, 359), (3, 368), (3, 369), (3, 370), (3, 371), (3, 372), (3, 373), (3, 374), (3, 375), (3, 376), (3, 377), (3, 378), (0, 0), (0, 0), (0, 0), (0, 0), (0, 0), (0, 0), (0, 0), (0, 0)]) rfl hP rfl 20 (by decide) (hts _ (wg_t kw_1452)) (fun _ h9 => h9) (cd := (3, 376)) rfl dMH_written_13 (fun v37 hv37 => ?_)
      obtain ⟨r26, rfl, kr25⟩ := (show ∃ r : Nat, v37 = .ref r ∧ T r = some 376 from hv37)
      refine lv_iload_n hx hb dMH_written_16 rfl (lv_at hl 0 rfl) ?_
      refine nw_bald hx hb hK hO kr25 (k := 376) rfl hP (by omega) (by omega) dMH_written_17 ?_
      refine nw_bast hx hb hK hO hU k_to (k := pt) n_to hP hD hS (by omega) (by omega) dMH_written_18 (fun s31 pl H locs es24 hO hP hD hS => ?_)
      replace hR := bnd_step hR es24
      have hF := frm_sB hF es24 (by unfold M_MH_written_1; omega)
      have hf157 : s31.1 225 23 = nI 1 := fc_B hf149 es24 (by omega)
      have hf158 : s31.1 225 24 = nI 6 := fc_B hf150 es24 (by omega)
      have hf159 : s31.1 225 25 = nI 5 := fc_B hf151 es24 (by omega)
      have hf160 : s31.1 225 26 = nI 4 := fc_B hf152 es24 (by omega)
      have hf161 : s31.1 225 27 = nI 524288 := fc_B hf153 es24 (by omega)
      have hf162 : s31.1 225 28 = nI 261888 := fc_B hf154 es24 (by omega)
      have hf163 : s31.1 225 29 = nI 196 := fc_B hf155 es24 (by omega)
      have hf164 : s31.1 225 30 = nI 48 := fc_B hf156 es24 (by omega)
      refine mi_iinc (k := 0) (x := i21) (d := 1) (y := i21 + 1) (lv' := [(2, .int (nI (i21 + 1))), (0, .ref h0), (1, .ref to)]) hx hb dMH_written_19 hl rfl (by decide) rfl (by decide) rfl (fun ls hl => ?_)
      refine lv_goto (tgt := 2) hx hb dMH_written_22 (by decide) ?_
      exact ih21 (i21 + 1) s31 pl ls H locs (by omega) hF hf157 hf158 hf159 hf160 hf161 hf162 hf163 hf164 hR (lv_sub hl [0, 1, 2] rfl) hO hP hD hS
  exact lp21 48 0 s pl ls _ _ (by omega) hF e_c0 e_c1 e_c2 e_c3 e_c4 e_c5 e_c6 e_c7 hR (lv_sub hl [0, 1, 2] rfl) hO hP hD hS
def M_MH_written_2 (pt : Nat) (k : Nat) : Prop := k = pt ∨ (0 : Nat) = 1
noncomputable def F_MH_written_2_L5 (pt : Nat) (i22 : Nat) (kk : Nat → Nat → Sto → Sto) : Nat → Nat → Nat → Sto → Sto
  | 0, i26, az22, s29 => kk (i22 + 1) az22 s29
  | n26 + 1, i26, az22, s29 => bnd ((s29.1 225 27).toNatClampNeg) fun z33 => bnd (F_MH_minus (nI 524288) (s29.1 ((335 + i22)) i26) s29) fun q21 => bnd (F_M_pack pt 8192 az22 20 (q21.1) q21.2) fun s30 => F_MH_written_2_L5 pt i22 kk n26 (i26 + 1) (az22 + 20) s30
noncomputable def F_MH_written_2_L4 (pt : Nat) (az21 : Nat) (i24 : Nat) (kk : Nat → Nat → Sto → Sto) : Nat → Nat → Nat → Sto → Sto
  | 0, i25, my22, s25 => bnd ((s25.1 225 23).toNatClampNeg) fun z29 => bnd (sB s25 pt (((az21 / 8) + 75) + i24) ((nI my22).toInt8.toInt32)) fun s26 => kk (i24 + 1) my22 s26
  | n25 + 1, i25, my22, s25 => if (s25.1 ((360 + i24)) i25) = 0 then F_MH_written_2_L4 pt az21 i24 kk n25 (i25 + 1) my22 s25 else bnd (sB s25 pt ((az21 / 8) + my22) ((nI i25).toInt8.toInt32)) fun s27 => F_MH_written_2_L4 pt az21 i24 kk n25 (i25 + 1) (my22 + 1) s27
noncomputable def F_MH_written_2_L3 (pt : Nat) (az21 : Nat) : Nat → Nat → Nat → Sto → Sto
  | 0, i24, my21, s24 => bnd ((s24.1 225 24).toNatClampNeg) fun z27 => s24
  | n24 + 1, i24, my21, s24 => bnd ((s24.1 225 24).toNatClampNeg) fun z28 => F_MH_written_2_L4 pt az21 i24 (F_MH_written_2_L3 pt az21 n24) 256 0 my21 s24
noncomputable def F_MH_written_2_L2 (pt : Nat) (az21 : Nat) : Nat → Nat → Sto → Sto
  | 0, i23, s23 => bnd ((s23.1 225 23).toNatClampNeg) fun z25 => bnd ((s23.1 225 24).toNatClampNeg) fun z26 => F_MH_written_2_L3 pt az21 8 0 0 s23
  | n23 + 1, i23, s23 => bnd ((s23.1 225 23).toNatClampNeg) fun z30 => bnd ((s23.1 225 24).toNatClampNeg) fun z31 => bnd (sB s23 pt ((az21 / 8) + i23) (nI 0)) fun s28 => F_MH_written_2_L2 pt az21 n23 (i23 + 1) s28
noncomputable def F_MH_written_2_L1 (pt : Nat) : Nat → Nat → Nat → Sto → Sto
  | 0, i22, az21, s22 => bnd ((s22.1 225 25).toNatClampNeg) fun z24 => F_MH_written_2_L2 pt az21 83 0 s22
  | n22 + 1, i22, az21, s22 => bnd ((s22.1 225 25).toNatClampNeg) fun z32 => F_MH_written_2_L5 pt i22 (F_MH_written_2_L1 pt n22) 256 0 az21 s22
noncomputable def F_MH_written_2_L0 (pt : Nat) : Nat → Nat → Sto → Sto
  | 0, i21, s21 => bnd ((s21.1 225 30).toNatClampNeg) fun z21 => bnd ((s21.1 225 23).toNatClampNeg) fun z22 => bnd ((s21.1 225 30).toNatClampNeg) fun z23 => F_MH_written_2_L1 pt 7 0 512 s21
  | n21 + 1, i21, s21 => bnd ((s21.1 225 30).toNatClampNeg) fun z34 => bnd (sB s21 pt i21 (s21.1 376 i21)) fun s31 => F_MH_written_2_L0 pt n21 (i21 + 1) s31
noncomputable def F_MH_written_2 (pt : Nat) (s : Sto) : Sto := F_MH_written_2_L0 pt 64 0 s
set_option maxHeartbeats 8000000 in
set_option maxRecDepth 100000 in
theorem N_MH_written_2 (l : Launch) (g : Gd) (sz : Nat) (T : TyN) (s : Sto) (pl : va_W) (hO : okn g T s pl) (hU : inj T) (h0 to : Nat) (pt : Nat) (k_h0 : T h0 = some 225) (k_to : T to = some pt) (n_to : nsp pt = (1, 8192, [])) (e_c0 : s.1 225 23 = nI 2) (e_c1 : s.1 225 24 = nI 8) (e_c2 : s.1 225 25 = nI 7) (e_c3 : s.1 225 26 = nI 2) (e_c4 : s.1 225 27 = nI 524288) (e_c5 : s.1 225 28 = nI 261888) (e_c6 : s.1 225 29 = nI 120) (e_c7 : s.1 225 30 = nI 64)  : Met l y_MH_written w_MH_written ({ frames := 1, cells := 0, slots := 0, locals := 26 } : Room) (va_Pc [.ref h0, .ref to] (pr (en g) g.1 vcl sz ([] ++ pl))) (va_Qv (fun (u : (Sto) × va_W) => (u.1 = F_MH_written_2 pt s ∧ frm (M_MH_written_2 pt) s u.1 ∧ True) ∧ okn g T u.1 u.2) (po g.1 vcl (va_A ([] ++ pl) sz) (fun (u : (Sto) × va_W) => [] ++ u.2)) (va_A ([] ++ pl) sz)) 0 0 (va_A ([] ++ pl) sz) := by
  refine mc_entry (cc := c_MH_written) (maxL := 8) (ret := none) (by decide) rfl (Nat.le_of_ble_eq_true rfl) ?_
  intro p e s0 m args below meth c ls F hr hlk hnm hsz hP hD hE hA hl
  obtain ⟨hx, hb, hml, hown, hts⟩ := id F
  have hK := hE.1
  generalize va_A ([] ++ pl) sz = A at hD hE hA ⊢
  have hS : va_S A s0.heap s0.heap [] := va_S.rf
  have hl : lv_has ls 8 [(0, .ref h0), (1, .ref to)] := hl
  have hR : F_MH_written_2 pt s = F_MH_written_2 pt s := rfl
  have hF : frm (M_MH_written_2 pt) s s := frm_rf
  have ne_172_pt : 172 ≠ pt := nsp_ne (p := 172) rfl n_to (show (5 : Nat) ≠ 1 by decide)
  have ne_225_pt : 225 ≠ pt := nsp_ne (p := 225) rfl n_to (show (5 : Nat) ≠ 1 by decide)
  refine lv_iconst (v := nI 0) hx hb dMH_written_0 (by decide) ?_
  refine lv_istore_n (lv' := [(2, .int (nI 0)), (0, .ref h0), (1, .ref to)]) hx hb dMH_written_1 rfl hl (by decide) rfl (fun ls hl => ?_)
  have lp21 : ∀ (n21 : Nat) (i21 : Nat) (s21 : Sto) (pl : va_W) (ls : Array Slot) (H : Heap) (locs : List Loc), n21 + i21 = 64 → frm (M_MH_written_2 pt) s s21 → s21.1 225 23 = nI 2 → s21.1 225 24 = nI 8 → s21.1 225 25 = nI 7 → s21.1 225 26 = nI 2 → s21.1 225 27 = nI 524288 → s21.1 225 28 = nI 261888 → s21.1 225 29 = nI 120 → s21.1 225 30 = nI 64 → F_MH_written_2 pt s = F_MH_written_2_L0 pt n21 i21 s21 → lv_has ls 8 [(2, .int (nI i21)), (0, .ref h0), (1, .ref to)] → okn g T s21 pl → va_P g.1 vcl ([] ++ pl) H → va_D A ([] ++ pl) → va_S A s0.heap H locs → W p l e ({ frames := 1, cells := 0, slots := 0, locals := 26 } : Room) s0 m args below meth c H locs 0 0 (MQ below (va_Qv (fun (u : (Sto) × va_W) => (u.1 = F_MH_written_2 pt s ∧ frm (M_MH_written_2 pt) s u.1 ∧ True) ∧ okn g T u.1 u.2) (po g.1 vcl A (fun (u : (Sto) × va_W) => [] ++ u.2)) A) args s0 0 0 A) (F0 m 2 ls []) := by
    intro n21
    induction n21 with
    | zero =>
      intro i21 s21 pl ls H locs hm21 hF hf21 hf22 hf23 hf24 hf25 hf26 hf27 hf28 hR hl hO hP hD hS
      refine lv_iload_n hx hb dMH_written_2 rfl (lv_at hl 0 rfl) ?_
      refine lv_aload_n hx hb dMH_written_3 rfl (lv_at hl 1 rfl) ?_
      refine nw_get (C := "LatticeKeysModel$Hands") (TT := T_MH) (N := 31) hx hb hts (wg_ft i_MH) hown hK hO k_h0 (kn := 225) (ci := 12) (fl := [(3, 172), (3, 181), (3, 226), (3, 291), (3, 299), (3, 308), (3, 317), (3, 326), (3, 334), (3, 342), (3, 350), (3, 359), (3, 368), (3, 369), (3, 370), (3, 371), (3, 372), (3, 373), (3, 374), (3, 375), (3, 376), (3, 377), (3, 378), (0, 0), (0, 0), (0, 0), (0, 0), (0, 0), (0, 0), (0, 0), (0, 0)]) rfl hP rfl 30 (by decide) (hts _ (wg_t kw_1462)) (fun _ h9 => h9) (cd := (0, 0)) rfl dMH_written_4 (fun v21 hv21 => ?_)
      obtain rfl := (show v21 = .int (s21.1 225 30) from hv21)
      obtain ⟨z21, ez21, hz21, hz22⟩ := cl_of (b := 2147483648) hf28 (by omega) (by decide)
      replace hR := bnd_step hR ez21
      refine mi_as hz21 ?_
      subst hz22
      refine mi_ge (tgt := 25) hx hb dMH_written_7 (by decide) (by omega) (by omega) (fun h21 => ?_) (fun h21 => absurd h21 (by omega))
      refine lv_aload_n hx hb dMH_written_25 rfl (lv_at hl 1 rfl) ?_
      refine nw_get (C := "LatticeKeysModel$Hands") (TT := T_MH) (N := 31) hx hb hts (wg_ft i_MH) hown hK hO k_h0 (kn := 225) (ci := 12) (fl := [(3, 172), (3, 181), (3, 226), (3, 291), (3, 299), (3, 308), (3, 317), (3, 326), (3, 334), (3, 342), (3, 350), (3, 359), (3, 368), (3, 369), (3, 370), (3, 371), (3, 372), (3, 373), (3, 374), (3, 375), (3, 376), (3, 377), (3, 378), (0, 0), (0, 0), (0, 0), (0, 0), (0, 0), (0, 0), (0, 0), (0, 0)]) rfl hP rfl 23 (by decide) (hts _ (wg_t kw_1455)) (fun _ h9 => h9) (cd := (0, 0)) rfl dMH_written_26 (fun v22 hv22 => ?_)
      obtain rfl := (show v22 = .int (s21.1 225 23) from hv22)
      obtain ⟨z22, ez22, hz23, hz24⟩ := cl_of (b := 2147483648) hf21 (by omega) (by decide)
      replace hR := bnd_step hR ez22
      refine mi_as hz23 ?_
      subst hz24
      refine lv_if_ne (tgt := 37) hx hb dMH_written_29 (by decide) (fun h22 => ?_) (fun h22 => absurd h22 (by decide))
      refine lv_bipush (v := nI 20) hx hb dMH_written_37 (by decide) ?_
      refine lv_istore_n (lv' := [(2, .int (nI 20)), (0, .ref h0), (1, .ref to)]) hx hb dMH_written_39 rfl hl (by decide) rfl (fun ls hl => ?_)
      refine lv_bipush (v := nI 8) hx hb dMH_written_40 (by decide) ?_
      refine lv_aload_n hx hb dMH_written_42 rfl (lv_at hl 1 rfl) ?_
      refine nw_get (C := "LatticeKeysModel$Hands") (TT := T_MH) (N := 31) hx hb hts (wg_ft i_MH) hown hK hO k_h0 (kn := 225) (ci := 12) (fl := [(3, 172), (3, 181), (3, 226), (3, 291), (3, 299), (3, 308), (3, 317), (3, 326), (3, 334), (3, 342), (3, 350), (3, 359), (3, 368), (3, 369), (3, 370), (3, 371), (3, 372), (3, 373), (3, 374), (3, 375), (3, 376), (3, 377), (3, 378), (0, 0), (0, 0), (0, 0), (0, 0), (0, 0), (0, 0), (0, 0), (0, 0)]) rfl hP rfl 30 (by decide) (hts _ (wg_t kw_1462)) (fun _ h9 => h9) (cd := (0, 0)) rfl dMH_written_43 (fun v23 hv23 => ?_)
      obtain rfl := (show v23 = .int (s21.1 225 30) from hv23)
      obtain ⟨z23, ez23, hz25, hz26⟩ := cl_of (b := 2147483648) hf28 (by omega) (by decide)
      replace hR := bnd_step hR ez23
      refine mi_as hz25 ?_
      subst hz26
      refine mi_imul hx hb dMH_written_46 ?_
      refine mi_as (show nI (8 * 64) = nI 512 from rfl) ?_
      refine lv_istore_n (lv' := [(3, .int (nI 512)), (2, .int (nI 20)), (0, .ref h0), (1, .ref to)]) hx hb dMH_written_47 rfl hl (by decide) rfl (fun ls hl => ?_)
      refine lv_iconst (v := nI 0) hx hb dMH_written_48 (by decide) ?_
      refine lv_istore (lv' := [(4, .int (nI 0)), (3, .int (nI 512)), (2, .int (nI 20)), (0, .ref h0), (1, .ref to)]) hx hb dMH_written_49 hl (by decide) rfl (fun ls hl => ?_)
      have lp22 : ∀ (n22 : Nat) (i22 : Nat) (az21 : Nat) (s22 : Sto) (pl : va_W) (ls : Array Slot) (H : Heap) (locs : List Loc), n22 + i22 = 7 → (az21 = 512 + 5120 * i22) → frm (M_MH_written_2 pt) s s22 → s22.1 225 23 = nI 2 → s22.1 225 24 = nI 8 → s22.1 225 25 = nI 7 → s22.1 225 26 = nI 2 → s22.1 225 27 = nI 524288 → s22.1 225 28 = nI 261888 → s22.1 225 29 = nI 120 → s22.1 225 30 = nI 64 → F_MH_written_2 pt s = F_MH_written_2_L1 pt n22 i22 az21 s22 → lv_has ls 8 [(4, .int (nI i22)), (3, .int (nI az21)), (2, .int (nI 20)), (0, .ref h0), (1, .ref to)] → okn g T s22 pl → va_P g.1 vcl ([] ++ pl) H → va_D A ([] ++ pl) → va_S A s0.heap H locs → W p l e ({ frames := 1, cells := 0, slots := 0, locals := 26 } : Room) s0 m args below meth c H locs 0 0 (MQ below (va_Qv (fun (u : (Sto) × va_W) => (u.1 = F_MH_written_2 pt s ∧ frm (M_MH_written_2 pt) s u.1 ∧ True) ∧ okn g T u.1 u.2) (po g.1 vcl A (fun (u : (Sto) × va_W) => [] ++ u.2)) A) args s0 0 0 A) (F0 m 51 ls []) := by
        intro n22
        induction n22 with
        | zero =>
          intro i22 az21 s22 pl ls H locs hm22 hi21 hF hf29 hf30 hf31 hf32 hf33 hf34 hf35 hf36 hR hl hO hP hD hS
          refine lv_iload hx hb dMH_written_51 (lv_at hl 0 rfl) ?_
          refine lv_aload_n hx hb dMH_written_53 rfl (lv_at hl 3 rfl) ?_
          refine nw_get (C := "LatticeKeysModel$Hands") (TT := T_MH) (N := 31) hx hb hts (wg_ft i_MH) hown hK hO k_h0 (kn := 225) (ci := 12) (fl := [(3, 172), (3, 181), (3, 226), (3, 291), (3, 299), (3, 308), (3, 317), (3, 326), (3, 334), (3, 342), (3, 350), (3, 359), (3, 368), (3, 369), (3, 370), (3, 371), (3, 372), (3, 373), (3, 374), (3, 375), (3, 376), (3, 377), (3, 378), (0, 0), (0, 0), (0, 0), (0, 0), (0, 0), (0, 0), (0, 0), (0, 0)]) rfl hP rfl 25 (by decide) (hts _ (wg_t kw_1457)) (fun _ h9 => h9) (cd := (0, 0)) rfl dMH_written_54 (fun v24 hv24 => ?_)
          obtain rfl := (show v24 = .int (s22.1 225 25) from hv24)
          obtain ⟨z24, ez24, hz27, hz28⟩ := cl_of (b := 2147483648) hf31 (by omega) (by decide)
          replace hR := bnd_step hR ez24
          refine mi_as hz27 ?_
          subst hz28
          refine mi_ge (tgt := 110) hx hb dMH_written_57 (by decide) (by omega) (by omega) (fun h23 => ?_) (fun h23 => absurd h23 (by omega))
          refine lv_iload_n hx hb dMH_written_110 rfl (lv_at hl 1 rfl) ?_
          refine lv_bipush (v := nI 8) hx hb dMH_written_111 (by decide) ?_
          refine mi_idiv hx hb dMH_written_113 (by omega) (by omega) (by omega) ?_
          refine lv_istore (lv' := [(4, .int (nI (az21 / 8))), (3, .int (nI az21)), (2, .int (nI 20)), (0, .ref h0), (1, .ref to)]) hx hb dMH_written_114 hl (by decide) rfl (fun ls hl => ?_)
          refine lv_iconst (v := nI 0) hx hb dMH_written_116 (by decide) ?_
          refine lv_istore (lv' := [(5, .int (nI 0)), (4, .int (nI (az21 / 8))), (3, .int (nI az21)), (2, .int (nI 20)), (0, .ref h0), (1, .ref to)]) hx hb dMH_written_117 hl (by decide) rfl (fun ls hl => ?_)
          refine lv_iconst (v := nI 0) hx hb dMH_written_119 (by decide) ?_
          refine lv_istore (lv' := [(6, .int (nI 0)), (5, .int (nI 0)), (4, .int (nI (az21 / 8))), (3, .int (nI az21)), (2, .int (nI 20)), (0, .ref h0), (1, .ref to)]) hx hb dMH_written_120 hl (by decide) rfl (fun ls hl => ?_)
          have lp23 : ∀ (n23 : Nat) (i23 : Nat) (s23 : Sto) (pl : va_W) (ls : Array Slot) (H : Heap) (locs : List Loc), n23 + i23 = 83 → frm (M_MH_written_2 pt) s s23 → s23.1 225 23 = nI 2 → s23.1 225 24 = nI 8 → s23.1 225 25 = nI 7 → s23.1 225 26 = nI 2 → s23.1 225 27 = nI 524288 → s23.1 225 28 = nI 261888 → s23.1 225 29 = nI 120 → s23.1 225 30 = nI 64 → F_MH_written_2 pt s = F_MH_written_2_L2 pt az21 n23 i23 s23 → lv_has ls 8 [(6, .int (nI i23)), (5, .int (nI 0)), (4, .int (nI (az21 / 8))), (0, .ref h0), (1, .ref to)] → okn g T s23 pl → va_P g.1 vcl ([] ++ pl) H → va_D A ([] ++ pl) → va_S A s0.heap H locs → W p l e ({ frames := 1, cells := 0, slots := 0, locals := 26 } : Room) s0 m args below meth c H locs 0 0 (MQ below (va_Qv (fun (u : (Sto) × va_W) => (u.1 = F_MH_written_2 pt s ∧ frm (M_MH_written_2 pt) s u.1 ∧ True) ∧ okn g T u.1 u.2) (po g.1 vcl A (fun (u : (Sto) × va_W) => [] ++ u.2)) A) args s0 0 0 A) (F0 m 122 ls []) := by
            intro n23
            induction n23 with
            | zero =>
              intro i23 s23 pl ls H locs hm23 hF hf37 hf38 hf39 hf40 hf41 hf42 hf43 hf44 hR hl hO hP hD hS
              refine lv_iload hx hb dMH_written_122 (lv_at hl 0 rfl) ?_
              refine va_gets hx hb (hE.2.1 27 _ rfl).1 hS hown (hts _ (wg_t kw_1912)) (fun _ h9 => h9) dMH_written_124 ?_
              refine lv_aload_n hx hb dMH_written_127 rfl (lv_at hl 3 rfl) ?_
              refine nw_get (C := "LatticeKeysModel$Hands") (TT := T_MH) (N := 31) hx hb hts (wg_ft i_MH) hown hK hO k_h0 (kn := 225) (ci := 12) (fl := [(3, 172), (3, 181), (3, 226), (3, 291), (3, 299), (3, 308), (3, 317), (3, 326), (3, 334), (3, 342), (3, 350), (3, 359), (3, 368), (3, 369), (3, 370), (3, 371), (3, 372), (3, 373), (3, 374), (3, 375), (3, 376), (3, 377), (3, 378), (0, 0), (0, 0), (0, 0), (0, 0), (0, 0), (0, 0), (0, 0), (0, 0)]) rfl hP rfl 23 (by decide) (hts _ (wg_t kw_1455)) (fun _ h9 => h9) (cd := (0, 0)) rfl dMH_written_128 (fun v25 hv25 => ?_)
              obtain rfl := (show v25 = .int (s23.1 225 23) from hv25)
              obtain ⟨z25, ez25, hz29, hz30⟩ := cl_of (b := 2147483648) hf37 (by omega) (by decide)
              replace hR := bnd_step hR ez25
              refine mi_as hz29 ?_
              subst hz30
              refine va_ti (v := .int (nI 75)) hx hb (hE.2.1 27 _ rfl).2 hS (vp_in_nI (by decide) (by decide)) (by decide +kernel) dMH_written_131 ?_
              refine lv_aload_n hx hb dMH_written_132 rfl (lv_at hl 3 rfl) ?_
              refine nw_get (C := "LatticeKeysModel$Hands") (TT := T_MH) (N := 31) hx hb hts (wg_ft i_MH) hown hK hO k_h0 (kn := 225) (ci := 12) (fl := [(3, 172), (3, 181), (3, 226), (3, 291), (3, 299), (3, 308), (3, 317), (3, 326), (3, 334), (3, 342), (3, 350), (3, 359), (3, 368), (3, 369), (3, 370), (3, 371), (3, 372), (3, 373), (3, 374), (3, 375), (3, 376), (3, 377), (3, 378), (0, 0), (0, 0), (0, 0), (0, 0), (0, 0), (0, 0), (0, 0), (0, 0)]) rfl hP rfl 24 (by decide) (hts _ (wg_t kw_1456)) (fun _ h9 => h9) (cd := (0, 0)) rfl dMH_written_133 (fun v26 hv26 => ?_)
              obtain rfl := (show v26 = .int (s23.1 225 24) from hv26)
              obtain ⟨z26, ez26, hz31, hz32⟩ := cl_of (b := 2147483648) hf38 (by omega) (by decide)
              replace hR := bnd_step hR ez26
              refine mi_as hz31 ?_
              subst hz32
              refine mi_iadd hx hb dMH_written_136 ?_
              refine mi_as (show nI (75 + 8) = nI 83 from rfl) ?_
              refine mi_ge (tgt := 154) hx hb dMH_written_137 (by decide) (by omega) (by omega) (fun h24 => ?_) (fun h24 => absurd h24 (by omega))
              refine lv_iconst (v := nI 0) hx hb dMH_written_154 (by decide) ?_
              refine lv_istore (lv' := [(6, .int (nI 0)), (5, .int (nI 0)), (4, .int (nI (az21 / 8))), (0, .ref h0), (1, .ref to)]) hx hb dMH_written_155 hl (by decide) rfl (fun ls hl => ?_)
              have lp24 : ∀ (n24 : Nat) (i24 : Nat) (my21 : Nat) (s24 : Sto) (pl : va_W) (ls : Array Slot) (H : Heap) (locs : List Loc), n24 + i24 = 8 → (my21 ≤ 256 * i24) → frm (M_MH_written_2 pt) s s24 → s24.1 225 23 = nI 2 → s24.1 225 24 = nI 8 → s24.1 225 25 = nI 7 → s24.1 225 26 = nI 2 → s24.1 225 27 = nI 524288 → s24.1 225 28 = nI 261888 → s24.1 225 29 = nI 120 → s24.1 225 30 = nI 64 → F_MH_written_2 pt s = F_MH_written_2_L3 pt az21 n24 i24 my21 s24 → lv_has ls 8 [(6, .int (nI i24)), (5, .int (nI my21)), (4, .int (nI (az21 / 8))), (0, .ref h0), (1, .ref to)] → okn g T s24 pl → va_P g.1 vcl ([] ++ pl) H → va_D A ([] ++ pl) → va_S A s0.heap H locs → W p l e ({ frames := 1, cells := 0, slots := 0, locals := 26 } : Room) s0 m args below meth c H locs 0 0 (MQ below (va_Qv (fun (u : (Sto) × va_W) => (u.1 = F_MH_written_2 pt s ∧ frm (M_MH_written_2 pt) s u.1 ∧ True) ∧ okn g T u.1 u.2) (po g.1 vcl A (fun (u : (Sto) × va_W) => [] ++ u.2)) A) args s0 0 0 A) (F0 m 157 ls []) := by
                intro n24
                induction n24 with
                | zero =>
                  intro i24 my21 s24 pl ls H locs hm24 hi22 hF hf45 hf46 hf47 hf48 hf49 hf50 hf51 hf52 hR hl hO hP hD hS
                  refine lv_iload hx hb dMH_written_157 (lv_at hl 0 rfl) ?_
                  refine lv_aload_n hx hb dMH_written_159 rfl (lv_at hl 3 rfl) ?_
                  refine nw_get (C := "LatticeKeysModel$Hands") (TT := T_MH) (N := 31) hx hb hts (wg_ft i_MH) hown hK hO k_h0 (kn := 225) (ci := 12) (fl := [(3, 172), (3, 181), (3, 226), (3, 291), (3, 299), (3, 308), (3, 317), (3, 326), (3, 334), (3, 342), (3, 350), (3, 359), (3, 368), (3, 369), (3, 370), (3, 371), (3, 372), (3, 373), (3, 374), (3, 375), (3, 376), (3, 377), (3, 378), (0, 0), (0, 0), (0, 0), (0, 0), (0, 0), (0, 0), (0, 0), (0, 0)]) rfl hP rfl 24 (by decide) (hts _ (wg_t kw_1456)) (fun _ h9 => h9) (cd := (0, 0)) rfl dMH_written_160 (fun v27 hv27 => ?_)
                  obtain rfl := (show v27 = .int (s24.1 225 24) from hv27)
                  obtain ⟨z27, ez27, hz33, hz34⟩ := cl_of (b := 2147483648) hf46 (by omega) (by decide)
                  replace hR := bnd_step hR ez27
                  refine mi_as hz33 ?_
                  subst hz34
                  refine mi_ge (tgt := 237) hx hb dMH_written_163 (by decide) (by omega) (by omega) (fun h25 => ?_) (fun h25 => absurd h25 (by omega))
                  exact mp_vret hx hb hr hlk hP hD hS (s24, pl) ⟨⟨hR.symm, hF, trivial⟩, hO⟩ [] rfl rfl rfl (by omega) (by omega) dMH_written_237
                | succ n24 ih24 =>
                  intro i24 my21 s24 pl ls H locs hm24 hi22 hF hf53 hf54 hf55 hf56 hf57 hf58 hf59 hf60 hR hl hO hP hD hS
                  refine lv_iload hx hb dMH_written_157 (lv_at hl 0 rfl) ?_
                  refine lv_aload_n hx hb dMH_written_159 rfl (lv_at hl 3 rfl) ?_
                  refine nw_get (C := "LatticeKeysModel$Hands") (TT := T_MH) (N := 31) hx hb hts (wg_ft i_MH) hown hK hO k_h0 (kn := 225) (ci := 12) (fl := [(3, 172), (3, 181), (3, 226), (3, 291), (3, 299), (3, 308), (3, 317), (3, 326), (3, 334), (3, 342), (3, 350), (3, 359), (3, 368), (3, 369), (3, 370), (3, 371), (3, 372), (3, 373), (3, 374), (3, 375), (3, 376), (3, 377), (3, 378), (0, 0), (0, 0), (0, 0), (0, 0), (0, 0), (0, 0), (0, 0), (0, 0)]) rfl hP rfl 24 (by decide) (hts _ (wg_t kw_1456)) (fun _ h9 => h9) (cd := (0, 0)) rfl dMH_written_160 (fun v28 hv28 => ?_)
                  obtain rfl := (show v28 = .int (s24.1 225 24) from hv28)
                  obtain ⟨z28, ez28, hz35, hz36⟩ := cl_of (b := 2147483648) hf54 (by omega) (by decide)
                  replace hR := bnd_step hR ez28
                  refine mi_as hz35 ?_
                  subst hz36
                  refine mi_ge (tgt := 237) hx hb dMH_written_163 (by decide) (by omega) (by omega) (fun h26 => absurd h26 (by omega)) (fun h26 => ?_)
                  refine lv_iconst (v := nI 0) hx hb dMH_written_166 (by decide) ?_
                  refine lv_istore (lv' := [(7, .int (nI 0)), (6, .int (nI i24)), (5, .int (nI my21)), (4, .int (nI (az21 / 8))), (0, .ref h0), (1, .ref to)]) hx hb dMH_written_167 hl (by decide) rfl (fun ls hl => ?_)
                  have lp25 : ∀ (n25 : Nat) (i25 : Nat) (my22 : Nat) (s25 : Sto) (pl : va_W) (ls : Array Slot) (H : Heap) (locs : List Loc), n25 + i25 = 256 → (my22 ≤ 256 * i24 + i25) → frm (M_MH_written_2 pt) s s25 → s25.1 225 23 = nI 2 → s25.1 225 24 = nI 8 → s25.1 225 25 = nI 7 → s25.1 225 26 = nI 2 → s25.1 225 27 = nI 524288 → s25.1 225 28 = nI 261888 → s25.1 225 29 = nI 120 → s25.1 225 30 = nI 64 → F_MH_written_2 pt s = F_MH_written_2_L4 pt az21 i24 (F_MH_written_2_L3 pt az21 n24) n25 i25 my22 s25 → lv_has ls 8 [(7, .int (nI i25)), (6, .int (nI i24)), (5, .int (nI my22)), (4, .int (nI (az21 / 8))), (0, .ref h0), (1, .ref to)] → okn g T s25 pl → va_P g.1 vcl ([] ++ pl) H → va_D A ([] ++ pl) → va_S A s0.heap H locs → W p l e ({ frames := 1, cells := 0, slots := 0, locals := 26 } : Room) s0 m args below meth c H locs 0 0 (MQ below (va_Qv (fun (u : (Sto) × va_W) => (u.1 = F_MH_written_2 pt s ∧ frm (M_MH_written_2 pt) s u.1 ∧ True) ∧ okn g T u.1 u.2) (po g.1 vcl A (fun (u : (Sto) × va_W) => [] ++ u.2)) A) args s0 0 0 A) (F0 m 169 ls []) := by
                    intro n25
                    induction n25 with
                    | zero =>
                      intro i25 my22 s25 pl ls H locs hm25 hi23 hF hf61 hf62 hf63 hf64 hf65 hf66 hf67 hf68 hR hl hO hP hD hS
                      refine lv_iload hx hb dMH_written_169 (lv_at hl 0 rfl) ?_
                      refine lv_sipush (v := nI 256) hx hb dMH_written_171 (by decide) ?_
                      refine mi_ge (tgt := 212) hx hb dMH_written_174 (by decide) (by omega) (by omega) (fun h27 => ?_) (fun h27 => absurd h27 (by omega))
                      refine lv_aload_n hx hb dMH_written_212 rfl (lv_at hl 5 rfl) ?_
                      refine lv_iload hx hb dMH_written_213 (lv_at hl 3 rfl) ?_
                      refine va_gets hx hb (hE.2.1 27 _ rfl).1 hS hown (hts _ (wg_t kw_1912)) (fun _ h9 => h9) dMH_written_215 ?_
                      refine lv_aload_n hx hb dMH_written_218 rfl (lv_at hl 4 rfl) ?_
                      refine nw_get (C := "LatticeKeysModel$Hands") (TT := T_MH) (N := 31) hx hb hts (wg_ft i_MH) hown hK hO k_h0 (kn := 225) (ci := 12) (fl := [(3, 172), (3, 181), (3, 226), (3, 291), (3, 299), (3, 308), (3, 317), (3, 326), (3, 334), (3, 342), (3, 350), (3, 359), (3, 368), (3, 369), (3, 370), (3, 371), (3, 372), (3, 373), (3, 374), (3, 375), (3, 376), (3, 377), (3, 378), (0, 0), (0, 0), (0, 0), (0, 0), (0, 0), (0, 0), (0, 0), (0, 0)]) rfl hP rfl 23 (by decide) (hts _ (wg_t kw_1455)) (fun _ h9 => h9) (cd := (0, 0)) rfl dMH_written_219 (fun v29 hv29 => ?_)
                      obtain rfl := (show v29 = .int (s25.1 225 23) from hv29)
                      obtain ⟨z29, ez29, hz37, hz38⟩ := cl_of (b := 2147483648) hf61 (by omega) (by decide)
                      replace hR := bnd_step hR ez29
                      refine mi_as hz37 ?_
                      subst hz38
                      refine va_ti (v := .int (nI 75)) hx hb (hE.2.1 27 _ rfl).2 hS (vp_in_nI (by decide) (by decide)) (by decide +kernel) dMH_written_222 ?_
                      refine mi_iadd hx hb dMH_written_223 ?_
                      refine lv_iload hx hb dMH_written_224 (lv_at hl 1 rfl) ?_
                      refine mi_iadd hx hb dMH_written_226 ?_
                      refine lv_iload hx hb dMH_written_227 (lv_at hl 2 rfl) ?_
                      refine lv_i2b hx hb dMH_written_229 rfl ?_
                      refine nw_bast hx hb hK hO hU k_to (k := pt) n_to hP hD hS (by omega) (by omega) dMH_written_230 (fun s26 pl H locs es21 hO hP hD hS => ?_)
                      replace hR := bnd_step hR es21
                      have hF := frm_sB hF es21 (by unfold M_MH_written_2; omega)
                      have hf69 : s26.1 225 23 = nI 2 := fc_B hf61 es21 (by omega)
                      have hf70 : s26.1 225 24 = nI 8 := fc_B hf62 es21 (by omega)
                      have hf71 : s26.1 225 25 = nI 7 := fc_B hf63 es21 (by omega)
                      have hf72 : s26.1 225 26 = nI 2 := fc_B hf64 es21 (by omega)
                      have hf73 : s26.1 225 27 = nI 524288 := fc_B hf65 es21 (by omega)
                      have hf74 : s26.1 225 28 = nI 261888 := fc_B hf66 es21 (by omega)
                      have hf75 : s26.1 225 29 = nI 120 := fc_B hf67 es21 (by omega)
                      have hf76 : s26.1 225 30 = nI 64 := fc_B hf68 es21 (by omega)
                      refine mi_iinc (k := 1) (x := i24) (d := 1) (y := i24 + 1) (lv' := [(6, .int (nI (i24 + 1))), (7, .int (nI i25)), (5, .int (nI my22)), (4, .int (nI (az21 / 8))), (0, .ref h0), (1, .ref to)]) hx hb dMH_written_231 hl rfl (by decide) rfl (by decide) rfl (fun ls hl => ?_)
                      refine lv_goto (tgt := 157) hx hb dMH_written_234 (by decide) ?_
                      exact ih24 (i24 + 1) my22 s26 pl ls H locs (by omega) (by omega) hF hf69 hf70 hf71 hf72 hf73 hf74 hf75 hf76 hR (lv_sub hl [0, 2, 3, 4, 5] rfl) hO hP hD hS
                    | succ n25 ih25 =>
                      intro i25 my22 s25 pl ls H locs hm25 hi23 hF hf77 hf78 hf79 hf80 hf81 hf82 hf83 hf84 hR hl hO hP hD hS
                      refine lv_iload hx hb dMH_written_169 (lv_at hl 0 rfl) ?_
                      refine lv_sipush (v := nI 256) hx hb dMH_written_171 (by decide) ?_
                      refine mi_ge (tgt := 212) hx hb dMH_written_174 (by decide) (by omega) (by omega) (fun h28 => absurd h28 (by omega)) (fun h28 => ?_)
                      refine lv_aload_n hx hb dMH_written_177 rfl (lv_at hl 4 rfl) ?_
                      refine nw_get (C := "LatticeKeysModel$Hands") (TT := T_MH) (N := 31) hx hb hts (wg_ft i_MH) hown hK hO k_h0 (kn := 225) (ci := 12) (fl := [(3, 172), (3, 181), (3, 226), (3, 291), (3, 299), (3, 308), (3, 317), (3, 326), (3, 334), (3, 342), (3, 350), (3, 359), (3, 368), (3, 369), (3, 370), (3, 371), (3, 372), (3, 373), (3, 374), (3, 375), (3, 376), (3, 377), (3, 378), (0, 0), (0, 0), (0, 0), (0, 0), (0, 0), (0, 0), (0, 0), (0, 0)]) rfl hP rfl 11 (by decide) (hts _ (wg_t kw_1443)) (fun _ h9 => h9) (cd := (3, 359)) rfl dMH_written_178 (fun v30 hv30 => ?_)
                      obtain ⟨r21, rfl, kr21⟩ := (show ∃ r : Nat, v30 = .ref r ∧ T r = some 359 from hv30)
                      refine lv_iload hx hb dMH_written_181 (lv_at hl 1 rfl) ?_
                      refine nw_aald3 hx hb hK hO kr21 (k := 359) (b := 360) rfl hP (by omega) (by omega) dMH_written_183 (fun r22 kr22 => ?_)
                      have hn21 : nsp (360 + i24) = (0, 256, []) := rows_ok 360 8 (by decide) _ (by omega)
                      refine lv_iload hx hb dMH_written_184 (lv_at hl 0 rfl) ?_
                      refine nw_iald hx hb hK hO kr22 (k := (360 + i24)) hn21 hP (by omega) (by omega) dMH_written_186 ?_
                      refine lv_if_ne (tgt := 193) hx hb dMH_written_187 (by decide) (fun h29 => ?_) (fun h29 => ?_)
                      · replace hR := hR.trans (if_neg h29)
                        refine lv_aload_n hx hb dMH_written_193 rfl (lv_at hl 5 rfl) ?_
                        refine lv_iload hx hb dMH_written_194 (lv_at hl 3 rfl) ?_
                        refine lv_iload hx hb dMH_written_196 (lv_at hl 2 rfl) ?_
                        refine mi_iadd hx hb dMH_written_198 ?_
                        refine lv_iload hx hb dMH_written_199 (lv_at hl 0 rfl) ?_
                        refine lv_i2b hx hb dMH_written_201 rfl ?_
                        refine nw_bast hx hb hK hO hU k_to (k := pt) n_to hP hD hS (by omega) (by omega) dMH_written_202 (fun s27 pl H locs es22 hO hP hD hS => ?_)
                        replace hR := bnd_step hR es22
                        have hF := frm_sB hF es22 (by unfold M_MH_written_2; omega)
                        have hf85 : s27.1 225 23 = nI 2 := fc_B hf77 es22 (by omega)
                        have hf86 : s27.1 225 24 = nI 8 := fc_B hf78 es22 (by omega)
                        have hf87 : s27.1 225 25 = nI 7 := fc_B hf79 es22 (by omega)
                        have hf88 : s27.1 225 26 = nI 2 := fc_B hf80 es22 (by omega)
                        have hf89 : s27.1 225 27 = nI 524288 := fc_B hf81 es22 (by omega)
                        have hf90 : s27.1 225 28 = nI 261888 := fc_B hf82 es22 (by omega)
                        have hf91 : s27.1 225 29 = nI 120 := fc_B hf83 es22 (by omega)
                        have hf92 : s27.1 225 30 = nI 64 := fc_B hf84 es22 (by omega)
                        refine mi_iinc (k := 2) (x := my22) (d := 1) (y := my22 + 1) (lv' := [(5, .int (nI (my22 + 1))), (7, .int (nI i25)), (6, .int (nI i24)), (4, .int (nI (az21 / 8))), (0, .ref h0), (1, .ref to)]) hx hb dMH_written_203 hl rfl (by decide) rfl (by decide) rfl (fun ls hl => ?_)
                        refine mi_iinc (k := 1) (x := i25) (d := 1) (y := i25 + 1) (lv' := [(7, .int (nI (i25 + 1))), (5, .int (nI (my22 + 1))), (6, .int (nI i24)), (4, .int (nI (az21 / 8))), (0, .ref h0), (1, .ref to)]) hx hb dMH_written_206 hl rfl (by decide) rfl (by decide) rfl (fun ls hl => ?_)
                        refine lv_goto (tgt := 169) hx hb dMH_written_209 (by decide) ?_
                        exact ih25 (i25 + 1) (my22 + 1) s27 pl ls H locs (by omega) (by omega) hF hf85 hf86 hf87 hf88 hf89 hf90 hf91 hf92 hR (lv_sub hl [0, 2, 1, 3, 4, 5] rfl) hO hP hD hS
                      · replace hR := hR.trans (if_pos h29)
                        refine lv_goto (tgt := 206) hx hb dMH_written_190 (by decide) ?_
                        refine mi_iinc (k := 0) (x := i25) (d := 1) (y := i25 + 1) (lv' := [(7, .int (nI (i25 + 1))), (6, .int (nI i24)), (5, .int (nI my22)), (4, .int (nI (az21 / 8))), (0, .ref h0), (1, .ref to)]) hx hb dMH_written_206 hl rfl (by decide) rfl (by decide) rfl (fun ls hl => ?_)
                        refine lv_goto (tgt := 169) hx hb dMH_written_209 (by decide) ?_
                        exact ih25 (i25 + 1) my22 s25 pl ls H locs (by omega) (by omega) hF hf77 hf78 hf79 hf80 hf81 hf82 hf83 hf84 hR (lv_sub hl [0, 1, 2, 3, 4, 5] rfl) hO hP hD hS
                  exact lp25 256 0 my21 s24 pl ls _ _ (by omega) (by omega) hF hf53 hf54 hf55 hf56 hf57 hf58 hf59 hf60 hR (lv_sub hl [0, 1, 2, 3, 4, 5] rfl) hO hP hD hS
              exact lp24 8 0 0 s23 pl ls _ _ (by omega) (by omega) hF hf37 hf38 hf39 hf40 hf41 hf42 hf43 hf44 hR (lv_sub hl [0, 1, 2, 3, 4] rfl) hO hP hD hS
            | succ n23 ih23 =>
              intro i23 s23 pl ls H locs hm23 hF hf93 hf94 hf95 hf96 hf97 hf98 hf99 hf100 hR hl hO hP hD hS
              refine lv_iload hx hb dMH_written_122 (lv_at hl 0 rfl) ?_
              refine va_gets hx hb (hE.2.1 27 _ rfl).1 hS hown (hts _ (wg_t kw_1912)) (fun _ h9 => h9) dMH_written_124 ?_
              refine lv_aload_n hx hb dMH_written_127 rfl (lv_at hl 3 rfl) ?_
              refine nw_get (C := "LatticeKeysModel$Hands") (TT := T_MH) (N := 31) hx hb hts (wg_ft i_MH) hown hK hO k_h0 (kn := 225) (ci := 12) (fl := [(3, 172), (3, 181), (3, 226), (3, 291), (3, 299), (3, 308), (3, 317), (3, 326), (3, 334), (3, 342), (3, 350), (3, 359), (3, 368), (3, 369), (3, 370), (3, 371), (3, 372), (3, 373), (3, 374), (3, 375), (3, 376), (3, 377), (3, 378), (0, 0), (0, 0), (0, 0), (0, 0), (0, 0), (0, 0), (0, 0), (0, 0)]) rfl hP rfl 23 (by decide) (hts _ (wg_t kw_1455)) (fun _ h9 => h9) (cd := (0, 0)) rfl dMH_written_128 (fun v31 hv31 => ?_)
              obtain rfl := (show v31 = .int (s23.1 225 23) from hv31)
              obtain ⟨z30, ez30, hz39, hz40⟩ := cl_of (b := 2147483648) hf93 (by omega) (by decide)
              replace hR := bnd_step hR ez30
              refine mi_as hz39 ?_
              subst hz40
              refine va_ti (v := .int (nI 75)) hx hb (hE.2.1 27 _ rfl).2 hS (vp_in_nI (by decide) (by decide)) (by decide +kernel) dMH_written_131 ?_
              refine lv_aload_n hx hb dMH_written_132 rfl (lv_at hl 3 rfl) ?_
              refine nw_get (C := "LatticeKeysModel$Hands") (TT := T_MH) (N := 31) hx hb hts (wg_ft i_MH) hown hK hO k_h0 (kn := 225) (ci := 12) (fl := [(3, 172), (3, 181), (3, 226), (3, 291), (3, 299), (3, 308), (3, 317), (3, 326), (3, 334), (3, 342), (3, 350), (3, 359), (3, 368), (3, 369), (3, 370), (3, 371), (3, 372), (3, 373), (3, 374), (3, 375), (3, 376), (3, 377), (3, 378), (0, 0), (0, 0), (0, 0), (0, 0), (0, 0), (0, 0), (0, 0), (0, 0)]) rfl hP rfl 24 (by decide) (hts _ (wg_t kw_1456)) (fun _ h9 => h9) (cd := (0, 0)) rfl dMH_written_133 (fun v32 hv32 => ?_)
              obtain rfl := (show v32 = .int (s23.1 225 24) from hv32)
              obtain ⟨z31, ez31, hz41, hz42⟩ := cl_of (b := 2147483648) hf94 (by omega) (by decide)
              replace hR := bnd_step hR ez31
              refine mi_as hz41 ?_
              subst hz42
              refine mi_iadd hx hb dMH_written_136 ?_
              refine mi_as (show nI (75 + 8) = nI 83 from rfl) ?_
              refine mi_ge (tgt := 154) hx hb dMH_written_137 (by decide) (by omega) (by omega) (fun h30 => absurd h30 (by omega)) (fun h30 => ?_)
              refine lv_aload_n hx hb dMH_written_140 rfl (lv_at hl 4 rfl) ?_
              refine lv_iload hx hb dMH_written_141 (lv_at hl 2 rfl) ?_
              refine lv_iload hx hb dMH_written_143 (lv_at hl 0 rfl) ?_
              refine mi_iadd hx hb dMH_written_145 ?_
              refine lv_iconst (v := nI 0) hx hb dMH_written_146 (by decide) ?_
              refine nw_bast hx hb hK hO hU k_to (k := pt) n_to hP hD hS (by omega) (by omega) dMH_written_147 (fun s28 pl H locs es23 hO hP hD hS => ?_)
              replace hR := bnd_step hR es23
              have hF := frm_sB hF es23 (by unfold M_MH_written_2; omega)
              have hf101 : s28.1 225 23 = nI 2 := fc_B hf93 es23 (by omega)
              have hf102 : s28.1 225 24 = nI 8 := fc_B hf94 es23 (by omega)
              have hf103 : s28.1 225 25 = nI 7 := fc_B hf95 es23 (by omega)
              have hf104 : s28.1 225 26 = nI 2 := fc_B hf96 es23 (by omega)
              have hf105 : s28.1 225 27 = nI 524288 := fc_B hf97 es23 (by omega)
              have hf106 : s28.1 225 28 = nI 261888 := fc_B hf98 es23 (by omega)
              have hf107 : s28.1 225 29 = nI 120 := fc_B hf99 es23 (by omega)
              have hf108 : s28.1 225 30 = nI 64 := fc_B hf100 es23 (by omega)
              refine mi_iinc (k := 0) (x := i23) (d := 1) (y := i23 + 1) (lv' := [(6, .int (nI (i23 + 1))), (5, .int (nI 0)), (4, .int (nI (az21 / 8))), (0, .ref h0), (1, .ref to)]) hx hb dMH_written_148 hl rfl (by decide) rfl (by decide) rfl (fun ls hl => ?_)
              refine lv_goto (tgt := 122) hx hb dMH_written_151 (by decide) ?_
              exact ih23 (i23 + 1) s28 pl ls H locs (by omega) hF hf101 hf102 hf103 hf104 hf105 hf106 hf107 hf108 hR (lv_sub hl [0, 1, 2, 3, 4] rfl) hO hP hD hS
          exact lp23 83 0 s22 pl ls _ _ (by omega) hF hf29 hf30 hf31 hf32 hf33 hf34 hf35 hf36 hR (lv_sub hl [0, 1, 2, 5, 6] rfl) hO hP hD hS
        | succ n22 ih22 =>
          intro i22 az21 s22 pl ls H locs hm22 hi21 hF hf109 hf110 hf111 hf112 hf113 hf114 hf115 hf116 hR hl hO hP hD hS
          refine lv_iload hx hb dMH_written_51 (lv_at hl 0 rfl) ?_
          refine lv_aload_n hx hb dMH_written_53 rfl (lv_at hl 3 rfl) ?_
          refine nw_get (C := "LatticeKeysModel$Hands") (TT := T_MH) (N := 31) hx hb hts (wg_ft i_MH) hown hK hO k_h0 (kn := 225) (ci := 12) (fl := [(3, 172), (3, 181), (3, 226), (3, 291), (3, 299), (3, 308), (3, 317), (3, 326), (3, 334), (3, 342), (3, 350), (3, 359), (3, 368), (3, 369), (3, 370), (3, 371), (3, 372), (3, 373), (3, 374), (3, 375), (3, 376), (3, 377), (3, 378), (0, 0), (0, 0), (0, 0), (0, 0), (0, 0), (0, 0), (0, 0), (0, 0)]) rfl hP rfl 25 (by decide) (hts _ (wg_t kw_1457)) (fun _ h9 => h9) (cd := (0, 0)) rfl dMH_written_54 (fun v33 hv33 => ?_)
          obtain rfl := (show v33 = .int (s22.1 225 25) from hv33)
          obtain ⟨z32, ez32, hz43, hz44⟩ := cl_of (b := 2147483648) hf111 (by omega) (by decide)
          replace hR := bnd_step hR ez32
          refine mi_as hz43 ?_
          subst hz44
          refine mi_ge (tgt := 110) hx hb dMH_written_57 (by decide) (by omega) (by omega) (fun h31 => absurd h31 (by omega)) (fun h31 => ?_)
          refine lv_iconst (v := nI 0) hx hb dMH_written_60 (by decide) ?_
          refine lv_istore (lv' := [(5, .int (nI 0)), (4, .int (nI i22)), (3, .int (nI az21)), (2, .int (nI 20)), (0, .ref h0), (1, .ref to)]) hx hb dMH_written_61 hl (by decide) rfl (fun ls hl => ?_)
          have lp26 : ∀ (n26 : Nat) (i26 : Nat) (az22 : Nat) (s29 : Sto) (pl : va_W) (ls : Array Slot) (H : Heap) (locs : List Loc), n26 + i26 = 256 → (az22 = 512 + 5120 * i22 + 20 * i26) → frm (M_MH_written_2 pt) s s29 → s29.1 225 23 = nI 2 → s29.1 225 24 = nI 8 → s29.1 225 25 = nI 7 → s29.1 225 26 = nI 2 → s29.1 225 27 = nI 524288 → s29.1 225 28 = nI 261888 → s29.1 225 29 = nI 120 → s29.1 225 30 = nI 64 → F_MH_written_2 pt s = F_MH_written_2_L5 pt i22 (F_MH_written_2_L1 pt n22) n26 i26 az22 s29 → lv_has ls 8 [(5, .int (nI i26)), (4, .int (nI i22)), (3, .int (nI az22)), (2, .int (nI 20)), (0, .ref h0), (1, .ref to)] → okn g T s29 pl → va_P g.1 vcl ([] ++ pl) H → va_D A ([] ++ pl) → va_S A s0.heap H locs → W p l e ({ frames := 1, cells := 0, slots := 0, locals := 26 } : Room) s0 m args below meth c H locs 0 0 (MQ below (va_Qv (fun (u : (Sto) × va_W) => (u.1 = F_MH_written_2 pt s ∧ frm (M_MH_written_2 pt) s u.1 ∧ True) ∧ okn g T u.1 u.2) (po g.1 vcl A (fun (u : (Sto) × va_W) => [] ++ u.2)) A) args s0 0 0 A) (F0 m 63 ls []) := by
            intro n26
            induction n26 with
            | zero =>
              intro i26 az22 s29 pl ls H locs hm26 hi24 hF hf117 hf118 hf119 hf120 hf121 hf122 hf123 hf124 hR hl hO hP hD hS
              refine lv_iload hx hb dMH_written_63 (lv_at hl 0 rfl) ?_
              refine lv_sipush (v := nI 256) hx hb dMH_written_65 (by decide) ?_
              refine mi_ge (tgt := 104) hx hb dMH_written_68 (by decide) (by omega) (by omega) (fun h32 => ?_) (fun h32 => absurd h32 (by omega))
              refine mi_iinc (k := 1) (x := i22) (d := 1) (y := i22 + 1) (lv' := [(4, .int (nI (i22 + 1))), (5, .int (nI i26)), (3, .int (nI az22)), (2, .int (nI 20)), (0, .ref h0), (1, .ref to)]) hx hb dMH_written_104 hl rfl (by decide) rfl (by decide) rfl (fun ls hl => ?_)
              refine lv_goto (tgt := 51) hx hb dMH_written_107 (by decide) ?_
              exact ih22 (i22 + 1) az22 s29 pl ls H locs (by omega) (by omega) hF hf117 hf118 hf119 hf120 hf121 hf122 hf123 hf124 hR (lv_sub hl [0, 2, 3, 4, 5] rfl) hO hP hD hS
            | succ n26 ih26 =>
              intro i26 az22 s29 pl ls H locs hm26 hi24 hF hf125 hf126 hf127 hf128 hf129 hf130 hf131 hf132 hR hl hO hP hD hS
              refine lv_iload hx hb dMH_written_63 (lv_at hl 0 rfl) ?_
              refine lv_sipush (v := nI 256) hx hb dMH_written_65 (by decide) ?_
              refine mi_ge (tgt := 104) hx hb dMH_written_68 (by decide) (by omega) (by omega) (fun h33 => absurd h33 (by omega)) (fun h33 => ?_)
              refine lv_aload_n hx hb dMH_written_71 rfl (lv_at hl 5 rfl) ?_
              refine lv_iload_n hx hb dMH_written_72 rfl (lv_at hl 2 rfl) ?_
              refine lv_iload_n hx hb dMH_written_73 rfl (lv_at hl 3 rfl) ?_
              refine lv_aload_n hx hb dMH_written_74 rfl (lv_at hl 4 rfl) ?_
              refine nw_get (C := "LatticeKeysModel$Hands") (TT := T_MH) (N := 31) hx hb hts (wg_ft i_MH) hown hK hO k_h0 (kn := 225) (ci := 12) (fl := [(3, 172), (3, 181), (3, 226), (3, 291), (3, 299), (3, 308), (3, 317), (3, 326), (3, 334), (3, 342), (3, 350), (3, 359), (3, 368), (3, 369), (3, 370), (3, 371), (3, 372), (3, 373), (3, 374), (3, 375), (3, 376), (3, 377), (3, 378), (0, 0), (0, 0), (0, 0), (0, 0), (0, 0), (0, 0), (0, 0), (0, 0)]) rfl hP rfl 27 (by decide) (hts _ (wg_t kw_1459)) (fun _ h9 => h9) (cd := (0, 0)) rfl dMH_written_75 (fun v34 hv34 => ?_)
              obtain rfl := (show v34 = .int (s29.1 225 27) from hv34)
              obtain ⟨z33, ez33, hz45, hz46⟩ := cl_of (b := 2147483648) hf129 (by omega) (by decide)
              replace hR := bnd_step hR ez33
              refine mi_as hz45 ?_
              subst hz46
              refine lv_aload_n hx hb dMH_written_78 rfl (lv_at hl 4 rfl) ?_
              refine nw_get (C := "LatticeKeysModel$Hands") (TT := T_MH) (N := 31) hx hb hts (wg_ft i_MH) hown hK hO k_h0 (kn := 225) (ci := 12) (fl := [(3, 172), (3, 181), (3, 226), (3, 291), (3, 299), (3, 308), (3, 317), (3, 326), (3, 334), (3, 342), (3, 350), (3, 359), (3, 368), (3, 369), (3, 370), (3, 371), (3, 372), (3, 373), (3, 374), (3, 375), (3, 376), (3, 377), (3, 378), (0, 0), (0, 0), (0, 0), (0, 0), (0, 0), (0, 0), (0, 0), (0, 0)]) rfl hP rfl 8 (by decide) (hts _ (wg_t kw_1440)) (fun _ h9 => h9) (cd := (3, 334)) rfl dMH_written_79 (fun v35 hv35 => ?_)
              obtain ⟨r23, rfl, kr23⟩ := (show ∃ r : Nat, v35 = .ref r ∧ T r = some 334 from hv35)
              refine lv_iload hx hb dMH_written_82 (lv_at hl 1 rfl) ?_
              refine nw_aald3 hx hb hK hO kr23 (k := 334) (b := 335) rfl hP (by omega) (by omega) dMH_written_84 (fun r24 kr24 => ?_)
              have hn22 : nsp (335 + i22) = (0, 256, []) := rows_ok 335 7 (by decide) _ (by omega)
              refine lv_iload hx hb dMH_written_85 (lv_at hl 0 rfl) ?_
              refine nw_iald hx hb hK hO kr24 (k := (335 + i22)) hn22 hP (by omega) (by omega) dMH_written_87 ?_
              refine mp_i (cx := []) (wr := []) hP hD hS hA [] [] rfl rfl rfl (by decide) (va_runS (As := [.int (nI 524288), .int ((s29.1 ((335 + i22)) i26))]) (rest := [.int (nI 20), .int (nI az22), .ref to]) F (N_MH_minus l g _ T s29 pl hO hU (nI 524288) (s29.1 ((335 + i22)) i26)) (va_cwS 2 hts (wg_app (wg_c kw_1865 (wg_c kw_1866 (wg_c kw_13 wg_n))) kw_1867) rfl rfl rfl (by decide +kernel) ⟨by decide, by decide⟩) (pp_S (en_ok g) hP hD hS hA hE [] rfl rfl) rfl rfl hl.1 rfl (lv_room (Nat.le_of_ble_eq_true rfl)) dMH_written_88 ⟨by omega, by omega⟩) (fun r25 u21 H locs hu21 hP hD hS => ?_)
              obtain ⟨q21, pl⟩ := u21
              obtain ⟨⟨eq21, rfl, hFc21, -⟩, hO⟩ := hu21
              have hO : okn g T q21.2 pl := hO
              have hP : va_P g.1 vcl ([] ++ pl) _ := hP
              have hD : va_D _ ([] ++ pl) := hD
              have hFc21 : frm (M_MH_minus) s29 q21.2 := hFc21
              replace hR := bnd_step hR eq21
              have hF := frm_tr hF hFc21 (fun k hk => by unfold M_MH_minus at hk; unfold M_MH_written_2; omega)
              have hf133 : q21.2.1 225 23 = nI 2 := fc_F hf125 hFc21 (by unfold M_MH_minus; omega)
              have hf134 : q21.2.1 225 24 = nI 8 := fc_F hf126 hFc21 (by unfold M_MH_minus; omega)
              have hf135 : q21.2.1 225 25 = nI 7 := fc_F hf127 hFc21 (by unfold M_MH_minus; omega)
              have hf136 : q21.2.1 225 26 = nI 2 := fc_F hf128 hFc21 (by unfold M_MH_minus; omega)
              have hf137 : q21.2.1 225 27 = nI 524288 := fc_F hf129 hFc21 (by unfold M_MH_minus; omega)
              have hf138 : q21.2.1 225 28 = nI 261888 := fc_F hf130 hFc21 (by unfold M_MH_minus; omega)
              have hf139 : q21.2.1 225 29 = nI 120 := fc_F hf131 hFc21 (by unfold M_MH_minus; omega)
              have hf140 : q21.2.1 225 30 = nI 64 := fc_F hf132 hFc21 (by unfold M_MH_minus; omega)
              refine W.widen (k := 0) (n := 0) (by omega) (by omega) ?_
              refine mp_v (cx := []) (wr := []) hP hD hS hA [] [] rfl rfl rfl (by decide) (va_runSN (As := [.ref to, .int (nI az22), .int (nI 20), .int q21.1]) (rest := []) F (N_M_pack l g _ T q21.2 pl hO hU to pt 8192 az22 20 (q21.1) k_to n_to (by omega) (by omega)) ⟨va_cnB 4 hts (wg_in kw_1690) rfl rfl rfl (hE.2.2.2.2.2.2.2.2.2.1) (hts _ (wg_t kw_9)) (by decide +kernel) ⟨by decide, by decide⟩, hts _ (wg_t kw_1689), trivial⟩ (pp_S (en_ok g) hP hD hS hA hE [] rfl rfl) rfl rfl hl.1 rfl (lv_room (Nat.le_of_ble_eq_true rfl)) dMH_written_91 ⟨by omega, by omega⟩) (fun  u22 H locs hu22 hP hD hS => ?_)
              obtain ⟨s30, pl⟩ := u22
              obtain ⟨⟨eq22, hFc22, -⟩, hO⟩ := hu22
              have hO : okn g T s30 pl := hO
              have hP : va_P g.1 vcl ([] ++ pl) _ := hP
              have hD : va_D _ ([] ++ pl) := hD
              have hFc22 : frm (M_M_pack pt) q21.2 s30 := hFc22
              replace hR := bnd_step hR eq22
              have hF := frm_tr hF hFc22 (fun k hk => by unfold M_M_pack at hk; unfold M_MH_written_2; omega)
              have hf141 : s30.1 225 23 = nI 2 := fc_F hf133 hFc22 (by unfold M_M_pack; omega)
              have hf142 : s30.1 225 24 = nI 8 := fc_F hf134 hFc22 (by unfold M_M_pack; omega)
              have hf143 : s30.1 225 25 = nI 7 := fc_F hf135 hFc22 (by unfold M_M_pack; omega)
              have hf144 : s30.1 225 26 = nI 2 := fc_F hf136 hFc22 (by unfold M_M_pack; omega)
              have hf145 : s30.1 225 27 = nI 524288 := fc_F hf137 hFc22 (by unfold M_M_pack; omega)
              have hf146 : s30.1 225 28 = nI 261888 := fc_F hf138 hFc22 (by unfold M_M_pack; omega)
              have hf147 : s30.1 225 29 = nI 120 := fc_F hf139 hFc22 (by unfold M_M_pack; omega)
              have hf148 : s30.1 225 30 = nI 64 := fc_F hf140 hFc22 (by unfold M_M_pack; omega)
              refine W.widen (k := 0) (n := 0) (by omega) (by omega) ?_
              refine lv_iload_n hx hb dMH_written_94 rfl (lv_at hl 2 rfl) ?_
              refine lv_iload_n hx hb dMH_written_95 rfl (lv_at hl 3 rfl) ?_
              refine mi_iadd hx hb dMH_written_96 ?_
              refine lv_istore_n (lv' := [(3, .int (nI (az22 + 20))), (5, .int (nI i26)), (4, .int (nI i22)), (2, .int (nI 20)), (0, .ref h0), (1, .ref to)]) hx hb dMH_written_97 rfl hl (by decide) rfl (fun ls hl => ?_)
              refine mi_iinc (k := 1) (x := i26) (d := 1) (y := i26 + 1) (lv' := [(5, .int (nI (i26 + 1))), (3, .int (nI (az22 + 20))), (4, .int (nI i22)), (2, .int (nI 20)), (0, .ref h0), (1, .ref to)]) hx hb dMH_written_98 hl rfl (by decide) rfl (by decide) rfl (fun ls hl => ?_)
              refine lv_goto (tgt := 63) hx hb dMH_written_101 (by decide) ?_
              exact ih26 (i26 + 1) (az22 + 20) s30 pl ls H locs (by omega) (by omega) hF hf141 hf142 hf143 hf144 hf145 hf146 hf147 hf148 hR (lv_sub hl [0, 2, 1, 3, 4, 5] rfl) hO hP hD hS
          exact lp26 256 0 az21 s22 pl ls _ _ (by omega) (by omega) hF hf109 hf110 hf111 hf112 hf113 hf114 hf115 hf116 hR (lv_sub hl [0, 1, 2, 3, 4, 5] rfl) hO hP hD hS
      exact lp22 7 0 512 s21 pl ls _ _ (by omega) (by omega) hF hf21 hf22 hf23 hf24 hf25 hf26 hf27 hf28 hR (lv_sub hl [0, 1, 2, 3, 4] rfl) hO hP hD hS
    | succ n21 ih21 =>
      intro i21 s21 pl ls H locs hm21 hF hf149 hf150 hf151 hf152 hf153 hf154 hf155 hf156 hR hl hO hP hD hS
      refine lv_iload_n hx hb dMH_written_2 rfl (lv_at hl 0 rfl) ?_
      refine lv_aload_n hx hb dMH_written_3 rfl (lv_at hl 1 rfl) ?_
      refine nw_get (C := "LatticeKeysModel$Hands") (TT := T_MH) (N := 31) hx hb hts (wg_ft i_MH) hown hK hO k_h0 (kn := 225) (ci := 12) (fl := [(3, 172), (3, 181), (3, 226), (3, 291), (3, 299), (3, 308), (3, 317), (3, 326), (3, 334), (3, 342), (3, 350), (3, 359), (3, 368), (3, 369), (3, 370), (3, 371), (3, 372), (3, 373), (3, 374), (3, 375), (3, 376), (3, 377), (3, 378), (0, 0), (0, 0), (0, 0), (0, 0), (0, 0), (0, 0), (0, 0), (0, 0)]) rfl hP rfl 30 (by decide) (hts _ (wg_t kw_1462)) (fun _ h9 => h9) (cd := (0, 0)) rfl dMH_written_4 (fun v36 hv36 => ?_)
      obtain rfl := (show v36 = .int (s21.1 225 30) from hv36)
      obtain ⟨z34, ez34, hz47, hz48⟩ := cl_of (b := 2147483648) hf156 (by omega) (by decide)
      replace hR := bnd_step hR ez34
      refine mi_as hz47 ?_
      subst hz48
      refine mi_ge (tgt := 25) hx hb dMH_written_7 (by decide) (by omega) (by omega) (fun h34 => absurd h34 (by omega)) (fun h34 => ?_)
      refine lv_aload_n hx hb dMH_written_10 rfl (lv_at hl 2 rfl) ?_
      refine lv_iload_n hx hb dMH_written_11 rfl (lv_at hl 0 rfl) ?_
      refine lv_aload_n hx hb dMH_written_12 rfl (lv_at hl 1 rfl) ?_
      refine nw_get (C := "LatticeKeysModel$Hands") (TT := T_MH) (N := 31) hx hb hts (wg_ft i_MH) hown hK hO k_h0 (kn := 225) (ci := 12) (fl := [(3, 172), (3, 181), (3, 226), (3, 291), (3, 299), (3, 308), (3, 317), (3, 326), (3, 334), (3, 342), (3, 350), (3, 359), (3, 368), (3, 369), (3, 370), (3, 371), (3, 372), (3, 373), (3, 374), (3, 375), (3, 376), (3, 377), (3, 378), (0, 0), (0, 0), (0, 0), (0, 0), (0, 0), (0, 0), (0, 0), (0, 0)]) rfl hP rfl 20 (by decide) (hts _ (wg_t kw_1452)) (fun _ h9 => h9) (cd := (3, 376)) rfl dMH_written_13 (fun v37 hv37 => ?_)
      obtain ⟨r26, rfl, kr25⟩ := (show ∃ r : Nat, v37 = .ref r ∧ T r = some 376 from hv37)
      refine lv_iload_n hx hb dMH_written_16 rfl (lv_at hl 0 rfl) ?_
      refine nw_bald hx hb hK hO kr25 (k := 376) rfl hP (by omega) (by omega) dMH_written_17 ?_
      refine nw_bast hx hb hK hO hU k_to (k := pt) n_to hP hD hS (by omega) (by omega) dMH_written_18 (fun s31 pl H locs es24 hO hP hD hS => ?_)
      replace hR := bnd_step hR es24
      have hF := frm_sB hF es24 (by unfold M_MH_written_2; omega)
      have hf157 : s31.1 225 23 = nI 2 := fc_B hf149 es24 (by omega)
      have hf158 : s31.1 225 24 = nI 8 := fc_B hf150 es24 (by omega)
      have hf159 : s31.1 225 25 = nI 7 := fc_B hf151 es24 (by omega)
      have hf160 : s31.1 225 26 = nI 2 := fc_B hf152 es24 (by omega)
      have hf161 : s31.1 225 27 = nI 524288 := fc_B hf153 es24 (by omega)
      have hf162 : s31.1 225 28 = nI 261888 := fc_B hf154 es24 (by omega)
      have hf163 : s31.1 225 29 = nI 120 := fc_B hf155 es24 (by omega)
      have hf164 : s31.1 225 30 = nI 64 := fc_B hf156 es24 (by omega)
      refine mi_iinc (k := 0) (x := i21) (d := 1) (y := i21 + 1) (lv' := [(2, .int (nI (i21 + 1))), (0, .ref h0), (1, .ref to)]) hx hb dMH_written_19 hl rfl (by decide) rfl (by decide) rfl (fun ls hl => ?_)
      refine lv_goto (tgt := 2) hx hb dMH_written_22 (by decide) ?_
      exact ih21 (i21 + 1) s31 pl ls H locs (by omega) hF hf157 hf158 hf159 hf160 hf161 hf162 hf163 hf164 hR (lv_sub hl [0, 1, 2] rfl) hO hP hD hS
  exact lp21 64 0 s pl ls _ _ (by omega) hF e_c0 e_c1 e_c2 e_c3 e_c4 e_c5 e_c6 e_c7 hR (lv_sub hl [0, 1, 2] rfl) hO hP hD hS
def M_MH_readHints_0 (k : Nat) : Prop := (360 ≤ k ∧ k < 368) ∨ (0 : Nat) = 1
noncomputable def F_MH_readHints_0_L3 (pb : Nat) (fi : Nat) (i21 : Nat) (my21 : Nat) (z26 : Nat) (kk : Nat → Nat → Sto → Int32 × Sto) : Nat → Nat → Sto → Int32 × Sto
  | 0, ii21, s24 => kk (i21 + 1) z26 s24
  | n24 + 1, ii21, s24 => bnd (((s24.1 pb (fi + ii21)) &&& nI 255).toNatClampNeg) fun z28 => if ii21 ≤ my21 then bnd (sI s24 ((360 + i21)) z28 (nI 1)) fun s25 => F_MH_readHints_0_L3 pb fi i21 my21 z26 kk n24 (ii21 + 1) s25 else bnd (((s24.1 pb ((fi + ii21) - 1)) &&& nI 255).toNatClampNeg) fun z29 => if z29 < z28 then bnd (sI s24 ((360 + i21)) z28 (nI 1)) fun s26 => F_MH_readHints_0_L3 pb fi i21 my21 z26 kk n24 (ii21 + 1) s26 else (nI 0, s24)
noncomputable def F_MH_readHints_0_L2 (pb : Nat) (fi : Nat) (i21 : Nat) (my21 : Nat) (kk : Nat → Nat → Sto → Int32 × Sto) : Nat → Nat → Sto → Int32 × Sto
  | 0, i23, s23 => bnd ((s23.1 225 23).toNatClampNeg) fun z25 => bnd (((s23.1 pb ((fi + 80) + i21)) &&& nI 255).toNatClampNeg) fun z26 => if z26 < my21 then (nI 0, s23) else bnd ((s23.1 225 23).toNatClampNeg) fun z27 => if z26 ≤ 80 then F_MH_readHints_0_L3 pb fi i21 my21 z26 (kk) (z26 - my21) my21 s23 else (nI 0, s23)
  | n23 + 1, i23, s23 => bnd (sI s23 ((360 + i21)) i23 (nI 0)) fun s27 => F_MH_readHints_0_L2 pb fi i21 my21 kk n23 (i23 + 1) s27
noncomputable def F_MH_readHints_0_L1 (pb : Nat) (fi : Nat) : Nat → Nat → Sto → Int32 × Sto
  | 0, i22, s22 => bnd ((s22.1 225 23).toNatClampNeg) fun z22 => (nI 1, s22)
  | n22 + 1, i22, s22 => bnd ((s22.1 225 23).toNatClampNeg) fun z23 => if (s22.1 pb (fi + i22)) = 0 then F_MH_readHints_0_L1 pb fi n22 (i22 + 1) s22 else (nI 0, s22)
noncomputable def F_MH_readHints_0_L0 (pb : Nat) (fi : Nat) : Nat → Nat → Nat → Sto → Int32 × Sto
  | 0, i21, my21, s21 => bnd ((s21.1 225 24).toNatClampNeg) fun z21 => F_MH_readHints_0_L1 pb fi (80 - my21) my21 s21
  | n21 + 1, i21, my21, s21 => bnd ((s21.1 225 24).toNatClampNeg) fun z24 => F_MH_readHints_0_L2 pb fi i21 my21 (F_MH_readHints_0_L0 pb fi n21) 256 0 s21
noncomputable def F_MH_readHints_0 (pb : Nat) (fi : Nat) (s : Sto) : Int32 × Sto := F_MH_readHints_0_L0 pb fi 4 0 0 s
set_option maxHeartbeats 8000000 in
set_option maxRecDepth 100000 in
theorem N_MH_readHints_0 (l : Launch) (g : Gd) (sz : Nat) (T : TyN) (s : Sto) (pl : va_W) (hO : okn g T s pl) (hU : inj T) (h0 b : Nat) (pb : Nat) (fi : Nat) (k_h0 : T h0 = some 225) (k_b : T b = some pb) (n_b : nsp pb = (1, 16384, [])) (e_c0 : s.1 225 23 = nI 0) (e_c1 : s.1 225 24 = nI 4) (e_c2 : s.1 225 25 = nI 4) (e_c3 : s.1 225 26 = nI 2) (e_c4 : s.1 225 27 = nI 131072) (e_c5 : s.1 225 28 = nI 95232) (e_c6 : s.1 225 29 = nI 78) (e_c7 : s.1 225 30 = nI 32) (h1 : fi + 84 ≤ 16384)  : Met l y_MH_readHints w_MH_readHints ({ frames := 0, cells := 0, slots := 0, locals := 0 } : Room) (va_Pc [.ref h0, .ref b, .int (nI fi)] (pr (en g) g.1 vcl sz ([] ++ pl))) (va_Qi (fun (r : Int32) (u : (Int32 × Sto) × va_W) => (u.1 = F_MH_readHints_0 pb fi s ∧ r = u.1.1 ∧ frm (M_MH_readHints_0) s u.1.2 ∧ True) ∧ okn g T u.1.2 u.2) (po g.1 vcl (va_A ([] ++ pl) sz) (fun (u : (Int32 × Sto) × va_W) => [] ++ u.2)) (va_A ([] ++ pl) sz)) 0 0 (va_A ([] ++ pl) sz) := by
  refine mc_entry (cc := c_MH_readHints) (maxL := 8) (ret := (some .boolean)) (by decide) rfl (Nat.le_of_ble_eq_true rfl) ?_
  intro p e s0 m args below meth c ls F hr hlk hnm hsz hP hD hE hA hl
  obtain ⟨hx, hb, hml, hown, hts⟩ := id F
  have hK := hE.1
  generalize va_A ([] ++ pl) sz = A at hD hE hA ⊢
  have hS : va_S A s0.heap s0.heap [] := va_S.rf
  have hl : lv_has ls 8 [(0, .ref h0), (1, .ref b), (2, .int (nI fi))] := hl
  have hR : F_MH_readHints_0 pb fi s = F_MH_readHints_0 pb fi s := rfl
  have hF : frm (M_MH_readHints_0) s s := frm_rf
  have ne_172_pb : 172 ≠ pb := nsp_ne (p := 172) rfl n_b (show (5 : Nat) ≠ 1 by decide)
  have ne_225_pb : 225 ≠ pb := nsp_ne (p := 225) rfl n_b (show (5 : Nat) ≠ 1 by decide)
  refine lv_iconst (v := nI 0) hx hb dMH_readHints_0 (by decide) ?_
  refine lv_istore_n (lv' := [(3, .int (nI 0)), (0, .ref h0), (1, .ref b), (2, .int (nI fi))]) hx hb dMH_readHints_1 rfl hl (by decide) rfl (fun ls hl => ?_)
  refine lv_iconst (v := nI 0) hx hb dMH_readHints_2 (by decide) ?_
  refine lv_istore (lv' := [(4, .int (nI 0)), (3, .int (nI 0)), (0, .ref h0), (1, .ref b), (2, .int (nI fi))]) hx hb dMH_readHints_3 hl (by decide) rfl (fun ls hl => ?_)
  have lp21 : ∀ (n21 : Nat) (i21 : Nat) (my21 : Nat) (s21 : Sto) (pl : va_W) (ls : Array Slot) (H : Heap) (locs : List Loc), n21 + i21 = 4 → (my21 ≤ 80) → frm (M_MH_readHints_0) s s21 → s21.1 225 23 = nI 0 → s21.1 225 24 = nI 4 → s21.1 225 25 = nI 4 → s21.1 225 26 = nI 2 → s21.1 225 27 = nI 131072 → s21.1 225 28 = nI 95232 → s21.1 225 29 = nI 78 → s21.1 225 30 = nI 32 → F_MH_readHints_0 pb fi s = F_MH_readHints_0_L0 pb fi n21 i21 my21 s21 → lv_has ls 8 [(4, .int (nI i21)), (3, .int (nI my21)), (0, .ref h0), (1, .ref b), (2, .int (nI fi))] → okn g T s21 pl → va_P g.1 vcl ([] ++ pl) H → va_D A ([] ++ pl) → va_S A s0.heap H locs → W p l e ({ frames := 0, cells := 0, slots := 0, locals := 0 } : Room) s0 m args below meth c H locs 0 0 (MQ below (va_Qi (fun (r : Int32) (u : (Int32 × Sto) × va_W) => (u.1 = F_MH_readHints_0 pb fi s ∧ r = u.1.1 ∧ frm (M_MH_readHints_0) s u.1.2 ∧ True) ∧ okn g T u.1.2 u.2) (po g.1 vcl A (fun (u : (Int32 × Sto) × va_W) => [] ++ u.2)) A) args s0 0 0 A) (F0 m 5 ls []) := by
    intro n21
    induction n21 with
    | zero =>
      intro i21 my21 s21 pl ls H locs hm21 hi21 hF hf21 hf22 hf23 hf24 hf25 hf26 hf27 hf28 hR hl hO hP hD hS
      refine lv_iload hx hb dMH_readHints_5 (lv_at hl 0 rfl) ?_
      refine lv_aload_n hx hb dMH_readHints_7 rfl (lv_at hl 2 rfl) ?_
      refine nw_get (C := "LatticeKeysModel$Hands") (TT := T_MH) (N := 31) hx hb hts (wg_ft i_MH) hown hK hO k_h0 (kn := 225) (ci := 12) (fl := [(3, 172), (3, 181), (3, 226), (3, 291), (3, 299), (3, 308), (3, 317), (3, 326), (3, 334), (3, 342), (3, 350), (3, 359), (3, 368), (3, 369), (3, 370), (3, 371), (3, 372), (3, 373), (3, 374), (3, 375), (3, 376), (3, 377), (3, 378), (0, 0), (0, 0), (0, 0), (0, 0), (0, 0), (0, 0), (0, 0), (0, 0)]) rfl hP rfl 24 (by decide) (hts _ (wg_t kw_1456)) (fun _ h9 => h9) (cd := (0, 0)) rfl dMH_readHints_8 (fun v21 hv21 => ?_)
      obtain rfl := (show v21 = .int (s21.1 225 24) from hv21)
      obtain ⟨z21, ez21, hz21, hz22⟩ := cl_of (b := 2147483648) hf22 (by omega) (by decide)
      replace hR := bnd_step hR ez21
      refine mi_as hz21 ?_
      subst hz22
      refine mi_ge (tgt := 157) hx hb dMH_readHints_11 (by decide) (by omega) (by omega) (fun h21 => ?_) (fun h21 => absurd h21 (by omega))
      refine lv_iload_n hx hb dMH_readHints_157 rfl (lv_at hl 1 rfl) ?_
      refine lv_istore (lv' := [(4, .int (nI my21)), (3, .int (nI my21)), (0, .ref h0), (1, .ref b), (2, .int (nI fi))]) hx hb dMH_readHints_158 hl (by decide) rfl (fun ls hl => ?_)
      have lp22 : ∀ (n22 : Nat) (i22 : Nat) (s22 : Sto) (pl : va_W) (ls : Array Slot) (H : Heap) (locs : List Loc), n22 + i22 = 80 → (my21 ≤ i22) → frm (M_MH_readHints_0) s s22 → s22.1 225 23 = nI 0 → s22.1 225 24 = nI 4 → s22.1 225 25 = nI 4 → s22.1 225 26 = nI 2 → s22.1 225 27 = nI 131072 → s22.1 225 28 = nI 95232 → s22.1 225 29 = nI 78 → s22.1 225 30 = nI 32 → F_MH_readHints_0 pb fi s = F_MH_readHints_0_L1 pb fi n22 i22 s22 → lv_has ls 8 [(4, .int (nI i22)), (0, .ref h0), (1, .ref b), (2, .int (nI fi))] → okn g T s22 pl → va_P g.1 vcl ([] ++ pl) H → va_D A ([] ++ pl) → va_S A s0.heap H locs → W p l e ({ frames := 0, cells := 0, slots := 0, locals := 0 } : Room) s0 m args below meth c H locs 0 0 (MQ below (va_Qi (fun (r : Int32) (u : (Int32 × Sto) × va_W) => (u.1 = F_MH_readHints_0 pb fi s ∧ r = u.1.1 ∧ frm (M_MH_readHints_0) s u.1.2 ∧ True) ∧ okn g T u.1.2 u.2) (po g.1 vcl A (fun (u : (Int32 × Sto) × va_W) => [] ++ u.2)) A) args s0 0 0 A) (F0 m 160 ls []) := by
        intro n22
        induction n22 with
        | zero =>
          intro i22 s22 pl ls H locs hm22 hi22 hF hf29 hf30 hf31 hf32 hf33 hf34 hf35 hf36 hR hl hO hP hD hS
          refine lv_iload hx hb dMH_readHints_160 (lv_at hl 0 rfl) ?_
          refine va_gets hx hb (hE.2.1 27 _ rfl).1 hS hown (hts _ (wg_t kw_1912)) (fun _ h9 => h9) dMH_readHints_162 ?_
          refine lv_aload_n hx hb dMH_readHints_165 rfl (lv_at hl 1 rfl) ?_
          refine nw_get (C := "LatticeKeysModel$Hands") (TT := T_MH) (N := 31) hx hb hts (wg_ft i_MH) hown hK hO k_h0 (kn := 225) (ci := 12) (fl := [(3, 172), (3, 181), (3, 226), (3, 291), (3, 299), (3, 308), (3, 317), (3, 326), (3, 334), (3, 342), (3, 350), (3, 359), (3, 368), (3, 369), (3, 370), (3, 371), (3, 372), (3, 373), (3, 374), (3, 375), (3, 376), (3, 377), (3, 378), (0, 0), (0, 0), (0, 0), (0, 0), (0, 0), (0, 0), (0, 0), (0, 0)]) rfl hP rfl 23 (by decide) (hts _ (wg_t kw_1455)) (fun _ h9 => h9) (cd := (0, 0)) rfl dMH_readHints_166 (fun v22 hv22 => ?_)
          obtain rfl := (show v22 = .int (s22.1 225 23) from hv22)
          obtain ⟨z22, ez22, hz23, hz24⟩ := cl_of (b := 2147483648) hf29 (by omega) (by decide)
          replace hR := bnd_step hR ez22
          refine mi_as hz23 ?_
          subst hz24
          refine va_ti (v := .int (nI 80)) hx hb (hE.2.1 27 _ rfl).2 hS (vp_in_nI (by decide) (by decide)) (by decide +kernel) dMH_readHints_169 ?_
          refine mi_ge (tgt := 190) hx hb dMH_readHints_170 (by decide) (by omega) (by omega) (fun h22 => ?_) (fun h22 => absurd h22 (by omega))
          refine lv_iconst (v := nI 1) hx hb dMH_readHints_190 (by decide) ?_
          exact mp_zret hx hb hr hlk rfl hP hD hS ((nI 1, s22), pl) ⟨⟨hR.symm, rfl, hF, trivial⟩, hO⟩ [] rfl rfl rfl (by omega) (by omega) dMH_readHints_191
        | succ n22 ih22 =>
          intro i22 s22 pl ls H locs hm22 hi22 hF hf37 hf38 hf39 hf40 hf41 hf42 hf43 hf44 hR hl hO hP hD hS
          refine lv_iload hx hb dMH_readHints_160 (lv_at hl 0 rfl) ?_
          refine va_gets hx hb (hE.2.1 27 _ rfl).1 hS hown (hts _ (wg_t kw_1912)) (fun _ h9 => h9) dMH_readHints_162 ?_
          refine lv_aload_n hx hb dMH_readHints_165 rfl (lv_at hl 1 rfl) ?_
          refine nw_get (C := "LatticeKeysModel$Hands") (TT := T_MH) (N := 31) hx hb hts (wg_ft i_MH) hown hK hO k_h0 (kn := 225) (ci := 12) (fl := [(3, 172), (3, 181), (3, 226), (3, 291), (3, 299), (3, 308), (3, 317), (3, 326), (3, 334), (3, 342), (3, 350), (3, 359), (3, 368), (3, 369), (3, 370), (3, 371), (3, 372), (3, 373), (3, 374), (3, 375), (3, 376), (3, 377), (3, 378), (0, 0), (0, 0), (0, 0), (0, 0), (0, 0), (0, 0), (0, 0), (0, 0)]) rfl hP rfl 23 (by decide) (hts _ (wg_t kw_1455)) (fun _ h9 => h9) (cd := (0, 0)) rfl dMH_readHints_166 (fun v23 hv23 => ?_)
          obtain rfl := (show v23 = .int (s22.1 225 23) from hv23)
          obtain ⟨z23, ez23, hz25, hz26⟩ := cl_of (b := 2147483648) hf37 (by omega) (by decide)
          replace hR := bnd_step hR ez23
          refine mi_as hz25 ?_
          subst hz26
          refine va_ti (v := .int (nI 80)) hx hb (hE.2.1 27 _ rfl).2 hS (vp_in_nI (by decide) (by decide)) (by decide +kernel) dMH_readHints_169 ?_
          refine mi_ge (tgt := 190) hx hb dMH_readHints_170 (by decide) (by omega) (by omega) (fun h23 => absurd h23 (by omega)) (fun h23 => ?_)
          refine lv_aload_n hx hb dMH_readHints_173 rfl (lv_at hl 2 rfl) ?_
          refine lv_iload_n hx hb dMH_readHints_174 rfl (lv_at hl 3 rfl) ?_
          refine lv_iload hx hb dMH_readHints_175 (lv_at hl 0 rfl) ?_
          refine mi_iadd hx hb dMH_readHints_177 ?_
          refine nw_bald hx hb hK hO k_b (k := pb) n_b hP (by omega) (by omega) dMH_readHints_178 ?_
          refine lv_if_eq (tgt := 184) hx hb dMH_readHints_179 (by decide) (fun h24 => ?_) (fun h24 => ?_)
          · replace hR := hR.trans (if_pos h24)
            refine mi_iinc (k := 0) (x := i22) (d := 1) (y := i22 + 1) (lv' := [(4, .int (nI (i22 + 1))), (0, .ref h0), (1, .ref b), (2, .int (nI fi))]) hx hb dMH_readHints_184 hl rfl (by decide) rfl (by decide) rfl (fun ls hl => ?_)
            refine lv_goto (tgt := 160) hx hb dMH_readHints_187 (by decide) ?_
            exact ih22 (i22 + 1) s22 pl ls H locs (by omega) (by omega) hF hf37 hf38 hf39 hf40 hf41 hf42 hf43 hf44 hR (lv_sub hl [0, 1, 2, 3] rfl) hO hP hD hS
          · replace hR := hR.trans (if_neg h24)
            refine lv_iconst (v := nI 0) hx hb dMH_readHints_182 (by decide) ?_
            exact mp_zret hx hb hr hlk rfl hP hD hS ((nI 0, s22), pl) ⟨⟨hR.symm, rfl, hF, trivial⟩, hO⟩ [] rfl rfl rfl (by omega) (by omega) dMH_readHints_183
      exact lp22 (80 - my21) my21 s21 pl ls _ _ (by omega) (by omega) hF hf21 hf22 hf23 hf24 hf25 hf26 hf27 hf28 hR (lv_sub hl [0, 2, 3, 4] rfl) hO hP hD hS
    | succ n21 ih21 =>
      intro i21 my21 s21 pl ls H locs hm21 hi21 hF hf45 hf46 hf47 hf48 hf49 hf50 hf51 hf52 hR hl hO hP hD hS
      refine lv_iload hx hb dMH_readHints_5 (lv_at hl 0 rfl) ?_
      refine lv_aload_n hx hb dMH_readHints_7 rfl (lv_at hl 2 rfl) ?_
      refine nw_get (C := "LatticeKeysModel$Hands") (TT := T_MH) (N := 31) hx hb hts (wg_ft i_MH) hown hK hO k_h0 (kn := 225) (ci := 12) (fl := [(3, 172), (3, 181), (3, 226), (3, 291), (3, 299), (3, 308), (3, 317), (3, 326), (3, 334), (3, 342), (3, 350), (3, 359), (3, 368), (3, 369), (3, 370), (3, 371), (3, 372), (3, 373), (3, 374), (3, 375), (3, 376), (3, 377), (3, 378), (0, 0), (0, 0), (0, 0), (0, 0), (0, 0), (0, 0), (0, 0), (0, 0)]) rfl hP rfl 24 (by decide) (hts _ (wg_t kw_1456)) (fun _ h9 => h9) (cd := (0, 0)) rfl dMH_readHints_8 (fun v24 hv24 => ?_)
      obtain rfl := (show v24 = .int (s21.1 225 24) from hv24)
      obtain ⟨z24, ez24, hz27, hz28⟩ := cl_of (b := 2147483648) hf46 (by omega) (by decide)
      replace hR := bnd_step hR ez24
      refine mi_as hz27 ?_
      subst hz28
      refine mi_ge (tgt := 157) hx hb dMH_readHints_11 (by decide) (by omega) (by omega) (fun h25 => absurd h25 (by omega)) (fun h25 => ?_)
      refine lv_iconst (v := nI 0) hx hb dMH_readHints_14 (by decide) ?_
      refine lv_istore (lv' := [(5, .int (nI 0)), (4, .int (nI i21)), (3, .int (nI my21)), (0, .ref h0), (1, .ref b), (2, .int (nI fi))]) hx hb dMH_readHints_15 hl (by decide) rfl (fun ls hl => ?_)
      have lp23 : ∀ (n23 : Nat) (i23 : Nat) (s23 : Sto) (pl : va_W) (ls : Array Slot) (H : Heap) (locs : List Loc), n23 + i23 = 256 → frm (M_MH_readHints_0) s s23 → s23.1 225 23 = nI 0 → s23.1 225 24 = nI 4 → s23.1 225 25 = nI 4 → s23.1 225 26 = nI 2 → s23.1 225 27 = nI 131072 → s23.1 225 28 = nI 95232 → s23.1 225 29 = nI 78 → s23.1 225 30 = nI 32 → F_MH_readHints_0 pb fi s = F_MH_readHints_0_L2 pb fi i21 my21 (F_MH_readHints_0_L0 pb fi n21) n23 i23 s23 → lv_has ls 8 [(5, .int (nI i23)), (4, .int (nI i21)), (3, .int (nI my21)), (0, .ref h0), (1, .ref b), (2, .int (nI fi))] → okn g T s23 pl → va_P g.1 vcl ([] ++ pl) H → va_D A ([] ++ pl) → va_S A s0.heap H locs → W p l e ({ frames := 0, cells := 0, slots := 0, locals := 0 } : Room) s0 m args below meth c H locs 0 0 (MQ below (va_Qi (fun (r : Int32) (u : (Int32 × Sto) × va_W) => (u.1 = F_MH_readHints_0 pb fi s ∧ r = u.1.1 ∧ frm (M_MH_readHints_0) s u.1.2 ∧ True) ∧ okn g T u.1.2 u.2) (po g.1 vcl A (fun (u : (Int32 × Sto) × va_W) => [] ++ u.2)) A) args s0 0 0 A) (F0 m 17 ls []) := by
        intro n23
        induction n23 with
        | zero =>
          intro i23 s23 pl ls H locs hm23 hF hf53 hf54 hf55 hf56 hf57 hf58 hf59 hf60 hR hl hO hP hD hS
          refine lv_iload hx hb dMH_readHints_17 (lv_at hl 0 rfl) ?_
          refine lv_sipush (v := nI 256) hx hb dMH_readHints_19 (by decide) ?_
          refine mi_ge (tgt := 42) hx hb dMH_readHints_22 (by decide) (by omega) (by omega) (fun h26 => ?_) (fun h26 => absurd h26 (by omega))
          refine lv_aload_n hx hb dMH_readHints_42 rfl (lv_at hl 4 rfl) ?_
          refine lv_iload_n hx hb dMH_readHints_43 rfl (lv_at hl 5 rfl) ?_
          refine va_gets hx hb (hE.2.1 27 _ rfl).1 hS hown (hts _ (wg_t kw_1912)) (fun _ h9 => h9) dMH_readHints_44 ?_
          refine lv_aload_n hx hb dMH_readHints_47 rfl (lv_at hl 3 rfl) ?_
          refine nw_get (C := "LatticeKeysModel$Hands") (TT := T_MH) (N := 31) hx hb hts (wg_ft i_MH) hown hK hO k_h0 (kn := 225) (ci := 12) (fl := [(3, 172), (3, 181), (3, 226), (3, 291), (3, 299), (3, 308), (3, 317), (3, 326), (3, 334), (3, 342), (3, 350), (3, 359), (3, 368), (3, 369), (3, 370), (3, 371), (3, 372), (3, 373), (3, 374), (3, 375), (3, 376), (3, 377), (3, 378), (0, 0), (0, 0), (0, 0), (0, 0), (0, 0), (0, 0), (0, 0), (0, 0)]) rfl hP rfl 23 (by decide) (hts _ (wg_t kw_1455)) (fun _ h9 => h9) (cd := (0, 0)) rfl dMH_readHints_48 (fun v25 hv25 => ?_)
          obtain rfl := (show v25 = .int (s23.1 225 23) from hv25)
          obtain ⟨z25, ez25, hz29, hz30⟩ := cl_of (b := 2147483648) hf53 (by omega) (by decide)
          replace hR := bnd_step hR ez25
          refine mi_as hz29 ?_
          subst hz30
          refine va_ti (v := .int (nI 80)) hx hb (hE.2.1 27 _ rfl).2 hS (vp_in_nI (by decide) (by decide)) (by decide +kernel) dMH_readHints_51 ?_
          refine mi_iadd hx hb dMH_readHints_52 ?_
          refine lv_iload hx hb dMH_readHints_53 (lv_at hl 1 rfl) ?_
          refine mi_iadd hx hb dMH_readHints_55 ?_
          refine nw_bald hx hb hK hO k_b (k := pb) n_b hP (by omega) (by omega) dMH_readHints_56 ?_
          refine lv_sipush (v := nI 255) hx hb dMH_readHints_57 (by decide) ?_
          refine mi_iandT hx hb 8 dMH_readHints_60 (by decide) (by decide) (fun z26 ez26 hz31 => ?_)
          have hz31 : z26 < 256 := hz31
          replace hR := bnd_step hR ez26
          refine lv_istore (lv' := [(5, .int (nI z26)), (4, .int (nI i21)), (3, .int (nI my21)), (0, .ref h0), (1, .ref b), (2, .int (nI fi))]) hx hb dMH_readHints_61 hl (by decide) rfl (fun ls hl => ?_)
          refine lv_iload hx hb dMH_readHints_63 (lv_at hl 0 rfl) ?_
          refine lv_iload_n hx hb dMH_readHints_65 rfl (lv_at hl 2 rfl) ?_
          refine mi_lt (tgt := 82) hx hb dMH_readHints_66 (by decide) (by omega) (by omega) (fun h27 => ?_) (fun h27 => ?_)
          · replace hR := hR.trans (if_pos h27)
            refine lv_iconst (v := nI 0) hx hb dMH_readHints_82 (by decide) ?_
            exact mp_zret hx hb hr hlk rfl hP hD hS ((nI 0, s23), pl) ⟨⟨hR.symm, rfl, hF, trivial⟩, hO⟩ [] rfl rfl rfl (by omega) (by omega) dMH_readHints_83
          · replace hR := hR.trans (if_neg (Nat.not_lt.mpr h27))
            refine lv_iload hx hb dMH_readHints_69 (lv_at hl 0 rfl) ?_
            refine va_gets hx hb (hE.2.1 27 _ rfl).1 hS hown (hts _ (wg_t kw_1912)) (fun _ h9 => h9) dMH_readHints_71 ?_
            refine lv_aload_n hx hb dMH_readHints_74 rfl (lv_at hl 3 rfl) ?_
            refine nw_get (C := "LatticeKeysModel$Hands") (TT := T_MH) (N := 31) hx hb hts (wg_ft i_MH) hown hK hO k_h0 (kn := 225) (ci := 12) (fl := [(3, 172), (3, 181), (3, 226), (3, 291), (3, 299), (3, 308), (3, 317), (3, 326), (3, 334), (3, 342), (3, 350), (3, 359), (3, 368), (3, 369), (3, 370), (3, 371), (3, 372), (3, 373), (3, 374), (3, 375), (3, 376), (3, 377), (3, 378), (0, 0), (0, 0), (0, 0), (0, 0), (0, 0), (0, 0), (0, 0), (0, 0)]) rfl hP rfl 23 (by decide) (hts _ (wg_t kw_1455)) (fun _ h9 => h9) (cd := (0, 0)) rfl dMH_readHints_75 (fun v26 hv26 => ?_)
            obtain rfl := (show v26 = .int (s23.1 225 23) from hv26)
            obtain ⟨z27, ez27, hz32, hz33⟩ := cl_of (b := 2147483648) hf53 (by omega) (by decide)
            replace hR := bnd_step hR ez27
            refine mi_as hz32 ?_
            subst hz33
            refine va_ti (v := .int (nI 80)) hx hb (hE.2.1 27 _ rfl).2 hS (vp_in_nI (by decide) (by decide)) (by decide +kernel) dMH_readHints_78 ?_
            refine mi_le (tgt := 84) hx hb dMH_readHints_79 (by decide) (by omega) (by omega) (fun h28 => ?_) (fun h28 => ?_)
            · replace hR := hR.trans (if_pos h28)
              refine lv_iload_n hx hb dMH_readHints_84 rfl (lv_at hl 2 rfl) ?_
              refine lv_istore (lv' := [(6, .int (nI my21)), (5, .int (nI z26)), (4, .int (nI i21)), (3, .int (nI my21)), (0, .ref h0), (1, .ref b), (2, .int (nI fi))]) hx hb dMH_readHints_85 hl (by decide) rfl (fun ls hl => ?_)
              have lp24 : ∀ (n24 : Nat) (ii21 : Nat) (s24 : Sto) (pl : va_W) (ls : Array Slot) (H : Heap) (locs : List Loc), n24 = z26 - ii21 → (my21 ≤ ii21) → (ii21 ≤ 80) → frm (M_MH_readHints_0) s s24 → s24.1 225 23 = nI 0 → s24.1 225 24 = nI 4 → s24.1 225 25 = nI 4 → s24.1 225 26 = nI 2 → s24.1 225 27 = nI 131072 → s24.1 225 28 = nI 95232 → s24.1 225 29 = nI 78 → s24.1 225 30 = nI 32 → F_MH_readHints_0 pb fi s = F_MH_readHints_0_L3 pb fi i21 my21 z26 (F_MH_readHints_0_L0 pb fi n21) n24 ii21 s24 → lv_has ls 8 [(6, .int (nI ii21)), (5, .int (nI z26)), (4, .int (nI i21)), (3, .int (nI my21)), (0, .ref h0), (1, .ref b), (2, .int (nI fi))] → okn g T s24 pl → va_P g.1 vcl ([] ++ pl) H → va_D A ([] ++ pl) → va_S A s0.heap H locs → W p l e ({ frames := 0, cells := 0, slots := 0, locals := 0 } : Room) s0 m args below meth c H locs 0 0 (MQ below (va_Qi (fun (r : Int32) (u : (Int32 × Sto) × va_W) => (u.1 = F_MH_readHints_0 pb fi s ∧ r = u.1.1 ∧ frm (M_MH_readHints_0) s u.1.2 ∧ True) ∧ okn g T u.1.2 u.2) (po g.1 vcl A (fun (u : (Int32 × Sto) × va_W) => [] ++ u.2)) A) args s0 0 0 A) (F0 m 87 ls []) := by
                intro n24
                induction n24 with
                | zero =>
                  intro ii21 s24 pl ls H locs hm24 hi23 hi24 hF hf61 hf62 hf63 hf64 hf65 hf66 hf67 hf68 hR hl hO hP hD hS
                  refine lv_iload hx hb dMH_readHints_87 (lv_at hl 0 rfl) ?_
                  refine lv_iload hx hb dMH_readHints_89 (lv_at hl 1 rfl) ?_
                  refine mi_ge (tgt := 148) hx hb dMH_readHints_91 (by decide) (by omega) (by omega) (fun h29 => ?_) (fun h29 => absurd h29 (by omega))
                  refine lv_iload hx hb dMH_readHints_148 (lv_at hl 1 rfl) ?_
                  refine lv_istore_n (lv' := [(3, .int (nI z26)), (6, .int (nI ii21)), (5, .int (nI z26)), (4, .int (nI i21)), (0, .ref h0), (1, .ref b), (2, .int (nI fi))]) hx hb dMH_readHints_150 rfl hl (by decide) rfl (fun ls hl => ?_)
                  refine mi_iinc (k := 3) (x := i21) (d := 1) (y := i21 + 1) (lv' := [(4, .int (nI (i21 + 1))), (3, .int (nI z26)), (6, .int (nI ii21)), (5, .int (nI z26)), (0, .ref h0), (1, .ref b), (2, .int (nI fi))]) hx hb dMH_readHints_151 hl rfl (by decide) rfl (by decide) rfl (fun ls hl => ?_)
                  refine lv_goto (tgt := 5) hx hb dMH_readHints_154 (by decide) ?_
                  exact ih21 (i21 + 1) z26 s24 pl ls H locs (by omega) (by omega) hF hf61 hf62 hf63 hf64 hf65 hf66 hf67 hf68 hR (lv_sub hl [0, 1, 4, 5, 6] rfl) hO hP hD hS
                | succ n24 ih24 =>
                  intro ii21 s24 pl ls H locs hm24 hi23 hi24 hF hf69 hf70 hf71 hf72 hf73 hf74 hf75 hf76 hR hl hO hP hD hS
                  refine lv_iload hx hb dMH_readHints_87 (lv_at hl 0 rfl) ?_
                  refine lv_iload hx hb dMH_readHints_89 (lv_at hl 1 rfl) ?_
                  refine mi_ge (tgt := 148) hx hb dMH_readHints_91 (by decide) (by omega) (by omega) (fun h30 => absurd h30 (by omega)) (fun h30 => ?_)
                  refine lv_aload_n hx hb dMH_readHints_94 rfl (lv_at hl 5 rfl) ?_
                  refine lv_iload_n hx hb dMH_readHints_95 rfl (lv_at hl 6 rfl) ?_
                  refine lv_iload hx hb dMH_readHints_96 (lv_at hl 0 rfl) ?_
                  refine mi_iadd hx hb dMH_readHints_98 ?_
                  refine nw_bald hx hb hK hO k_b (k := pb) n_b hP (by omega) (by omega) dMH_readHints_99 ?_
                  refine lv_sipush (v := nI 255) hx hb dMH_readHints_100 (by decide) ?_
                  refine mi_iandT hx hb 8 dMH_readHints_103 (by decide) (by decide) (fun z28 ez28 hz34 => ?_)
                  have hz34 : z28 < 256 := hz34
                  replace hR := bnd_step hR ez28
                  refine lv_istore (lv' := [(7, .int (nI z28)), (6, .int (nI ii21)), (5, .int (nI z26)), (4, .int (nI i21)), (3, .int (nI my21)), (0, .ref h0), (1, .ref b), (2, .int (nI fi))]) hx hb dMH_readHints_104 hl (by decide) rfl (fun ls hl => ?_)
                  refine lv_iload hx hb dMH_readHints_106 (lv_at hl 1 rfl) ?_
                  refine lv_iload_n hx hb dMH_readHints_108 rfl (lv_at hl 4 rfl) ?_
                  refine mi_le (tgt := 131) hx hb dMH_readHints_109 (by decide) (by omega) (by omega) (fun h31 => ?_) (fun h31 => ?_)
                  · replace hR := hR.trans (if_pos h31)
                    refine lv_aload_n hx hb dMH_readHints_131 rfl (lv_at hl 5 rfl) ?_
                    refine nw_get (C := "LatticeKeysModel$Hands") (TT := T_MH) (N := 31) hx hb hts (wg_ft i_MH) hown hK hO k_h0 (kn := 225) (ci := 12) (fl := [(3, 172), (3, 181), (3, 226), (3, 291), (3, 299), (3, 308), (3, 317), (3, 326), (3, 334), (3, 342), (3, 350), (3, 359), (3, 368), (3, 369), (3, 370), (3, 371), (3, 372), (3, 373), (3, 374), (3, 375), (3, 376), (3, 377), (3, 378), (0, 0), (0, 0), (0, 0), (0, 0), (0, 0), (0, 0), (0, 0), (0, 0)]) rfl hP rfl 11 (by decide) (hts _ (wg_t kw_1443)) (fun _ h9 => h9) (cd := (3, 359)) rfl dMH_readHints_132 (fun v27 hv27 => ?_)
                    obtain ⟨r21, rfl, kr21⟩ := (show ∃ r : Nat, v27 = .ref r ∧ T r = some 359 from hv27)
                    refine lv_iload hx hb dMH_readHints_135 (lv_at hl 3 rfl) ?_
                    refine nw_aald3 hx hb hK hO kr21 (k := 359) (b := 360) rfl hP (by omega) (by omega) dMH_readHints_137 (fun r22 kr22 => ?_)
                    have hn21 : nsp (360 + i21) = (0, 256, []) := rows_ok 360 8 (by decide) _ (by omega)
                    refine lv_iload hx hb dMH_readHints_138 (lv_at hl 0 rfl) ?_
                    refine lv_iconst (v := nI 1) hx hb dMH_readHints_140 (by decide) ?_
                    refine nw_iast hx hb hK hO hU kr22 (k := (360 + i21)) hn21 hP hD hS (by omega) (by omega) dMH_readHints_141 (fun s25 pl H locs es21 hO hP hD hS => ?_)
                    replace hR := bnd_step hR es21
                    have hF := frm_sI hF es21 (by unfold M_MH_readHints_0; omega)
                    have hf77 : s25.1 225 23 = nI 0 := fc_ne hf69 es21 (by omega)
                    have hf78 : s25.1 225 24 = nI 4 := fc_ne hf70 es21 (by omega)
                    have hf79 : s25.1 225 25 = nI 4 := fc_ne hf71 es21 (by omega)
                    have hf80 : s25.1 225 26 = nI 2 := fc_ne hf72 es21 (by omega)
                    have hf81 : s25.1 225 27 = nI 131072 := fc_ne hf73 es21 (by omega)
                    have hf82 : s25.1 225 28 = nI 95232 := fc_ne hf74 es21 (by omega)
                    have hf83 : s25.1 225 29 = nI 78 := fc_ne hf75 es21 (by omega)
                    have hf84 : s25.1 225 30 = nI 32 := fc_ne hf76 es21 (by omega)
                    refine mi_iinc (k := 1) (x := ii21) (d := 1) (y := ii21 + 1) (lv' := [(6, .int (nI (ii21 + 1))), (7, .int (nI z28)), (5, .int (nI z26)), (4, .int (nI i21)), (3, .int (nI my21)), (0, .ref h0), (1, .ref b), (2, .int (nI fi))]) hx hb dMH_readHints_142 hl rfl (by decide) rfl (by decide) rfl (fun ls hl => ?_)
                    refine lv_goto (tgt := 87) hx hb dMH_readHints_145 (by decide) ?_
                    exact ih24 (ii21 + 1) s25 pl ls H locs (by omega) (by omega) (by omega) hF hf77 hf78 hf79 hf80 hf81 hf82 hf83 hf84 hR (lv_sub hl [0, 2, 3, 4, 5, 6, 7] rfl) hO hP hD hS
                  · replace hR := hR.trans (if_neg (Nat.not_le.mpr h31))
                    refine lv_aload_n hx hb dMH_readHints_112 rfl (lv_at hl 6 rfl) ?_
                    refine lv_iload_n hx hb dMH_readHints_113 rfl (lv_at hl 7 rfl) ?_
                    refine lv_iload hx hb dMH_readHints_114 (lv_at hl 1 rfl) ?_
                    refine mi_iadd hx hb dMH_readHints_116 ?_
                    refine lv_iconst (v := nI 1) hx hb dMH_readHints_117 (by decide) ?_
                    refine mi_isub hx hb dMH_readHints_118 (by omega) ?_
                    refine nw_bald hx hb hK hO k_b (k := pb) n_b hP (by omega) (by omega) dMH_readHints_119 ?_
                    refine lv_sipush (v := nI 255) hx hb dMH_readHints_120 (by decide) ?_
                    refine mi_iandT hx hb 8 dMH_readHints_123 (by decide) (by decide) (fun z29 ez29 hz35 => ?_)
                    have hz35 : z29 < 256 := hz35
                    replace hR := bnd_step hR ez29
                    refine lv_iload hx hb dMH_readHints_124 (lv_at hl 0 rfl) ?_
                    refine mi_lt (tgt := 131) hx hb dMH_readHints_126 (by decide) (by omega) (by omega) (fun h32 => ?_) (fun h32 => ?_)
                    · replace hR := hR.trans (if_pos h32)
                      refine lv_aload_n hx hb dMH_readHints_131 rfl (lv_at hl 5 rfl) ?_
                      refine nw_get (C := "LatticeKeysModel$Hands") (TT := T_MH) (N := 31) hx hb hts (wg_ft i_MH) hown hK hO k_h0 (kn := 225) (ci := 12) (fl := [(3, 172), (3, 181), (3, 226), (3, 291), (3, 299), (3, 308), (3, 317), (3, 326), (3, 334), (3, 342), (3, 350), (3, 359), (3, 368), (3, 369), (3, 370), (3, 371), (3, 372), (3, 373), (3, 374), (3, 375), (3, 376), (3, 377), (3, 378), (0, 0), (0, 0), (0, 0), (0, 0), (0, 0), (0, 0), (0, 0), (0, 0)]) rfl hP rfl 11 (by decide) (hts _ (wg_t kw_1443)) (fun _ h9 => h9) (cd := (3, 359)) rfl dMH_readHints_132 (fun v28 hv28 => ?_)
                      obtain ⟨r23, rfl, kr23⟩ := (show ∃ r : Nat, v28 = .ref r ∧ T r = some 359 from hv28)
                      refine lv_iload hx hb dMH_readHints_135 (lv_at hl 3 rfl) ?_
                      refine nw_aald3 hx hb hK hO kr23 (k := 359) (b := 360) rfl hP (by omega) (by omega) dMH_readHints_137 (fun r24 kr24 => ?_)
                      have hn22 : nsp (360 + i21) = (0, 256, []) := rows_ok 360 8 (by decide) _ (by omega)
                      refine lv_iload hx hb dMH_readHints_138 (lv_at hl 0 rfl) ?_
                      refine lv_iconst (v := nI 1) hx hb dMH_readHints_140 (by decide) ?_
                      refine nw_iast hx hb hK hO hU kr24 (k := (360 + i21)) hn22 hP hD hS (by omega) (by omega) dMH_readHints_141 (fun s26 pl H locs es22 hO hP hD hS => ?_)
                      replace hR := bnd_step hR es22
                      have hF := frm_sI hF es22 (by unfold M_MH_readHints_0; omega)
                      have hf85 : s26.1 225 23 = nI 0 := fc_ne hf69 es22 (by omega)
                      have hf86 : s26.1 225 24 = nI 4 := fc_ne hf70 es22 (by omega)
                      have hf87 : s26.1 225 25 = nI 4 := fc_ne hf71 es22 (by omega)
                      have hf88 : s26.1 225 26 = nI 2 := fc_ne hf72 es22 (by omega)
                      have hf89 : s26.1 225 27 = nI 131072 := fc_ne hf73 es22 (by omega)
                      have hf90 : s26.1 225 28 = nI 95232 := fc_ne hf74 es22 (by omega)
                      have hf91 : s26.1 225 29 = nI 78 := fc_ne hf75 es22 (by omega)
                      have hf92 : s26.1 225 30 = nI 32 := fc_ne hf76 es22 (by omega)
                      refine mi_iinc (k := 1) (x := ii21) (d := 1) (y := ii21 + 1) (lv' := [(6, .int (nI (ii21 + 1))), (7, .int (nI z28)), (5, .int (nI z26)), (4, .int (nI i21)), (3, .int (nI my21)), (0, .ref h0), (1, .ref b), (2, .int (nI fi))]) hx hb dMH_readHints_142 hl rfl (by decide) rfl (by decide) rfl (fun ls hl => ?_)
                      refine lv_goto (tgt := 87) hx hb dMH_readHints_145 (by decide) ?_
                      exact ih24 (ii21 + 1) s26 pl ls H locs (by omega) (by omega) (by omega) hF hf85 hf86 hf87 hf88 hf89 hf90 hf91 hf92 hR (lv_sub hl [0, 2, 3, 4, 5, 6, 7] rfl) hO hP hD hS
                    · replace hR := hR.trans (if_neg (Nat.not_lt.mpr h32))
                      refine lv_iconst (v := nI 0) hx hb dMH_readHints_129 (by decide) ?_
                      exact mp_zret hx hb hr hlk rfl hP hD hS ((nI 0, s24), pl) ⟨⟨hR.symm, rfl, hF, trivial⟩, hO⟩ [] rfl rfl rfl (by omega) (by omega) dMH_readHints_130
              exact lp24 (z26 - my21) my21 s23 pl ls _ _ (by omega) (by omega) (by omega) hF hf53 hf54 hf55 hf56 hf57 hf58 hf59 hf60 hR (lv_sub hl [0, 1, 2, 3, 4, 5, 6] rfl) hO hP hD hS
            · replace hR := hR.trans (if_neg (Nat.not_le.mpr h28))
              refine lv_iconst (v := nI 0) hx hb dMH_readHints_82 (by decide) ?_
              exact mp_zret hx hb hr hlk rfl hP hD hS ((nI 0, s23), pl) ⟨⟨hR.symm, rfl, hF, trivial⟩, hO⟩ [] rfl rfl rfl (by omega) (by omega) dMH_readHints_83
        | succ n23 ih23 =>
          intro i23 s23 pl ls H locs hm23 hF hf93 hf94 hf95 hf96 hf97 hf98 hf99 hf100 hR hl hO hP hD hS
          refine lv_iload hx hb dMH_readHints_17 (lv_at hl 0 rfl) ?_
          refine lv_sipush (v := nI 256) hx hb dMH_readHints_19 (by decide) ?_
          refine mi_ge (tgt := 42) hx hb dMH_readHints_22 (by decide) (by omega) (by omega) (fun h33 => absurd h33 (by omega)) (fun h33 => ?_)
          refine lv_aload_n hx hb dMH_readHints_25 rfl (lv_at hl 3 rfl) ?_
          refine nw_get (C := "LatticeKeysModel$Hands") (TT := T_MH) (N := 31) hx hb hts (wg_ft i_MH) hown hK hO k_h0 (kn := 225) (ci := 12) (fl := [(3, 172), (3, 181), (3, 226), (3, 291), (3, 299), (3, 308), (3, 317), (3, 326), (3, 334), (3, 342), (3, 350), (3, 359), (3, 368), (3, 369), (3, 370), (3, 371), (3, 372), (3, 373), (3, 374), (3, 375), (3, 376), (3, 377), (3, 378), (0, 0), (0, 0), (0, 0), (0, 0), (0, 0), (0, 0), (0, 0), (0, 0)]) rfl hP rfl 11 (by decide) (hts _ (wg_t kw_1443)) (fun _ h9 => h9) (cd := (3, 359)) rfl dMH_readHints_26 (fun v29 hv29 => ?_)
          obtain ⟨r25, rfl, kr25⟩ := (show ∃ r : Nat, v29 = .ref r ∧ T r = some 359 from hv29)
          refine lv_iload hx hb dMH_readHints_29 (lv_at hl 1 rfl) ?_
          refine nw_aald3 hx hb hK hO kr25 (k := 359) (b := 360) rfl hP (by omega) (by omega) dMH_readHints_31 (fun r26 kr26 => ?_)
          have hn23 : nsp (360 + i21) = (0, 256, []) := rows_ok 360 8 (by decide) _ (by omega)
          refine lv_iload hx hb dMH_readHints_32 (lv_at hl 0 rfl) ?_
          refine lv_iconst (v := nI 0) hx hb dMH_readHints_34 (by decide) ?_
          refine nw_iast hx hb hK hO hU kr26 (k := (360 + i21)) hn23 hP hD hS (by omega) (by omega) dMH_readHints_35 (fun s27 pl H locs es23 hO hP hD hS => ?_)
          replace hR := bnd_step hR es23
          have hF := frm_sI hF es23 (by unfold M_MH_readHints_0; omega)
          have hf101 : s27.1 225 23 = nI 0 := fc_ne hf93 es23 (by omega)
          have hf102 : s27.1 225 24 = nI 4 := fc_ne hf94 es23 (by omega)
          have hf103 : s27.1 225 25 = nI 4 := fc_ne hf95 es23 (by omega)
          have hf104 : s27.1 225 26 = nI 2 := fc_ne hf96 es23 (by omega)
          have hf105 : s27.1 225 27 = nI 131072 := fc_ne hf97 es23 (by omega)
          have hf106 : s27.1 225 28 = nI 95232 := fc_ne hf98 es23 (by omega)
          have hf107 : s27.1 225 29 = nI 78 := fc_ne hf99 es23 (by omega)
          have hf108 : s27.1 225 30 = nI 32 := fc_ne hf100 es23 (by omega)
          refine mi_iinc (k := 0) (x := i23) (d := 1) (y := i23 + 1) (lv' := [(5, .int (nI (i23 + 1))), (4, .int (nI i21)), (3, .int (nI my21)), (0, .ref h0), (1, .ref b), (2, .int (nI fi))]) hx hb dMH_readHints_36 hl rfl (by decide) rfl (by decide) rfl (fun ls hl => ?_)
          refine lv_goto (tgt := 17) hx hb dMH_readHints_39 (by decide) ?_
          exact ih23 (i23 + 1) s27 pl ls H locs (by omega) hF hf101 hf102 hf103 hf104 hf105 hf106 hf107 hf108 hR (lv_sub hl [0, 1, 2, 3, 4, 5] rfl) hO hP hD hS
      exact lp23 256 0 s21 pl ls _ _ (by omega) hF hf45 hf46 hf47 hf48 hf49 hf50 hf51 hf52 hR (lv_sub hl [0, 1, 2, 3, 4, 5] rfl) hO hP hD hS
  exact lp21 4 0 0 s pl ls _ _ (by omega) (by omega) hF e_c0 e_c1 e_c2 e_c3 e_c4 e_c5 e_c6 e_c7 hR (lv_sub hl [0, 1, 2, 3, 4] rfl) hO hP hD hS
def M_MH_readHints_1 (k : Nat) : Prop := (360 ≤ k ∧ k < 368) ∨ (0 : Nat) = 1
noncomputable def F_MH_readHints_1_L3 (pb : Nat) (fi : Nat) (i21 : Nat) (my21 : Nat) (z26 : Nat) (kk : Nat → Nat → Sto → Int32 × Sto) : Nat → Nat → Sto → Int32 × Sto
  | 0, ii21, s24 => kk (i21 + 1) z26 s24
  | n24 + 1, ii21, s24 => bnd (((s24.1 pb (fi + ii21)) &&& nI 255).toNatClampNeg) fun z28 => if ii21 ≤ my21 then bnd (sI s24 ((360 + i21)) z28 (nI 1)) fun s25 => F_MH_readHints_1_L3 pb fi i21 my21 z26 kk n24 (ii21 + 1) s25 else bnd (((s24.1 pb ((fi + ii21) - 1)) &&& nI 255).toNatClampNeg) fun z29 => if z29 < z28 then bnd (sI s24 ((360 + i21)) z28 (nI 1)) fun s26 => F_MH_readHints_1_L3 pb fi i21 my21 z26 kk n24 (ii21 + 1) s26 else (nI 0, s24)
noncomputable def F_MH_readHints_1_L2 (pb : Nat) (fi : Nat) (i21 : Nat) (my21 : Nat) (kk : Nat → Nat → Sto → Int32 × Sto) : Nat → Nat → Sto → Int32 × Sto
  | 0, i23, s23 => bnd ((s23.1 225 23).toNatClampNeg) fun z25 => bnd (((s23.1 pb ((fi + 55) + i21)) &&& nI 255).toNatClampNeg) fun z26 => if z26 < my21 then (nI 0, s23) else bnd ((s23.1 225 23).toNatClampNeg) fun z27 => if z26 ≤ 55 then F_MH_readHints_1_L3 pb fi i21 my21 z26 (kk) (z26 - my21) my21 s23 else (nI 0, s23)
  | n23 + 1, i23, s23 => bnd (sI s23 ((360 + i21)) i23 (nI 0)) fun s27 => F_MH_readHints_1_L2 pb fi i21 my21 kk n23 (i23 + 1) s27
noncomputable def F_MH_readHints_1_L1 (pb : Nat) (fi : Nat) : Nat → Nat → Sto → Int32 × Sto
  | 0, i22, s22 => bnd ((s22.1 225 23).toNatClampNeg) fun z22 => (nI 1, s22)
  | n22 + 1, i22, s22 => bnd ((s22.1 225 23).toNatClampNeg) fun z23 => if (s22.1 pb (fi + i22)) = 0 then F_MH_readHints_1_L1 pb fi n22 (i22 + 1) s22 else (nI 0, s22)
noncomputable def F_MH_readHints_1_L0 (pb : Nat) (fi : Nat) : Nat → Nat → Nat → Sto → Int32 × Sto
  | 0, i21, my21, s21 => bnd ((s21.1 225 24).toNatClampNeg) fun z21 => F_MH_readHints_1_L1 pb fi (55 - my21) my21 s21
  | n21 + 1, i21, my21, s21 => bnd ((s21.1 225 24).toNatClampNeg) fun z24 => F_MH_readHints_1_L2 pb fi i21 my21 (F_MH_readHints_1_L0 pb fi n21) 256 0 s21
noncomputable def F_MH_readHints_1 (pb : Nat) (fi : Nat) (s : Sto) : Int32 × Sto := F_MH_readHints_1_L0 pb fi 6 0 0 s
set_option maxHeartbeats 8000000 in
set_option maxRecDepth 100000 in
theorem N_MH_readHints_1 (l : Launch) (g : Gd) (sz : Nat) (T : TyN) (s : Sto) (pl : va_W) (hO : okn g T s pl) (hU : inj T) (h0 b : Nat) (pb : Nat) (fi : Nat) (k_h0 : T h0 = some 225) (k_b : T b = some pb) (n_b : nsp pb = (1, 16384, [])) (e_c0 : s.1 225 23 = nI 1) (e_c1 : s.1 225 24 = nI 6) (e_c2 : s.1 225 25 = nI 5) (e_c3 : s.1 225 26 = nI 4) (e_c4 : s.1 225 27 = nI 524288) (e_c5 : s.1 225 28 = nI 261888) (e_c6 : s.1 225 29 = nI 196) (e_c7 : s.1 225 30 = nI 48) (h1 : fi + 61 ≤ 16384)  : Met l y_MH_readHints w_MH_readHints ({ frames := 0, cells := 0, slots := 0, locals := 0 } : Room) (va_Pc [.ref h0, .ref b, .int (nI fi)] (pr (en g) g.1 vcl sz ([] ++ pl))) (va_Qi (fun (r : Int32) (u : (Int32 × Sto) × va_W) => (u.1 = F_MH_readHints_1 pb fi s ∧ r = u.1.1 ∧ frm (M_MH_readHints_1) s u.1.2 ∧ True) ∧ okn g T u.1.2 u.2) (po g.1 vcl (va_A ([] ++ pl) sz) (fun (u : (Int32 × Sto) × va_W) => [] ++ u.2)) (va_A ([] ++ pl) sz)) 0 0 (va_A ([] ++ pl) sz) := by
  refine mc_entry (cc := c_MH_readHints) (maxL := 8) (ret := (some .boolean)) (by decide) rfl (Nat.le_of_ble_eq_true rfl) ?_
  intro p e s0 m args below meth c ls F hr hlk hnm hsz hP hD hE hA hl
  obtain ⟨hx, hb, hml, hown, hts⟩ := id F
  have hK := hE.1
  generalize va_A ([] ++ pl) sz = A at hD hE hA ⊢
  have hS : va_S A s0.heap s0.heap [] := va_S.rf
  have hl : lv_has ls 8 [(0, .ref h0), (1, .ref b), (2, .int (nI fi))] := hl
  have hR : F_MH_readHints_1 pb fi s = F_MH_readHints_1 pb fi s := rfl
  have hF : frm (M_MH_readHints_1) s s := frm_rf
  have ne_172_pb : 172 ≠ pb := nsp_ne (p := 172) rfl n_b (show (5 : Nat) ≠ 1 by decide)
  have ne_225_pb : 225 ≠ pb := nsp_ne (p := 225) rfl n_b (show (5 : Nat) ≠ 1 by decide)
  refine lv_iconst (v := nI 0) hx hb dMH_readHints_0 (by decide) ?_
  refine lv_istore_n (lv' := [(3, .int (nI 0)), (0, .ref h0), (1, .ref b), (2, .int (nI fi))]) hx hb dMH_readHints_1 rfl hl (by decide) rfl (fun ls hl => ?_)
  refine lv_iconst (v := nI 0) hx hb dMH_readHints_2 (by decide) ?_
  refine lv_istore (lv' := [(4, .int (nI 0)), (3, .int (nI 0)), (0, .ref h0), (1, .ref b), (2, .int (nI fi))]) hx hb dMH_readHints_3 hl (by decide) rfl (fun ls hl => ?_)
  have lp21 : ∀ (n21 : Nat) (i21 : Nat) (my21 : Nat) (s21 : Sto) (pl : va_W) (ls : Array Slot) (H : Heap) (locs : List Loc), n21 + i21 = 6 → (my21 ≤ 55) → frm (M_MH_readHints_1) s s21 → s21.1 225 23 = nI 1 → s21.1 225 24 = nI 6 → s21.1 225 25 = nI 5 → s21.1 225 26 = nI 4 → s21.1 225 27 = nI 524288 → s21.1 225 28 = nI 261888 → s21.1 225 29 = nI 196 → s21.1 225 30 = nI 48 → F_MH_readHints_1 pb fi s = F_MH_readHints_1_L0 pb fi n21 i21 my21 s21 → lv_has ls 8 [(4, .int (nI i21)), (3, .int (nI my21)), (0, .ref h0), (1, .ref b), (2, .int (nI fi))] → okn g T s21 pl → va_P g.1 vcl ([] ++ pl) H → va_D A ([] ++ pl) → va_S A s0.heap H locs → W p l e ({ frames := 0, cells := 0, slots := 0, locals := 0 } : Room) s0 m args below meth c H locs 0 0 (MQ below (va_Qi (fun (r : Int32) (u : (Int32 × Sto) × va_W) => (u.1 = F_MH_readHints_1 pb fi s ∧ r = u.1.1 ∧ frm (M_MH_readHints_1) s u.1.2 ∧ True) ∧ okn g T u.1.2 u.2) (po g.1 vcl A (fun (u : (Int32 × Sto) × va_W) => [] ++ u.2)) A) args s0 0 0 A) (F0 m 5 ls []) := by
    intro n21
    induction n21 with
    | zero =>
      intro i21 my21 s21 pl ls H locs hm21 hi21 hF hf21 hf22 hf23 hf24 hf25 hf26 hf27 hf28 hR hl hO hP hD hS
      refine lv_iload hx hb dMH_readHints_5 (lv_at hl 0 rfl) ?_
      refine lv_aload_n hx hb dMH_readHints_7 rfl (lv_at hl 2 rfl) ?_
      refine nw_get (C := "LatticeKeysModel$Hands") (TT := T_MH) (N := 31) hx hb hts (wg_ft i_MH) hown hK hO k_h0 (kn := 225) (ci := 12) (fl := [(3, 172), (3, 181), (3, 226), (3, 291), (3, 299), (3, 308), (3, 317), (3, 326), (3, 334), (3, 342), (3, 350), (3, 359), (3, 368), (3, 369), (3, 370), (3, 371), (3, 372), (3, 373), (3, 374), (3, 375), (3, 376), (3, 377), (3, 378), (0, 0), (0, 0), (0, 0), (0, 0), (0, 0), (0, 0), (0, 0), (0, 0)]) rfl hP rfl 24 (by decide) (hts _ (wg_t kw_1456)) (fun _ h9 => h9) (cd := (0, 0)) rfl dMH_readHints_8 (fun v21 hv21 => ?_)
      obtain rfl := (show v21 = .int (s21.1 225 24) from hv21)
      obtain ⟨z21, ez21, hz21, hz22⟩ := cl_of (b := 2147483648) hf22 (by omega) (by decide)
      replace hR := bnd_step hR ez21
      refine mi_as hz21 ?_
      subst hz22
      refine mi_ge (tgt := 157) hx hb dMH_readHints_11 (by decide) (by omega) (by omega) (fun h21 => ?_) (fun h21 => absurd h21 (by omega))
      refine lv_iload_n hx hb dMH_readHints_157 rfl (lv_at hl 1 rfl) ?_
      refine lv_istore (lv' := [(4, .int (nI my21)), (3, .int (nI my21)), (0, .ref h0), (1, .ref b), (2, .int (nI fi))]) hx hb dMH_readHints_158 hl (by decide) rfl (fun ls hl => ?_)
      have lp22 : ∀ (n22 : Nat) (i22 : Nat) (s22 : Sto) (pl : va_W) (ls : Array Slot) (H : Heap) (locs : List Loc), n22 + i22 = 55 → (my21 ≤ i22) → frm (M_MH_readHints_1) s s22 → s22.1 225 23 = nI 1 → s22.1 225 24 = nI 6 → s22.1 225 25 = nI 5 → s22.1 225 26 = nI 4 → s22.1 225 27 = nI 524288 → s22.1 225 28 = nI 261888 → s22.1 225 29 = nI 196 → s22.1 225 30 = nI 48 → F_MH_readHints_1 pb fi s = F_MH_readHints_1_L1 pb fi n22 i22 s22 → lv_has ls 8 [(4, .int (nI i22)), (0, .ref h0), (1, .ref b), (2, .int (nI fi))] → okn g T s22 pl → va_P g.1 vcl ([] ++ pl) H → va_D A ([] ++ pl) → va_S A s0.heap H locs → W p l e ({ frames := 0, cells := 0, slots := 0, locals := 0 } : Room) s0 m args below meth c H locs 0 0 (MQ below (va_Qi (fun (r : Int32) (u : (Int32 × Sto) × va_W) => (u.1 = F_MH_readHints_1 pb fi s ∧ r = u.1.1 ∧ frm (M_MH_readHints_1) s u.1.2 ∧ True) ∧ okn g T u.1.2 u.2) (po g.1 vcl A (fun (u : (Int32 × Sto) × va_W) => [] ++ u.2)) A) args s0 0 0 A) (F0 m 160 ls []) := by
        intro n22
        induction n22 with
        | zero =>
          intro i22 s22 pl ls H locs hm22 hi22 hF hf29 hf30 hf31 hf32 hf33 hf34 hf35 hf36 hR hl hO hP hD hS
          refine lv_iload hx hb dMH_readHints_160 (lv_at hl 0 rfl) ?_
          refine va_gets hx hb (hE.2.1 27 _ rfl).1 hS hown (hts _ (wg_t kw_1912)) (fun _ h9 => h9) dMH_readHints_162 ?_
          refine lv_aload_n hx hb dMH_readHints_165 rfl (lv_at hl 1 rfl) ?_
          refine nw_get (C := "LatticeKeysModel$Hands") (TT := T_MH) (N := 31) hx hb hts (wg_ft i_MH) hown hK hO k_h0 (kn := 225) (ci := 12) (fl := [(3, 172), (3, 181), (3, 226), (3, 291), (3, 299), (3, 308), (3, 317), (3, 326), (3, 334), (3, 342), (3, 350), (3, 359), (3, 368), (3, 369), (3, 370), (3, 371), (3, 372), (3, 373), (3, 374), (3, 375), (3, 376), (3, 377), (3, 378), (0, 0), (0, 0), (0, 0), (0, 0), (0, 0), (0, 0), (0, 0), (0, 0)]) rfl hP rfl 23 (by decide) (hts _ (wg_t kw_1455)) (fun _ h9 => h9) (cd := (0, 0)) rfl dMH_readHints_166 (fun v22 hv22 => ?_)
          obtain rfl := (show v22 = .int (s22.1 225 23) from hv22)
          obtain ⟨z22, ez22, hz23, hz24⟩ := cl_of (b := 2147483648) hf29 (by omega) (by decide)
          replace hR := bnd_step hR ez22
          refine mi_as hz23 ?_
          subst hz24
          refine va_ti (v := .int (nI 55)) hx hb (hE.2.1 27 _ rfl).2 hS (vp_in_nI (by decide) (by decide)) (by decide +kernel) dMH_readHints_169 ?_
          refine mi_ge (tgt := 190) hx hb dMH_readHints_170 (by decide) (by omega) (by omega) (fun h22 => ?_) (fun h22 => absurd h22 (by omega))
          refine lv_iconst (v := nI 1) hx hb dMH_readHints_190 (by decide) ?_
          exact mp_zret hx hb hr hlk rfl hP hD hS ((nI 1, s22), pl) ⟨⟨hR.symm, rfl, hF, trivial⟩, hO⟩ [] rfl rfl rfl (by omega) (by omega) dMH_readHints_191
        | succ n22 ih22 =>
          intro i22 s22 pl ls H locs hm22 hi22 hF hf37 hf38 hf39 hf40 hf41 hf42 hf43 hf44 hR hl hO hP hD hS
          refine lv_iload hx hb dMH_readHints_160 (lv_at hl 0 rfl) ?_
          refine va_gets hx hb (hE.2.1 27 _ rfl).1 hS hown (hts _ (wg_t kw_1912)) (fun _ h9 => h9) dMH_readHints_162 ?_
          refine lv_aload_n hx hb dMH_readHints_165 rfl (lv_at hl 1 rfl) ?_
          refine nw_get (C := "LatticeKeysModel$Hands") (TT := T_MH) (N := 31) hx hb hts (wg_ft i_MH) hown hK hO k_h0 (kn := 225) (ci := 12) (fl := [(3, 172), (3, 181), (3, 226), (3, 291), (3, 299), (3, 308), (3, 317), (3, 326), (3, 334), (3, 342), (3, 350), (3, 359), (3, 368), (3, 369), (3, 370), (3, 371), (3, 372), (3, 373), (3, 374), (3, 375), (3, 376), (3, 377), (3, 378), (0, 0), (0, 0), (0, 0), (0, 0), (0, 0), (0, 0), (0, 0), (0, 0)]) rfl hP rfl 23 (by decide) (hts _ (wg_t kw_1455)) (fun _ h9 => h9) (cd := (0, 0)) rfl dMH_readHints_166 (fun v23 hv23 => ?_)
          obtain rfl := (show v23 = .int (s22.1 225 23) from hv23)
          obtain ⟨z23, ez23, hz25, hz26⟩ := cl_of (b := 2147483648) hf37 (by omega) (by decide)
          replace hR := bnd_step hR ez23
          refine mi_as hz25 ?_
          subst hz26
          refine va_ti (v := .int (nI 55)) hx hb (hE.2.1 27 _ rfl).2 hS (vp_in_nI (by decide) (by decide)) (by decide +kernel) dMH_readHints_169 ?_
          refine mi_ge (tgt := 190) hx hb dMH_readHints_170 (by decide) (by omega) (by omega) (fun h23 => absurd h23 (by omega)) (fun h23 => ?_)
          refine lv_aload_n hx hb dMH_readHints_173 rfl (lv_at hl 2 rfl) ?_
          refine lv_iload_n hx hb dMH_readHints_174 rfl (lv_at hl 3 rfl) ?_
          refine lv_iload hx hb dMH_readHints_175 (lv_at hl 0 rfl) ?_
          refine mi_iadd hx hb dMH_readHints_177 ?_
          refine nw_bald hx hb hK hO k_b (k := pb) n_b hP (by omega) (by omega) dMH_readHints_178 ?_
          refine lv_if_eq (tgt := 184) hx hb dMH_readHints_179 (by decide) (fun h24 => ?_) (fun h24 => ?_)
          · replace hR := hR.trans (if_pos h24)
            refine mi_iinc (k := 0) (x := i22) (d := 1) (y := i22 + 1) (lv' := [(4, .int (nI (i22 + 1))), (0, .ref h0), (1, .ref b), (2, .int (nI fi))]) hx hb dMH_readHints_184 hl rfl (by decide) rfl (by decide) rfl (fun ls hl => ?_)
            refine lv_goto (tgt := 160) hx hb dMH_readHints_187 (by decide) ?_
            exact ih22 (i22 + 1) s22 pl ls H locs (by omega) (by omega) hF hf37 hf38 hf39 hf40 hf41 hf42 hf43 hf44 hR (lv_sub hl [0, 1, 2, 3] rfl) hO hP hD hS
          · replace hR := hR.trans (if_neg h24)
            refine lv_iconst (v := nI 0) hx hb dMH_readHints_182 (by decide) ?_
            exact mp_zret hx hb hr hlk rfl hP hD hS ((nI 0, s22), pl) ⟨⟨hR.symm, rfl, hF, trivial⟩, hO⟩ [] rfl rfl rfl (by omega) (by omega) dMH_readHints_183
      exact lp22 (55 - my21) my21 s21 pl ls _ _ (by omega) (by omega) hF hf21 hf22 hf23 hf24 hf25 hf26 hf27 hf28 hR (lv_sub hl [0, 2, 3, 4] rfl) hO hP hD hS
    | succ n21 ih21 =>
      intro i21 my21 s21 pl ls H locs hm21 hi21 hF hf45 hf46 hf47 hf48 hf49 hf50 hf51 hf52 hR hl hO hP hD hS
      refine lv_iload hx hb dMH_readHints_5 (lv_at hl 0 rfl) ?_
      refine lv_aload_n hx hb dMH_readHints_7 rfl (lv_at hl 2 rfl) ?_
      refine nw_get (C := "LatticeKeysModel$Hands") (TT := T_MH) (N := 31) hx hb hts (wg_ft i_MH) hown hK hO k_h0 (kn := 225) (ci := 12) (fl := [(3, 172), (3, 181), (3, 226), (3, 291), (3, 299), (3, 308), (3, 317), (3, 326), (3, 334), (3, 342), (3, 350), (3, 359), (3, 368), (3, 369), (3, 370), (3, 371), (3, 372), (3, 373), (3, 374), (3, 375), (3, 376), (3, 377), (3, 378), (0, 0), (0, 0), (0, 0), (0, 0), (0, 0), (0, 0), (0, 0), (0, 0)]) rfl hP rfl 24 (by decide) (hts _ (wg_t kw_1456)) (fun _ h9 => h9) (cd := (0, 0)) rfl dMH_readHints_8 (fun v24 hv24 => ?_)
      obtain rfl := (show v24 = .int (s21.1 225 24) from hv24)
      obtain ⟨z24, ez24, hz27, hz28⟩ := cl_of (b := 2147483648) hf46 (by omega) (by decide)
      replace hR := bnd_step hR ez24
      refine mi_as hz27 ?_
      subst hz28
      refine mi_ge (tgt := 157) hx hb dMH_readHints_11 (by decide) (by omega) (by omega) (fun h25 => absurd h25 (by omega)) (fun h25 => ?_)
      refine lv_iconst (v := nI 0) hx hb dMH_readHints_14 (by decide) ?_
      refine lv_istore (lv' := [(5, .int (nI 0)), (4, .int (nI i21)), (3, .int (nI my21)), (0, .ref h0), (1, .ref b), (2, .int (nI fi))]) hx hb dMH_readHints_15 hl (by decide) rfl (fun ls hl => ?_)
      have lp23 : ∀ (n23 : Nat) (i23 : Nat) (s23 : Sto) (pl : va_W) (ls : Array Slot) (H : Heap) (locs : List Loc), n23 + i23 = 256 → frm (M_MH_readHints_1) s s23 → s23.1 225 23 = nI 1 → s23.1 225 24 = nI 6 → s23.1 225 25 = nI 5 → s23.1 225 26 = nI 4 → s23.1 225 27 = nI 524288 → s23.1 225 28 = nI 261888 → s23.1 225 29 = nI 196 → s23.1 225 30 = nI 48 → F_MH_readHints_1 pb fi s = F_MH_readHints_1_L2 pb fi i21 my21 (F_MH_readHints_1_L0 pb fi n21) n23 i23 s23 → lv_has ls 8 [(5, .int (nI i23)), (4, .int (nI i21)), (3, .int (nI my21)), (0, .ref h0), (1, .ref b), (2, .int (nI fi))] → okn g T s23 pl → va_P g.1 vcl ([] ++ pl) H → va_D A ([] ++ pl) → va_S A s0.heap H locs → W p l e ({ frames := 0, cells := 0, slots := 0, locals := 0 } : Room) s0 m args below meth c H locs 0 0 (MQ below (va_Qi (fun (r : Int32) (u : (Int32 × Sto) × va_W) => (u.1 = F_MH_readHints_1 pb fi s ∧ r = u.1.1 ∧ frm (M_MH_readHints_1) s u.1.2 ∧ True) ∧ okn g T u.1.2 u.2) (po g.1 vcl A (fun (u : (Int32 × Sto) × va_W) => [] ++ u.2)) A) args s0 0 0 A) (F0 m 17 ls []) := by
        intro n23
        induction n23 with
        | zero =>
          intro i23 s23 pl ls H locs hm23 hF hf53 hf54 hf55 hf56 hf57 hf58 hf59 hf60 hR hl hO hP hD hS
          refine lv_iload hx hb dMH_readHints_17 (lv_at hl 0 rfl) ?_
          refine lv_sipush (v := nI 256) hx hb dMH_readHints_19 (by decide) ?_
          refine mi_ge (tgt := 42) hx hb dMH_readHints_22 (by decide) (by omega) (by omega) (fun h26 => ?_) (fun h26 => absurd h26 (by omega))
          refine lv_aload_n hx hb dMH_readHints_42 rfl (lv_at hl 4 rfl) ?_
          refine lv_iload_n hx hb dMH_readHints_43 rfl (lv_at hl 5 rfl) ?_
          refine va_gets hx hb (hE.2.1 27 _ rfl).1 hS hown (hts _ (wg_t kw_1912)) (fun _ h9 => h9) dMH_readHints_44 ?_
          refine lv_aload_n hx hb dMH_readHints_47 rfl (lv_at hl 3 rfl) ?_
          refine nw_get (C := "LatticeKeysModel$Hands") (TT := T_MH) (N := 31) hx hb hts (wg_ft i_MH) hown hK hO k_h0 (kn := 225) (ci := 12) (fl := [(3, 172), (3, 181), (3, 226), (3, 291), (3, 299), (3, 308), (3, 317), (3, 326), (3, 334), (3, 342), (3, 350), (3, 359), (3, 368), (3, 369), (3, 370), (3, 371), (3, 372), (3, 373), (3, 374), (3, 375), (3, 376), (3, 377), (3, 378), (0, 0), (0, 0), (0, 0), (0, 0), (0, 0), (0, 0), (0, 0), (0, 0)]) rfl hP rfl 23 (by decide) (hts _ (wg_t kw_1455)) (fun _ h9 => h9) (cd := (0, 0)) rfl dMH_readHints_48 (fun v25 hv25 => ?_)
          obtain rfl := (show v25 = .int (s23.1 225 23) from hv25)
          obtain ⟨z25, ez25, hz29, hz30⟩ := cl_of (b := 2147483648) hf53 (by omega) (by decide)
          replace hR := bnd_step hR ez25
          refine mi_as hz29 ?_
          subst hz30
          refine va_ti (v := .int (nI 55)) hx hb (hE.2.1 27 _ rfl).2 hS (vp_in_nI (by decide) (by decide)) (by decide +kernel) dMH_readHints_51 ?_
          refine mi_iadd hx hb dMH_readHints_52 ?_
          refine lv_iload hx hb dMH_readHints_53 (lv_at hl 1 rfl) ?_
          refine mi_iadd hx hb dMH_readHints_55 ?_
          refine nw_bald hx hb hK hO k_b (k := pb) n_b hP (by omega) (by omega) dMH_readHints_56 ?_
          refine lv_sipush (v := nI 255) hx hb dMH_readHints_57 (by decide) ?_
          refine mi_iandT hx hb 8 dMH_readHints_60 (by decide) (by decide) (fun z26 ez26 hz31 => ?_)
          have hz31 : z26 < 256 := hz31
          replace hR := bnd_step hR ez26
          refine lv_istore (lv' := [(5, .int (nI z26)), (4, .int (nI i21)), (3, .int (nI my21)), (0, .ref h0), (1, .ref b), (2, .int (nI fi))]) hx hb dMH_readHints_61 hl (by decide) rfl (fun ls hl => ?_)
          refine lv_iload hx hb dMH_readHints_63 (lv_at hl 0 rfl) ?_
          refine lv_iload_n hx hb dMH_readHints_65 rfl (lv_at hl 2 rfl) ?_
          refine mi_lt (tgt := 82) hx hb dMH_readHints_66 (by decide) (by omega) (by omega) (fun h27 => ?_) (fun h27 => ?_)
          · replace hR := hR.trans (if_pos h27)
            refine lv_iconst (v := nI 0) hx hb dMH_readHints_82 (by decide) ?_
            exact mp_zret hx hb hr hlk rfl hP hD hS ((nI 0, s23), pl) ⟨⟨hR.symm, rfl, hF, trivial⟩, hO⟩ [] rfl rfl rfl (by omega) (by omega) dMH_readHints_83
          · replace hR := hR.trans (if_neg (Nat.not_lt.mpr h27))
            refine lv_iload hx hb dMH_readHints_69 (lv_at hl 0 rfl) ?_
            refine va_gets hx hb (hE.2.1 27 _ rfl).1 hS hown (hts _ (wg_t kw_1912)) (fun _ h9 => h9) dMH_readHints_71 ?_
            refine lv_aload_n hx hb dMH_readHints_74 rfl (lv_at hl 3 rfl) ?_
            refine nw_get (C := "LatticeKeysModel$Hands") (TT := T_MH) (N := 31) hx hb hts (wg_ft i_MH) hown hK hO k_h0 (kn := 225) (ci := 12) (fl := [(3, 172), (3, 181), (3, 226), (3, 291), (3, 299), (3, 308), (3, 317), (3, 326), (3, 334), (3, 342), (3, 350), (3, 359), (3, 368), (3, 369), (3, 370), (3, 371), (3, 372), (3, 373), (3, 374), (3, 375), (3, 376), (3, 377), (3, 378), (0, 0), (0, 0), (0, 0), (0, 0), (0, 0), (0, 0), (0, 0), (0, 0)]) rfl hP rfl 23 (by decide) (hts _ (wg_t kw_1455)) (fun _ h9 => h9) (cd := (0, 0)) rfl dMH_readHints_75 (fun v26 hv26 => ?_)
            obtain rfl := (show v26 = .int (s23.1 225 23) from hv26)
            obtain ⟨z27, ez27, hz32, hz33⟩ := cl_of (b := 2147483648) hf53 (by omega) (by decide)
            replace hR := bnd_step hR ez27
            refine mi_as hz32 ?_
            subst hz33
            refine va_ti (v := .int (nI 55)) hx hb (hE.2.1 27 _ rfl).2 hS (vp_in_nI (by decide) (by decide)) (by decide +kernel) dMH_readHints_78 ?_
            refine mi_le (tgt := 84) hx hb dMH_readHints_79 (by decide) (by omega) (by omega) (fun h28 => ?_) (fun h28 => ?_)
            · replace hR := hR.trans (if_pos h28)
              refine lv_iload_n hx hb dMH_readHints_84 rfl (lv_at hl 2 rfl) ?_
              refine lv_istore (lv' := [(6, .int (nI my21)), (5, .int (nI z26)), (4, .int (nI i21)), (3, .int (nI my21)), (0, .ref h0), (1, .ref b), (2, .int (nI fi))]) hx hb dMH_readHints_85 hl (by decide) rfl (fun ls hl => ?_)
              have lp24 : ∀ (n24 : Nat) (ii21 : Nat) (s24 : Sto) (pl : va_W) (ls : Array Slot) (H : Heap) (locs : List Loc), n24 = z26 - ii21 → (my21 ≤ ii21) → (ii21 ≤ 55) → frm (M_MH_readHints_1) s s24 → s24.1 225 23 = nI 1 → s24.1 225 24 = nI 6 → s24.1 225 25 = nI 5 → s24.1 225 26 = nI 4 → s24.1 225 27 = nI 524288 → s24.1 225 28 = nI 261888 → s24.1 225 29 = nI 196 → s24.1 225 30 = nI 48 → F_MH_readHints_1 pb fi s = F_MH_readHints_1_L3 pb fi i21 my21 z26 (F_MH_readHints_1_L0 pb fi n21) n24 ii21 s24 → lv_has ls 8 [(6, .int (nI ii21)), (5, .int (nI z26)), (4, .int (nI i21)), (3, .int (nI my21)), (0, .ref h0), (1, .ref b), (2, .int (nI fi))] → okn g T s24 pl → va_P g.1 vcl ([] ++ pl) H → va_D A ([] ++ pl) → va_S A s0.heap H locs → W p l e ({ frames := 0, cells := 0, slots := 0, locals := 0 } : Room) s0 m args below meth c H locs 0 0 (MQ below (va_Qi (fun (r : Int32) (u : (Int32 × Sto) × va_W) => (u.1 = F_MH_readHints_1 pb fi s ∧ r = u.1.1 ∧ frm (M_MH_readHints_1) s u.1.2 ∧ True) ∧ okn g T u.1.2 u.2) (po g.1 vcl A (fun (u : (Int32 × Sto) × va_W) => [] ++ u.2)) A) args s0 0 0 A) (F0 m 87 ls []) := by
                intro n24
                induction n24 with
                | zero =>
                  intro ii21 s24 pl ls H locs hm24 hi23 hi24 hF hf61 hf62 hf63 hf64 hf65 hf66 hf67 hf68 hR hl hO hP hD hS
                  refine lv_iload hx hb dMH_readHints_87 (lv_at hl 0 rfl) ?_
                  refine lv_iload hx hb dMH_readHints_89 (lv_at hl 1 rfl) ?_
                  refine mi_ge (tgt := 148) hx hb dMH_readHints_91 (by decide) (by omega) (by omega) (fun h29 => ?_) (fun h29 => absurd h29 (by omega))
                  refine lv_iload hx hb dMH_readHints_148 (lv_at hl 1 rfl) ?_
                  refine lv_istore_n (lv' := [(3, .int (nI z26)), (6, .int (nI ii21)), (5, .int (nI z26)), (4, .int (nI i21)), (0, .ref h0), (1, .ref b), (2, .int (nI fi))]) hx hb dMH_readHints_150 rfl hl (by decide) rfl (fun ls hl => ?_)
                  refine mi_iinc (k := 3) (x := i21) (d := 1) (y := i21 + 1) (lv' := [(4, .int (nI (i21 + 1))), (3, .int (nI z26)), (6, .int (nI ii21)), (5, .int (nI z26)), (0, .ref h0), (1, .ref b), (2, .int (nI fi))]) hx hb dMH_readHints_151 hl rfl (by decide) rfl (by decide) rfl (fun ls hl => ?_)
                  refine lv_goto (tgt := 5) hx hb dMH_readHints_154 (by decide) ?_
                  exact ih21 (i21 + 1) z26 s24 pl ls H locs (by omega) (by omega) hF hf61 hf62 hf63 hf64 hf65 hf66 hf67 hf68 hR (lv_sub hl [0, 1, 4, 5, 6] rfl) hO hP hD hS
                | succ n24 ih24 =>
                  intro ii21 s24 pl ls H locs hm24 hi23 hi24 hF hf69 hf70 hf71 hf72 hf73 hf74 hf75 hf76 hR hl hO hP hD hS
                  refine lv_iload hx hb dMH_readHints_87 (lv_at hl 0 rfl) ?_
                  refine lv_iload hx hb dMH_readHints_89 (lv_at hl 1 rfl) ?_
                  refine mi_ge (tgt := 148) hx hb dMH_readHints_91 (by decide) (by omega) (by omega) (fun h30 => absurd h30 (by omega)) (fun h30 => ?_)
                  refine lv_aload_n hx hb dMH_readHints_94 rfl (lv_at hl 5 rfl) ?_
                  refine lv_iload_n hx hb dMH_readHints_95 rfl (lv_at hl 6 rfl) ?_
                  refine lv_iload hx hb dMH_readHints_96 (lv_at hl 0 rfl) ?_
                  refine mi_iadd hx hb dMH_readHints_98 ?_
                  refine nw_bald hx hb hK hO k_b (k := pb) n_b hP (by omega) (by omega) dMH_readHints_99 ?_
                  refine lv_sipush (v := nI 255) hx hb dMH_readHints_100 (by decide) ?_
                  refine mi_iandT hx hb 8 dMH_readHints_103 (by decide) (by decide) (fun z28 ez28 hz34 => ?_)
                  have hz34 : z28 < 256 := hz34
                  replace hR := bnd_step hR ez28
                  refine lv_istore (lv' := [(7, .int (nI z28)), (6, .int (nI ii21)), (5, .int (nI z26)), (4, .int (nI i21)), (3, .int (nI my21)), (0, .ref h0), (1, .ref b), (2, .int (nI fi))]) hx hb dMH_readHints_104 hl (by decide) rfl (fun ls hl => ?_)
                  refine lv_iload hx hb dMH_readHints_106 (lv_at hl 1 rfl) ?_
                  refine lv_iload_n hx hb dMH_readHints_108 rfl (lv_at hl 4 rfl) ?_
                  refine mi_le (tgt := 131) hx hb dMH_readHints_109 (by decide) (by omega) (by omega) (fun h31 => ?_) (fun h31 => ?_)
                  · replace hR := hR.trans (if_pos h31)
                    refine lv_aload_n hx hb dMH_readHints_131 rfl (lv_at hl 5 rfl) ?_
                    refine nw_get (C := "LatticeKeysModel$Hands") (TT := T_MH) (N := 31) hx hb hts (wg_ft i_MH) hown hK hO k_h0 (kn := 225) (ci := 12) (fl := [(3, 172), (3, 181), (3, 226), (3, 291), (3, 299), (3, 308), (3, 317), (3, 326), (3, 334), (3, 342), (3, 350), (3, 359), (3, 368), (3, 369), (3, 370), (3, 371), (3, 372), (3, 373), (3, 374), (3, 375), (3, 376), (3, 377), (3, 378), (0, 0), (0, 0), (0, 0), (0, 0), (0, 0), (0, 0), (0, 0), (0, 0)]) rfl hP rfl 11 (by decide) (hts _ (wg_t kw_1443)) (fun _ h9 => h9) (cd := (3, 359)) rfl dMH_readHints_132 (fun v27 hv27 => ?_)
                    obtain ⟨r21, rfl, kr21⟩ := (show ∃ r : Nat, v27 = .ref r ∧ T r = some 359 from hv27)
                    refine lv_iload hx hb dMH_readHints_135 (lv_at hl 3 rfl) ?_
                    refine nw_aald3 hx hb hK hO kr21 (k := 359) (b := 360) rfl hP (by omega) (by omega) dMH_readHints_137 (fun r22 kr22 => ?_)
                    have hn21 : nsp (360 + i21) = (0, 256, []) := rows_ok 360 8 (by decide) _ (by omega)
                    refine lv_iload hx hb dMH_readHints_138 (lv_at hl 0 rfl) ?_
                    refine lv_iconst (v := nI 1) hx hb dMH_readHints_140 (by decide) ?_
                    refine nw_iast hx hb hK hO hU kr22 (k := (360 + i21)) hn21 hP hD hS (by omega) (by omega) dMH_readHints_141 (fun s25 pl H locs es21 hO hP hD hS => ?_)
                    replace hR := bnd_step hR es21
                    have hF := frm_sI hF es21 (by unfold M_MH_readHints_1; omega)
                    have hf77 : s25.1 225 23 = nI 1 := fc_ne hf69 es21 (by omega)
                    have hf78 : s25.1 225 24 = nI 6 := fc_ne hf70 es21 (by omega)
                    have hf79 : s25.1 225 25 = nI 5 := fc_ne hf71 es21 (by omega)
                    have hf80 : s25.1 225 26 = nI 4 := fc_ne hf72 es21 (by omega)
                    have hf81 : s25.1 225 27 = nI 524288 := fc_ne hf73 es21 (by omega)
                    have hf82 : s25.1 225 28 = nI 261888 := fc_ne hf74 es21 (by omega)
                    have hf83 : s25.1 225 29 = nI 196 := fc_ne hf75 es21 (by omega)
                    have hf84 : s25.1 225 30 = nI 48 := fc_ne hf76 es21 (by omega)
                    refine mi_iinc (k := 1) (x := ii21) (d := 1) (y := ii21 + 1) (lv' := [(6, .int (nI (ii21 + 1))), (7, .int (nI z28)), (5, .int (nI z26)), (4, .int (nI i21)), (3, .int (nI my21)), (0, .ref h0), (1, .ref b), (2, .int (nI fi))]) hx hb dMH_readHints_142 hl rfl (by decide) rfl (by decide) rfl (fun ls hl => ?_)
                    refine lv_goto (tgt := 87) hx hb dMH_readHints_145 (by decide) ?_
                    exact ih24 (ii21 + 1) s25 pl ls H locs (by omega) (by omega) (by omega) hF hf77 hf78 hf79 hf80 hf81 hf82 hf83 hf84 hR (lv_sub hl [0, 2, 3, 4, 5, 6, 7] rfl) hO hP hD hS
                  · replace hR := hR.trans (if_neg (Nat.not_le.mpr h31))
                    refine lv_aload_n hx hb dMH_readHints_112 rfl (lv_at hl 6 rfl) ?_
                    refine lv_iload_n hx hb dMH_readHints_113 rfl (lv_at hl 7 rfl) ?_
                    refine lv_iload hx hb dMH_readHints_114 (lv_at hl 1 rfl) ?_
                    refine mi_iadd hx hb dMH_readHints_116 ?_
                    refine lv_iconst (v := nI 1) hx hb dMH_readHints_117 (by decide) ?_
                    refine mi_isub hx hb dMH_readHints_118 (by omega) ?_
                    refine nw_bald hx hb hK hO k_b (k := pb) n_b hP (by omega) (by omega) dMH_readHints_119 ?_
                    refine lv_sipush (v := nI 255) hx hb dMH_readHints_120 (by decide) ?_
                    refine mi_iandT hx hb 8 dMH_readHints_123 (by decide) (by decide) (fun z29 ez29 hz35 => ?_)
                    have hz35 : z29 < 256 := hz35
                    replace hR := bnd_step hR ez29
                    refine lv_iload hx hb dMH_readHints_124 (lv_at hl 0 rfl) ?_
                    refine mi_lt (tgt := 131) hx hb dMH_readHints_126 (by decide) (by omega) (by omega) (fun h32 => ?_) (fun h32 => ?_)
                    · replace hR := hR.trans (if_pos h32)
                      refine lv_aload_n hx hb dMH_readHints_131 rfl (lv_at hl 5 rfl) ?_
                      refine nw_get (C := "LatticeKeysModel$Hands") (TT := T_MH) (N := 31) hx hb hts (wg_ft i_MH) hown hK hO k_h0 (kn := 225) (ci := 12) (fl := [(3, 172), (3, 181), (3, 226), (3, 291), (3, 299), (3, 308), (3, 317), (3, 326), (3, 334), (3, 342), (3, 350), (3, 359), (3, 368), (3, 369), (3, 370), (3, 371), (3, 372), (3, 373), (3, 374), (3, 375), (3, 376), (3, 377), (3, 378), (0, 0), (0, 0), (0, 0), (0, 0), (0, 0), (0, 0), (0, 0), (0, 0)]) rfl hP rfl 11 (by decide) (hts _ (wg_t kw_1443)) (fun _ h9 => h9) (cd := (3, 359)) rfl dMH_readHints_132 (fun v28 hv28 => ?_)
                      obtain ⟨r23, rfl, kr23⟩ := (show ∃ r : Nat, v28 = .ref r ∧ T r = some 359 from hv28)
                      refine lv_iload hx hb dMH_readHints_135 (lv_at hl 3 rfl) ?_
                      refine nw_aald3 hx hb hK hO kr23 (k := 359) (b := 360) rfl hP (by omega) (by omega) dMH_readHints_137 (fun r24 kr24 => ?_)
                      have hn22 : nsp (360 + i21) = (0, 256, []) := rows_ok 360 8 (by decide) _ (by omega)
                      refine lv_iload hx hb dMH_readHints_138 (lv_at hl 0 rfl) ?_
                      refine lv_iconst (v := nI 1) hx hb dMH_readHints_140 (by decide) ?_
                      refine nw_iast hx hb hK hO hU kr24 (k := (360 + i21)) hn22 hP hD hS (by omega) (by omega) dMH_readHints_141 (fun s26 pl H locs es22 hO hP hD hS => ?_)
                      replace hR := bnd_step hR es22
                      have hF := frm_sI hF es22 (by unfold M_MH_readHints_1; omega)
                      have hf85 : s26.1 225 23 = nI 1 := fc_ne hf69 es22 (by omega)
                      have hf86 : s26.1 225 24 = nI 6 := fc_ne hf70 es22 (by omega)
                      have hf87 : s26.1 225 25 = nI 5 := fc_ne hf71 es22 (by omega)
                      have hf88 : s26.1 225 26 = nI 4 := fc_ne hf72 es22 (by omega)
                      have hf89 : s26.1 225 27 = nI 524288 := fc_ne hf73 es22 (by omega)
                      have hf90 : s26.1 225 28 = nI 261888 := fc_ne hf74 es22 (by omega)
                      have hf91 : s26.1 225 29 = nI 196 := fc_ne hf75 es22 (by omega)
                      have hf92 : s26.1 225 30 = nI 48 := fc_ne hf76 es22 (by omega)
                      refine mi_iinc (k := 1) (x := ii21) (d := 1) (y := ii21 + 1) (lv' := [(6, .int (nI (ii21 + 1))), (7, .int (nI z28)), (5, .int (nI z26)), (4, .int (nI i21)), (3, .int (nI my21)), (0, .ref h0), (1, .ref b), (2, .int (nI fi))]) hx hb dMH_readHints_142 hl rfl (by decide) rfl (by decide) rfl (fun ls hl => ?_)
                      refine lv_goto (tgt := 87) hx hb dMH_readHints_145 (by decide) ?_
                      exact ih24 (ii21 + 1) s26 pl ls H locs (by omega) (by omega) (by omega) hF hf85 hf86 hf87 hf88 hf89 hf90 hf91 hf92 hR (lv_sub hl [0, 2, 3, 4, 5, 6, 7] rfl) hO hP hD hS
                    · replace hR := hR.trans (if_neg (Nat.not_lt.mpr h32))
                      refine lv_iconst (v := nI 0) hx hb dMH_readHints_129 (by decide) ?_
                      exact mp_zret hx hb hr hlk rfl hP hD hS ((nI 0, s24), pl) ⟨⟨hR.symm, rfl, hF, trivial⟩, hO⟩ [] rfl rfl rfl (by omega) (by omega) dMH_readHints_130
              exact lp24 (z26 - my21) my21 s23 pl ls _ _ (by omega) (by omega) (by omega) hF hf53 hf54 hf55 hf56 hf57 hf58 hf59 hf60 hR (lv_sub hl [0, 1, 2, 3, 4, 5, 6] rfl) hO hP hD hS
            · replace hR := hR.trans (if_neg (Nat.not_le.mpr h28))
              refine lv_iconst (v := nI 0) hx hb dMH_readHints_82 (by decide) ?_
              exact mp_zret hx hb hr hlk rfl hP hD hS ((nI 0, s23), pl) ⟨⟨hR.symm, rfl, hF, trivial⟩, hO⟩ [] rfl rfl rfl (by omega) (by omega) dMH_readHints_83
        | succ n23 ih23 =>
          intro i23 s23 pl ls H locs hm23 hF hf93 hf94 hf95 hf96 hf97 hf98 hf99 hf100 hR hl hO hP hD hS
          refine lv_iload hx hb dMH_readHints_17 (lv_at hl 0 rfl) ?_
          refine lv_sipush (v := nI 256) hx hb dMH_readHints_19 (by decide) ?_
          refine mi_ge (tgt := 42) hx hb dMH_readHints_22 (by decide) (by omega) (by omega) (fun h33 => absurd h33 (by omega)) (fun h33 => ?_)
          refine lv_aload_n hx hb dMH_readHints_25 rfl (lv_at hl 3 rfl) ?_
          refine nw_get (C := "LatticeKeysModel$Hands") (TT := T_MH) (N := 31) hx hb hts (wg_ft i_MH) hown hK hO k_h0 (kn := 225) (ci := 12) (fl := [(3, 172), (3, 181), (3, 226), (3, 291), (3, 299), (3, 308), (3, 317), (3, 326), (3, 334), (3, 342), (3, 350), (3, 359), (3, 368), (3, 369), (3, 370), (3, 371), (3, 372), (3, 373), (3, 374), (3, 375), (3, 376), (3, 377), (3, 378), (0, 0), (0, 0), (0, 0), (0, 0), (0, 0), (0, 0), (0, 0), (0, 0)]) rfl hP rfl 11 (by decide) (hts _ (wg_t kw_1443)) (fun _ h9 => h9) (cd := (3, 359)) rfl dMH_readHints_26 (fun v29 hv29 => ?_)
          obtain ⟨r25, rfl, kr25⟩ := (show ∃ r : Nat, v29 = .ref r ∧ T r = some 359 from hv29)
          refine lv_iload hx hb dMH_readHints_29 (lv_at hl 1 rfl) ?_
          refine nw_aald3 hx hb hK hO kr25 (k := 359) (b := 360) rfl hP (by omega) (by omega) dMH_readHints_31 (fun r26 kr26 => ?_)
          have hn23 : nsp (360 + i21) = (0, 256, []) := rows_ok 360 8 (by decide) _ (by omega)
          refine lv_iload hx hb dMH_readHints_32 (lv_at hl 0 rfl) ?_
          refine lv_iconst (v := nI 0) hx hb dMH_readHints_34 (by decide) ?_
          refine nw_iast hx hb hK hO hU kr26 (k := (360 + i21)) hn23 hP hD hS (by omega) (by omega) dMH_readHints_35 (fun s27 pl H locs es23 hO hP hD hS => ?_)
          replace hR := bnd_step hR es23
          have hF := frm_sI hF es23 (by unfold M_MH_readHints_1; omega)
          have hf101 : s27.1 225 23 = nI 1 := fc_ne hf93 es23 (by omega)
          have hf102 : s27.1 225 24 = nI 6 := fc_ne hf94 es23 (by omega)
          have hf103 : s27.1 225 25 = nI 5 := fc_ne hf95 es23 (by omega)
          have hf104 : s27.1 225 26 = nI 4 := fc_ne hf96 es23 (by omega)
          have hf105 : s27.1 225 27 = nI 524288 := fc_ne hf97 es23 (by omega)
          have hf106 : s27.1 225 28 = nI 261888 := fc_ne hf98 es23 (by omega)
          have hf107 : s27.1 225 29 = nI 196 := fc_ne hf99 es23 (by omega)
          have hf108 : s27.1 225 30 = nI 48 := fc_ne hf100 es23 (by omega)
          refine mi_iinc (k := 0) (x := i23) (d := 1) (y := i23 + 1) (lv' := [(5, .int (nI (i23 + 1))), (4, .int (nI i21)), (3, .int (nI my21)), (0, .ref h0), (1, .ref b), (2, .int (nI fi))]) hx hb dMH_readHints_36 hl rfl (by decide) rfl (by decide) rfl (fun ls hl => ?_)
          refine lv_goto (tgt := 17) hx hb dMH_readHints_39 (by decide) ?_
          exact ih23 (i23 + 1) s27 pl ls H locs (by omega) hF hf101 hf102 hf103 hf104 hf105 hf106 hf107 hf108 hR (lv_sub hl [0, 1, 2, 3, 4, 5] rfl) hO hP hD hS
      exact lp23 256 0 s21 pl ls _ _ (by omega) hF hf45 hf46 hf47 hf48 hf49 hf50 hf51 hf52 hR (lv_sub hl [0, 1, 2, 3, 4, 5] rfl) hO hP hD hS
  exact lp21 6 0 0 s pl ls _ _ (by omega) (by omega) hF e_c0 e_c1 e_c2 e_c3 e_c4 e_c5 e_c6 e_c7 hR (lv_sub hl [0, 1, 2, 3, 4] rfl) hO hP hD hS
def M_MH_readHints_2 (k : Nat) : Prop := (360 ≤ k ∧ k < 368) ∨ (0 : Nat) = 1
noncomputable def F_MH_readHints_2_L3 (pb : Nat) (fi : Nat) (i21 : Nat) (my21 : Nat) (z26 : Nat) (kk : Nat → Nat → Sto → Int32 × Sto) : Nat → Nat → Sto → Int32 × Sto
  | 0, ii21, s24 => kk (i21 + 1) z26 s24
  | n24 + 1, ii21, s24 => bnd (((s24.1 pb (fi + ii21)) &&& nI 255).toNatClampNeg) fun z28 => if ii21 ≤ my21 then bnd (sI s24 ((360 + i21)) z28 (nI 1)) fun s25 => F_MH_readHints_2_L3 pb fi i21 my21 z26 kk n24 (ii21 + 1) s25 else bnd (((s24.1 pb ((fi + ii21) - 1)) &&& nI 255).toNatClampNeg) fun z29 => if z29 < z28 then bnd (sI s24 ((360 + i21)) z28 (nI 1)) fun s26 => F_MH_readHints_2_L3 pb fi i21 my21 z26 kk n24 (ii21 + 1) s26 else (nI 0, s24)
noncomputable def F_MH_readHints_2_L2 (pb : Nat) (fi : Nat) (i21 : Nat) (my21 : Nat) (kk : Nat → Nat → Sto → Int32 × Sto) : Nat → Nat → Sto → Int32 × Sto
  | 0, i23, s23 => bnd ((s23.1 225 23).toNatClampNeg) fun z25 => bnd (((s23.1 pb ((fi + 75) + i21)) &&& nI 255).toNatClampNeg) fun z26 => if z26 < my21 then (nI 0, s23) else bnd ((s23.1 225 23).toNatClampNeg) fun z27 => if z26 ≤ 75 then F_MH_readHints_2_L3 pb fi i21 my21 z26 (kk) (z26 - my21) my21 s23 else (nI 0, s23)
  | n23 + 1, i23, s23 => bnd (sI s23 ((360 + i21)) i23 (nI 0)) fun s27 => F_MH_readHints_2_L2 pb fi i21 my21 kk n23 (i23 + 1) s27
noncomputable def F_MH_readHints_2_L1 (pb : Nat) (fi : Nat) : Nat → Nat → Sto → Int32 × Sto
  | 0, i22, s22 => bnd ((s22.1 225 23).toNatClampNeg) fun z22 => (nI 1, s22)
  | n22 + 1, i22, s22 => bnd ((s22.1 225 23).toNatClampNeg) fun z23 => if (s22.1 pb (fi + i22)) = 0 then F_MH_readHints_2_L1 pb fi n22 (i22 + 1) s22 else (nI 0, s22)
noncomputable def F_MH_readHints_2_L0 (pb : Nat) (fi : Nat) : Nat → Nat → Nat → Sto → Int32 × Sto
  | 0, i21, my21, s21 => bnd ((s21.1 225 24).toNatClampNeg) fun z21 => F_MH_readHints_2_L1 pb fi (75 - my21) my21 s21
  | n21 + 1, i21, my21, s21 => bnd ((s21.1 225 24).toNatClampNeg) fun z24 => F_MH_readHints_2_L2 pb fi i21 my21 (F_MH_readHints_2_L0 pb fi n21) 256 0 s21
noncomputable def F_MH_readHints_2 (pb : Nat) (fi : Nat) (s : Sto) : Int32 × Sto := F_MH_readHints_2_L0 pb fi 8 0 0 s
set_option maxHeartbeats 8000000 in
set_option maxRecDepth 100000 in
theorem N_MH_readHints_2 (l : Launch) (g : Gd) (sz : Nat) (T : TyN) (s : Sto) (pl : va_W) (hO : okn g T s pl) (hU : inj T) (h0 b : Nat) (pb : Nat) (fi : Nat) (k_h0 : T h0 = some 225) (k_b : T b = some pb) (n_b : nsp pb = (1, 16384, [])) (e_c0 : s.1 225 23 = nI 2) (e_c1 : s.1 225 24 = nI 8) (e_c2 : s.1 225 25 = nI 7) (e_c3 : s.1 225 26 = nI 2) (e_c4 : s.1 225 27 = nI 524288) (e_c5 : s.1 225 28 = nI 261888) (e_c6 : s.1 225 29 = nI 120) (e_c7 : s.1 225 30 = nI 64) (h1 : fi + 83 ≤ 16384)  : Met l y_MH_readHints w_MH_readHints ({ frames := 0, cells := 0, slots := 0, locals := 0 } : Room) (va_Pc [.ref h0, .ref b, .int (nI fi)] (pr (en g) g.1 vcl sz ([] ++ pl))) (va_Qi (fun (r : Int32) (u : (Int32 × Sto) × va_W) => (u.1 = F_MH_readHints_2 pb fi s ∧ r = u.1.1 ∧ frm (M_MH_readHints_2) s u.1.2 ∧ True) ∧ okn g T u.1.2 u.2) (po g.1 vcl (va_A ([] ++ pl) sz) (fun (u : (Int32 × Sto) × va_W) => [] ++ u.2)) (va_A ([] ++ pl) sz)) 0 0 (va_A ([] ++ pl) sz) := by
  refine mc_entry (cc := c_MH_readHints) (maxL := 8) (ret := (some .boolean)) (by decide) rfl (Nat.le_of_ble_eq_true rfl) ?_
  intro p e s0 m args below meth c ls F hr hlk hnm hsz hP hD hE hA hl
  obtain ⟨hx, hb, hml, hown, hts⟩ := id F
  have hK := hE.1
  generalize va_A ([] ++ pl) sz = A at hD hE hA ⊢
  have hS : va_S A s0.heap s0.heap [] := va_S.rf
  have hl : lv_has ls 8 [(0, .ref h0), (1, .ref b), (2, .int (nI fi))] := hl
  have hR : F_MH_readHints_2 pb fi s = F_MH_readHints_2 pb fi s := rfl
  have hF : frm (M_MH_readHints_2) s s := frm_rf
  have ne_172_pb : 172 ≠ pb := nsp_ne (p := 172) rfl n_b (show (5 : Nat) ≠ 1 by decide)
  have ne_225_pb : 225 ≠ pb := nsp_ne (p := 225) rfl n_b (show (5 : Nat) ≠ 1 by decide)
  refine lv_iconst (v := nI 0) hx hb dMH_readHints_0 (by decide) ?_
  refine lv_istore_n (lv' := [(3, .int (nI 0)), (0, .ref h0), (1, .ref b), (2, .int (nI fi))]) hx hb dMH_readHints_1 rfl hl (by decide) rfl (fun ls hl => ?_)
  refine lv_iconst (v := nI 0) hx hb dMH_readHints_2 (by decide) ?_
  refine lv_istore (lv' := [(4, .int (nI 0)), (3, .int (nI 0)), (0, .ref h0), (1, .ref b), (2, .int (nI fi))]) hx hb dMH_readHints_3 hl (by decide) rfl (fun ls hl => ?_)
  have lp21 : ∀ (n21 : Nat) (i21 : Nat) (my21 : Nat) (s21 : Sto) (pl : va_W) (ls : Array Slot) (H : Heap) (locs : List Loc), n21 + i21 = 8 → (my21 ≤ 75) → frm (M_MH_readHints_2) s s21 → s21.1 225 23 = nI 2 → s21.1 225 24 = nI 8 → s21.1 225 25 = nI 7 → s21.1 225 26 = nI 2 → s21.1 225 27 = nI 524288 → s21.1 225 28 = nI 261888 → s21.1 225 29 = nI 120 → s21.1 225 30 = nI 64 → F_MH_readHints_2 pb fi s = F_MH_readHints_2_L0 pb fi n21 i21 my21 s21 → lv_has ls 8 [(4, .int (nI i21)), (3, .int (nI my21)), (0, .ref h0), (1, .ref b), (2, .int (nI fi))] → okn g T s21 pl → va_P g.1 vcl ([] ++ pl) H → va_D A ([] ++ pl) → va_S A s0.heap H locs → W p l e ({ frames := 0, cells := 0, slots := 0, locals := 0 } : Room) s0 m args below meth c H locs 0 0 (MQ below (va_Qi (fun (r : Int32) (u : (Int32 × Sto) × va_W) => (u.1 = F_MH_readHints_2 pb fi s ∧ r = u.1.1 ∧ frm (M_MH_readHints_2) s u.1.2 ∧ True) ∧ okn g T u.1.2 u.2) (po g.1 vcl A (fun (u : (Int32 × Sto) × va_W) => [] ++ u.2)) A) args s0 0 0 A) (F0 m 5 ls []) := by
    intro n21
    induction n21 with
    | zero =>
      intro i21 my21 s21 pl ls H locs hm21 hi21 hF hf21 hf22 hf23 hf24 hf25 hf26 hf27 hf28 hR hl hO hP hD hS
      refine lv_iload hx hb dMH_readHints_5 (lv_at hl 0 rfl) ?_
      refine lv_aload_n hx hb dMH_readHints_7 rfl (lv_at hl 2 rfl) ?_
      refine nw_get (C := "LatticeKeysModel$Hands") (TT := T_MH) (N := 31) hx hb hts (wg_ft i_MH) hown hK hO k_h0 (kn := 225) (ci := 12) (fl := [(3, 172), (3, 181), (3, 226), (3, 291), (3, 299), (3, 308), (3, 317), (3, 326), (3, 334), (3, 342), (3, 350), (3, 359), (3, 368), (3, 369), (3, 370), (3, 371), (3, 372), (3, 373), (3, 374), (3, 375), (3, 376), (3, 377), (3, 378), (0, 0), (0, 0), (0, 0), (0, 0), (0, 0), (0, 0), (0, 0), (0, 0)]) rfl hP rfl 24 (by decide) (hts _ (wg_t kw_1456)) (fun _ h9 => h9) (cd := (0, 0)) rfl dMH_readHints_8 (fun v21 hv21 => ?_)
      obtain rfl := (show v21 = .int (s21.1 225 24) from hv21)
      obtain ⟨z21, ez21, hz21, hz22⟩ := cl_of (b := 2147483648) hf22 (by omega) (by decide)
      replace hR := bnd_step hR ez21
      refine mi_as hz21 ?_
      subst hz22
      refine mi_ge (tgt := 157) hx hb dMH_readHints_11 (by decide) (by omega) (by omega) (fun h21 => ?_) (fun h21 => absurd h21 (by omega))
      refine lv_iload_n hx hb dMH_readHints_157 rfl (lv_at hl 1 rfl) ?_
      refine lv_istore (lv' := [(4, .int (nI my21)), (3, .int (nI my21)), (0, .ref h0), (1, .ref b), (2, .int (nI fi))]) hx hb dMH_readHints_158 hl (by decide) rfl (fun ls hl => ?_)
      have lp22 : ∀ (n22 : Nat) (i22 : Nat) (s22 : Sto) (pl : va_W) (ls : Array Slot) (H : Heap) (locs : List Loc), n22 + i22 = 75 → (my21 ≤ i22) → frm (M_MH_readHints_2) s s22 → s22.1 225 23 = nI 2 → s22.1 225 24 = nI 8 → s22.1 225 25 = nI 7 → s22.1 225 26 = nI 2 → s22.1 225 27 = nI 524288 → s22.1 225 28 = nI 261888 → s22.1 225 29 = nI 120 → s22.1 225 30 = nI 64 → F_MH_readHints_2 pb fi s = F_MH_readHints_2_L1 pb fi n22 i22 s22 → lv_has ls 8 [(4, .int (nI i22)), (0, .ref h0), (1, .ref b), (2, .int (nI fi))] → okn g T s22 pl → va_P g.1 vcl ([] ++ pl) H → va_D A ([] ++ pl) → va_S A s0.heap H locs → W p l e ({ frames := 0, cells := 0, slots := 0, locals := 0 } : Room) s0 m args below meth c H locs 0 0 (MQ below (va_Qi (fun (r : Int32) (u : (Int32 × Sto) × va_W) => (u.1 = F_MH_readHints_2 pb fi s ∧ r = u.1.1 ∧ frm (M_MH_readHints_2) s u.1.2 ∧ True) ∧ okn g T u.1.2 u.2) (po g.1 vcl A (fun (u : (Int32 × Sto) × va_W) => [] ++ u.2)) A) args s0 0 0 A) (F0 m 160 ls []) := by
        intro n22
        induction n22 with
        | zero =>
          intro i22 s22 pl ls H locs hm22 hi22 hF hf29 hf30 hf31 hf32 hf33 hf34 hf35 hf36 hR hl hO hP hD hS
          refine lv_iload hx hb dMH_readHints_160 (lv_at hl 0 rfl) ?_
          refine va_gets hx hb (hE.2.1 27 _ rfl).1 hS hown (hts _ (wg_t kw_1912)) (fun _ h9 => h9) dMH_readHints_162 ?_
          refine lv_aload_n hx hb dMH_readHints_165 rfl (lv_at hl 1 rfl) ?_
          refine nw_get (C := "LatticeKeysModel$Hands") (TT := T_MH) (N := 31) hx hb hts (wg_ft i_MH) hown hK hO k_h0 (kn := 225) (ci := 12) (fl := [(3, 172), (3, 181), (3, 226), (3, 291), (3, 299), (3, 308), (3, 317), (3, 326), (3, 334), (3, 342), (3, 350), (3, 359), (3, 368), (3, 369), (3, 370), (3, 371), (3, 372), (3, 373), (3, 374), (3, 375), (3, 376), (3, 377), (3, 378), (0, 0), (0, 0), (0, 0), (0, 0), (0, 0), (0, 0), (0, 0), (0, 0)]) rfl hP rfl 23 (by decide) (hts _ (wg_t kw_1455)) (fun _ h9 => h9) (cd := (0, 0)) rfl dMH_readHints_166 (fun v22 hv22 => ?_)
          obtain rfl := (show v22 = .int (s22.1 225 23) from hv22)
          obtain ⟨z22, ez22, hz23, hz24⟩ := cl_of (b := 2147483648) hf29 (by omega) (by decide)
          replace hR := bnd_step hR ez22
          refine mi_as hz23 ?_
          subst hz24
          refine va_ti (v := .int (nI 75)) hx hb (hE.2.1 27 _ rfl).2 hS (vp_in_nI (by decide) (by decide)) (by decide +kernel) dMH_readHints_169 ?_
          refine mi_ge (tgt := 190) hx hb dMH_readHints_170 (by decide) (by omega) (by omega) (fun h22 => ?_) (fun h22 => absurd h22 (by omega))
          refine lv_iconst (v := nI 1) hx hb dMH_readHints_190 (by decide) ?_
          exact mp_zret hx hb hr hlk rfl hP hD hS ((nI 1, s22), pl) ⟨⟨hR.symm, rfl, hF, trivial⟩, hO⟩ [] rfl rfl rfl (by omega) (by omega) dMH_readHints_191
        | succ n22 ih22 =>
          intro i22 s22 pl ls H locs hm22 hi22 hF hf37 hf38 hf39 hf40 hf41 hf42 hf43 hf44 hR hl hO hP hD hS
          refine lv_iload hx hb dMH_readHints_160 (lv_at hl 0 rfl) ?_
          refine va_gets hx hb (hE.2.1 27 _ rfl).1 hS hown (hts _ (wg_t kw_1912)) (fun _ h9 => h9) dMH_readHints_162 ?_
          refine lv_aload_n hx hb dMH_readHints_165 rfl (lv_at hl 1 rfl) ?_
          refine nw_get (C := "LatticeKeysModel$Hands") (TT := T_MH) (N := 31) hx hb hts (wg_ft i_MH) hown hK hO k_h0 (kn := 225) (ci := 12) (fl := [(3, 172), (3, 181), (3, 226), (3, 291), (3, 299), (3, 308), (3, 317), (3, 326), (3, 334), (3, 342), (3, 350), (3, 359), (3, 368), (3, 369), (3, 370), (3, 371), (3, 372), (3, 373), (3, 374), (3, 375), (3, 376), (3, 377), (3, 378), (0, 0), (0, 0), (0, 0), (0, 0), (0, 0), (0, 0), (0, 0), (0, 0)]) rfl hP rfl 23 (by decide) (hts _ (wg_t kw_1455)) (fun _ h9 => h9) (cd := (0, 0)) rfl dMH_readHints_166 (fun v23 hv23 => ?_)
          obtain rfl := (show v23 = .int (s22.1 225 23) from hv23)
          obtain ⟨z23, ez23, hz25, hz26⟩ := cl_of (b := 2147483648) hf37 (by omega) (by decide)
          replace hR := bnd_step hR ez23
          refine mi_as hz25 ?_
          subst hz26
          refine va_ti (v := .int (nI 75)) hx hb (hE.2.1 27 _ rfl).2 hS (vp_in_nI (by decide) (by decide)) (by decide +kernel) dMH_readHints_169 ?_
          refine mi_ge (tgt := 190) hx hb dMH_readHints_170 (by decide) (by omega) (by omega) (fun h23 => absurd h23 (by omega)) (fun h23 => ?_)
          refine lv_aload_n hx hb dMH_readHints_173 rfl (lv_at hl 2 rfl) ?_
          refine lv_iload_n hx hb dMH_readHints_174 rfl (lv_at hl 3 rfl) ?_
          refine lv_iload hx hb dMH_readHints_175 (lv_at hl 0 rfl) ?_
          refine mi_iadd hx hb dMH_readHints_177 ?_
          refine nw_bald hx hb hK hO k_b (k := pb) n_b hP (by omega) (by omega) dMH_readHints_178 ?_
          refine lv_if_eq (tgt := 184) hx hb dMH_readHints_179 (by decide) (fun h24 => ?_) (fun h24 => ?_)
          · replace hR := hR.trans (if_pos h24)
            refine mi_iinc (k := 0) (x := i22) (d := 1) (y := i22 + 1) (lv' := [(4, .int (nI (i22 + 1))), (0, .ref h0), (1, .ref b), (2, .int (nI fi))]) hx hb dMH_readHints_184 hl rfl (by decide) rfl (by decide) rfl (fun ls hl => ?_)
            refine lv_goto (tgt := 160) hx hb dMH_readHints_187 (by decide) ?_
            exact ih22 (i22 + 1) s22 pl ls H locs (by omega) (by omega) hF hf37 hf38 hf39 hf40 hf41 hf42 hf43 hf44 hR (lv_sub hl [0, 1, 2, 3] rfl) hO hP hD hS
          · replace hR := hR.trans (if_neg h24)
            refine lv_iconst (v := nI 0) hx hb dMH_readHints_182 (by decide) ?_
            exact mp_zret hx hb hr hlk rfl hP hD hS ((nI 0, s22), pl) ⟨⟨hR.symm, rfl, hF, trivial⟩, hO⟩ [] rfl rfl rfl (by omega) (by omega) dMH_readHints_183
      exact lp22 (75 - my21) my21 s21 pl ls _ _ (by omega) (by omega) hF hf21 hf22 hf23 hf24 hf25 hf26 hf27 hf28 hR (lv_sub hl [0, 2, 3, 4] rfl) hO hP hD hS
    | succ n21 ih21 =>
      intro i21 my21 s21 pl ls H locs hm21 hi21 hF hf45 hf46 hf47 hf48 hf49 hf50 hf51 hf52 hR hl hO hP hD hS
      refine lv_iload hx hb dMH_readHints_5 (lv_at hl 0 rfl) ?_
      refine lv_aload_n hx hb dMH_readHints_7 rfl (lv_at hl 2 rfl) ?_
      refine nw_get (C := "LatticeKeysModel$Hands") (TT := T_MH) (N := 31) hx hb hts (wg_ft i_MH) hown hK hO k_h0 (kn := 225) (ci := 12) (fl := [(3, 172), (3, 181), (3, 226), (3, 291), (3, 299), (3, 308), (3, 317), (3, 326), (3, 334), (3, 342), (3, 350), (3, 359), (3, 368), (3, 369), (3, 370), (3, 371), (3, 372), (3, 373), (3, 374), (3, 375), (3, 376), (3, 377), (3, 378), (0, 0), (0, 0), (0, 0), (0, 0), (0, 0), (0, 0), (0, 0), (0, 0)]) rfl hP rfl 24 (by decide) (hts _ (wg_t kw_1456)) (fun _ h9 => h9) (cd := (0, 0)) rfl dMH_readHints_8 (fun v24 hv24 => ?_)
      obtain rfl := (show v24 = .int (s21.1 225 24) from hv24)
      obtain ⟨z24, ez24, hz27, hz28⟩ := cl_of (b := 2147483648) hf46 (by omega) (by decide)
      replace hR := bnd_step hR ez24
      refine mi_as hz27 ?_
      subst hz28
      refine mi_ge (tgt := 157) hx hb dMH_readHints_11 (by decide) (by omega) (by omega) (fun h25 => absurd h25 (by omega)) (fun h25 => ?_)
      refine lv_iconst (v := nI 0) hx hb dMH_readHints_14 (by decide) ?_
      refine lv_istore (lv' := [(5, .int (nI 0)), (4, .int (nI i21)), (3, .int (nI my21)), (0, .ref h0), (1, .ref b), (2, .int (nI fi))]) hx hb dMH_readHints_15 hl (by decide) rfl (fun ls hl => ?_)
      have lp23 : ∀ (n23 : Nat) (i23 : Nat) (s23 : Sto) (pl : va_W) (ls : Array Slot) (H : Heap) (locs : List Loc), n23 + i23 = 256 → frm (M_MH_readHints_2) s s23 → s23.1 225 23 = nI 2 → s23.1 225 24 = nI 8 → s23.1 225 25 = nI 7 → s23.1 225 26 = nI 2 → s23.1 225 27 = nI 524288 → s23.1 225 28 = nI 261888 → s23.1 225 29 = nI 120 → s23.1 225 30 = nI 64 → F_MH_readHints_2 pb fi s = F_MH_readHints_2_L2 pb fi i21 my21 (F_MH_readHints_2_L0 pb fi n21) n23 i23 s23 → lv_has ls 8 [(5, .int (nI i23)), (4, .int (nI i21)), (3, .int (nI my21)), (0, .ref h0), (1, .ref b), (2, .int (nI fi))] → okn g T s23 pl → va_P g.1 vcl ([] ++ pl) H → va_D A ([] ++ pl) → va_S A s0.heap H locs → W p l e ({ frames := 0, cells := 0, slots := 0, locals := 0 } : Room) s0 m args below meth c H locs 0 0 (MQ below (va_Qi (fun (r : Int32) (u : (Int32 × Sto) × va_W) => (u.1 = F_MH_readHints_2 pb fi s ∧ r = u.1.1 ∧ frm (M_MH_readHints_2) s u.1.2 ∧ True) ∧ okn g T u.1.2 u.2) (po g.1 vcl A (fun (u : (Int32 × Sto) × va_W) => [] ++ u.2)) A) args s0 0 0 A) (F0 m 17 ls []) := by
        intro n23
        induction n23 with
        | zero =>
          intro i23 s23 pl ls H locs hm23 hF hf53 hf54 hf55 hf56 hf57 hf58 hf59 hf60 hR hl hO hP hD hS
          refine lv_iload hx hb dMH_readHints_17 (lv_at hl 0 rfl) ?_
          refine lv_sipush (v := nI 256) hx hb dMH_readHints_19 (by decide) ?_
          refine mi_ge (tgt := 42) hx hb dMH_readHints_22 (by decide) (by omega) (by omega) (fun h26 => ?_) (fun h26 => absurd h26 (by omega))
          refine lv_aload_n hx hb dMH_readHints_42 rfl (lv_at hl 4 rfl) ?_
          refine lv_iload_n hx hb dMH_readHints_43 rfl (lv_at hl 5 rfl) ?_
          refine va_gets hx hb (hE.2.1 27 _ rfl).1 hS hown (hts _ (wg_t kw_1912)) (fun _ h9 => h9) dMH_readHints_44 ?_
          refine lv_aload_n hx hb dMH_readHints_47 rfl (lv_at hl 3 rfl) ?_
          refine nw_get (C := "LatticeKeysModel$Hands") (TT := T_MH) (N := 31) hx hb hts (wg_ft i_MH) hown hK hO k_h0 (kn := 225) (ci := 12) (fl := [(3, 172), (3, 181), (3, 226), (3, 291), (3, 299), (3, 308), (3, 317), (3, 326), (3, 334), (3, 342), (3, 350), (3, 359), (3, 368), (3, 369), (3, 370), (3, 371), (3, 372), (3, 373), (3, 374), (3, 375), (3, 376), (3, 377), (3, 378), (0, 0), (0, 0), (0, 0), (0, 0), (0, 0), (0, 0), (0, 0), (0, 0)]) rfl hP rfl 23 (by decide) (hts _ (wg_t kw_1455)) (fun _ h9 => h9) (cd := (0, 0)) rfl dMH_readHints_48 (fun v25 hv25 => ?_)
          obtain rfl := (show v25 = .int (s23.1 225 23) from hv25)
          obtain ⟨z25, ez25, hz29, hz30⟩ := cl_of (b := 2147483648) hf53 (by omega) (by decide)
          replace hR := bnd_step hR ez25
          refine mi_as hz29 ?_
          subst hz30
          refine va_ti (v := .int (nI 75)) hx hb (hE.2.1 27 _ rfl).2 hS (vp_in_nI (by decide) (by decide)) (by decide +kernel) dMH_readHints_51 ?_
          refine mi_iadd hx hb dMH_readHints_52 ?_
          refine lv_iload hx hb dMH_readHints_53 (lv_at hl 1 rfl) ?_
          refine mi_iadd hx hb dMH_readHints_55 ?_
          refine nw_bald hx hb hK hO k_b (k := pb) n_b hP (by omega) (by omega) dMH_readHints_56 ?_
          refine lv_sipush (v := nI 255) hx hb dMH_readHints_57 (by decide) ?_
          refine mi_iandT hx hb 8 dMH_readHints_60 (by decide) (by decide) (fun z26 ez26 hz31 => ?_)
          have hz31 : z26 < 256 := hz31
          replace hR := bnd_step hR ez26
          refine lv_istore (lv' := [(5, .int (nI z26)), (4, .int (nI i21)), (3, .int (nI my21)), (0, .ref h0), (1, .ref b), (2, .int (nI fi))]) hx hb dMH_readHints_61 hl (by decide) rfl (fun ls hl => ?_)
          refine lv_iload hx hb dMH_readHints_63 (lv_at hl 0 rfl) ?_
          refine lv_iload_n hx hb dMH_readHints_65 rfl (lv_at hl 2 rfl) ?_
          refine mi_lt (tgt := 82) hx hb dMH_readHints_66 (by decide) (by omega) (by omega) (fun h27 => ?_) (fun h27 => ?_)
          · replace hR := hR.trans (if_pos h27)
            refine lv_iconst (v := nI 0) hx hb dMH_readHints_82 (by decide) ?_
            exact mp_zret hx hb hr hlk rfl hP hD hS ((nI 0, s23), pl) ⟨⟨hR.symm, rfl, hF, trivial⟩, hO⟩ [] rfl rfl rfl (by omega) (by omega) dMH_readHints_83
          · replace hR := hR.trans (if_neg (Nat.not_lt.mpr h27))
            refine lv_iload hx hb dMH_readHints_69 (lv_at hl 0 rfl) ?_
            refine va_gets hx hb (hE.2.1 27 _ rfl).1 hS hown (hts _ (wg_t kw_1912)) (fun _ h9 => h9) dMH_readHints_71 ?_
            refine lv_aload_n hx hb dMH_readHints_74 rfl (lv_at hl 3 rfl) ?_
            refine nw_get (C := "LatticeKeysModel$Hands") (TT := T_MH) (N := 31) hx hb hts (wg_ft i_MH) hown hK hO k_h0 (kn := 225) (ci := 12) (fl := [(3, 172), (3, 181), (3, 226), (3, 291), (3, 299), (3, 308), (3, 317), (3, 326), (3, 334), (3, 342), (3, 350), (3, 359), (3, 368), (3, 369), (3, 370), (3, 371), (3, 372), (3, 373), (3, 374), (3, 375), (3, 376), (3, 377), (3, 378), (0, 0), (0, 0), (0, 0), (0, 0), (0, 0), (0, 0), (0, 0), (0, 0)]) rfl hP rfl 23 (by decide) (hts _ (wg_t kw_1455)) (fun _ h9 => h9) (cd := (0, 0)) rfl dMH_readHints_75 (fun v26 hv26 => ?_)
            obtain rfl := (show v26 = .int (s23.1 225 23) from hv26)
            obtain ⟨z27, ez27, hz32, hz33⟩ := cl_of (b := 2147483648) hf53 (by omega) (by decide)
            replace hR := bnd_step hR ez27
            refine mi_as hz32 ?_
            subst hz33
            refine va_ti (v := .int (nI 75)) hx hb (hE.2.1 27 _ rfl).2 hS (vp_in_nI (by decide) (by decide)) (by decide +kernel) dMH_readHints_78 ?_
            refine mi_le (tgt := 84) hx hb dMH_readHints_79 (by decide) (by omega) (by omega) (fun h28 => ?_) (fun h28 => ?_)
            · replace hR := hR.trans (if_pos h28)
              refine lv_iload_n hx hb dMH_readHints_84 rfl (lv_at hl 2 rfl) ?_
              refine lv_istore (lv' := [(6, .int (nI my21)), (5, .int (nI z26)), (4, .int (nI i21)), (3, .int (nI my21)), (0, .ref h0), (1, .ref b), (2, .int (nI fi))]) hx hb dMH_readHints_85 hl (by decide) rfl (fun ls hl => ?_)
              have lp24 : ∀ (n24 : Nat) (ii21 : Nat) (s24 : Sto) (pl : va_W) (ls : Array Slot) (H : Heap) (locs : List Loc), n24 = z26 - ii21 → (my21 ≤ ii21) → (ii21 ≤ 75) → frm (M_MH_readHints_2) s s24 → s24.1 225 23 = nI 2 → s24.1 225 24 = nI 8 → s24.1 225 25 = nI 7 → s24.1 225 26 = nI 2 → s24.1 225 27 = nI 524288 → s24.1 225 28 = nI 261888 → s24.1 225 29 = nI 120 → s24.1 225 30 = nI 64 → F_MH_readHints_2 pb fi s = F_MH_readHints_2_L3 pb fi i21 my21 z26 (F_MH_readHints_2_L0 pb fi n21) n24 ii21 s24 → lv_has ls 8 [(6, .int (nI ii21)), (5, .int (nI z26)), (4, .int (nI i21)), (3, .int (nI my21)), (0, .ref h0), (1, .ref b), (2, .int (nI fi))] → okn g T s24 pl → va_P g.1 vcl ([] ++ pl) H → va_D A ([] ++ pl) → va_S A s0.heap H locs → W p l e ({ frames := 0, cells := 0, slots := 0, locals := 0 } : Room) s0 m args below meth c H locs 0 0 (MQ below (va_Qi (fun (r : Int32) (u : (Int32 × Sto) × va_W) => (u.1 = F_MH_readHints_2 pb fi s ∧ r = u.1.1 ∧ frm (M_MH_readHints_2) s u.1.2 ∧ True) ∧ okn g T u.1.2 u.2) (po g.1 vcl A (fun (u : (Int32 × Sto) × va_W) => [] ++ u.2)) A) args s0 0 0 A) (F0 m 87 ls []) := by
                intro n24
                induction n24 with
                | zero =>
                  intro ii21 s24 pl ls H locs hm24 hi23 hi24 hF hf61 hf62 hf63 hf64 hf65 hf66 hf67 hf68 hR hl hO hP hD hS
                  refine lv_iload hx hb dMH_readHints_87 (lv_at hl 0 rfl) ?_
                  refine lv_iload hx hb dMH_readHints_89 (lv_at hl 1 rfl) ?_
                  refine mi_ge (tgt := 148) hx hb dMH_readHints_91 (by decide) (by omega) (by omega) (fun h29 => ?_) (fun h29 => absurd h29 (by omega))
                  refine lv_iload hx hb dMH_readHints_148 (lv_at hl 1 rfl) ?_
                  refine lv_istore_n (lv' := [(3, .int (nI z26)), (6, .int (nI ii21)), (5, .int (nI z26)), (4, .int (nI i21)), (0, .ref h0), (1, .ref b), (2, .int (nI fi))]) hx hb dMH_readHints_150 rfl hl (by decide) rfl (fun ls hl => ?_)
                  refine mi_iinc (k := 3) (x := i21) (d := 1) (y := i21 + 1) (lv' := [(4, .int (nI (i21 + 1))), (3, .int (nI z26)), (6, .int (nI ii21)), (5, .int (nI z26)), (0, .ref h0), (1, .ref b), (2, .int (nI fi))]) hx hb dMH_readHints_151 hl rfl (by decide) rfl (by decide) rfl (fun ls hl => ?_)
                  refine lv_goto (tgt := 5) hx hb dMH_readHints_154 (by decide) ?_
                  exact ih21 (i21 + 1) z26 s24 pl ls H locs (by omega) (by omega) hF hf61 hf62 hf63 hf64 hf65 hf66 hf67 hf68 hR (lv_sub hl [0, 1, 4, 5, 6] rfl) hO hP hD hS
                | succ n24 ih24 =>
                  intro ii21 s24 pl ls H locs hm24 hi23 hi24 hF hf69 hf70 hf71 hf72 hf73 hf74 hf75 hf76 hR hl hO hP hD hS
                  refine lv_iload hx hb dMH_readHints_87 (lv_at hl 0 rfl) ?_
                  refine lv_iload hx hb dMH_readHints_89 (lv_at hl 1 rfl) ?_
                  refine mi_ge (tgt := 148) hx hb dMH_readHints_91 (by decide) (by omega) (by omega) (fun h30 => absurd h30 (by omega)) (fun h30 => ?_)
                  refine lv_aload_n hx hb dMH_readHints_94 rfl (lv_at hl 5 rfl) ?_
                  refine lv_iload_n hx hb dMH_readHints_95 rfl (lv_at hl 6 rfl) ?_
                  refine lv_iload hx hb dMH_readHints_96 (lv_at hl 0 rfl) ?_
                  refine mi_iadd hx hb dMH_readHints_98 ?_
                  refine nw_bald hx hb hK hO k_b (k := pb) n_b hP (by omega) (by omega) dMH_readHints_99 ?_
                  refine lv_sipush (v := nI 255) hx hb dMH_readHints_100 (by decide) ?_
                  refine mi_iandT hx hb 8 dMH_readHints_103 (by decide) (by decide) (fun z28 ez28 hz34 => ?_)
                  have hz34 : z28 < 256 := hz34
                  replace hR := bnd_step hR ez28
                  refine lv_istore (lv' := [(7, .int (nI z28)), (6, .int (nI ii21)), (5, .int (nI z26)), (4, .int (nI i21)), (3, .int (nI my21)), (0, .ref h0), (1, .ref b), (2, .int (nI fi))]) hx hb dMH_readHints_104 hl (by decide) rfl (fun ls hl => ?_)
                  refine lv_iload hx hb dMH_readHints_106 (lv_at hl 1 rfl) ?_
                  refine lv_iload_n hx hb dMH_readHints_108 rfl (lv_at hl 4 rfl) ?_
                  refine mi_le (tgt := 131) hx hb dMH_readHints_109 (by decide) (by omega) (by omega) (fun h31 => ?_) (fun h31 => ?_)
                  · replace hR := hR.trans (if_pos h31)
                    refine lv_aload_n hx hb dMH_readHints_131 rfl (lv_at hl 5 rfl) ?_
                    refine nw_get (C := "LatticeKeysModel$Hands") (TT := T_MH) (N := 31) hx hb hts (wg_ft i_MH) hown hK hO k_h0 (kn := 225) (ci := 12) (fl := [(3, 172), (3, 181), (3, 226), (3, 291), (3, 299), (3, 308), (3, 317), (3, 326), (3, 334), (3, 342), (3, 350), (3, 359), (3, 368), (3, 369), (3, 370), (3, 371), (3, 372), (3, 373), (3, 374), (3, 375), (3, 376), (3, 377), (3, 378), (0, 0), (0, 0), (0, 0), (0, 0), (0, 0), (0, 0), (0, 0), (0, 0)]) rfl hP rfl 11 (by decide) (hts _ (wg_t kw_1443)) (fun _ h9 => h9) (cd := (3, 359)) rfl dMH_readHints_132 (fun v27 hv27 => ?_)
                    obtain ⟨r21, rfl, kr21⟩ := (show ∃ r : Nat, v27 = .ref r ∧ T r = some 359 from hv27)
                    refine lv_iload hx hb dMH_readHints_135 (lv_at hl 3 rfl) ?_
                    refine nw_aald3 hx hb hK hO kr21 (k := 359) (b := 360) rfl hP (by omega) (by omega) dMH_readHints_137 (fun r22 kr22 => ?_)
                    have hn21 : nsp (360 + i21) = (0, 256, []) := rows_ok 360 8 (by decide) _ (by omega)
                    refine lv_iload hx hb dMH_readHints_138 (lv_at hl 0 rfl) ?_
                    refine lv_iconst (v := nI 1) hx hb dMH_readHints_140 (by decide) ?_
                    refine nw_iast hx hb hK hO hU kr22 (k := (360 + i21)) hn21 hP hD hS (by omega) (by omega) dMH_readHints_141 (fun s25 pl H locs es21 hO hP hD hS => ?_)
                    replace hR := bnd_step hR es21
                    have hF := frm_sI hF es21 (by unfold M_MH_readHints_2; omega)
                    have hf77 : s25.1 225 23 = nI 2 := fc_ne hf69 es21 (by omega)
                    have hf78 : s25.1 225 24 = nI 8 := fc_ne hf70 es21 (by omega)
                    have hf79 : s25.1 225 25 = nI 7 := fc_ne hf71 es21 (by omega)
                    have hf80 : s25.1 225 26 = nI 2 := fc_ne hf72 es21 (by omega)
                    have hf81 : s25.1 225 27 = nI 524288 := fc_ne hf73 es21 (by omega)
                    have hf82 : s25.1 225 28 = nI 261888 := fc_ne hf74 es21 (by omega)
                    have hf83 : s25.1 225 29 = nI 120 := fc_ne hf75 es21 (by omega)
                    have hf84 : s25.1 225 30 = nI 64 := fc_ne hf76 es21 (by omega)
                    refine mi_iinc (k := 1) (x := ii21) (d := 1) (y := ii21 + 1) (lv' := [(6, .int (nI (ii21 + 1))), (7, .int (nI z28)), (5, .int (nI z26)), (4, .int (nI i21)), (3, .int (nI my21)), (0, .ref h0), (1, .ref b), (2, .int (nI fi))]) hx hb dMH_readHints_142 hl rfl (by decide) rfl (by decide) rfl (fun ls hl => ?_)
                    refine lv_goto (tgt := 87) hx hb dMH_readHints_145 (by decide) ?_
                    exact ih24 (ii21 + 1) s25 pl ls H locs (by omega) (by omega) (by omega) hF hf77 hf78 hf79 hf80 hf81 hf82 hf83 hf84 hR (lv_sub hl [0, 2, 3, 4, 5, 6, 7] rfl) hO hP hD hS
                  · replace hR := hR.trans (if_neg (Nat.not_le.mpr h31))
                    refine lv_aload_n hx hb dMH_readHints_112 rfl (lv_at hl 6 rfl) ?_
                    refine lv_iload_n hx hb dMH_readHints_113 rfl (lv_at hl 7 rfl) ?_
                    refine lv_iload hx hb dMH_readHints_114 (lv_at hl 1 rfl) ?_
                    refine mi_iadd hx hb dMH_readHints_116 ?_
                    refine lv_iconst (v := nI 1) hx hb dMH_readHints_117 (by decide) ?_
                    refine mi_isub hx hb dMH_readHints_118 (by omega) ?_
                    refine nw_bald hx hb hK hO k_b (k := pb) n_b hP (by omega) (by omega) dMH_readHints_119 ?_
                    refine lv_sipush (v := nI 255) hx hb dMH_readHints_120 (by decide) ?_
                    refine mi_iandT hx hb 8 dMH_readHints_123 (by decide) (by decide) (fun z29 ez29 hz35 => ?_)
                    have hz35 : z29 < 256 := hz35
                    replace hR := bnd_step hR ez29
                    refine lv_iload hx hb dMH_readHints_124 (lv_at hl 0 rfl) ?_
                    refine mi_lt (tgt := 131) hx hb dMH_readHints_126 (by decide) (by omega) (by omega) (fun h32 => ?_) (fun h32 => ?_)
                    · replace hR := hR.trans (if_pos h32)
                      refine lv_aload_n hx hb dMH_readHints_131 rfl (lv_at hl 5 rfl) ?_
                      refine nw_get (C := "LatticeKeysModel$Hands") (TT := T_MH) (N := 31) hx hb hts (wg_ft i_MH) hown hK hO k_h0 (kn := 225) (ci := 12) (fl := [(3, 172), (3, 181), (3, 226), (3, 291), (3, 299), (3, 308), (3, 317), (3, 326), (3, 334), (3, 342), (3, 350), (3, 359), (3, 368), (3, 369), (3, 370), (3, 371), (3, 372), (3, 373), (3, 374), (3, 375), (3, 376), (3, 377), (3, 378), (0, 0), (0, 0), (0, 0), (0, 0), (0, 0), (0, 0), (0, 0), (0, 0)]) rfl hP rfl 11 (by decide) (hts _ (wg_t kw_1443)) (fun _ h9 => h9) (cd := (3, 359)) rfl dMH_readHints_132 (fun v28 hv28 => ?_)
                      obtain ⟨r23, rfl, kr23⟩ := (show ∃ r : Nat, v28 = .ref r ∧ T r = some 359 from hv28)
                      refine lv_iload hx hb dMH_readHints_135 (lv_at hl 3 rfl) ?_
                      refine nw_aald3 hx hb hK hO kr23 (k := 359) (b := 360) rfl hP (by omega) (by omega) dMH_readHints_137 (fun r24 kr24 => ?_)
                      have hn22 : nsp (360 + i21) = (0, 256, []) := rows_ok 360 8 (by decide) _ (by omega)
                      refine lv_iload hx hb dMH_readHints_138 (lv_at hl 0 rfl) ?_
                      refine lv_iconst (v := nI 1) hx hb dMH_readHints_140 (by decide) ?_
                      refine nw_iast hx hb hK hO hU kr24 (k := (360 + i21)) hn22 hP hD hS (by omega) (by omega) dMH_readHints_141 (fun s26 pl H locs es22 hO hP hD hS => ?_)
                      replace hR := bnd_step hR es22
                      have hF := frm_sI hF es22 (by unfold M_MH_readHints_2; omega)
                      have hf85 : s26.1 225 23 = nI 2 := fc_ne hf69 es22 (by omega)
                      have hf86 : s26.1 225 24 = nI 8 := fc_ne hf70 es22 (by omega)
                      have hf87 : s26.1 225 25 = nI 7 := fc_ne hf71 es22 (by omega)
                      have hf88 : s26.1 225 26 = nI 2 := fc_ne hf72 es22 (by omega)
                      have hf89 : s26.1 225 27 = nI 524288 := fc_ne hf73 es22 (by omega)
                      have hf90 : s26.1 225 28 = nI 261888 := fc_ne hf74 es22 (by omega)
                      have hf91 : s26.1 225 29 = nI 120 := fc_ne hf75 es22 (by omega)
                      have hf92 : s26.1 225 30 = nI 64 := fc_ne hf76 es22 (by omega)
                      refine mi_iinc (k := 1) (x := ii21) (d := 1) (y := ii21 + 1) (lv' := [(6, .int (nI (ii21 + 1))), (7, .int (nI z28)), (5, .int (nI z26)), (4, .int (nI i21)), (3, .int (nI my21)), (0, .ref h0), (1, .ref b), (2, .int (nI fi))]) hx hb dMH_readHints_142 hl rfl (by decide) rfl (by decide) rfl (fun ls hl => ?_)
                      refine lv_goto (tgt := 87) hx hb dMH_readHints_145 (by decide) ?_
                      exact ih24 (ii21 + 1) s26 pl ls H locs (by omega) (by omega) (by omega) hF hf85 hf86 hf87 hf88 hf89 hf90 hf91 hf92 hR (lv_sub hl [0, 2, 3, 4, 5, 6, 7] rfl) hO hP hD hS
                    · replace hR := hR.trans (if_neg (Nat.not_lt.mpr h32))
                      refine lv_iconst (v := nI 0) hx hb dMH_readHints_129 (by decide) ?_
                      exact mp_zret hx hb hr hlk rfl hP hD hS ((nI 0, s24), pl) ⟨⟨hR.symm, rfl, hF, trivial⟩, hO⟩ [] rfl rfl rfl (by omega) (by omega) dMH_readHints_130
              exact lp24 (z26 - my21) my21 s23 pl ls _ _ (by omega) (by omega) (by omega) hF hf53 hf54 hf55 hf56 hf57 hf58 hf59 hf60 hR (lv_sub hl [0, 1, 2, 3, 4, 5, 6] rfl) hO hP hD hS
            · replace hR := hR.trans (if_neg (Nat.not_le.mpr h28))
              refine lv_iconst (v := nI 0) hx hb dMH_readHints_82 (by decide) ?_
              exact mp_zret hx hb hr hlk rfl hP hD hS ((nI 0, s23), pl) ⟨⟨hR.symm, rfl, hF, trivial⟩, hO⟩ [] rfl rfl rfl (by omega) (by omega) dMH_readHints_83
        | succ n23 ih23 =>
          intro i23 s23 pl ls H locs hm23 hF hf93 hf94 hf95 hf96 hf97 hf98 hf99 hf100 hR hl hO hP hD hS
          refine lv_iload hx hb dMH_readHints_17 (lv_at hl 0 rfl) ?_
          refine lv_sipush (v := nI 256) hx hb dMH_readHints_19 (by decide) ?_
          refine mi_ge (tgt := 42) hx hb dMH_readHints_22 (by decide) (by omega) (by omega) (fun h33 => absurd h33 (by omega)) (fun h33 => ?_)
          refine lv_aload_n hx hb dMH_readHints_25 rfl (lv_at hl 3 rfl) ?_
          refine nw_get (C := "LatticeKeysModel$Hands") (TT := T_MH) (N := 31) hx hb hts (wg_ft i_MH) hown hK hO k_h0 (kn := 225) (ci := 12) (fl := [(3, 172), (3, 181), (3, 226), (3, 291), (3, 299), (3, 308), (3, 317), (3, 326), (3, 334), (3, 342), (3, 350), (3, 359), (3, 368), (3, 369), (3, 370), (3, 371), (3, 372), (3, 373), (3, 374), (3, 375), (3, 376), (3, 377), (3, 378), (0, 0), (0, 0), (0, 0), (0, 0), (0, 0), (0, 0), (0, 0), (0, 0)]) rfl hP rfl 11 (by decide) (hts _ (wg_t kw_1443)) (fun _ h9 => h9) (cd := (3, 359)) rfl dMH_readHints_26 (fun v29 hv29 => ?_)
          obtain ⟨r25, rfl, kr25⟩ := (show ∃ r : Nat, v29 = .ref r ∧ T r = some 359 from hv29)
          refine lv_iload hx hb dMH_readHints_29 (lv_at hl 1 rfl) ?_
          refine nw_aald3 hx hb hK hO kr25 (k := 359) (b := 360) rfl hP (by omega) (by omega) dMH_readHints_31 (fun r26 kr26 => ?_)
          have hn23 : nsp (360 + i21) = (0, 256, []) := rows_ok 360 8 (by decide) _ (by omega)
          refine lv_iload hx hb dMH_readHints_32 (lv_at hl 0 rfl) ?_
          refine lv_iconst (v := nI 0) hx hb dMH_readHints_34 (by decide) ?_
          refine nw_iast hx hb hK hO hU kr26 (k := (360 + i21)) hn23 hP hD hS (by omega) (by omega) dMH_readHints_35 (fun s27 pl H locs es23 hO hP hD hS => ?_)
          replace hR := bnd_step hR es23
          have hF := frm_sI hF es23 (by unfold M_MH_readHints_2; omega)
          have hf101 : s27.1 225 23 = nI 2 := fc_ne hf93 es23 (by omega)
          have hf102 : s27.1 225 24 = nI 8 := fc_ne hf94 es23 (by omega)
          have hf103 : s27.1 225 25 = nI 7 := fc_ne hf95 es23 (by omega)
          have hf104 : s27.1 225 26 = nI 2 := fc_ne hf96 es23 (by omega)
          have hf105 : s27.1 225 27 = nI 524288 := fc_ne hf97 es23 (by omega)
          have hf106 : s27.1 225 28 = nI 261888 := fc_ne hf98 es23 (by omega)
          have hf107 : s27.1 225 29 = nI 120 := fc_ne hf99 es23 (by omega)
          have hf108 : s27.1 225 30 = nI 64 := fc_ne hf100 es23 (by omega)
          refine mi_iinc (k := 0) (x := i23) (d := 1) (y := i23 + 1) (lv' := [(5, .int (nI (i23 + 1))), (4, .int (nI i21)), (3, .int (nI my21)), (0, .ref h0), (1, .ref b), (2, .int (nI fi))]) hx hb dMH_readHints_36 hl rfl (by decide) rfl (by decide) rfl (fun ls hl => ?_)
          refine lv_goto (tgt := 17) hx hb dMH_readHints_39 (by decide) ?_
          exact ih23 (i23 + 1) s27 pl ls H locs (by omega) hF hf101 hf102 hf103 hf104 hf105 hf106 hf107 hf108 hR (lv_sub hl [0, 1, 2, 3, 4, 5] rfl) hO hP hD hS
      exact lp23 256 0 s21 pl ls _ _ (by omega) hF hf45 hf46 hf47 hf48 hf49 hf50 hf51 hf52 hR (lv_sub hl [0, 1, 2, 3, 4, 5] rfl) hO hP hD hS
  exact lp21 8 0 0 s pl ls _ _ (by omega) (by omega) hF e_c0 e_c1 e_c2 e_c3 e_c4 e_c5 e_c6 e_c7 hR (lv_sub hl [0, 1, 2, 3, 4] rfl) hO hP hD hS
