abbrev c_MH_written : ByteArray := prog_13_method_23_code
abbrev y_MH_written : MethodName := ⟨"LatticeKeysModel$Hands", "written", "([B)V"⟩
abbrev w_MH_written : List Cond := Cond.code y_MH_written c_MH_written 8 none :: WG
theorem dMH_written_0 : decode c_MH_written 0 = .ok (.iconst 0, 1) := by decide +kernel
theorem dMH_written_1 : decode c_MH_written 1 = .ok (.istore_n 2, 1) := by decide +kernel
theorem dMH_written_2 : decode c_MH_written 2 = .ok (.iload_n 2, 1) := by decide +kernel
theorem dMH_written_3 : decode c_MH_written 3 = .ok (.aload_n 0, 1) := by decide +kernel
theorem dMH_written_4 : decode c_MH_written 4 = .ok (.getfield 132, 3) := by decide +kernel
theorem dMH_written_7 : decode c_MH_written 7 = .ok (.if_icmp .ge 18, 3) := by decide +kernel
theorem dMH_written_10 : decode c_MH_written 10 = .ok (.aload_n 1, 1) := by decide +kernel
theorem dMH_written_11 : decode c_MH_written 11 = .ok (.iload_n 2, 1) := by decide +kernel
theorem dMH_written_12 : decode c_MH_written 12 = .ok (.aload_n 0, 1) := by decide +kernel
theorem dMH_written_13 : decode c_MH_written 13 = .ok (.getfield 78, 3) := by decide +kernel
theorem dMH_written_16 : decode c_MH_written 16 = .ok (.iload_n 2, 1) := by decide +kernel
theorem dMH_written_17 : decode c_MH_written 17 = .ok (.baload, 1) := by decide +kernel
theorem dMH_written_18 : decode c_MH_written 18 = .ok (.bastore, 1) := by decide +kernel
theorem dMH_written_19 : decode c_MH_written 19 = .ok (.iinc 2 1, 3) := by decide +kernel
theorem dMH_written_22 : decode c_MH_written 22 = .ok (.goto (-20), 3) := by decide +kernel
theorem dMH_written_25 : decode c_MH_written 25 = .ok (.aload_n 0, 1) := by decide +kernel
theorem dMH_written_26 : decode c_MH_written 26 = .ok (.getfield 103, 3) := by decide +kernel
theorem dMH_written_29 : decode c_MH_written 29 = .ok (.ifCond .ne 8, 3) := by decide +kernel
theorem dMH_written_32 : decode c_MH_written 32 = .ok (.bipush 18, 2) := by decide +kernel
theorem dMH_written_34 : decode c_MH_written 34 = .ok (.goto 5, 3) := by decide +kernel
theorem dMH_written_37 : decode c_MH_written 37 = .ok (.bipush 20, 2) := by decide +kernel
theorem dMH_written_39 : decode c_MH_written 39 = .ok (.istore_n 2, 1) := by decide +kernel
theorem dMH_written_40 : decode c_MH_written 40 = .ok (.bipush 8, 2) := by decide +kernel
theorem dMH_written_42 : decode c_MH_written 42 = .ok (.aload_n 0, 1) := by decide +kernel
theorem dMH_written_43 : decode c_MH_written 43 = .ok (.getfield 132, 3) := by decide +kernel
theorem dMH_written_46 : decode c_MH_written 46 = .ok (.imul, 1) := by decide +kernel
theorem dMH_written_47 : decode c_MH_written 47 = .ok (.istore_n 3, 1) := by decide +kernel
theorem dMH_written_48 : decode c_MH_written 48 = .ok (.iconst 0, 1) := by decide +kernel
theorem dMH_written_49 : decode c_MH_written 49 = .ok (.istore 4, 2) := by decide +kernel
theorem dMH_written_51 : decode c_MH_written 51 = .ok (.iload 4, 2) := by decide +kernel
theorem dMH_written_53 : decode c_MH_written 53 = .ok (.aload_n 0, 1) := by decide +kernel
theorem dMH_written_54 : decode c_MH_written 54 = .ok (.getfield 110, 3) := by decide +kernel
theorem dMH_written_57 : decode c_MH_written 57 = .ok (.if_icmp .ge 53, 3) := by decide +kernel
theorem dMH_written_60 : decode c_MH_written 60 = .ok (.iconst 0, 1) := by decide +kernel
theorem dMH_written_61 : decode c_MH_written 61 = .ok (.istore 5, 2) := by decide +kernel
theorem dMH_written_63 : decode c_MH_written 63 = .ok (.iload 5, 2) := by decide +kernel
theorem dMH_written_65 : decode c_MH_written 65 = .ok (.sipush 256, 3) := by decide +kernel
theorem dMH_written_68 : decode c_MH_written 68 = .ok (.if_icmp .ge 36, 3) := by decide +kernel
theorem dMH_written_71 : decode c_MH_written 71 = .ok (.aload_n 1, 1) := by decide +kernel
theorem dMH_written_72 : decode c_MH_written 72 = .ok (.iload_n 3, 1) := by decide +kernel
theorem dMH_written_73 : decode c_MH_written 73 = .ok (.iload_n 2, 1) := by decide +kernel
theorem dMH_written_74 : decode c_MH_written 74 = .ok (.aload_n 0, 1) := by decide +kernel
theorem dMH_written_75 : decode c_MH_written 75 = .ok (.getfield 118, 3) := by decide +kernel
theorem dMH_written_78 : decode c_MH_written 78 = .ok (.aload_n 0, 1) := by decide +kernel
theorem dMH_written_79 : decode c_MH_written 79 = .ok (.getfield 39, 3) := by decide +kernel
theorem dMH_written_82 : decode c_MH_written 82 = .ok (.iload 4, 2) := by decide +kernel
theorem dMH_written_84 : decode c_MH_written 84 = .ok (.aaload, 1) := by decide +kernel
theorem dMH_written_85 : decode c_MH_written 85 = .ok (.iload 5, 2) := by decide +kernel
theorem dMH_written_87 : decode c_MH_written 87 = .ok (.iaload, 1) := by decide +kernel
theorem dMH_written_88 : decode c_MH_written 88 = .ok (.invokestatic 201, 3) := by decide +kernel
theorem dMH_written_91 : decode c_MH_written 91 = .ok (.invokestatic 187, 3) := by decide +kernel
theorem dMH_written_94 : decode c_MH_written 94 = .ok (.iload_n 3, 1) := by decide +kernel
theorem dMH_written_95 : decode c_MH_written 95 = .ok (.iload_n 2, 1) := by decide +kernel
theorem dMH_written_96 : decode c_MH_written 96 = .ok (.iadd, 1) := by decide +kernel
theorem dMH_written_97 : decode c_MH_written 97 = .ok (.istore_n 3, 1) := by decide +kernel
theorem dMH_written_98 : decode c_MH_written 98 = .ok (.iinc 5 1, 3) := by decide +kernel
theorem dMH_written_101 : decode c_MH_written 101 = .ok (.goto (-38), 3) := by decide +kernel
theorem dMH_written_104 : decode c_MH_written 104 = .ok (.iinc 4 1, 3) := by decide +kernel
theorem dMH_written_107 : decode c_MH_written 107 = .ok (.goto (-56), 3) := by decide +kernel
theorem dMH_written_110 : decode c_MH_written 110 = .ok (.iload_n 3, 1) := by decide +kernel
theorem dMH_written_111 : decode c_MH_written 111 = .ok (.bipush 8, 2) := by decide +kernel
theorem dMH_written_113 : decode c_MH_written 113 = .ok (.idiv, 1) := by decide +kernel
theorem dMH_written_114 : decode c_MH_written 114 = .ok (.istore 4, 2) := by decide +kernel
theorem dMH_written_116 : decode c_MH_written 116 = .ok (.iconst 0, 1) := by decide +kernel
theorem dMH_written_117 : decode c_MH_written 117 = .ok (.istore 5, 2) := by decide +kernel
theorem dMH_written_119 : decode c_MH_written 119 = .ok (.iconst 0, 1) := by decide +kernel
theorem dMH_written_120 : decode c_MH_written 120 = .ok (.istore 6, 2) := by decide +kernel
theorem dMH_written_122 : decode c_MH_written 122 = .ok (.iload 6, 2) := by decide +kernel
theorem dMH_written_124 : decode c_MH_written 124 = .ok (.getstatic 100, 3) := by decide +kernel
theorem dMH_written_127 : decode c_MH_written 127 = .ok (.aload_n 0, 1) := by decide +kernel
theorem dMH_written_128 : decode c_MH_written 128 = .ok (.getfield 103, 3) := by decide +kernel
theorem dMH_written_131 : decode c_MH_written 131 = .ok (.iaload, 1) := by decide +kernel
theorem dMH_written_132 : decode c_MH_written 132 = .ok (.aload_n 0, 1) := by decide +kernel
theorem dMH_written_133 : decode c_MH_written 133 = .ok (.getfield 107, 3) := by decide +kernel
theorem dMH_written_136 : decode c_MH_written 136 = .ok (.iadd, 1) := by decide +kernel
theorem dMH_written_137 : decode c_MH_written 137 = .ok (.if_icmp .ge 17, 3) := by decide +kernel
theorem dMH_written_140 : decode c_MH_written 140 = .ok (.aload_n 1, 1) := by decide +kernel
theorem dMH_written_141 : decode c_MH_written 141 = .ok (.iload 4, 2) := by decide +kernel
theorem dMH_written_143 : decode c_MH_written 143 = .ok (.iload 6, 2) := by decide +kernel
theorem dMH_written_145 : decode c_MH_written 145 = .ok (.iadd, 1) := by decide +kernel
theorem dMH_written_146 : decode c_MH_written 146 = .ok (.iconst 0, 1) := by decide +kernel
theorem dMH_written_147 : decode c_MH_written 147 = .ok (.bastore, 1) := by decide +kernel
theorem dMH_written_148 : decode c_MH_written 148 = .ok (.iinc 6 1, 3) := by decide +kernel
theorem dMH_written_151 : decode c_MH_written 151 = .ok (.goto (-29), 3) := by decide +kernel
theorem dMH_written_154 : decode c_MH_written 154 = .ok (.iconst 0, 1) := by decide +kernel
theorem dMH_written_155 : decode c_MH_written 155 = .ok (.istore 6, 2) := by decide +kernel
theorem dMH_written_157 : decode c_MH_written 157 = .ok (.iload 6, 2) := by decide +kernel
theorem dMH_written_159 : decode c_MH_written 159 = .ok (.aload_n 0, 1) := by decide +kernel
theorem dMH_written_160 : decode c_MH_written 160 = .ok (.getfield 107, 3) := by decide +kernel
theorem dMH_written_163 : decode c_MH_written 163 = .ok (.if_icmp .ge 74, 3) := by decide +kernel
theorem dMH_written_166 : decode c_MH_written 166 = .ok (.iconst 0, 1) := by decide +kernel
theorem dMH_written_167 : decode c_MH_written 167 = .ok (.istore 7, 2) := by decide +kernel
theorem dMH_written_169 : decode c_MH_written 169 = .ok (.iload 7, 2) := by decide +kernel
theorem dMH_written_171 : decode c_MH_written 171 = .ok (.sipush 256, 3) := by decide +kernel
theorem dMH_written_174 : decode c_MH_written 174 = .ok (.if_icmp .ge 38, 3) := by decide +kernel
theorem dMH_written_177 : decode c_MH_written 177 = .ok (.aload_n 0, 1) := by decide +kernel
theorem dMH_written_178 : decode c_MH_written 178 = .ok (.getfield 48, 3) := by decide +kernel
theorem dMH_written_181 : decode c_MH_written 181 = .ok (.iload 6, 2) := by decide +kernel
theorem dMH_written_183 : decode c_MH_written 183 = .ok (.aaload, 1) := by decide +kernel
theorem dMH_written_184 : decode c_MH_written 184 = .ok (.iload 7, 2) := by decide +kernel
theorem dMH_written_186 : decode c_MH_written 186 = .ok (.iaload, 1) := by decide +kernel
theorem dMH_written_187 : decode c_MH_written 187 = .ok (.ifCond .ne 6, 3) := by decide +kernel
theorem dMH_written_190 : decode c_MH_written 190 = .ok (.goto 16, 3) := by decide +kernel
theorem dMH_written_193 : decode c_MH_written 193 = .ok (.aload_n 1, 1) := by decide +kernel
theorem dMH_written_194 : decode c_MH_written 194 = .ok (.iload 4, 2) := by decide +kernel
theorem dMH_written_196 : decode c_MH_written 196 = .ok (.iload 5, 2) := by decide +kernel
theorem dMH_written_198 : decode c_MH_written 198 = .ok (.iadd, 1) := by decide +kernel
theorem dMH_written_199 : decode c_MH_written 199 = .ok (.iload 7, 2) := by decide +kernel
theorem dMH_written_201 : decode c_MH_written 201 = .ok (.i2b, 1) := by decide +kernel
theorem dMH_written_202 : decode c_MH_written 202 = .ok (.bastore, 1) := by decide +kernel
theorem dMH_written_203 : decode c_MH_written 203 = .ok (.iinc 5 1, 3) := by decide +kernel
theorem dMH_written_206 : decode c_MH_written 206 = .ok (.iinc 7 1, 3) := by decide +kernel
theorem dMH_written_209 : decode c_MH_written 209 = .ok (.goto (-40), 3) := by decide +kernel
theorem dMH_written_212 : decode c_MH_written 212 = .ok (.aload_n 1, 1) := by decide +kernel
theorem dMH_written_213 : decode c_MH_written 213 = .ok (.iload 4, 2) := by decide +kernel
theorem dMH_written_215 : decode c_MH_written 215 = .ok (.getstatic 100, 3) := by decide +kernel
theorem dMH_written_218 : decode c_MH_written 218 = .ok (.aload_n 0, 1) := by decide +kernel
theorem dMH_written_219 : decode c_MH_written 219 = .ok (.getfield 103, 3) := by decide +kernel
theorem dMH_written_222 : decode c_MH_written 222 = .ok (.iaload, 1) := by decide +kernel
theorem dMH_written_223 : decode c_MH_written 223 = .ok (.iadd, 1) := by decide +kernel
theorem dMH_written_224 : decode c_MH_written 224 = .ok (.iload 6, 2) := by decide +kernel
theorem dMH_written_226 : decode c_MH_written 226 = .ok (.iadd, 1) := by decide +kernel
theorem dMH_written_227 : decode c_MH_written 227 = .ok (.iload 5, 2) := by decide +kernel
theorem dMH_written_229 : decode c_MH_written 229 = .ok (.i2b, 1) := by decide +kernel
theorem dMH_written_230 : decode c_MH_written 230 = .ok (.bastore, 1) := by decide +kernel
theorem dMH_written_231 : decode c_MH_written 231 = .ok (.iinc 6 1, 3) := by decide +kernel
theorem dMH_written_234 : decode c_MH_written 234 = .ok (.goto (-77), 3) := by decide +kernel
theorem dMH_written_237 : decode c_MH_written 237 = .ok (.return_, 1) := by decide +kernel
abbrev c_MH_readHints : ByteArray := prog_13_method_24_code
abbrev y_MH_readHints : MethodName := ⟨"LatticeKeysModel$Hands", "readHints", "([BI)Z"⟩
abbrev w_MH_readHints : List Cond := Cond.code y_MH_readHints c_MH_readHints 8 (some .boolean) :: WG
theorem dMH_readHints_0 : decode c_MH_readHints 0 = .ok (.iconst 0, 1) := by decide +kernel
theorem dMH_readHints_1 : decode c_MH_readHints 1 = .ok (.istore_n 3, 1) := by decide +kernel
theorem dMH_readHints_2 : decode c_MH_readHints 2 = .ok (.iconst 0, 1) := by decide +kernel
theorem dMH_readHints_3 : decode c_MH_readHints 3 = .ok (.istore 4, 2) := by decide +kernel
theorem dMH_readHints_5 : decode c_MH_readHints 5 = .ok (.iload 4, 2) := by decide +kernel
theorem dMH_readHints_7 : decode c_MH_readHints 7 = .ok (.aload_n 0, 1) := by decide +kernel
theorem dMH_readHints_8 : decode c_MH_readHints 8 = .ok (.getfield 107, 3) := by decide +kernel
theorem dMH_readHints_11 : decode c_MH_readHints 11 = .ok (.if_icmp .ge 146, 3) := by decide +kernel
theorem dMH_readHints_14 : decode c_MH_readHints 14 = .ok (.iconst 0, 1) := by decide +kernel
theorem dMH_readHints_15 : decode c_MH_readHints 15 = .ok (.istore 5, 2) := by decide +kernel
theorem dMH_readHints_17 : decode c_MH_readHints 17 = .ok (.iload 5, 2) := by decide +kernel
theorem dMH_readHints_19 : decode c_MH_readHints 19 = .ok (.sipush 256, 3) := by decide +kernel
theorem dMH_readHints_22 : decode c_MH_readHints 22 = .ok (.if_icmp .ge 20, 3) := by decide +kernel
theorem dMH_readHints_25 : decode c_MH_readHints 25 = .ok (.aload_n 0, 1) := by decide +kernel
theorem dMH_readHints_26 : decode c_MH_readHints 26 = .ok (.getfield 48, 3) := by decide +kernel
theorem dMH_readHints_29 : decode c_MH_readHints 29 = .ok (.iload 4, 2) := by decide +kernel
theorem dMH_readHints_31 : decode c_MH_readHints 31 = .ok (.aaload, 1) := by decide +kernel
theorem dMH_readHints_32 : decode c_MH_readHints 32 = .ok (.iload 5, 2) := by decide +kernel
theorem dMH_readHints_34 : decode c_MH_readHints 34 = .ok (.iconst 0, 1) := by decide +kernel
theorem dMH_readHints_35 : decode c_MH_readHints 35 = .ok (.iastore, 1) := by decide +kernel
theorem dMH_readHints_36 : decode c_MH_readHints 36 = .ok (.iinc 5 1, 3) := by decide +kernel
theorem dMH_readHints_39 : decode c_MH_readHints 39 = .ok (.goto (-22), 3) := by decide +kernel
theorem dMH_readHints_42 : decode c_MH_readHints 42 = .ok (.aload_n 1, 1) := by decide +kernel
theorem dMH_readHints_43 : decode c_MH_readHints 43 = .ok (.iload_n 2, 1) := by decide +kernel
theorem dMH_readHints_44 : decode c_MH_readHints 44 = .ok (.getstatic 100, 3) := by decide +kernel
theorem dMH_readHints_47 : decode c_MH_readHints 47 = .ok (.aload_n 0, 1) := by decide +kernel
theorem dMH_readHints_48 : decode c_MH_readHints 48 = .ok (.getfield 103, 3) := by decide +kernel
theorem dMH_readHints_51 : decode c_MH_readHints 51 = .ok (.iaload, 1) := by decide +kernel
theorem dMH_readHints_52 : decode c_MH_readHints 52 = .ok (.iadd, 1) := by decide +kernel
theorem dMH_readHints_53 : decode c_MH_readHints 53 = .ok (.iload 4, 2) := by decide +kernel
theorem dMH_readHints_55 : decode c_MH_readHints 55 = .ok (.iadd, 1) := by decide +kernel
theorem dMH_readHints_56 : decode c_MH_readHints 56 = .ok (.baload, 1) := by decide +kernel
theorem dMH_readHints_57 : decode c_MH_readHints 57 = .ok (.sipush 255, 3) := by decide +kernel
theorem dMH_readHints_60 : decode c_MH_readHints 60 = .ok (.iand, 1) := by decide +kernel
theorem dMH_readHints_61 : decode c_MH_readHints 61 = .ok (.istore 5, 2) := by decide +kernel
theorem dMH_readHints_63 : decode c_MH_readHints 63 = .ok (.iload 5, 2) := by decide +kernel
theorem dMH_readHints_65 : decode c_MH_readHints 65 = .ok (.iload_n 3, 1) := by decide +kernel
theorem dMH_readHints_66 : decode c_MH_readHints 66 = .ok (.if_icmp .lt 16, 3) := by decide +kernel
theorem dMH_readHints_69 : decode c_MH_readHints 69 = .ok (.iload 5, 2) := by decide +kernel
theorem dMH_readHints_71 : decode c_MH_readHints 71 = .ok (.getstatic 100, 3) := by decide +kernel
theorem dMH_readHints_74 : decode c_MH_readHints 74 = .ok (.aload_n 0, 1) := by decide +kernel
theorem dMH_readHints_75 : decode c_MH_readHints 75 = .ok (.getfield 103, 3) := by decide +kernel
theorem dMH_readHints_78 : decode c_MH_readHints 78 = .ok (.iaload, 1) := by decide +kernel
theorem dMH_readHints_79 : decode c_MH_readHints 79 = .ok (.if_icmp .le 5, 3) := by decide +kernel
theorem dMH_readHints_82 : decode c_MH_readHints 82 = .ok (.iconst 0, 1) := by decide +kernel
theorem dMH_readHints_83 : decode c_MH_readHints 83 = .ok (.ireturn, 1) := by decide +kernel
theorem dMH_readHints_84 : decode c_MH_readHints 84 = .ok (.iload_n 3, 1) := by decide +kernel
theorem dMH_readHints_85 : decode c_MH_readHints 85 = .ok (.istore 6, 2) := by decide +kernel
theorem dMH_readHints_87 : decode c_MH_readHints 87 = .ok (.iload 6, 2) := by decide +kernel
theorem dMH_readHints_89 : decode c_MH_readHints 89 = .ok (.iload 5, 2) := by decide +kernel
theorem dMH_readHints_91 : decode c_MH_readHints 91 = .ok (.if_icmp .ge 57, 3) := by decide +kernel
theorem dMH_readHints_94 : decode c_MH_readHints 94 = .ok (.aload_n 1, 1) := by decide +kernel
theorem dMH_readHints_95 : decode c_MH_readHints 95 = .ok (.iload_n 2, 1) := by decide +kernel
theorem dMH_readHints_96 : decode c_MH_readHints 96 = .ok (.iload 6, 2) := by decide +kernel
theorem dMH_readHints_98 : decode c_MH_readHints 98 = .ok (.iadd, 1) := by decide +kernel
theorem dMH_readHints_99 : decode c_MH_readHints 99 = .ok (.baload, 1) := by decide +kernel
theorem dMH_readHints_100 : decode c_MH_readHints 100 = .ok (.sipush 255, 3) := by decide +kernel
theorem dMH_readHints_103 : decode c_MH_readHints 103 = .ok (.iand, 1) := by decide +kernel
theorem dMH_readHints_104 : decode c_MH_readHints 104 = .ok (.istore 7, 2) := by decide +kernel
theorem dMH_readHints_106 : decode c_MH_readHints 106 = .ok (.iload 6, 2) := by decide +kernel
theorem dMH_readHints_108 : decode c_MH_readHints 108 = .ok (.iload_n 3, 1) := by decide +kernel
theorem dMH_readHints_109 : decode c_MH_readHints 109 = .ok (.if_icmp .le 22, 3) := by decide +kernel
theorem dMH_readHints_112 : decode c_MH_readHints 112 = .ok (.aload_n 1, 1) := by decide +kernel
theorem dMH_readHints_113 : decode c_MH_readHints 113 = .ok (.iload_n 2, 1) := by decide +kernel
theorem dMH_readHints_114 : decode c_MH_readHints 114 = .ok (.iload 6, 2) := by decide +kernel
theorem dMH_readHints_116 : decode c_MH_readHints 116 = .ok (.iadd, 1) := by decide +kernel
theorem dMH_readHints_117 : decode c_MH_readHints 117 = .ok (.iconst 1, 1) := by decide +kernel
theorem dMH_readHints_118 : decode c_MH_readHints 118 = .ok (.isub, 1) := by decide +kernel
theorem dMH_readHints_119 : decode c_MH_readHints 119 = .ok (.baload, 1) := by decide +kernel
theorem dMH_readHints_120 : decode c_MH_readHints 120 = .ok (.sipush 255, 3) := by decide +kernel
theorem dMH_readHints_123 : decode c_MH_readHints 123 = .ok (.iand, 1) := by decide +kernel
theorem dMH_readHints_124 : decode c_MH_readHints 124 = .ok (.iload 7, 2) := by decide +kernel
theorem dMH_readHints_126 : decode c_MH_readHints 126 = .ok (.if_icmp .lt 5, 3) := by decide +kernel
theorem dMH_readHints_129 : decode c_MH_readHints 129 = .ok (.iconst 0, 1) := by decide +kernel
theorem dMH_readHints_130 : decode c_MH_readHints 130 = .ok (.ireturn, 1) := by decide +kernel
theorem dMH_readHints_131 : decode c_MH_readHints 131 = .ok (.aload_n 0, 1) := by decide +kernel
theorem dMH_readHints_132 : decode c_MH_readHints 132 = .ok (.getfield 48, 3) := by decide +kernel
theorem dMH_readHints_135 : decode c_MH_readHints 135 = .ok (.iload 4, 2) := by decide +kernel
theorem dMH_readHints_137 : decode c_MH_readHints 137 = .ok (.aaload, 1) := by decide +kernel
theorem dMH_readHints_138 : decode c_MH_readHints 138 = .ok (.iload 7, 2) := by decide +kernel
theorem dMH_readHints_140 : decode c_MH_readHints 140 = .ok (.iconst 1, 1) := by decide +kernel
theorem dMH_readHints_141 : decode c_MH_readHints 141 = .ok (.iastore, 1) := by decide +kernel
theorem dMH_readHints_142 : decode c_MH_readHints 142 = .ok (.iinc 6 1, 3) := by decide +kernel
theorem dMH_readHints_145 : decode c_MH_readHints 145 = .ok (.goto (-58), 3) := by decide +kernel
theorem dMH_readHints_148 : decode c_MH_readHints 148 = .ok (.iload 5, 2) := by decide +kernel
theorem dMH_readHints_150 : decode c_MH_readHints 150 = .ok (.istore_n 3, 1) := by decide +kernel
theorem dMH_readHints_151 : decode c_MH_readHints 151 = .ok (.iinc 4 1, 3) := by decide +kernel
theorem dMH_readHints_154 : decode c_MH_readHints 154 = .ok (.goto (-149), 3) := by decide +kernel
theorem dMH_readHints_157 : decode c_MH_readHints 157 = .ok (.iload_n 3, 1) := by decide +kernel
theorem dMH_readHints_158 : decode c_MH_readHints 158 = .ok (.istore 4, 2) := by decide +kernel
theorem dMH_readHints_160 : decode c_MH_readHints 160 = .ok (.iload 4, 2) := by decide +kernel
theorem dMH_readHints_162 : decode c_MH_readHints 162 = .ok (.getstatic 100, 3) := by decide +kernel
theorem dMH_readHints_165 : decode c_MH_readHints 165 = .ok (.aload_n 0, 1) := by decide +kernel
theorem dMH_readHints_166 : decode c_MH_readHints 166 = .ok (.getfield 103, 3) := by decide +kernel
theorem dMH_readHints_169 : decode c_MH_readHints 169 = .ok (.iaload, 1) := by decide +kernel
theorem dMH_readHints_170 : decode c_MH_readHints 170 = .ok (.if_icmp .ge 20, 3) := by decide +kernel
theorem dMH_readHints_173 : decode c_MH_readHints 173 = .ok (.aload_n 1, 1) := by decide +kernel
theorem dMH_readHints_174 : decode c_MH_readHints 174 = .ok (.iload_n 2, 1) := by decide +kernel
theorem dMH_readHints_175 : decode c_MH_readHints 175 = .ok (.iload 4, 2) := by decide +kernel
theorem dMH_readHints_177 : decode c_MH_readHints 177 = .ok (.iadd, 1) := by decide +kernel
theorem dMH_readHints_178 : decode c_MH_readHints 178 = .ok (.baload, 1) := by decide +kernel
theorem dMH_readHints_179 : decode c_MH_readHints 179 = .ok (.ifCond .eq 5, 3) := by decide +kernel
theorem dMH_readHints_182 : decode c_MH_readHints 182 = .ok (.iconst 0, 1) := by decide +kernel
theorem dMH_readHints_183 : decode c_MH_readHints 183 = .ok (.ireturn, 1) := by decide +kernel
theorem dMH_readHints_184 : decode c_MH_readHints 184 = .ok (.iinc 4 1, 3) := by decide +kernel
theorem dMH_readHints_187 : decode c_MH_readHints 187 = .ok (.goto (-27), 3) := by decide +kernel
theorem dMH_readHints_190 : decode c_MH_readHints 190 = .ok (.iconst 1, 1) := by decide +kernel
theorem dMH_readHints_191 : decode c_MH_readHints 191 = .ok (.ireturn, 1) := by decide +kernel
abbrev c_MH_expand : ByteArray := prog_13_method_7_code
abbrev y_MH_expand : MethodName := ⟨"LatticeKeysModel$Hands", "expand", "([B)V"⟩
abbrev w_MH_expand : List Cond := Cond.code y_MH_expand c_MH_expand 6 none :: WG
theorem dMH_expand_0 : decode c_MH_expand 0 = .ok (.iconst 0, 1) := by decide +kernel
theorem dMH_expand_1 : decode c_MH_expand 1 = .ok (.istore_n 2, 1) := by decide +kernel
theorem dMH_expand_2 : decode c_MH_expand 2 = .ok (.iload_n 2, 1) := by decide +kernel
theorem dMH_expand_3 : decode c_MH_expand 3 = .ok (.aload_n 0, 1) := by decide +kernel
theorem dMH_expand_4 : decode c_MH_expand 4 = .ok (.getfield 107, 3) := by decide +kernel
theorem dMH_expand_7 : decode c_MH_expand 7 = .ok (.if_icmp .ge 156, 3) := by decide +kernel
theorem dMH_expand_10 : decode c_MH_expand 10 = .ok (.iconst 0, 1) := by decide +kernel
theorem dMH_expand_11 : decode c_MH_expand 11 = .ok (.istore_n 3, 1) := by decide +kernel
theorem dMH_expand_12 : decode c_MH_expand 12 = .ok (.iload_n 3, 1) := by decide +kernel
theorem dMH_expand_13 : decode c_MH_expand 13 = .ok (.aload_n 0, 1) := by decide +kernel
theorem dMH_expand_14 : decode c_MH_expand 14 = .ok (.getfield 110, 3) := by decide +kernel
theorem dMH_expand_17 : decode c_MH_expand 17 = .ok (.if_icmp .ge 140, 3) := by decide +kernel
theorem dMH_expand_20 : decode c_MH_expand 20 = .ok (.aload_n 0, 1) := by decide +kernel
theorem dMH_expand_21 : decode c_MH_expand 21 = .ok (.getfield 87, 3) := by decide +kernel
theorem dMH_expand_24 : decode c_MH_expand 24 = .ok (.sipush 168, 3) := by decide +kernel
theorem dMH_expand_27 : decode c_MH_expand 27 = .ok (.bipush 31, 2) := by decide +kernel
theorem dMH_expand_29 : decode c_MH_expand 29 = .ok (.invokevirtual 136, 3) := by decide +kernel
theorem dMH_expand_32 : decode c_MH_expand 32 = .ok (.aload_n 0, 1) := by decide +kernel
theorem dMH_expand_33 : decode c_MH_expand 33 = .ok (.getfield 87, 3) := by decide +kernel
theorem dMH_expand_36 : decode c_MH_expand 36 = .ok (.aload_n 1, 1) := by decide +kernel
theorem dMH_expand_37 : decode c_MH_expand 37 = .ok (.iconst 0, 1) := by decide +kernel
theorem dMH_expand_38 : decode c_MH_expand 38 = .ok (.bipush 32, 2) := by decide +kernel
theorem dMH_expand_40 : decode c_MH_expand 40 = .ok (.invokevirtual 142, 3) := by decide +kernel
theorem dMH_expand_43 : decode c_MH_expand 43 = .ok (.aload_n 0, 1) := by decide +kernel
theorem dMH_expand_44 : decode c_MH_expand 44 = .ok (.getfield 87, 3) := by decide +kernel
theorem dMH_expand_47 : decode c_MH_expand 47 = .ok (.iload_n 3, 1) := by decide +kernel
theorem dMH_expand_48 : decode c_MH_expand 48 = .ok (.invokevirtual 146, 3) := by decide +kernel
theorem dMH_expand_51 : decode c_MH_expand 51 = .ok (.aload_n 0, 1) := by decide +kernel
theorem dMH_expand_52 : decode c_MH_expand 52 = .ok (.getfield 87, 3) := by decide +kernel
theorem dMH_expand_55 : decode c_MH_expand 55 = .ok (.iload_n 2, 1) := by decide +kernel
theorem dMH_expand_56 : decode c_MH_expand 56 = .ok (.invokevirtual 146, 3) := by decide +kernel
theorem dMH_expand_59 : decode c_MH_expand 59 = .ok (.aload_n 0, 1) := by decide +kernel
theorem dMH_expand_60 : decode c_MH_expand 60 = .ok (.getfield 87, 3) := by decide +kernel
theorem dMH_expand_63 : decode c_MH_expand 63 = .ok (.invokevirtual 149, 3) := by decide +kernel
theorem dMH_expand_66 : decode c_MH_expand 66 = .ok (.iconst 0, 1) := by decide +kernel
theorem dMH_expand_67 : decode c_MH_expand 67 = .ok (.istore 4, 2) := by decide +kernel
theorem dMH_expand_69 : decode c_MH_expand 69 = .ok (.iload 4, 2) := by decide +kernel
theorem dMH_expand_71 : decode c_MH_expand 71 = .ok (.sipush 256, 3) := by decide +kernel
theorem dMH_expand_74 : decode c_MH_expand 74 = .ok (.if_icmp .ge 77, 3) := by decide +kernel
theorem dMH_expand_77 : decode c_MH_expand 77 = .ok (.aload_n 0, 1) := by decide +kernel
theorem dMH_expand_78 : decode c_MH_expand 78 = .ok (.getfield 87, 3) := by decide +kernel
theorem dMH_expand_81 : decode c_MH_expand 81 = .ok (.invokevirtual 152, 3) := by decide +kernel
theorem dMH_expand_84 : decode c_MH_expand 84 = .ok (.istore 5, 2) := by decide +kernel
theorem dMH_expand_86 : decode c_MH_expand 86 = .ok (.iload 5, 2) := by decide +kernel
theorem dMH_expand_88 : decode c_MH_expand 88 = .ok (.aload_n 0, 1) := by decide +kernel
theorem dMH_expand_89 : decode c_MH_expand 89 = .ok (.getfield 87, 3) := by decide +kernel
theorem dMH_expand_92 : decode c_MH_expand 92 = .ok (.invokevirtual 152, 3) := by decide +kernel
theorem dMH_expand_95 : decode c_MH_expand 95 = .ok (.bipush 8, 2) := by decide +kernel
theorem dMH_expand_97 : decode c_MH_expand 97 = .ok (.ishl, 1) := by decide +kernel
theorem dMH_expand_98 : decode c_MH_expand 98 = .ok (.iadd, 1) := by decide +kernel
theorem dMH_expand_99 : decode c_MH_expand 99 = .ok (.istore 5, 2) := by decide +kernel
theorem dMH_expand_101 : decode c_MH_expand 101 = .ok (.iload 5, 2) := by decide +kernel
theorem dMH_expand_103 : decode c_MH_expand 103 = .ok (.aload_n 0, 1) := by decide +kernel
theorem dMH_expand_104 : decode c_MH_expand 104 = .ok (.getfield 87, 3) := by decide +kernel
theorem dMH_expand_107 : decode c_MH_expand 107 = .ok (.invokevirtual 152, 3) := by decide +kernel
theorem dMH_expand_110 : decode c_MH_expand 110 = .ok (.bipush 127, 2) := by decide +kernel
theorem dMH_expand_112 : decode c_MH_expand 112 = .ok (.iand, 1) := by decide +kernel
theorem dMH_expand_113 : decode c_MH_expand 113 = .ok (.bipush 16, 2) := by decide +kernel
theorem dMH_expand_115 : decode c_MH_expand 115 = .ok (.ishl, 1) := by decide +kernel
theorem dMH_expand_116 : decode c_MH_expand 116 = .ok (.iadd, 1) := by decide +kernel
theorem dMH_expand_117 : decode c_MH_expand 117 = .ok (.istore 5, 2) := by decide +kernel
theorem dMH_expand_119 : decode c_MH_expand 119 = .ok (.iload 5, 2) := by decide +kernel
theorem dMH_expand_121 : decode c_MH_expand 121 = .ok (.ldc 11, 2) := by decide +kernel
theorem dMH_expand_123 : decode c_MH_expand 123 = .ok (.if_icmp .lt 6, 3) := by decide +kernel
theorem dMH_expand_126 : decode c_MH_expand 126 = .ok (.goto (-57), 3) := by decide +kernel
theorem dMH_expand_129 : decode c_MH_expand 129 = .ok (.aload_n 0, 1) := by decide +kernel
theorem dMH_expand_130 : decode c_MH_expand 130 = .ok (.getfield 21, 3) := by decide +kernel
theorem dMH_expand_133 : decode c_MH_expand 133 = .ok (.bipush 8, 2) := by decide +kernel
theorem dMH_expand_135 : decode c_MH_expand 135 = .ok (.iload_n 2, 1) := by decide +kernel
theorem dMH_expand_136 : decode c_MH_expand 136 = .ok (.imul, 1) := by decide +kernel
theorem dMH_expand_137 : decode c_MH_expand 137 = .ok (.iload_n 3, 1) := by decide +kernel
theorem dMH_expand_138 : decode c_MH_expand 138 = .ok (.iadd, 1) := by decide +kernel
theorem dMH_expand_139 : decode c_MH_expand 139 = .ok (.aaload, 1) := by decide +kernel
theorem dMH_expand_140 : decode c_MH_expand 140 = .ok (.iload 4, 2) := by decide +kernel
theorem dMH_expand_142 : decode c_MH_expand 142 = .ok (.iload 5, 2) := by decide +kernel
theorem dMH_expand_144 : decode c_MH_expand 144 = .ok (.iastore, 1) := by decide +kernel
theorem dMH_expand_145 : decode c_MH_expand 145 = .ok (.iinc 4 1, 3) := by decide +kernel
theorem dMH_expand_148 : decode c_MH_expand 148 = .ok (.goto (-79), 3) := by decide +kernel
theorem dMH_expand_151 : decode c_MH_expand 151 = .ok (.iinc 3 1, 3) := by decide +kernel
theorem dMH_expand_154 : decode c_MH_expand 154 = .ok (.goto (-142), 3) := by decide +kernel
theorem dMH_expand_157 : decode c_MH_expand 157 = .ok (.iinc 2 1, 3) := by decide +kernel
theorem dMH_expand_160 : decode c_MH_expand 160 = .ok (.goto (-158), 3) := by decide +kernel
theorem dMH_expand_163 : decode c_MH_expand 163 = .ok (.return_, 1) := by decide +kernel
abbrev c_MH_small : ByteArray := prog_13_method_8_code
abbrev y_MH_small : MethodName := ⟨"LatticeKeysModel$Hands", "small", "([I[BII)V"⟩
abbrev w_MH_small : List Cond := Cond.code y_MH_small c_MH_small 9 none :: WG
theorem dMH_small_0 : decode c_MH_small 0 = .ok (.aload_n 0, 1) := by decide +kernel
theorem dMH_small_1 : decode c_MH_small 1 = .ok (.getfield 87, 3) := by decide +kernel
theorem dMH_small_4 : decode c_MH_small 4 = .ok (.invokevirtual 156, 3) := by decide +kernel
theorem dMH_small_7 : decode c_MH_small 7 = .ok (.aload_n 0, 1) := by decide +kernel
theorem dMH_small_8 : decode c_MH_small 8 = .ok (.getfield 87, 3) := by decide +kernel
theorem dMH_small_11 : decode c_MH_small 11 = .ok (.aload_n 2, 1) := by decide +kernel
theorem dMH_small_12 : decode c_MH_small 12 = .ok (.iload_n 3, 1) := by decide +kernel
theorem dMH_small_13 : decode c_MH_small 13 = .ok (.bipush 64, 2) := by decide +kernel
theorem dMH_small_15 : decode c_MH_small 15 = .ok (.invokevirtual 142, 3) := by decide +kernel
theorem dMH_small_18 : decode c_MH_small 18 = .ok (.aload_n 0, 1) := by decide +kernel
theorem dMH_small_19 : decode c_MH_small 19 = .ok (.getfield 87, 3) := by decide +kernel
theorem dMH_small_22 : decode c_MH_small 22 = .ok (.iload 4, 2) := by decide +kernel
theorem dMH_small_24 : decode c_MH_small 24 = .ok (.invokevirtual 146, 3) := by decide +kernel
theorem dMH_small_27 : decode c_MH_small 27 = .ok (.aload_n 0, 1) := by decide +kernel
theorem dMH_small_28 : decode c_MH_small 28 = .ok (.getfield 87, 3) := by decide +kernel
theorem dMH_small_31 : decode c_MH_small 31 = .ok (.iload 4, 2) := by decide +kernel
theorem dMH_small_33 : decode c_MH_small 33 = .ok (.bipush 8, 2) := by decide +kernel
theorem dMH_small_35 : decode c_MH_small 35 = .ok (.ishr, 1) := by decide +kernel
theorem dMH_small_36 : decode c_MH_small 36 = .ok (.invokevirtual 146, 3) := by decide +kernel
theorem dMH_small_39 : decode c_MH_small 39 = .ok (.aload_n 0, 1) := by decide +kernel
theorem dMH_small_40 : decode c_MH_small 40 = .ok (.getfield 87, 3) := by decide +kernel
theorem dMH_small_43 : decode c_MH_small 43 = .ok (.invokevirtual 149, 3) := by decide +kernel
theorem dMH_small_46 : decode c_MH_small 46 = .ok (.iconst 0, 1) := by decide +kernel
theorem dMH_small_47 : decode c_MH_small 47 = .ok (.istore 5, 2) := by decide +kernel
theorem dMH_small_49 : decode c_MH_small 49 = .ok (.iload 5, 2) := by decide +kernel
theorem dMH_small_51 : decode c_MH_small 51 = .ok (.sipush 256, 3) := by decide +kernel
theorem dMH_small_54 : decode c_MH_small 54 = .ok (.if_icmp .ge 131, 3) := by decide +kernel
theorem dMH_small_57 : decode c_MH_small 57 = .ok (.aload_n 0, 1) := by decide +kernel
theorem dMH_small_58 : decode c_MH_small 58 = .ok (.getfield 87, 3) := by decide +kernel
theorem dMH_small_61 : decode c_MH_small 61 = .ok (.invokevirtual 152, 3) := by decide +kernel
theorem dMH_small_64 : decode c_MH_small 64 = .ok (.istore 6, 2) := by decide +kernel
theorem dMH_small_66 : decode c_MH_small 66 = .ok (.iconst 0, 1) := by decide +kernel
theorem dMH_small_67 : decode c_MH_small 67 = .ok (.istore 7, 2) := by decide +kernel
theorem dMH_small_69 : decode c_MH_small 69 = .ok (.iload 7, 2) := by decide +kernel
theorem dMH_small_71 : decode c_MH_small 71 = .ok (.iconst 2, 1) := by decide +kernel
theorem dMH_small_72 : decode c_MH_small 72 = .ok (.if_icmp .ge 110, 3) := by decide +kernel
theorem dMH_small_75 : decode c_MH_small 75 = .ok (.iload 5, 2) := by decide +kernel
theorem dMH_small_77 : decode c_MH_small 77 = .ok (.sipush 256, 3) := by decide +kernel
theorem dMH_small_80 : decode c_MH_small 80 = .ok (.if_icmp .ge 102, 3) := by decide +kernel
theorem dMH_small_83 : decode c_MH_small 83 = .ok (.iload 7, 2) := by decide +kernel
theorem dMH_small_85 : decode c_MH_small 85 = .ok (.ifCond .ne 11, 3) := by decide +kernel
theorem dMH_small_88 : decode c_MH_small 88 = .ok (.iload 6, 2) := by decide +kernel
theorem dMH_small_90 : decode c_MH_small 90 = .ok (.bipush 16, 2) := by decide +kernel
theorem dMH_small_92 : decode c_MH_small 92 = .ok (.irem, 1) := by decide +kernel
theorem dMH_small_93 : decode c_MH_small 93 = .ok (.goto 8, 3) := by decide +kernel
theorem dMH_small_96 : decode c_MH_small 96 = .ok (.iload 6, 2) := by decide +kernel
theorem dMH_small_98 : decode c_MH_small 98 = .ok (.bipush 16, 2) := by decide +kernel
theorem dMH_small_100 : decode c_MH_small 100 = .ok (.idiv, 1) := by decide +kernel
theorem dMH_small_101 : decode c_MH_small 101 = .ok (.istore 8, 2) := by decide +kernel
theorem dMH_small_103 : decode c_MH_small 103 = .ok (.aload_n 0, 1) := by decide +kernel
theorem dMH_small_104 : decode c_MH_small 104 = .ok (.getfield 113, 3) := by decide +kernel
theorem dMH_small_107 : decode c_MH_small 107 = .ok (.iconst 2, 1) := by decide +kernel
theorem dMH_small_108 : decode c_MH_small 108 = .ok (.if_icmp .ne 13, 3) := by decide +kernel
theorem dMH_small_111 : decode c_MH_small 111 = .ok (.iload 8, 2) := by decide +kernel
theorem dMH_small_113 : decode c_MH_small 113 = .ok (.bipush 14, 2) := by decide +kernel
theorem dMH_small_115 : decode c_MH_small 115 = .ok (.if_icmp .le 16, 3) := by decide +kernel
theorem dMH_small_118 : decode c_MH_small 118 = .ok (.goto 58, 3) := by decide +kernel
theorem dMH_small_121 : decode c_MH_small 121 = .ok (.iload 8, 2) := by decide +kernel
theorem dMH_small_123 : decode c_MH_small 123 = .ok (.bipush 8, 2) := by decide +kernel
theorem dMH_small_125 : decode c_MH_small 125 = .ok (.if_icmp .le 6, 3) := by decide +kernel
theorem dMH_small_128 : decode c_MH_small 128 = .ok (.goto 48, 3) := by decide +kernel
theorem dMH_small_131 : decode c_MH_small 131 = .ok (.aload_n 0, 1) := by decide +kernel
theorem dMH_small_132 : decode c_MH_small 132 = .ok (.getfield 113, 3) := by decide +kernel
theorem dMH_small_135 : decode c_MH_small 135 = .ok (.iconst 2, 1) := by decide +kernel
theorem dMH_small_136 : decode c_MH_small 136 = .ok (.if_icmp .ne 12, 3) := by decide +kernel
theorem dMH_small_139 : decode c_MH_small 139 = .ok (.iconst 2, 1) := by decide +kernel
theorem dMH_small_140 : decode c_MH_small 140 = .ok (.iload 8, 2) := by decide +kernel
theorem dMH_small_142 : decode c_MH_small 142 = .ok (.iconst 5, 1) := by decide +kernel
theorem dMH_small_143 : decode c_MH_small 143 = .ok (.irem, 1) := by decide +kernel
theorem dMH_small_144 : decode c_MH_small 144 = .ok (.isub, 1) := by decide +kernel
theorem dMH_small_145 : decode c_MH_small 145 = .ok (.goto 7, 3) := by decide +kernel
theorem dMH_small_148 : decode c_MH_small 148 = .ok (.iconst 4, 1) := by decide +kernel
theorem dMH_small_149 : decode c_MH_small 149 = .ok (.iload 8, 2) := by decide +kernel
theorem dMH_small_151 : decode c_MH_small 151 = .ok (.isub, 1) := by decide +kernel
theorem dMH_small_152 : decode c_MH_small 152 = .ok (.istore 8, 2) := by decide +kernel
theorem dMH_small_154 : decode c_MH_small 154 = .ok (.aload_n 1, 1) := by decide +kernel
theorem dMH_small_155 : decode c_MH_small 155 = .ok (.iload 5, 2) := by decide +kernel
theorem dMH_small_157 : decode c_MH_small 157 = .ok (.iload 8, 2) := by decide +kernel
theorem dMH_small_159 : decode c_MH_small 159 = .ok (.ifCond .ge 11, 3) := by decide +kernel
theorem dMH_small_162 : decode c_MH_small 162 = .ok (.iload 8, 2) := by decide +kernel
theorem dMH_small_164 : decode c_MH_small 164 = .ok (.ldc 11, 2) := by decide +kernel
theorem dMH_small_166 : decode c_MH_small 166 = .ok (.iadd, 1) := by decide +kernel
theorem dMH_small_167 : decode c_MH_small 167 = .ok (.goto 5, 3) := by decide +kernel
theorem dMH_small_170 : decode c_MH_small 170 = .ok (.iload 8, 2) := by decide +kernel
theorem dMH_small_172 : decode c_MH_small 172 = .ok (.iastore, 1) := by decide +kernel
theorem dMH_small_173 : decode c_MH_small 173 = .ok (.iinc 5 1, 3) := by decide +kernel
theorem dMH_small_176 : decode c_MH_small 176 = .ok (.iinc 7 1, 3) := by decide +kernel
theorem dMH_small_179 : decode c_MH_small 179 = .ok (.goto (-110), 3) := by decide +kernel
theorem dMH_small_182 : decode c_MH_small 182 = .ok (.goto (-133), 3) := by decide +kernel
theorem dMH_small_185 : decode c_MH_small 185 = .ok (.return_, 1) := by decide +kernel
abbrev c_MH_ball : ByteArray := prog_13_method_20_code
abbrev y_MH_ball : MethodName := ⟨"LatticeKeysModel$Hands", "ball", "([B)V"⟩
abbrev w_MH_ball : List Cond := Cond.code y_MH_ball c_MH_ball 6 none :: WG
theorem dMH_ball_0 : decode c_MH_ball 0 = .ok (.aload_n 0, 1) := by decide +kernel
theorem dMH_ball_1 : decode c_MH_ball 1 = .ok (.getfield 87, 3) := by decide +kernel
theorem dMH_ball_4 : decode c_MH_ball 4 = .ok (.invokevirtual 156, 3) := by decide +kernel
theorem dMH_ball_7 : decode c_MH_ball 7 = .ok (.aload_n 0, 1) := by decide +kernel
theorem dMH_ball_8 : decode c_MH_ball 8 = .ok (.getfield 87, 3) := by decide +kernel
theorem dMH_ball_11 : decode c_MH_ball 11 = .ok (.aload_n 1, 1) := by decide +kernel
theorem dMH_ball_12 : decode c_MH_ball 12 = .ok (.iconst 0, 1) := by decide +kernel
theorem dMH_ball_13 : decode c_MH_ball 13 = .ok (.aload_n 0, 1) := by decide +kernel
theorem dMH_ball_14 : decode c_MH_ball 14 = .ok (.getfield 132, 3) := by decide +kernel
theorem dMH_ball_17 : decode c_MH_ball 17 = .ok (.invokevirtual 142, 3) := by decide +kernel
theorem dMH_ball_20 : decode c_MH_ball 20 = .ok (.aload_n 0, 1) := by decide +kernel
theorem dMH_ball_21 : decode c_MH_ball 21 = .ok (.getfield 87, 3) := by decide +kernel
theorem dMH_ball_24 : decode c_MH_ball 24 = .ok (.invokevirtual 149, 3) := by decide +kernel
theorem dMH_ball_27 : decode c_MH_ball 27 = .ok (.lconst 0, 1) := by decide +kernel
theorem dMH_ball_28 : decode c_MH_ball 28 = .ok (.lstore_n 2, 1) := by decide +kernel
theorem dMH_ball_29 : decode c_MH_ball 29 = .ok (.iconst 0, 1) := by decide +kernel
theorem dMH_ball_30 : decode c_MH_ball 30 = .ok (.istore 4, 2) := by decide +kernel
theorem dMH_ball_32 : decode c_MH_ball 32 = .ok (.iload 4, 2) := by decide +kernel
theorem dMH_ball_34 : decode c_MH_ball 34 = .ok (.bipush 8, 2) := by decide +kernel
theorem dMH_ball_36 : decode c_MH_ball 36 = .ok (.if_icmp .ge 26, 3) := by decide +kernel
theorem dMH_ball_39 : decode c_MH_ball 39 = .ok (.lload_n 2, 1) := by decide +kernel
theorem dMH_ball_40 : decode c_MH_ball 40 = .ok (.aload_n 0, 1) := by decide +kernel
theorem dMH_ball_41 : decode c_MH_ball 41 = .ok (.getfield 87, 3) := by decide +kernel
theorem dMH_ball_44 : decode c_MH_ball 44 = .ok (.invokevirtual 152, 3) := by decide +kernel
theorem dMH_ball_47 : decode c_MH_ball 47 = .ok (.i2l, 1) := by decide +kernel
theorem dMH_ball_48 : decode c_MH_ball 48 = .ok (.bipush 8, 2) := by decide +kernel
theorem dMH_ball_50 : decode c_MH_ball 50 = .ok (.iload 4, 2) := by decide +kernel
theorem dMH_ball_52 : decode c_MH_ball 52 = .ok (.imul, 1) := by decide +kernel
theorem dMH_ball_53 : decode c_MH_ball 53 = .ok (.lshl, 1) := by decide +kernel
theorem dMH_ball_54 : decode c_MH_ball 54 = .ok (.lor, 1) := by decide +kernel
theorem dMH_ball_55 : decode c_MH_ball 55 = .ok (.lstore_n 2, 1) := by decide +kernel
theorem dMH_ball_56 : decode c_MH_ball 56 = .ok (.iinc 4 1, 3) := by decide +kernel
theorem dMH_ball_59 : decode c_MH_ball 59 = .ok (.goto (-27), 3) := by decide +kernel
theorem dMH_ball_62 : decode c_MH_ball 62 = .ok (.iconst 0, 1) := by decide +kernel
theorem dMH_ball_63 : decode c_MH_ball 63 = .ok (.istore 4, 2) := by decide +kernel
theorem dMH_ball_65 : decode c_MH_ball 65 = .ok (.iload 4, 2) := by decide +kernel
theorem dMH_ball_67 : decode c_MH_ball 67 = .ok (.sipush 256, 3) := by decide +kernel
theorem dMH_ball_70 : decode c_MH_ball 70 = .ok (.if_icmp .ge 17, 3) := by decide +kernel
theorem dMH_ball_73 : decode c_MH_ball 73 = .ok (.aload_n 0, 1) := by decide +kernel
theorem dMH_ball_74 : decode c_MH_ball 74 = .ok (.getfield 51, 3) := by decide +kernel
theorem dMH_ball_77 : decode c_MH_ball 77 = .ok (.iload 4, 2) := by decide +kernel
theorem dMH_ball_79 : decode c_MH_ball 79 = .ok (.iconst 0, 1) := by decide +kernel
theorem dMH_ball_80 : decode c_MH_ball 80 = .ok (.iastore, 1) := by decide +kernel
theorem dMH_ball_81 : decode c_MH_ball 81 = .ok (.iinc 4 1, 3) := by decide +kernel
theorem dMH_ball_84 : decode c_MH_ball 84 = .ok (.goto (-19), 3) := by decide +kernel
theorem dMH_ball_87 : decode c_MH_ball 87 = .ok (.sipush 256, 3) := by decide +kernel
theorem dMH_ball_90 : decode c_MH_ball 90 = .ok (.getstatic 126, 3) := by decide +kernel
theorem dMH_ball_93 : decode c_MH_ball 93 = .ok (.aload_n 0, 1) := by decide +kernel
theorem dMH_ball_94 : decode c_MH_ball 94 = .ok (.getfield 103, 3) := by decide +kernel
theorem dMH_ball_97 : decode c_MH_ball 97 = .ok (.iaload, 1) := by decide +kernel
theorem dMH_ball_98 : decode c_MH_ball 98 = .ok (.isub, 1) := by decide +kernel
theorem dMH_ball_99 : decode c_MH_ball 99 = .ok (.istore 4, 2) := by decide +kernel
theorem dMH_ball_101 : decode c_MH_ball 101 = .ok (.iload 4, 2) := by decide +kernel
theorem dMH_ball_103 : decode c_MH_ball 103 = .ok (.sipush 256, 3) := by decide +kernel
theorem dMH_ball_106 : decode c_MH_ball 106 = .ok (.if_icmp .ge 87, 3) := by decide +kernel
theorem dMH_ball_109 : decode c_MH_ball 109 = .ok (.aload_n 0, 1) := by decide +kernel
theorem dMH_ball_110 : decode c_MH_ball 110 = .ok (.getfield 87, 3) := by decide +kernel
theorem dMH_ball_113 : decode c_MH_ball 113 = .ok (.invokevirtual 152, 3) := by decide +kernel
theorem dMH_ball_116 : decode c_MH_ball 116 = .ok (.istore 5, 2) := by decide +kernel
theorem dMH_ball_118 : decode c_MH_ball 118 = .ok (.iload 5, 2) := by decide +kernel
theorem dMH_ball_120 : decode c_MH_ball 120 = .ok (.iload 4, 2) := by decide +kernel
theorem dMH_ball_122 : decode c_MH_ball 122 = .ok (.if_icmp .le 15, 3) := by decide +kernel
theorem dMH_ball_125 : decode c_MH_ball 125 = .ok (.aload_n 0, 1) := by decide +kernel
theorem dMH_ball_126 : decode c_MH_ball 126 = .ok (.getfield 87, 3) := by decide +kernel
theorem dMH_ball_129 : decode c_MH_ball 129 = .ok (.invokevirtual 152, 3) := by decide +kernel
theorem dMH_ball_132 : decode c_MH_ball 132 = .ok (.istore 5, 2) := by decide +kernel
theorem dMH_ball_134 : decode c_MH_ball 134 = .ok (.goto (-16), 3) := by decide +kernel
theorem dMH_ball_137 : decode c_MH_ball 137 = .ok (.aload_n 0, 1) := by decide +kernel
theorem dMH_ball_138 : decode c_MH_ball 138 = .ok (.getfield 51, 3) := by decide +kernel
theorem dMH_ball_141 : decode c_MH_ball 141 = .ok (.iload 4, 2) := by decide +kernel
theorem dMH_ball_143 : decode c_MH_ball 143 = .ok (.aload_n 0, 1) := by decide +kernel
theorem dMH_ball_144 : decode c_MH_ball 144 = .ok (.getfield 51, 3) := by decide +kernel
theorem dMH_ball_147 : decode c_MH_ball 147 = .ok (.iload 5, 2) := by decide +kernel
theorem dMH_ball_149 : decode c_MH_ball 149 = .ok (.iaload, 1) := by decide +kernel
theorem dMH_ball_150 : decode c_MH_ball 150 = .ok (.iastore, 1) := by decide +kernel
theorem dMH_ball_151 : decode c_MH_ball 151 = .ok (.aload_n 0, 1) := by decide +kernel
theorem dMH_ball_152 : decode c_MH_ball 152 = .ok (.getfield 51, 3) := by decide +kernel
theorem dMH_ball_155 : decode c_MH_ball 155 = .ok (.iload 5, 2) := by decide +kernel
theorem dMH_ball_157 : decode c_MH_ball 157 = .ok (.lload_n 2, 1) := by decide +kernel
theorem dMH_ball_158 : decode c_MH_ball 158 = .ok (.iload 4, 2) := by decide +kernel
theorem dMH_ball_160 : decode c_MH_ball 160 = .ok (.getstatic 126, 3) := by decide +kernel
theorem dMH_ball_163 : decode c_MH_ball 163 = .ok (.aload_n 0, 1) := by decide +kernel
theorem dMH_ball_164 : decode c_MH_ball 164 = .ok (.getfield 103, 3) := by decide +kernel
theorem dMH_ball_167 : decode c_MH_ball 167 = .ok (.iaload, 1) := by decide +kernel
theorem dMH_ball_168 : decode c_MH_ball 168 = .ok (.iadd, 1) := by decide +kernel
theorem dMH_ball_169 : decode c_MH_ball 169 = .ok (.sipush 256, 3) := by decide +kernel
theorem dMH_ball_172 : decode c_MH_ball 172 = .ok (.isub, 1) := by decide +kernel
theorem dMH_ball_173 : decode c_MH_ball 173 = .ok (.lushr, 1) := by decide +kernel
theorem dMH_ball_174 : decode c_MH_ball 174 = .ok (.lconst 1, 1) := by decide +kernel
theorem dMH_ball_175 : decode c_MH_ball 175 = .ok (.land, 1) := by decide +kernel
theorem dMH_ball_176 : decode c_MH_ball 176 = .ok (.lconst 1, 1) := by decide +kernel
theorem dMH_ball_177 : decode c_MH_ball 177 = .ok (.lcmp, 1) := by decide +kernel
theorem dMH_ball_178 : decode c_MH_ball 178 = .ok (.ifCond .ne 7, 3) := by decide +kernel
theorem dMH_ball_181 : decode c_MH_ball 181 = .ok (.iconst (-1), 1) := by decide +kernel
theorem dMH_ball_182 : decode c_MH_ball 182 = .ok (.goto 4, 3) := by decide +kernel
theorem dMH_ball_185 : decode c_MH_ball 185 = .ok (.iconst 1, 1) := by decide +kernel
theorem dMH_ball_186 : decode c_MH_ball 186 = .ok (.iastore, 1) := by decide +kernel
theorem dMH_ball_187 : decode c_MH_ball 187 = .ok (.iinc 4 1, 3) := by decide +kernel
theorem dMH_ball_190 : decode c_MH_ball 190 = .ok (.goto (-89), 3) := by decide +kernel
theorem dMH_ball_193 : decode c_MH_ball 193 = .ok (.return_, 1) := by decide +kernel
def M_MH_written_0 (pt : Nat) (k : Nat) : Prop := k = pt ∨ (0 : Nat) = 1
noncomputable def F_MH_written_0_L5 (pt : Nat) (i22 : Nat) (kk : Nat → Nat → Sto → Sto) : Nat → Nat → Nat → Sto → Sto
  | 0, i26, az22, s29 => kk (i22 + 1) az22 s29
  | n26 + 1, i26, az22, s29 => bnd ((s29.1 225 27).toNatClampNeg) fun z33 => bnd (F_MH_minus (nI 131072) (s29.1 ((335 + i22)) i26) s29) fun q21 => bnd (F_M_pack pt 8192 az22 18 (q21.1) q21.2) fun s30 => F_MH_written_0_L5 pt i22 kk n26 (i26 + 1) (az22 + 18) s30
noncomputable def F_MH_written_0_L4 (pt : Nat) (az21 : Nat) (i24 : Nat) (kk : Nat → Nat → Sto → Sto) : Nat → Nat → Nat → Sto → Sto
  | 0, i25, my22, s25 => bnd ((s25.1 225 23).toNatClampNeg) fun z29 => bnd (sB s25 pt (((az21 / 8) + 80) + i24) ((nI my22).toInt8.toInt32)) fun s26 => kk (i24 + 1) my22 s26
  | n25 + 1, i25, my22, s25 => if (s25.1 ((360 + i24)) i25) = 0 then F_MH_written_0_L4 pt az21 i24 kk n25 (i25 + 1) my22 s25 else bnd (sB s25 pt ((az21 / 8) + my22) ((nI i25).toInt8.toInt32)) fun s27 => F_MH_written_0_L4 pt az21 i24 kk n25 (i25 + 1) (my22 + 1) s27
noncomputable def F_MH_written_0_L3 (pt : Nat) (az21 : Nat) : Nat → Nat → Nat → Sto → Sto
  | 0, i24, my21, s24 => bnd ((s24.1 225 24).toNatClampNeg) fun z27 => s24
  | n24 + 1, i24, my21, s24 => bnd ((s24.1 225 24).toNatClampNeg) fun z28 => F_MH_written_0_L4 pt az21 i24 (F_MH_written_0_L3 pt az21 n24) 256 0 my21 s24
noncomputable def F_MH_written_0_L2 (pt : Nat) (az21 : Nat) : Nat → Nat → Sto → Sto
  | 0, i23, s23 => bnd ((s23.1 225 23).toNatClampNeg) fun z25 => bnd ((s23.1 225 24).toNatClampNeg) fun z26 => F_MH_written_0_L3 pt az21 4 0 0 s23
  | n23 + 1, i23, s23 => bnd ((s23.1 225 23).toNatClampNeg) fun z30 => bnd ((s23.1 225 24).toNatClampNeg) fun z31 => bnd (sB s23 pt ((az21 / 8) + i23) (nI 0)) fun s28 => F_MH_written_0_L2 pt az21 n23 (i23 + 1) s28
noncomputable def F_MH_written_0_L1 (pt : Nat) : Nat → Nat → Nat → Sto → Sto
  | 0, i22, az21, s22 => bnd ((s22.1 225 25).toNatClampNeg) fun z24 => F_MH_written_0_L2 pt az21 84 0 s22
  | n22 + 1, i22, az21, s22 => bnd ((s22.1 225 25).toNatClampNeg) fun z32 => F_MH_written_0_L5 pt i22 (F_MH_written_0_L1 pt n22) 256 0 az21 s22
noncomputable def F_MH_written_0_L0 (pt : Nat) : Nat → Nat → Sto → Sto
  | 0, i21, s21 => bnd ((s21.1 225 30).toNatClampNeg) fun z21 => bnd ((s21.1 225 23).toNatClampNeg) fun z22 => bnd ((s21.1 225 30).toNatClampNeg) fun z23 => F_MH_written_0_L1 pt 4 0 256 s21
  | n21 + 1, i21, s21 => bnd ((s21.1 225 30).toNatClampNeg) fun z34 => bnd (sB s21 pt i21 (s21.1 376 i21)) fun s31 => F_MH_written_0_L0 pt n21 (i21 + 1) s31
noncomputable def F_MH_written_0 (pt : Nat) (s : Sto) : Sto := F_MH_written_0_L0 pt 32 0 s
set_option maxHeartbeats 8000000 in
set_option maxRecDepth 100000 in
theorem N_MH_written_0 (l : Launch) (g : Gd) (sz : Nat) (T : TyN) (s : Sto) (pl : va_W) (hO : okn g T s pl) (hU : inj T) (h0 to : Nat) (pt : Nat) (k_h0 : T h0 = some 225) (k_to : T to = some pt) (n_to : nsp pt = (1, 8192, [])) (e_c0 : s.1 225 23 = nI 0) (e_c1 : s.1 225 24 = nI 4) (e_c2 : s.1 225 25 = nI 4) (e_c3 : s.1 225 26 = nI 2) (e_c4 : s.1 225 27 = nI 131072) (e_c5 : s.1 225 28 = nI 95232) (e_c6 : s.1 225 29 = nI 78) (e_c7 : s.1 225 30 = nI 32)  : Met l y_MH_written w_MH_written ({ frames := 1, cells := 0, slots := 0, locals := 26 } : Room) (va_Pc [.ref h0, .ref to] (pr (en g) g.1 vcl sz ([] ++ pl))) (va_Qv (fun (u : (Sto) × va_W) => (u.1 = F_MH_written_0 pt s ∧ frm (M_MH_written_0 pt) s u.1 ∧ True) ∧ okn g T u.1 u.2) (po g.1 vcl (va_A ([] ++ pl) sz) (fun (u : (Sto) × va_W) => [] ++ u.2)) (va_A ([] ++ pl) sz)) 0 0 (va_A ([] ++ pl) sz) := by
  refine mc_entry (cc := c_MH_written) (maxL := 8) (ret := none) (by decide) rfl (Nat.le_of_ble_eq_true rfl) ?_
  intro p e s0 m args below meth c ls F hr hlk hnm hsz hP hD hE hA hl
  obtain ⟨hx, hb, hml, hown, hts⟩ := id F
  have hK := hE.1
  generalize va_A ([] ++ pl) sz = A at hD hE hA ⊢
  have hS : va_S A s0.heap s0.heap [] := va_S.rf
  have hl : lv_has ls 8 [(0, .ref h0), (1, .ref to)] := hl
  have hR : F_MH_written_0 pt s = F_MH_written_0 pt s := rfl
  have hF : frm (M_MH_written_0 pt) s s := frm_rf
  have ne_172_pt : 172 ≠ pt := nsp_ne (p := 172) rfl n_to (show (5 : Nat) ≠ 1 by decide)
  have ne_225_pt : 225 ≠ pt := nsp_ne (p := 225) rfl n_to (show (5 : Nat) ≠ 1 by decide)
  refine lv_iconst (v := nI 0) hx hb dMH_written_0 (by decide) ?_
  refine lv_istore_n (lv' := [(2, .int (nI 0)), (0, .ref h0), (1, .ref to)]) hx hb dMH_written_1 rfl hl (by decide) rfl (fun ls hl => ?_)
  have lp21 : ∀ (n21 : Nat) (i21 : Nat) (s21 : Sto) (pl : va_W) (ls : Array Slot) (H : Heap) (locs : List Loc), n21 + i21 = 32 → frm (M_MH_written_0 pt) s s21 → s21.1 225 23 = nI 0 → s21.1 225 24 = nI 4 → s21.1 225 25 = nI 4 → s21.1 225 26 = nI 2 → s21.1 225 27 = nI 131072 → s21.1 225 28 = nI 95232 → s21.1 225 29 = nI 78 → s21.1 225 30 = nI 32 → F_MH_written_0 pt s = F_MH_written_0_L0 pt n21 i21 s21 → lv_has ls 8 [(2, .int (nI i21)), (0, .ref h0), (1, .ref to)] → okn g T s21 pl → va_P g.1 vcl ([] ++ pl) H → va_D A ([] ++ pl) → va_S A s0.heap H locs → W p l e ({ frames := 1, cells := 0, slots := 0, locals := 26 } : Room) s0 m args below meth c H locs 0 0 (MQ below (va_Qv (fun (u : (Sto) × va_W) => (u.1 = F_MH_written_0 pt s ∧ frm (M_MH_written_0 pt) s u.1 ∧ True) ∧ okn g T u.1 u.2) (po g.1 vcl A (fun (u : (Sto) × va_W) => [] ++ u.2)) A) args s0 0 0 A) (F0 m 2 ls []) := by
    intro n21
    induction n21 with
    | zero =>
      intro i21 s21 pl ls H locs hm21 hF hf21 hf22 hf23 hf24 hf25 hf26 hf27 hf28 hR hl hO hP hD hS
      refine lv_iload_n hx hb dMH_written_2 rfl (lv_at hl 0 rfl) ?_
      refine lv_aload_n hx hb dMH_written_3 rfl (lv_at hl 1 rfl) ?_
      refine nw_get (C := "LatticeKeysModel$Hands") (TT := T_MH) (N := 31) hx hb hts (wg_ft i_MH) hown hK hO k_h0 (kn := 225) (ci := 12) (fl := [(3, 172), (3, 181), (3, 226), (3, 291), (3, 299), (3, 308), (3, 317), (3, 326), (3, 334), (3, 342), (3, 350), (3, 359), (3, 368), (3, 369), (3, 370), (3, 371), (3, 372), (3, 373), (3, 374), (3, 375), (3, 376), (3, 377), (3, 378), (0, 0), (0, 0), (0, 0), (0, 0), (0, 0), (0, 0), (0, 0), (0, 0)]) rfl hP rfl 30 (by decide) (hts _ (wg_t kw_1462)) (fun _ h9 => h9) (cd := (0, 0)) rfl dMH_written_4 (fun v21 hv21 => ?_)
      obtain rfl := (show v21 = .int (s21.1 225 30) from hv21)
      obtain ⟨z21, ez21, hz21, hz22⟩ := cl_of (b := 2147483648) hf28 (by omega) (by decide)
      replace hR := bnd_step hR ez21
      refine mi_as hz21 ?_
      subst hz22
      refine mi_ge (tgt := 25) hx hb dMH_written_7 (by decide) (by omega) (by omega) (fun h21 => ?_) (fun h21 => absurd h21 (by omega))
      refine lv_aload_n hx hb dMH_written_25 rfl (lv_at hl 1 rfl) ?_
      refine nw_get (C := "LatticeKeysModel$Hands") (TT := T_MH) (N := 31) hx hb hts (wg_ft i_MH) hown hK hO k_h0 (kn := 225) (ci := 12) (fl := [(3, 172), (3, 181), (3, 226), (3, 291), (3, 299), (3, 308), (3, 317), (3, 326), (3, 334), (3, 342), (3, 350), (3, 359), (3, 368), (3, 369), (3, 370), (3, 371), (3, 372), (3, 373), (3, 374), (3, 375), (3, 376), (3, 377), (3, 378), (0, 0), (0, 0), (0, 0), (0, 0), (0, 0), (0, 0), (0, 0), (0, 0)]) rfl hP rfl 23 (by decide) (hts _ (wg_t kw_1455)) (fun _ h9 => h9) (cd := (0, 0)) rfl dMH_written_26 (fun v22 hv22 => ?_)
      obtain rfl := (show v22 = .int (s21.1 225 23) from hv22)
      obtain ⟨z22, ez22, hz23, hz24⟩ := cl_of (b := 2147483648) hf21 (by omega) (by decide)
      replace hR := bnd_step hR ez22
      refine mi_as hz23 ?_
      subst hz24
      refine lv_if_ne (tgt := 37) hx hb dMH_written_29 (by decide) (fun h22 => absurd h22 (by decide)) (fun h22 => ?_)
      refine lv_bipush (v := nI 18) hx hb dMH_written_32 (by decide) ?_
      refine lv_goto (tgt := 39) hx hb dMH_written_34 (by decide) ?_
      refine lv_istore_n (lv' := [(2, .int (nI 18)), (0, .ref h0), (1, .ref to)]) hx hb dMH_written_39 rfl hl (by decide) rfl (fun ls hl => ?_)
      refine lv_bipush (v := nI 8) hx hb dMH_written_40 (by decide) ?_
      refine lv_aload_n hx hb dMH_written_42 rfl (lv_at hl 1 rfl) ?_
      refine nw_get (C := "LatticeKeysModel$Hands") (TT := T_MH) (N := 31) hx hb hts (wg_ft i_MH) hown hK hO k_h0 (kn := 225) (ci := 12) (fl := [(3, 172), (3, 181), (3, 226), (3, 291), (3, 299), (3, 308), (3, 317), (3, 326), (3, 334), (3, 342), (3, 350), (3, 359), (3, 368), (3, 369), (3, 370), (3, 371), (3, 372), (3, 373), (3, 374), (3, 375), (3, 376), (3, 377), (3, 378), (0, 0), (0, 0), (0, 0), (0, 0), (0, 0), (0, 0), (0, 0), (0, 0)]) rfl hP rfl 30 (by decide) (hts _ (wg_t kw_1462)) (fun _ h9 => h9) (cd := (0, 0)) rfl dMH_written_43 (fun v23 hv23 => ?_)
      obtain rfl := (show v23 = .int (s21.1 225 30) from hv23)
      obtain ⟨z23, ez23, hz25, hz26⟩ := cl_of (b := 2147483648) hf28 (by omega) (by decide)
      replace hR := bnd_step hR ez23
      refine mi_as hz25 ?_
      subst hz26
      refine mi_imul hx hb dMH_written_46 ?_
      refine mi_as (show nI (8 * 32) = nI 256 from rfl) ?_
      refine lv_istore_n (lv' := [(3, .int (nI 256)), (2, .int (nI 18)), (0, .ref h0), (1, .ref to)]) hx hb dMH_written_47 rfl hl (by decide) rfl (fun ls hl => ?_)
      refine lv_iconst (v := nI 0) hx hb dMH_written_48 (by decide) ?_
      refine lv_istore (lv' := [(4, .int (nI 0)), (3, .int (nI 256)), (2, .int (nI 18)), (0, .ref h0), (1, .ref to)]) hx hb dMH_written_49 hl (by decide) rfl (fun ls hl => ?_)
      have lp22 : ∀ (n22 : Nat) (i22 : Nat) (az21 : Nat) (s22 : Sto) (pl : va_W) (ls : Array Slot) (H : Heap) (locs : List Loc), n22 + i22 = 4 → (az21 = 256 + 4608 * i22) → frm (M_MH_written_0 pt) s s22 → s22.1 225 23 = nI 0 → s22.1 225 24 = nI 4 → s22.1 225 25 = nI 4 → s22.1 225 26 = nI 2 → s22.1 225 27 = nI 131072 → s22.1 225 28 = nI 95232 → s22.1 225 29 = nI 78 → s22.1 225 30 = nI 32 → F_MH_written_0 pt s = F_MH_written_0_L1 pt n22 i22 az21 s22 → lv_has ls 8 [(4, .int (nI i22)), (3, .int (nI az21)), (2, .int (nI 18)), (0, .ref h0), (1, .ref to)] → okn g T s22 pl → va_P g.1 vcl ([] ++ pl) H → va_D A ([] ++ pl) → va_S A s0.heap H locs → W p l e ({ frames := 1, cells := 0, slots := 0, locals := 26 } : Room) s0 m args below meth c H locs 0 0 (MQ below (va_Qv (fun (u : (Sto) × va_W) => (u.1 = F_MH_written_0 pt s ∧ frm (M_MH_written_0 pt) s u.1 ∧ True) ∧ okn g T u.1 u.2) (po g.1 vcl A (fun (u : (Sto) × va_W) => [] ++ u.2)) A) args s0 0 0 A) (F0 m 51 ls []) := by
        intro n22
        induction n22 with
        | zero =>
          intro i22 az21 s22 pl ls H locs hm22 hi21 hF hf29 hf30 hf31 hf32 hf33 hf34 hf35 hf36 hR hl hO hP hD hS
          refine lv_iload hx hb dMH_written_51 (lv_at hl 0 rfl) ?_
          refine lv_aload_n hx hb dMH_written_53 rfl (lv_at hl 3 rfl) ?_
          refine nw_get (C := "LatticeKeysModel$Hands") (TT := T_MH) (N := 31) hx hb hts (wg_ft i_MH) hown hK hO k_h0 (kn := 225) (ci := 12) (fl := [(3, 172), (3, 181), (3, 226), (3, 291), (3, 299), (3, 308), (3, 317), (3, 326), (3, 334), (3, 342), (3, 350), (3, 359), (3, 368), (3, 369), (3, 370), (3, 371), (3, 372), (3, 373), (3, 374), (3, 375), (3, 376), (3, 377), (3, 378), (0, 0), (0, 0), (0, 0), (0, 0), (0, 0), (0, 0), (0, 0), (0, 0)]) rfl hP rfl 25 (by decide) (hts _ (wg_t kw_1457)) (fun _ h9 => h9) (cd := (0, 0)) rfl dMH_written_54 (fun v24 hv24 => ?_)
          obtain rfl := (show v24 = .int (s22.1 225 25) from hv24)
          obtain ⟨z24, ez24, hz27, hz28⟩ := cl_of (b := 2147483648) hf31 (by omega) (by decide)
          replace hR := bnd_step hR ez24
          refine mi_as hz27 ?_
          subst hz28
          refine mi_ge (tgt := 110) hx hb dMH_written_57 (by decide) (by omega) (by omega) (fun h23 => ?_) (fun h23 => absurd h23 (by omega))
          refine lv_iload_n hx hb dMH_written_110 rfl (lv_at hl 1 rfl) ?_
          refine lv_bipush (v := nI 8) hx hb dMH_written_111 (by decide) ?_
          refine mi_idiv hx hb dMH_written_113 (by omega) (by omega) (by omega) ?_
          refine lv_istore (lv' := [(4, .int (nI (az21 / 8))), (3, .int (nI az21)), (2, .int (nI 18)), (0, .ref h0), (1, .ref to)]) hx hb dMH_written_114 hl (by decide) rfl (fun ls hl => ?_)
          refine lv_iconst (v := nI 0) hx hb dMH_written_116 (by decide) ?_
          refine lv_istore (lv' := [(5, .int (nI 0)), (4, .int (nI (az21 / 8))), (3, .int (nI az21)), (2, .int (nI 18)), (0, .ref h0), (1, .ref to)]) hx hb dMH_written_117 hl (by decide) rfl (fun ls hl => ?_)
          refine lv_iconst (v := nI 0) hx hb dMH_written_119 (by decide) ?_
          refine lv_istore (lv' := [(6, .int (nI 0)), (5, .int (nI 0)), (4, .int (nI (az21 / 8))), (3, .int (nI az21)), (2, .int (nI 18)), (0, .ref h0), (1, .ref to)]) hx hb dMH_written_120 hl (by decide) rfl (fun ls hl => ?_)
          have lp23 : ∀ (n23 : Nat) (i23 : Nat) (s23 : Sto) (pl : va_W) (ls : Array Slot) (H : Heap) (locs : List Loc), n23 + i23 = 84 → frm (M_MH_written_0 pt) s s23 → s23.1 225 23 = nI 0 → s23.1 225 24 = nI 4 → s23.1 225 25 = nI 4 → s23.1 225 26 = nI 2 → s23.1 225 27 = nI 131072 → s23.1 225 28 = nI 95232 → s23.1 225 29 = nI 78 → s23.1 225 30 = nI 32 → F_MH_written_0 pt s = F_MH_written_0_L2 pt az21 n23 i23 s23 → lv_has ls 8 [(6, .int (nI i23)), (5, .int (nI 0)), (4, .int (nI (az21 / 8))), (0, .ref h0), (1, .ref to)] → okn g T s23 pl → va_P g.1 vcl ([] ++ pl) H → va_D A ([] ++ pl) → va_S A s0.heap H locs → W p l e ({ frames := 1, cells := 0, slots := 0, locals := 26 } : Room) s0 m args below meth c H locs 0 0 (MQ below (va_Qv (fun (u : (Sto) × va_W) => (u.1 = F_MH_written_0 pt s ∧ frm (M_MH_written_0 pt) s u.1 ∧ True) ∧ okn g T u.1 u.2) (po g.1 vcl A (fun (u : (Sto) × va_W) => [] ++ u.2)) A) args s0 0 0 A) (F0 m 122 ls []) := by
            intro n23
            induction n23 with
            | zero =>
              intro i23 s23 pl ls H locs hm23 hF hf37 hf38 hf39 hf40 hf41 hf42 hf43 hf44 hR hl hO hP hD hS
              refine lv_iload hx hb dMH_written_122 (lv_at hl 0 rfl) ?_
              refine va_gets hx hb (hE.2.1 27 _ rfl).1 hS hown (hts _ (wg_t kw_1908)) (fun _ h9 => h9) dMH_written_124 ?_
              refine lv_aload_n hx hb dMH_written_127 rfl (lv_at hl 3 rfl) ?_
              refine nw_get (C := "LatticeKeysModel$Hands") (TT := T_MH) (N := 31) hx hb hts (wg_ft i_MH) hown hK hO k_h0 (kn := 225) (ci := 12) (fl := [(3, 172), (3, 181), (3, 226), (3, 291), (3, 299), (3, 308), (3, 317), (3, 326), (3, 334), (3, 342), (3, 350), (3, 359), (3, 368), (3, 369), (3, 370), (3, 371), (3, 372), (3, 373), (3, 374), (3, 375), (3, 376), (3, 377), (3, 378), (0, 0), (0, 0), (0, 0), (0, 0), (0, 0), (0, 0), (0, 0), (0, 0)]) rfl hP rfl 23 (by decide) (hts _ (wg_t kw_1455)) (fun _ h9 => h9) (cd := (0, 0)) rfl dMH_written_128 (fun v25 hv25 => ?_)
              obtain rfl := (show v25 = .int (s23.1 225 23) from hv25)
              obtain ⟨z25, ez25, hz29, hz30⟩ := cl_of (b := 2147483648) hf37 (by omega) (by decide)
              replace hR := bnd_step hR ez25
              refine mi_as hz29 ?_
              subst hz30
              refine va_ti (v := .int (nI 80)) hx hb (hE.2.1 27 _ rfl).2 hS (vp_in_nI (by decide) (by decide)) (by decide +kernel) dMH_written_131 ?_
              refine lv_aload_n hx hb dMH_written_132 rfl (lv_at hl 3 rfl) ?_
              refine nw_get (C := "LatticeKeysModel$Hands") (TT := T_MH) (N := 31) hx hb hts (wg_ft i_MH) hown hK hO k_h0 (kn := 225) (ci := 12) (fl := [(3, 172), (3, 181), (3, 226), (3, 291), (3, 299), (3, 308), (3, 317), (3, 326), (3, 334), (3, 342), (3, 350), (3, 359), (3, 368), (3, 369), (3, 370), (3, 371), (3, 372), (3, 373), (3, 374), (3, 375), (3, 376), (3, 377), (3, 378), (0, 0), (0, 0), (0, 0), (0, 0), (0, 0), (0, 0), (0, 0), (0, 0)]) rfl hP rfl 24 (by decide) (hts _ (wg_t kw_1456)) (fun _ h9 => h9) (cd := (0, 0)) rfl dMH_written_133 (fun v26 hv26 => ?_)
              obtain rfl := (show v26 = .int (s23.1 225 24) from hv26)
              obtain ⟨z26, ez26, hz31, hz32⟩ := cl_of (b := 2147483648) hf38 (by omega) (by decide)
              replace hR := bnd_step hR ez26
              refine mi_as hz31 ?_
              subst hz32
              refine mi_iadd hx hb dMH_written_136 ?_
              refine mi_as (show nI (80 + 4) = nI 84 from rfl) ?_
              refine mi_ge (tgt := 154) hx hb dMH_written_137 (by decide) (by omega) (by omega) (fun h24 => ?_) (fun h24 => absurd h24 (by omega))
              refine lv_iconst (v := nI 0) hx hb dMH_written_154 (by decide) ?_
              refine lv_istore (lv' := [(6, .int (nI 0)), (5, .int (nI 0)), (4, .int (nI (az21 / 8))), (0, .ref h0), (1, .ref to)]) hx hb dMH_written_155 hl (by decide) rfl (fun ls hl => ?_)
              have lp24 : ∀ (n24 : Nat) (i24 : Nat) (my21 : Nat) (s24 : Sto) (pl : va_W) (ls : Array Slot) (H : Heap) (locs : List Loc), n24 + i24 = 4 → (my21 ≤ 256 * i24) → frm (M_MH_written_0 pt) s s24 → s24.1 225 23 = nI 0 → s24.1 225 24 = nI 4 → s24.1 225 25 = nI 4 → s24.1 225 26 = nI 2 → s24.1 225 27 = nI 131072 → s24.1 225 28 = nI 95232 → s24.1 225 29 = nI 78 → s24.1 225 30 = nI 32 → F_MH_written_0 pt s = F_MH_written_0_L3 pt az21 n24 i24 my21 s24 → lv_has ls 8 [(6, .int (nI i24)), (5, .int (nI my21)), (4, .int (nI (az21 / 8))), (0, .ref h0), (1, .ref to)] → okn g T s24 pl → va_P g.1 vcl ([] ++ pl) H → va_D A ([] ++ pl) → va_S A s0.heap H locs → W p l e ({ frames := 1, cells := 0, slots := 0, locals := 26 } : Room) s0 m args below meth c H locs 0 0 (MQ below (va_Qv (fun (u : (Sto) × va_W) => (u.1 = F_MH_written_0 pt s ∧ frm (M_MH_written_0 pt) s u.1 ∧ True) ∧ okn g T u.1 u.2) (po g.1 vcl A (fun (u : (Sto) × va_W) => [] ++ u.2)) A) args s0 0 0 A) (F0 m 157 ls []) := by
                intro n24
                induction n24 with
                | zero =>
                  intro i24 my21 s24 pl ls H locs hm24 hi22 hF hf45 hf46 hf47 hf48 hf49 hf50 hf51 hf52 hR hl hO hP hD hS
                  refine lv_iload hx hb dMH_written_157 (lv_at hl 0 rfl) ?_
                  refine lv_aload_n hx hb dMH_written_159 rfl (lv_at hl 3 rfl) ?_
                  refine nw_get (C := "LatticeKeysModel$Hands") (TT := T_MH) (N := 31) hx hb hts (wg_ft i_MH) hown hK hO k_h0 (kn := 225) (ci := 12) (fl := [(3, 172), (3, 181), (3, 226), (3, 291), (3, 299), (3, 308), (3, 317), (3, 326), (3, 334), (3, 342), (3, 350), (3, 359), (3, 368), (3, 369), (3, 370), (3, 371), (3, 372), (3, 373), (3, 374), (3, 375), (3, 376), (3, 377), (3, 378), (0, 0), (0, 0), (0, 0), (0, 0), (0, 0), (0, 0), (0, 0), (0, 0)]) rfl hP rfl 24 (by decide) (hts _ (wg_t kw_1456)) (fun _ h9 => h9) (cd := (0, 0)) rfl dMH_written_160 (fun v27 hv27 => ?_)
                  obtain rfl := (show v27 = .int (s24.1 225 24) from hv27)
                  obtain ⟨z27, ez27, hz33, hz34⟩ := cl_of (b := 2147483648) hf46 (by omega) (by decide)
                  replace hR := bnd_step hR ez27
                  refine mi_as hz33 ?_
                  subst hz34
                  refine mi_ge (tgt := 237) hx hb dMH_written_163 (by decide) (by omega) (by omega) (fun h25 => ?_) (fun h25 => absurd h25 (by omega))
                  exact mp_vret hx hb hr hlk hP hD hS (s24, pl) ⟨⟨hR.symm, hF, trivial⟩, hO⟩ [] rfl rfl rfl (by omega) (by omega) dMH_written_237
                | succ n24 ih24 =>
                  intro i24 my21 s24 pl ls H locs hm24 hi22 hF hf53 hf54 hf55 hf56 hf57 hf58 hf59 hf60 hR hl hO hP hD hS
                  refine lv_iload hx hb dMH_written_157 (lv_at hl 0 rfl) ?_
                  refine lv_aload_n hx hb dMH_written_159 rfl (lv_at hl 3 rfl) ?_
                  refine nw_get (C := "LatticeKeysModel$Hands") (TT := T_MH) (N := 31) hx hb hts (wg_ft i_MH) hown hK hO k_h0 (kn := 225) (ci := 12) (fl := [(3, 172), (3, 181), (3, 226), (3, 291), (3, 299), (3, 308), (3, 317), (3, 326), (3, 334), (3, 342), (3, 350), (3, 359), (3, 368), (3, 369), (3, 370), (3, 371), (3, 372), (3, 373), (3, 374), (3, 375), (3, 376), (3, 377), (3, 378), (0, 0), (0, 0), (0, 0), (0, 0), (0, 0), (0, 0), (0, 0), (0, 0)]) rfl hP rfl 24 (by decide) (hts _ (wg_t kw_1456)) (fun _ h9 => h9) (cd := (0, 0)) rfl dMH_written_160 (fun v28 hv28 => ?_)
                  obtain rfl := (show v28 = .int (s24.1 225 24) from hv28)
                  obtain ⟨z28, ez28, hz35, hz36⟩ := cl_of (b := 2147483648) hf54 (by omega) (by decide)
                  replace hR := bnd_step hR ez28
                  refine mi_as hz35 ?_
                  subst hz36
                  refine mi_ge (tgt := 237) hx hb dMH_written_163 (by decide) (by omega) (by omega) (fun h26 => absurd h26 (by omega)) (fun h26 => ?_)
                  refine lv_iconst (v := nI 0) hx hb dMH_written_166 (by decide) ?_
                  refine lv_istore (lv' := [(7, .int (nI 0)), (6, .int (nI i24)), (5, .int (nI my21)), (4, .int (nI (az21 / 8))), (0, .ref h0), (1, .ref to)]) hx hb dMH_written_167 hl (by decide) rfl (fun ls hl => ?_)
                  have lp25 : ∀ (n25 : Nat) (i25 : Nat) (my22 : Nat) (s25 : Sto) (pl : va_W) (ls : Array Slot) (H : Heap) (locs : List Loc), n25 + i25 = 256 → (my22 ≤ 256 * i24 + i25) → frm (M_MH_written_0 pt) s s25 → s25.1 225 23 = nI 0 → s25.1 225 24 = nI 4 → s25.1 225 25 = nI 4 → s25.1 225 26 = nI 2 → s25.1 225 27 = nI 131072 → s25.1 225 28 = nI 95232 → s25.1 225 29 = nI 78 → s25.1 225 30 = nI 32 → F_MH_written_0 pt s = F_MH_written_0_L4 pt az21 i24 (F_MH_written_0_L3 pt az21 n24) n25 i25 my22 s25 → lv_has ls 8 [(7, .int (nI i25)), (6, .int (nI i24)), (5, .int (nI my22)), (4, .int (nI (az21 / 8))), (0, .ref h0), (1, .ref to)] → okn g T s25 pl → va_P g.1 vcl ([] ++ pl) H → va_D A ([] ++ pl) → va_S A s0.heap H locs → W p l e ({ frames := 1, cells := 0, slots := 0, locals := 26 } : Room) s0 m args below meth c H locs 0 0 (MQ below (va_Qv (fun (u : (Sto) × va_W) => (u.1 = F_MH_written_0 pt s ∧ frm (M_MH_written_0 pt) s u.1 ∧ True) ∧ okn g T u.1 u.2) (po g.1 vcl A (fun (u : (Sto) × va_W) => [] ++ u.2)) A) args s0 0 0 A) (F0 m 169 ls []) := by
                    intro n25
                    induction n25 with
                    | zero =>
                      intro i25 my22 s25 pl ls H locs hm25 hi23 hF hf61 hf62 hf63 hf64 hf65 hf66 hf67 hf68 hR hl hO hP hD hS
                      refine lv_iload hx hb dMH_written_169 (lv_at hl 0 rfl) ?_
                      refine lv_sipush (v := nI 256) hx hb dMH_written_171 (by decide) ?_
                      refine mi_ge (tgt := 212) hx hb dMH_written_174 (by decide) (by omega) (by omega) (fun h27 => ?_) (fun h27 => absurd h27 (by omega))
                      refine lv_aload_n hx hb dMH_written_212 rfl (lv_at hl 5 rfl) ?_
                      refine lv_iload hx hb dMH_written_213 (lv_at hl 3 rfl) ?_
                      refine va_gets hx hb (hE.2.1 27 _ rfl).1 hS hown (hts _ (wg_t kw_1908)) (fun _ h9 => h9) dMH_written_215 ?_
                      refine lv_aload_n hx hb dMH_written_218 rfl (lv_at hl 4 rfl) ?_
                      refine nw_get (C := "LatticeKeysModel$Hands") (TT := T_MH) (N := 31) hx hb hts (wg_ft i_MH) hown hK hO k_h0 (kn := 225) (ci := 12) (fl := [(3, 172), (3, 181), (3, 226), (3, 291), (3, 299), (3, 308), (3, 317), (3, 326), (3, 334), (3, 342), (3, 350), (3, 359), (3, 368), (3, 369), (3, 370), (3, 371), (3, 372), (3, 373), (3, 374), (3, 375), (3, 376), (3, 377), (3, 378), (0, 0), (0, 0), (0, 0), (0, 0), (0, 0), (0, 0), (0, 0), (0, 0)]) rfl hP rfl 23 (by decide) (hts _ (wg_t kw_1455)) (fun _ h9 => h9) (cd := (0, 0)) rfl dMH_written_219 (fun v29 hv29 => ?_)
                      obtain rfl := (show v29 = .int (s25.1 225 23) from hv29)
                      obtain ⟨z29, ez29, hz37, hz38⟩ := cl_of (b := 2147483648) hf61 (by omega) (by decide)
                      replace hR := bnd_step hR ez29
                      refine mi_as hz37 ?_
                      subst hz38
                      refine va_ti (v := .int (nI 80)) hx hb (hE.2.1 27 _ rfl).2 hS (vp_in_nI (by decide) (by decide)) (by decide +kernel) dMH_written_222 ?_
                      refine mi_iadd hx hb dMH_written_223 ?_
                      refine lv_iload hx hb dMH_written_224 (lv_at hl 1 rfl) ?_
                      refine mi_iadd hx hb dMH_written_226 ?_
                      refine lv_iload hx hb dMH_written_227 (lv_at hl 2 rfl) ?_
                      refine lv_i2b hx hb dMH_written_229 rfl ?_
                      refine nw_bast hx hb hK hO hU k_to (k := pt) n_to hP hD hS (by omega) (by omega) dMH_written_230 (fun s26 pl H locs es21 hO hP hD hS => ?_)
                      replace hR := bnd_step hR es21
                      have hF := frm_sB hF es21 (by unfold M_MH_written_0; omega)
                      have hf69 : s26.1 225 23 = nI 0 := fc_B hf61 es21 (by omega)
                      have hf70 : s26.1 225 24 = nI 4 := fc_B hf62 es21 (by omega)
                      have hf71 : s26.1 225 25 = nI 4 := fc_B hf63 es21 (by omega)
                      have hf72 : s26.1 225 26 = nI 2 := fc_B hf64 es21 (by omega)
                      have hf73 : s26.1 225 27 = nI 131072 := fc_B hf65 es21 (by omega)
                      have hf74 : s26.1 225 28 = nI 95232 := fc_B hf66 es21 (by omega)
                      have hf75 : s26.1 225 29 = nI 78 := fc_B hf67 es21 (by omega)
                      have hf76 : s26.1 225 30 = nI 32 := fc_B hf68 es21 (by omega)
                      refine mi_iinc (k := 1) (x := i24) (d := 1) (y := i24 + 1) (lv' := [(6, .int (nI (i24 + 1))), (7, .int (nI i25)), (5, .int (nI my22)), (4, .int (nI (az21 / 8))), (0, .ref h0), (1, .ref to)]) hx hb dMH_written_231 hl rfl (by decide) rfl (by decide) rfl (fun ls hl => ?_)
                      refine lv_goto (tgt := 157) hx hb dMH_written_234 (by decide) ?_
                      exact ih24 (i24 + 1) my22 s26 pl ls H locs (by omega) (by omega) hF hf69 hf70 hf71 hf72 hf73 hf74 hf75 hf76 hR (lv_sub hl [0, 2, 3, 4, 5] rfl) hO hP hD hS
                    | succ n25 ih25 =>
                      intro i25 my22 s25 pl ls H locs hm25 hi23 hF hf77 hf78 hf79 hf80 hf81 hf82 hf83 hf84 hR hl hO hP hD hS
                      refine lv_iload hx hb dMH_written_169 (lv_at hl 0 rfl) ?_
                      refine lv_sipush (v := nI 256) hx hb dMH_written_171 (by decide) ?_
                      refine mi_ge (tgt := 212) hx hb dMH_written_174 (by decide) (by omega) (by omega) (fun h28 => absurd h28 (by omega)) (fun h28 => ?_)
                      refine lv_aload_n hx hb dMH_written_177 rfl (lv_at hl 4 rfl) ?_
                      refine nw_get (C := "LatticeKeysModel$Hands") (TT := T_MH) (N := 31) hx hb hts (wg_ft i_MH) hown hK hO k_h0 (kn := 225) (ci := 12) (fl := [(3, 172), (3, 181), (3, 226), (3, 291), (3, 299), (3, 308), (3, 317), (3, 326), (3, 334), (3, 342), (3, 350), (3, 359), (3, 368), (3, 369), (3, 370), (3, 371), (3, 372), (3, 373), (3, 374), (3, 375), (3, 376), (3, 377), (3, 378), (0, 0), (0, 0), (0, 0), (0, 0), (0, 0), (0, 0), (0, 0), (0, 0)]) rfl hP rfl 11 (by decide) (hts _ (wg_t kw_1443)) (fun _ h9 => h9) (cd := (3, 359)) rfl dMH_written_178 (fun v30 hv30 => ?_)
                      obtain ⟨r21, rfl, kr21⟩ := (show ∃ r : Nat, v30 = .ref r ∧ T r = some 359 from hv30)
                      refine lv_iload hx hb dMH_written_181 (lv_at hl 1 rfl) ?_
                      refine nw_aald3 hx hb hK hO kr21 (k := 359) (b := 360) rfl hP (by omega) (by omega) dMH_written_183 (fun r22 kr22 => ?_)
                      have hn21 : nsp (360 + i24) = (0, 256, []) := rows_ok 360 8 (by decide) _ (by omega)
                      refine lv_iload hx hb dMH_written_184 (lv_at hl 0 rfl) ?_
                      refine nw_iald hx hb hK hO kr22 (k := (360 + i24)) hn21 hP (by omega) (by omega) dMH_written_186 ?_
                      refine lv_if_ne (tgt := 193) hx hb dMH_written_187 (by decide) (fun h29 => ?_) (fun h29 => ?_)
                      · replace hR := hR.trans (if_neg h29)
                        refine lv_aload_n hx hb dMH_written_193 rfl (lv_at hl 5 rfl) ?_
                        refine lv_iload hx hb dMH_written_194 (lv_at hl 3 rfl) ?_
                        refine lv_iload hx hb dMH_written_196 (lv_at hl 2 rfl) ?_
                        refine mi_iadd hx hb dMH_written_198 ?_
                        refine lv_iload hx hb dMH_written_199 (lv_at hl 0 rfl) ?_
                        refine lv_i2b hx hb dMH_written_201 rfl ?_
                        refine nw_bast hx hb hK hO hU k_to (k := pt) n_to hP hD hS (by omega) (by omega) dMH_written_202 (fun s27 pl H locs es22 hO hP hD hS => ?_)
                        replace hR := bnd_step hR es22
                        have hF := frm_sB hF es22 (by unfold M_MH_written_0; omega)
                        have hf85 : s27.1 225 23 = nI 0 := fc_B hf77 es22 (by omega)
                        have hf86 : s27.1 225 24 = nI 4 := fc_B hf78 es22 (by omega)
                        have hf87 : s27.1 225 25 = nI 4 := fc_B hf79 es22 (by omega)
                        have hf88 : s27.1 225 26 = nI 2 := fc_B hf80 es22 (by omega)
                        have hf89 : s27.1 225 27 = nI 131072 := fc_B hf81 es22 (by omega)
                        have hf90 : s27.1 225 28 = nI 95232 := fc_B hf82 es22 (by omega)
                        have hf91 : s27.1 225 29 = nI 78 := fc_B hf83 es22 (by omega)
                        have hf92 : s27.1 225 30 = nI 32 := fc_B hf84 es22 (by omega)
                        refine mi_iinc (k := 2) (x := my22) (d := 1) (y := my22 + 1) (lv' := [(5, .int (nI (my22 + 1))), (7, .int (nI i25)), (6, .int (nI i24)), (4, .int (nI (az21 / 8))), (0, .ref h0), (1, .ref to)]) hx hb dMH_written_203 hl rfl (by decide) rfl (by decide) rfl (fun ls hl => ?_)
                        refine mi_iinc (k := 1) (x := i25) (d := 1) (y := i25 + 1) (lv' := [(7, .int (nI (i25 + 1))), (5, .int (nI (my22 + 1))), (6, .int (nI i24)), (4, .int (nI (az21 / 8))), (0, .ref h0), (1, .ref to)]) hx hb dMH_written_206 hl rfl (by decide) rfl (by decide) rfl (fun ls hl => ?_)
                        refine lv_goto (tgt := 169) hx hb dMH_written_209 (by decide) ?_
                        exact ih25 (i25 + 1) (my22 + 1) s27 pl ls H locs (by omega) (by omega) hF hf85 hf86 hf87 hf88 hf89 hf90 hf91 hf92 hR (lv_sub hl [0, 2, 1, 3, 4, 5] rfl) hO hP hD hS
                      · replace hR := hR.trans (if_pos h29)
                        refine lv_goto (tgt := 206) hx hb dMH_written_190 (by decide) ?_
                        refine mi_iinc (k := 0) (x := i25) (d := 1) (y := i25 + 1) (lv' := [(7, .int (nI (i25 + 1))), (6, .int (nI i24)), (5, .int (nI my22)), (4, .int (nI (az21 / 8))), (0, .ref h0), (1, .ref to)]) hx hb dMH_written_206 hl rfl (by decide) rfl (by decide) rfl (fun ls hl => ?_)
                        refine lv_goto (tgt := 169) hx hb dMH_written_209 (by decide) ?_
                        exact ih25 (i25 + 1) my22 s25 pl ls H locs (by omega) (by omega) hF hf77 hf78 hf79 hf80 hf81 hf82 hf83 hf84 hR (lv_sub hl [0, 1, 2, 3, 4, 5] rfl) hO hP hD hS
                  exact lp25 256 0 my21 s24 pl ls _ _ (by omega) (by omega) hF hf53 hf54 hf55 hf56 hf57 hf58 hf59 hf60 hR (lv_sub hl [0, 1, 2, 3, 4, 5] rfl) hO hP hD hS
              exact lp24 4 0 0 s23 pl ls _ _ (by omega) (by omega) hF hf37 hf38 hf39 hf40 hf41 hf42 hf43 hf44 hR (lv_sub hl [0, 1, 2, 3, 4] rfl) hO hP hD hS
            | succ n23 ih23 =>
              intro i23 s23 pl ls H locs hm23 hF hf93 hf94 hf95 hf96 hf97 hf98 hf99 hf100 hR hl hO hP hD hS
              refine lv_iload hx hb dMH_written_122 (lv_at hl 0 rfl) ?_
              refine va_gets hx hb (hE.2.1 27 _ rfl).1 hS hown (hts _ (wg_t kw_1908)) (fun _ h9 => h9) dMH_written_124 ?_
              refine lv_aload_n hx hb dMH_written_127 rfl (lv_at hl 3 rfl) ?_
              refine nw_get (C := "LatticeKeysModel$Hands") (TT := T_MH) (N := 31) hx hb hts (wg_ft i_MH) hown hK hO k_h0 (kn := 225) (ci := 12) (fl := [(3, 172), (3, 181), (3, 226), (3, 291), (3, 299), (3, 308), (3, 317), (3, 326), (3, 334), (3, 342), (3, 350), (3, 359), (3, 368), (3, 369), (3, 370), (3, 371), (3, 372), (3, 373), (3, 374), (3, 375), (3, 376), (3, 377), (3, 378), (0, 0), (0, 0), (0, 0), (0, 0), (0, 0), (0, 0), (0, 0), (0, 0)]) rfl hP rfl 23 (by decide) (hts _ (wg_t kw_1455)) (fun _ h9 => h9) (cd := (0, 0)) rfl dMH_written_128 (fun v31 hv31 => ?_)
              obtain rfl := (show v31 = .int (s23.1 225 23) from hv31)
              obtain ⟨z30, ez30, hz39, hz40⟩ := cl_of (b := 2147483648) hf93 (by omega) (by decide)
              replace hR := bnd_step hR ez30
              refine mi_as hz39 ?_
              subst hz40
              refine va_ti (v := .int (nI 80)) hx hb (hE.2.1 27 _ rfl).2 hS (vp_in_nI (by decide) (by decide)) (by decide +kernel) dMH_written_131 ?_
              refine lv_aload_n hx hb dMH_written_132 rfl (lv_at hl 3 rfl) ?_
              refine nw_get (C := "LatticeKeysModel$Hands") (TT := T_MH) (N := 31) hx hb hts (wg_ft i_MH) hown hK hO k_h0 (kn := 225) (ci := 12) (fl := [(3, 172), (3, 181), (3, 226), (3, 291), (3, 299), (3, 308), (3, 317), (3, 326), (3, 334), (3, 342), (3, 350), (3, 359), (3, 368), (3, 369), (3, 370), (3, 371), (3, 372), (3, 373), (3, 374), (3, 375), (3, 376), (3, 377), (3, 378), (0, 0), (0, 0), (0, 0), (0, 0), (0, 0), (0, 0), (0, 0), (0, 0)]) rfl hP rfl 24 (by decide) (hts _ (wg_t kw_1456)) (fun _ h9 => h9) (cd := (0, 0)) rfl dMH_written_133 (fun v32 hv32 => ?_)
              obtain rfl := (show v32 = .int (s23.1 225 24) from hv32)
              obtain ⟨z31, ez31, hz41, hz42⟩ := cl_of (b := 2147483648) hf94 (by omega) (by decide)
              replace hR := bnd_step hR ez31
              refine mi_as hz41 ?_
              subst hz42
              refine mi_iadd hx hb dMH_written_136 ?_
              refine mi_as (show nI (80 + 4) = nI 84 from rfl) ?_
              refine mi_ge (tgt := 154) hx hb dMH_written_137 (by decide) (by omega) (by omega) (fun h30 => absurd h30 (by omega)) (fun h30 => ?_)
              refine lv_aload_n hx hb dMH_written_140 rfl (lv_at hl 4 rfl) ?_
              refine lv_iload hx hb dMH_written_141 (lv_at hl 2 rfl) ?_
              refine lv_iload hx hb dMH_written_143 (lv_at hl 0 rfl) ?_
              refine mi_iadd hx hb dMH_written_145 ?_
              refine lv_iconst (v := nI 0) hx hb dMH_written_146 (by decide) ?_
              refine nw_bast hx hb hK hO hU k_to (k := pt) n_to hP hD hS (by omega) (by omega) dMH_written_147 (fun s28 pl H locs es23 hO hP hD hS => ?_)
              replace hR := bnd_step hR es23
              have hF := frm_sB hF es23 (by unfold M_MH_written_0; omega)
              have hf101 : s28.1 225 23 = nI 0 := fc_B hf93 es23 (by omega)
              have hf102 : s28.1 225 24 = nI 4 := fc_B hf94 es23 (by omega)
              have hf103 : s28.1 225 25 = nI 4 := fc_B hf95 es23 (by omega)
              have hf104 : s28.1 225 26 = nI 2 := fc_B hf96 es23 (by omega)
              have hf105 : s28.1 225 27 = nI 131072 := fc_B hf97 es23 (by omega)
              have hf106 : s28.1 225 28 = nI 95232 := fc_B hf98 es23 (by omega)
              have hf107 : s28.1 225 29 = nI 78 := fc_B hf99 es23 (by omega)
              have hf108 : s28.1 225 30 = nI 32 := fc_B hf100 es23 (by omega)
              refine mi_iinc (k := 0) (x := i23) (d := 1) (y := i23 + 1) (lv' := [(6, .int (nI (i23 + 1))), (5, .int (nI 0)), (4, .int (nI (az21 / 8))), (0, .ref h0), (1, .ref to)]) hx hb dMH_written_148 hl rfl (by decide) rfl (by decide) rfl (fun ls hl => ?_)
              refine lv_goto (tgt := 122) hx hb dMH_written_151 (by decide) ?_
              exact ih23 (i23 + 1) s28 pl ls H locs (by omega) hF hf101 hf102 hf103 hf104 hf105 hf106 hf107 hf108 hR (lv_sub hl [0, 1, 2, 3, 4] rfl) hO hP hD hS
          exact lp23 84 0 s22 pl ls _ _ (by omega) hF hf29 hf30 hf31 hf32 hf33 hf34 hf35 hf36 hR (lv_sub hl [0, 1, 2, 5, 6] rfl) hO hP hD hS
        | succ n22 ih22 =>
          intro i22 az21 s22 pl ls H locs hm22 hi21 hF hf109 hf110 hf111 hf112 hf113 hf114 hf115 hf116 hR hl hO hP hD hS
          refine lv_iload hx hb dMH_written_51 (lv_at hl 0 rfl) ?_
          refine lv_aload_n hx hb dMH_written_53 rfl (lv_at hl 3 rfl) ?_
          refine nw_get (C := "LatticeKeysModel$Hands") (TT := T_MH) (N := 31) hx hb hts (wg_ft i_MH) hown hK hO k_h0 (kn := 225) (ci := 12) (fl := [(3, 172), (3, 181), (3, 226), (3, 291), (3, 299), (3, 308), (3, 317), (3, 326), (3, 334), (3, 342), (3, 350), (3, 359), (3, 368), (3, 369), (3, 370), (3, 371), (3, 372), (3, 373), (3, 374), (3, 375), (3, 376), (3, 377), (3, 378), (0, 0), (0, 0), (0, 0), (0, 0), (0, 0), (0, 0), (0, 0), (0, 0)]) rfl hP rfl 25 (by decide) (hts _ (wg_t kw_1457)) (fun _ h9 => h9) (cd := (0, 0)) rfl dMH_written_54 (fun v33 hv33 => ?_)
          obtain rfl := (show v33 = .int (s22.1 225 25) from hv33)
          obtain ⟨z32, ez32, hz43, hz44⟩ := cl_of (b := 2147483648) hf111 (by omega) (by decide)
          replace hR := bnd_step hR ez32
          refine mi_as hz43 ?_
          subst hz44
          refine mi_ge (tgt := 110) hx hb dMH_written_57 (by decide) (by omega) (by omega) (fun h31 => absurd h31 (by omega)) (fun h31 => ?_)
          refine lv_iconst (v := nI 0) hx hb dMH_written_60 (by decide) ?_
          refine lv_istore (lv' := [(5, .int (nI 0)), (4, .int (nI i22)), (3, .int (nI az21)), (2, .int (nI 18)), (0, .ref h0), (1, .ref to)]) hx hb dMH_written_61 hl (by decide) rfl (fun ls hl => ?_)
          have lp26 : ∀ (n26 : Nat) (i26 : Nat) (az22 : Nat) (s29 : Sto) (pl : va_W) (ls : Array Slot) (H : Heap) (locs : List Loc), n26 + i26 = 256 → (az22 = 256 + 4608 * i22 + 18 * i26) → frm (M_MH_written_0 pt) s s29 → s29.1 225 23 = nI 0 → s29.1 225 24 = nI 4 → s29.1 225 25 = nI 4 → s29.1 225 26 = nI 2 → s29.1 225 27 = nI 131072 → s29.1 225 28 = nI 95232 → s29.1 225 29 = nI 78 → s29.1 225 30 = nI 32 → F_MH_written_0 pt s = F_MH_written_0_L5 pt i22 (F_MH_written_0_L1 pt n22) n26 i26 az22 s29 → lv_has ls 8 [(5, .int (nI i26)), (4, .int (nI i22)), (3, .int (nI az22)), (2, .int (nI 18)), (0, .ref h0), (1, .ref to)] → okn g T s29 pl → va_P g.1 vcl ([] ++ pl) H → va_D A ([] ++ pl) → va_S A s0.heap H locs → W p l e ({ frames := 1, cells := 0, slots := 0, locals := 26 } : Room) s0 m args below meth c H locs 0 0 (MQ below (va_Qv (fun (u : (Sto) × va_W) => (u.1 = F_MH_written_0 pt s ∧ frm (M_MH_written_0 pt) s u.1 ∧ True) ∧ okn g T u.1 u.2) (po g.1 vcl A (fun (u : (Sto) × va_W) => [] ++ u.2)) A) args s0 0 0 A) (F0 m 63 ls []) := by
            intro n26
            induction n26 with
            | zero =>
              intro i26 az22 s29 pl ls H locs hm26 hi24 hF hf117 hf118 hf119 hf120 hf121 hf122 hf123 hf124 hR hl hO hP hD hS
              refine lv_iload hx hb dMH_written_63 (lv_at hl 0 rfl) ?_
              refine lv_sipush (v := nI 256) hx hb dMH_written_65 (by decide) ?_
              refine mi_ge (tgt := 104) hx hb dMH_written_68 (by decide) (by omega) (by omega) (fun h32 => ?_) (fun h32 => absurd h32 (by omega))
              refine mi_iinc (k := 1) (x := i22) (d := 1) (y := i22 + 1) (lv' := [(4, .int (nI (i22 + 1))), (5, .int (nI i26)), (3, .int (nI az22)), (2, .int (nI 18)), (0, .ref h0), (1, .ref to)]) hx hb dMH_written_104 hl rfl (by decide) rfl (by decide) rfl (fun ls hl => ?_)
              refine lv_goto (tgt := 51) hx hb dMH_written_107 (by decide) ?_
              exact ih22 (i22 + 1) az22 s29 pl ls H locs (by omega) (by omega) hF hf117 hf118 hf119 hf120 hf121 hf122 hf123 hf124 hR (lv_sub hl [0, 2, 3, 4, 5] rfl) hO hP hD hS
            | succ n26 ih26 =>
              intro i26 az22 s29 pl ls H locs hm26 hi24 hF hf125 hf126 hf127 hf128 hf129 hf130 hf131 hf132 hR hl hO hP hD hS
              refine lv_iload hx hb dMH_written_63 (lv_at hl 0 rfl) ?_
              refine lv_sipush (v := nI 256) hx hb dMH_written_65 (by decide) ?_
              refine mi_ge (tgt := 104) hx hb dMH_written_68 (by decide) (by omega) (by omega) (fun h33 => absurd h33 (by omega)) (fun h33 => ?_)
              refine lv_aload_n hx hb dMH_written_71 rfl (lv_at hl 5 rfl) ?_
              refine lv_iload_n hx hb dMH_written_72 rfl (lv_at hl 2 rfl) ?_
              refine lv_iload_n hx hb dMH_written_73 rfl (lv_at hl 3 rfl) ?_
              refine lv_aload_n hx hb dMH_written_74 rfl (lv_at hl 4 rfl) ?_
              refine nw_get (C := "LatticeKeysModel$Hands") (TT := T_MH) (N := 31) hx hb hts (wg_ft i_MH) hown hK hO k_h0 (kn := 225) (ci := 12) (fl := [(3, 172), (3, 181), (3, 226), (3, 291), (3, 299), (3, 308), (3, 317), (3, 326), (3, 334), (3, 342), (3, 350), (3, 359), (3, 368), (3, 369), (3, 370), (3, 371), (3, 372), (3, 373), (3, 374), (3, 375), (3, 376), (3, 377), (3, 378), (0, 0), (0, 0), (0, 0), (0, 0), (0, 0), (0, 0), (0, 0), (0, 0)]) rfl hP rfl 27 (by decide) (hts _ (wg_t kw_1459)) (fun _ h9 => h9) (cd := (0, 0)) rfl dMH_written_75 (fun v34 hv34 => ?_)
              obtain rfl := (show v34 = .int (s29.1 225 27) from hv34)
              obtain ⟨z33, ez33, hz45, hz46⟩ := cl_of (b := 2147483648) hf129 (by omega) (by decide)
              replace hR := bnd_step hR ez33
              refine mi_as hz45 ?_
              subst hz46
              refine lv_aload_n hx hb dMH_written_78 rfl (lv_at hl 4 rfl) ?_
              refine nw_get (C := "LatticeKeysModel$Hands") (TT := T_MH) (N := 31) hx hb hts (wg_ft i_MH) hown hK hO k_h0 (kn := 225) (ci := 12) (fl := [(3, 172), (3, 181), (3, 226), (3, 291), (3, 299), (3, 308), (3, 317), (3, 326), (3, 334), (3, 342), (3, 350), (3, 359), (3, 368), (3, 369), (3, 370), (3, 371), (3, 372), (3, 373), (3, 374), (3, 375), (3, 376), (3, 377), (3, 378), (0, 0), (0, 0), (0, 0), (0, 0), (0, 0), (0, 0), (0, 0), (0, 0)]) rfl hP rfl 8 (by decide) (hts _ (wg_t kw_1440)) (fun _ h9 => h9) (cd := (3, 334)) rfl dMH_written_79 (fun v35 hv35 => ?_)
              obtain ⟨r23, rfl, kr23⟩ := (show ∃ r : Nat, v35 = .ref r ∧ T r = some 334 from hv35)
              refine lv_iload hx hb dMH_written_82 (lv_at hl 1 rfl) ?_
              refine nw_aald3 hx hb hK hO kr23 (k := 334) (b := 335) rfl hP (by omega) (by omega) dMH_written_84 (fun r24 kr24 => ?_)
              have hn22 : nsp (335 + i22) = (0, 256, []) := rows_ok 335 7 (by decide) _ (by omega)
              refine lv_iload hx hb dMH_written_85 (lv_at hl 0 rfl) ?_
              refine nw_iald hx hb hK hO kr24 (k := (335 + i22)) hn22 hP (by omega) (by omega) dMH_written_87 ?_
              refine mp_i (cx := []) (wr := []) hP hD hS hA [] [] rfl rfl rfl (by decide) (va_runS (As := [.int (nI 131072), .int ((s29.1 ((335 + i22)) i26))]) (rest := [.int (nI 18), .int (nI az22), .ref to]) F (N_MH_minus l g _ T s29 pl hO hU (nI 131072) (s29.1 ((335 + i22)) i26)) (va_cwS 2 hts (wg_app (wg_c kw_1861 (wg_c kw_1862 (wg_c kw_13 wg_n))) kw_1863) rfl rfl rfl (by decide +kernel) ⟨by decide, by decide⟩) (pp_S (en_ok g) hP hD hS hA hE [] rfl rfl) rfl rfl hl.1 rfl (lv_room (Nat.le_of_ble_eq_true rfl)) dMH_written_88 ⟨by omega, by omega⟩) (fun r25 u21 H locs hu21 hP hD hS => ?_)
              obtain ⟨q21, pl⟩ := u21
              obtain ⟨⟨eq21, rfl, hFc21, -⟩, hO⟩ := hu21
              have hO : okn g T q21.2 pl := hO
              have hP : va_P g.1 vcl ([] ++ pl) _ := hP
              have hD : va_D _ ([] ++ pl) := hD
              have hFc21 : frm (M_MH_minus) s29 q21.2 := hFc21
              replace hR := bnd_step hR eq21
              have hF := frm_tr hF hFc21 (fun k hk => by unfold M_MH_minus at hk; unfold M_MH_written_0; omega)
              have hf133 : q21.2.1 225 23 = nI 0 := fc_F hf125 hFc21 (by unfold M_MH_minus; omega)
              have hf134 : q21.2.1 225 24 = nI 4 := fc_F hf126 hFc21 (by unfold M_MH_minus; omega)
              have hf135 : q21.2.1 225 25 = nI 4 := fc_F hf127 hFc21 (by unfold M_MH_minus; omega)
              have hf136 : q21.2.1 225 26 = nI 2 := fc_F hf128 hFc21 (by unfold M_MH_minus; omega)
              have hf137 : q21.2.1 225 27 = nI 131072 := fc_F hf129 hFc21 (by unfold M_MH_minus; omega)
              have hf138 : q21.2.1 225 28 = nI 95232 := fc_F hf130 hFc21 (by unfold M_MH_minus; omega)
              have hf139 : q21.2.1 225 29 = nI 78 := fc_F hf131 hFc21 (by unfold M_MH_minus; omega)
              have hf140 : q21.2.1 225 30 = nI 32 := fc_F hf132 hFc21 (by unfold M_MH_minus; omega)
              refine W.widen (k := 0) (n := 0) (by omega) (by omega) ?_
              refine mp_v (cx := []) (wr := []) hP hD hS hA [] [] rfl rfl rfl (by decide) (va_runSN (As := [.ref to, .int (nI az22), .int (nI 18), .int q21.1]) (rest := []) F (N_M_pack l g _ T q21.2 pl hO hU to pt 8192 az22 18 (q21.1) k_to n_to (by omega) (by omega)) ⟨va_cnB 4 hts (wg_in kw_1686) rfl rfl rfl (hE.2.2.2.2.2.2.2.2.2.1) (hts _ (wg_t kw_9)) (by decide +kernel) ⟨by decide, by decide⟩, hts _ (wg_t kw_1685), trivial⟩ (pp_S (en_ok g) hP hD hS hA hE [] rfl rfl) rfl rfl hl.1 rfl (lv_room (Nat.le_of_ble_eq_true rfl)) dMH_written_91 ⟨by omega, by omega⟩) (fun  u22 H locs hu22 hP hD hS => ?_)
              obtain ⟨s30, pl⟩ := u22
              obtain ⟨⟨eq22, hFc22, -⟩, hO⟩ := hu22
              have hO : okn g T s30 pl := hO
              have hP : va_P g.1 vcl ([] ++ pl) _ := hP
              have hD : va_D _ ([] ++ pl) := hD
              have hFc22 : frm (M_M_pack pt) q21.2 s30 := hFc22
              replace hR := bnd_step hR eq22
              have hF := frm_tr hF hFc22 (fun k hk => by unfold M_M_pack at hk; unfold M_MH_written_0; omega)
              have hf141 : s30.1 225 23 = nI 0 := fc_F hf133 hFc22 (by unfold M_M_pack; omega)
              have hf142 : s30.1 225 24 = nI 4 := fc_F hf134 hFc22 (by unfold M_M_pack; omega)
              have hf143 : s30.1 225 25 = nI 4 := fc_F hf135 hFc22 (by unfold M_M_pack; omega)
              have hf144 : s30.1 225 26 = nI 2 := fc_F hf136 hFc22 (by unfold M_M_pack; omega)
              have hf145 : s30.1 225 27 = nI 131072 := fc_F hf137 hFc22 (by unfold M_M_pack; omega)
              have hf146 : s30.1 225 28 = nI 95232 := fc_F hf138 hFc22 (by unfold M_M_pack; omega)
              have hf147 : s30.1 225 29 = nI 78 := fc_F hf139 hFc22 (by unfold M_M_pack; omega)
              have hf148 : s30.1 225 30 = nI 32 := fc_F hf140 hFc22 (by unfold M_M_pack; omega)
              refine W.widen (k := 0) (n := 0) (by omega) (by omega) ?_
              refine lv_iload_n hx hb dMH_written_94 rfl (lv_at hl 2 rfl) ?_
              refine lv_iload_n hx hb dMH_written_95 rfl (lv_at hl 3 rfl) ?_
              refine mi_iadd hx hb dMH_written_96 ?_
              refine lv_istore_n (lv' := [(3, .int (nI (az22 + 18))), (5, .int (nI i26)), (4, .int (nI i22)), (2, .int (nI 18)), (0, .ref h0), (1, .ref to)]) hx hb dMH_written_97 rfl hl (by decide) rfl (fun ls hl => ?_)
              refine mi_iinc (k := 1) (x := i26) (d := 1) (y := i26 + 1) (lv' := [(5, .int (nI (i26 + 1))), (3, .int (nI (az22 + 18))), (4, .int (nI i22)), (2, .int (nI 18)), (0, .ref h0), (1, .ref to)]) hx hb dMH_written_98 hl rfl (by decide) rfl (by decide) rfl (fun ls hl => ?_)
              refine lv_goto (tgt := 63) hx hb dMH_written_101 (by decide) ?_
              exact ih26 (i26 + 1) (az22 + 18) s30 pl ls H locs (by omega) (by omega) hF hf141 hf142 hf143 hf144 hf145 hf146 hf147 hf148 hR (lv_sub hl [0, 2, 1, 3, 4, 5] rfl) hO hP hD hS
          exact lp26 256 0 az21 s22 pl ls _ _ (by omega) (by omega) hF hf109 hf110 hf111 hf112 hf113 hf114 hf115 hf116 hR (lv_sub hl [0, 1, 2, 3, 4, 5] rfl) hO hP hD hS
      exact lp22 4 0 256 s21 pl ls _ _ (by omega) (by omega) hF hf21 hf22 hf23 hf24 hf25 hf26 hf27 hf28 hR (lv_sub hl [0, 1, 2, 3, 4] rfl) hO hP hD hS
    | succ n21 ih21 =>
      intro i21 s21 pl ls H locs hm21 hF hf149 hf150 hf151 hf152 hf153 hf154 hf155 hf156 hR hl hO hP hD hS
      refine lv_iload_n hx hb dMH_written_2 rfl (lv_at hl 0 rfl) ?_
      refine lv_aload_n hx hb dMH_written_3 rfl (lv_at hl 1 rfl) ?_
      refine nw_get (C := "LatticeKeysModel$Hands") (TT := T_MH) (N := 31) hx hb hts (wg_ft i_MH) hown hK hO k_h0 (kn := 225) (ci := 12) (fl := [(3, 172), (3, 181), (3, 226), (3, 291), (3, 299), (3, 308), (3, 317), (3, 326), (3, 334), (3, 342), (3, 350), (3, 359), (3, 368), (3, 369), (3, 370), (3, 371), (3, 372), (3, 373), (3, 374), (3, 375), (3, 376), (3, 377), (3, 378), (0, 0), (0, 0), (0, 0), (0, 0), (0, 0), (0, 0), (0, 0), (0, 0)]) rfl hP rfl 30 (by decide) (hts _ (wg_t kw_1462)) (fun _ h9 => h9) (cd := (0, 0)) rfl dMH_written_4 (fun v36 hv36 => ?_)
      obtain rfl := (show v36 = .int (s21.1 225 30) from hv36)
      obtain ⟨z34, ez34, hz47, hz48⟩ := cl_of (b := 2147483648) hf156 (by omega) (by decide)
      replace hR := bnd_step hR ez34
      refine mi_as hz47 ?_
      subst hz48
      refine mi_ge (tgt := 25) hx hb dMH_written_7 (by decide) (by omega) (by omega) (fun h34 => absurd h34 (by omega)) (fun h34 => ?_)
      refine lv_aload_n hx hb dMH_written_10 rfl (lv_at hl 2 rfl) ?_
      refine lv_iload_n hx hb dMH_written_11 rfl (lv_at hl 0 rfl) ?_
      refine lv_aload_n hx hb dMH_written_12 rfl (lv_at hl 1 rfl) ?_
      refine nw_get (C := "LatticeKeysModel$Hands") (TT := T_MH) (N := 31) hx hb hts (wg_ft i_MH) hown hK hO k_h0 (kn := 225) (ci := 12) (fl := [(3, 172), (3, 181), (3, 226), (3, 291), (3, 299), (3, 308), (3, 317), (3, 326), (3, 334), (3, 342), (3, 350), (3, 359), (3, 368), (3, 369), (3, 370), (3, 371), (3, 372), (3, 373), (3, 374), (3, 375), (3, 376), (3, 377), (3, 378), (0, 0), (0, 0), (0, 0), (0, 0), (0, 0), (0, 0), (0, 0), (0, 0)]) rfl hP rfl 20 (by decide) (hts _ (wg_t kw_1452)) (fun _ h9 => h9) (cd := (3, 376)) rfl dMH_written_13 (fun v37 hv37 => ?_)
      obtain ⟨r26, rfl, kr25⟩ := (show ∃ r : Nat, v37 = .ref r ∧ T r = some 376 from hv37)
      refine lv_iload_n hx hb dMH_written_16 rfl (lv_at hl 0 rfl) ?_
      refine nw_bald hx hb hK hO kr25 (k := 376) rfl hP (by omega) (by omega) dMH_written_17 ?_
      refine nw_bast hx hb hK hO hU k_to (k := pt) n_to hP hD hS (by omega) (by omega) dMH_written_18 (fun s31 pl H locs es24 hO hP hD hS => ?_)
      replace hR := bnd_step hR es24
      have hF := frm_sB hF es24 (by unfold M_MH_written_0; omega)
      have hf157 : s31.1 225 23 = nI 0 := fc_B hf149 es24 (by omega)
      have hf158 : s31.1 225 24 = nI 4 := fc_B hf150 es24 (by omega)
      have hf159 : s31.1 225 25 = nI 4 := fc_B hf151 es24 (by omega)
      have hf160 : s31.1 225 26 = nI 2 := fc_B hf152 es24 (by omega)
      have hf161 : s31.1 225 27 = nI 131072 := fc_B hf153 es24 (by omega)
      have hf162 : s31.1 225 28 = nI 95232 := fc_B hf154 es24 (by omega)
      have hf163 : s31.1 225 29 = nI 78 := fc_B hf155 es24 (by omega)
      have hf164 : s31.1 225 30 = nI 32 := fc_B hf156 es24 (by omega)
      refine mi_iinc (k := 0) (x := i21) (d := 1) (y := i21 + 1) (lv' := [(2, .int (nI (i21 + 1))), (0, .ref h0), (1, .ref to)]) hx hb dMH_written_19 hl rfl (by decide) rfl (by decide) rfl (fun ls hl => ?_)
      refine lv_goto (tgt := 2) hx hb dMH_written_22 (by decide) ?_
      exact ih21 (i21 + 1) s31 pl ls H locs (by omega) hF hf157 hf158 hf159 hf160 hf161 hf162 hf163 hf164 hR (lv_sub hl [0, 1, 2] rfl) hO hP hD hS
  exact lp21 32 0 s pl ls _ _ (by omega) hF e_c0 e_c1 e_c2 e_c3 e_c4 e_c5 e_c6 e_c7 hR (lv_sub hl [0, 1, 2] rfl) hO hP hD hS
def M_MH_written_1 (pt : Nat) (k : Nat) : Prop := k = pt ∨ (0 : Nat) = 1
noncomputable def F_MH_written_1_L5 (pt : Nat) (i22 : Nat) (kk : Nat → Nat → Sto → Sto) : Nat → Nat → Nat → Sto → Sto
  | 0, i26, az22, s29 => kk (i22 + 1) az22 s29
  | n26 + 1, i26, az22, s29 => bnd ((s29.1 225 27).toNatClampNeg) fun z33 => bnd (F_MH_minus (nI 524288) (s29.1 ((335 + i22)) i26) s29) fun q21 => bnd (F_M_pack pt 8192 az22 20 (q21.1) q21.2) fun s30 => F_MH_written_1_L5 pt i22 kk n26 (i26 + 1) (az22 + 20) s30
noncomputable def F_MH_written_1_L4 (pt : Nat) (az21 : Nat) (i24 : Nat) (kk : Nat → Nat → Sto → Sto) : Nat → Nat → Nat → Sto → Sto
  | 0, i25, my22, s25 => bnd ((s25.1 225 23).toNatClampNeg) fun z29 => bnd (sB s25 pt (((az21 / 8) + 55) + i24) ((nI my22).toInt8.toInt32)) fun s26 => kk (i24 + 1) my22 s26
  | n25 + 1, i25, my22, s25 => if (s25.1 ((360 + i24)) i25) = 0 then F_MH_written_1_L4 pt az21 i24 kk n25 (i25 + 1) my22 s25 else bnd (sB s25 pt ((az21 / 8) + my22) ((nI i25).toInt8.toInt32)) fun s27 => F_MH_written_1_L4 pt az21 i24 kk n25 (i25 + 1) (my22 + 1) s27
noncomputable def F_MH_written_1_L3 (pt : Nat) (az21 : Nat) : Nat → Nat → Nat → Sto → Sto
  | 0, i24, my21, s24 => bnd ((s24.1 225 24).toNatClampNeg) fun z27 => s24
  | n24 + 1, i24, my21, s24 => bnd ((s24.1 225 24).toNatClampNeg) fun z28 => F_MH_written_1_L4 pt az21 i24 (F_MH_written_1_L3 pt az21 n24) 256 0 my21 s24
noncomputable def F_MH_written_1_L2 (pt : Nat) (az21 : Nat) : Nat → Nat → Sto → Sto
  | 0, i23, s23 => bnd ((s23.1 225 23).toNatClampNeg) fun z25 => bnd ((s23.1 225 24).toNatClampNeg) fun z26 => F_MH_written_1_L3 pt az21 6 0 0 s23
  | n23 + 1, i23, s23 => bnd ((s23.1 225 23).toNatClampNeg) fun z30 => bnd ((s23.1 225 24).toNatClampNeg) fun z31 => bnd (sB s23 pt ((az21 / 8) + i23) (nI 0)) fun s28 => F_MH_written_1_L2 pt az21 n23 (i23 + 1) s28
noncomputable def F_MH_written_1_L1 (pt : Nat) : Nat → Nat → Nat → Sto → Sto
  | 0, i22, az21, s22 => bnd ((s22.1 225 25).toNatClampNeg) fun z24 => F_MH_written_1_L2 pt az21 61 0 s22
  | n22 + 1, i22, az21, s22 => bnd ((s22.1 225 25).toNatClampNeg) fun z32 => F_MH_written_1_L5 pt i22 (F_MH_written_1_L1 pt n22) 256 0 az21 s22
noncomputable def F_MH_written_1_L0 (pt : Nat) : Nat → Nat → Sto → Sto
  | 0, i21, s21 => bnd ((s21.1 225 30).toNatClampNeg) fun z21 => bnd ((s21.1 225 23).toNatClampNeg) fun z22 => bnd ((s21.1 225 30).toNatClampNeg) fun z23 => F_MH_written_1_L1 pt 5 0 384 s21
  | n21 + 1, i21, s21 => bnd ((s21.1 225 30).toNatClampNeg) fun z34 => bnd (sB s21 pt i21 (s21.1 376 i21)) fun s31 => F_MH_written_1_L0 pt n21 (i21 + 1) s31
noncomputable def F_MH_written_1 (pt : Nat) (s : Sto) : Sto := F_MH_written_1_L0 pt 48 0 s
set_option maxHeartbeats 8000000 in
set_option maxRecDepth 100000 in
theorem N_MH_written_1 (l : Launch) (g : Gd) (sz : Nat) (T : TyN) (s : Sto) (pl : va_W) (hO : okn g T s pl) (hU : inj T) (h0 to : Nat) (pt : Nat) (k_h0 : T h0 = some 225) (k_to : T to = some pt) (n_to : nsp pt = (1, 8192, [])) (e_c0 : s.1 225 23 = nI 1) (e_c1 : s.1 225 24 = nI 6) (e_c2 : s.1 225 25 = nI 5) (e_c3 : s.1 225 26 = nI 4) (e_c4 : s.1 225 27 = nI 524288) (e_c5 : s.1 225 28 = nI 261888) (e_c6 : s.1 225 29 = nI 196) (e_c7 : s.1 225 30 = nI 48)  : Met l y_MH_written w_MH_written ({ frames := 1, cells := 0, slots := 0, locals := 26 } : Room) (va_Pc [.ref h0, .ref to] (pr (en g) g.1 vcl sz ([] ++ pl))) (va_Qv (fun (u : (Sto) × va_W) => (u.1 = F_MH_written_1 pt s ∧ frm (M_MH_written_1 pt) s u.1 ∧ True) ∧ okn g T u.1 u.2) (po g.1 vcl (va_A ([] ++ pl) sz) (fun (u : (Sto) × va_W) => [] ++ u.2)) (va_A ([] ++ pl) sz)) 0 0 (va_A ([] ++ pl) sz) := by
  refine mc_entry (cc := c_MH_written) (maxL := 8) (ret := none) (by decide) rfl (Nat.le_of_ble_eq_true rfl) ?_
  intro p e s0 m args below meth c ls F hr hlk hnm hsz hP hD hE hA hl
  obtain ⟨hx, hb, hml, hown, hts⟩ := id F
  have hK := hE.1
  generalize va_A ([] ++ pl) sz = A at hD hE hA ⊢
  have hS : va_S A s0.heap s0.heap [] := va_S.rf
  have hl : lv_has ls 8 [(0, .ref h0), (1, .ref to)] := hl
  have hR : F_MH_written_1 pt s = F_MH_written_1 pt s := rfl
  have hF : frm (M_MH_written_1 pt) s s := frm_rf
  have ne_172_pt : 172 ≠ pt := nsp_ne (p := 172) rfl n_to (show (5 : Nat) ≠ 1 by decide)
  have ne_225_pt : 225 ≠ pt := nsp_ne (p := 225) rfl n_to (show (5 : Nat) ≠ 1 by decide)
  refine lv_iconst (v := nI 0) hx hb dMH_written_0 (by decide) ?_
  refine lv_istore_n (lv' := [(2, .int (nI 0)), (0, .ref h0), (1, .ref to)]) hx hb dMH_written_1 rfl hl (by decide) rfl (fun ls hl => ?_)
  have lp21 : ∀ (n21 : Nat) (i21 : Nat) (s21 : Sto) (pl : va_W) (ls : Array Slot) (H : Heap) (locs : List Loc), n21 + i21 = 48 → frm (M_MH_written_1 pt) s s21 → s21.1 225 23 = nI 1 → s21.1 225 24 = nI 6 → s21.1 225 25 = nI 5 → s21.1 225 26 = nI 4 → s21.1 225 27 = nI 524288 → s21.1 225 28 = nI 261888 → s21.1 225 29 = nI 196 → s21.1 225 30 = nI 48 → F_MH_written_1 pt s = F_MH_written_1_L0 pt n21 i21 s21 → lv_has ls 8 [(2, .int (nI i21)), (0, .ref h0), (1, .ref to)] → okn g T s21 pl → va_P g.1 vcl ([] ++ pl) H → va_D A ([] ++ pl) → va_S A s0.heap H locs → W p l e ({ frames := 1, cells := 0, slots := 0, locals := 26 } : Room) s0 m args below meth c H locs 0 0 (MQ below (va_Qv (fun (u : (Sto) × va_W) => (u.1 = F_MH_written_1 pt s ∧ frm (M_MH_written_1 pt) s u.1 ∧ True) ∧ okn g T u.1 u.2) (po g.1 vcl A (fun (u : (Sto) × va_W) => [] ++ u.2)) A) args s0 0 0 A) (F0 m 2 ls []) := by
    intro n21
    induction n21 with
    | zero =>
      intro i21 s21 pl ls H locs hm21 hF hf21 hf22 hf23 hf24 hf25 hf26 hf27 hf28 hR hl hO hP hD hS
      refine lv_iload_n hx hb dMH_written_2 rfl (lv_at hl 0 rfl) ?_
      refine lv_aload_n hx hb dMH_written_3 rfl (lv_at hl 1 rfl) ?_
      refine nw_get (C := "LatticeKeysModel$Hands") (TT := T_MH) (N := 31) hx hb hts (wg_ft i_MH) hown hK hO k_h0 (kn := 225) (ci := 12) (fl := [(3, 172), (3, 181), (3, 226), (3, 291), (3, 299), (3, 308), (3, 317), (3, 326), (3, 334), (3, 342), (3, 350), (3, 359), (3, 368), (3, 369), (3, 370), (3, 371), (3, 372), (3, 373), (3, 374), (3, 375), (3, 376), (3, 377), (3, 378), (0, 0), (0, 0), (0, 0), (0, 0), (0, 0), (0, 0), (0, 0), (0, 0)]) rfl hP rfl 30 (by decide) (hts _ (wg_t kw_1462)) (fun _ h9 => h9) (cd := (0, 0)) rfl dMH_written_4 (fun v21 hv21 => ?_)
      obtain rfl := (show v21 = .int (s21.1 225 30) from hv21)
      obtain ⟨z21, ez21, hz21, hz22⟩ := cl_of (b := 2147483648) hf28 (by omega) (by decide)
      replace hR := bnd_step hR ez21
      refine mi_as hz21 ?_
      subst hz22
      refine mi_ge (tgt := 25) hx hb dMH_written_7 (by decide) (by omega) (by omega) (fun h21 => ?_) (fun h21 => absurd h21 (by omega))
      refine lv_aload_n hx hb dMH_written_25 rfl (lv_at hl 1 rfl) ?_
      refine nw_get (C := "LatticeKeysModel$Hands") (TT := T_MH) (N := 31) hx hb hts (wg_ft i_MH) hown hK hO k_h0 (kn := 225) (ci := 12) (fl := [(3, 172), (3, 181), (3, 226), (3, 291), (3, 299), (3, 308), (3, 317), (3, 326), (3, 334), (3, 342), (3, 350), (3, 359), (3, 368), (3, 369), (3, 370), (3, 371), (3, 372), (3, 373), (3, 374), (3, 375), (3, 376), (3, 377), (3, 378), (0, 0), (0, 0), (0, 0), (0, 0), (0, 0), (0, 0), (0, 0), (0, 0)]) rfl hP rfl 23 (by decide) (hts _ (wg_t kw_1455)) (fun _ h9 => h9) (cd := (0, 0)) rfl dMH_written_26 (fun v22 hv22 => ?_)
      obtain rfl := (show v22 = .int (s21.1 225 23) from hv22)
      obtain ⟨z22, ez22, hz23, hz24⟩ := cl_of (b := 2147483648) hf21 (by omega) (by decide)
      replace hR := bnd_step hR ez22
      refine mi_as hz23 ?_
      subst hz24
      refine lv_if_ne (tgt := 37) hx hb dMH_written_29 (by decide) (fun h22 => ?_) (fun h22 => absurd h22 (by decide))
      refine lv_bipush (v := nI 20) hx hb dMH_written_37 (by decide) ?_
      refine lv_istore_n (lv' := [(2, .int (nI 20)), (0, .ref h0), (1, .ref to)]) hx hb dMH_written_39 rfl hl (by decide) rfl (fun ls hl => ?_)
      refine lv_bipush (v := nI 8) hx hb dMH_written_40 (by decide) ?_
      refine lv_aload_n hx hb dMH_written_42 rfl (lv_at hl 1 rfl) ?_
      refine nw_get (C := "LatticeKeysModel$Hands") (TT := T_MH) (N := 31) hx hb hts (wg_ft i_MH) hown hK hO k_h0 (kn := 225) (ci := 12) (fl := [(3, 172), (3, 181), (3, 226), (3, 291), (3, 299), (3, 308), (3, 317), (3, 326), (3, 334), (3, 342), (3, 350), (3, 359), (3, 368), (3, 369), (3, 370), (3, 371), (3, 372), (3, 373), (3, 374), (3, 375), (3, 376), (3, 377), (3, 378), (0, 0), (0, 0), (0, 0), (0, 0), (0, 0), (0, 0), (0, 0), (0, 0)]) rfl hP rfl 30 (by decide) (hts _ (wg_t kw_1462)) (fun _ h9 => h9) (cd := (0, 0)) rfl dMH_written_43 (fun v23 hv23 => ?_)
      obtain rfl := (show v23 = .int (s21.1 225 30) from hv23)
      obtain ⟨z23, ez23, hz25, hz26⟩ := cl_of (b := 2147483648) hf28 (by omega) (by decide)
      replace hR := bnd_step hR ez23
      refine mi_as hz25 ?_
      subst hz26
      refine mi_imul hx hb dMH_written_46 ?_
      refine mi_as (show nI (8 * 48) = nI 384 from rfl) ?_
      refine lv_istore_n (lv' := [(3, .int (nI 384)), (2, .int (nI 20)), (0, .ref h0), (1, .ref to)]) hx hb dMH_written_47 rfl hl (by decide) rfl (fun ls hl => ?_)
      refine lv_iconst (v := nI 0) hx hb dMH_written_48 (by decide) ?_
      refine lv_istore (lv' := [(4, .int (nI 0)), (3, .int (nI 384)), (2, .int (nI 20)), (0, .ref h0), (1, .ref to)]) hx hb dMH_written_49 hl (by decide) rfl (fun ls hl => ?_)
      have lp22 : ∀ (n22 : Nat) (i22 : Nat) (az21 : Nat) (s22 : Sto) (pl : va_W) (ls : Array Slot) (H : Heap) (locs : List Loc), n22 + i22 = 5 → (az21 = 384 + 5120 * i22) → frm (M_MH_written_1 pt) s s22 → s22.1 225 23 = nI 1 → s22.1 225 24 = nI 6 → s22.1 225 25 = nI 5 → s22.1 225 26 = nI 4 → s22.1 225 27 = nI 524288 → s22.1 225 28 = nI 261888 → s22.1 225 29 = nI 196 → s22.1 225 30 = nI 48 → F_MH_written_1 pt s = F_MH_written_1_L1 pt n22 i22 az21 s22 → lv_has ls 8 [(4, .int (nI i22)), (3, .int (nI az21)), (2, .int (nI 20)), (0, .ref h0), (1, .ref to)] → okn g T s22 pl → va_P g.1 vcl ([] ++ pl) H → va_D A ([] ++ pl) → va_S A s0.heap H locs → W p l e ({ frames := 1, cells := 0, slots := 0, locals := 26 } : Room) s0 m args below meth c H locs 0 0 (MQ below (va_Qv (fun (u : (Sto) × va_W) => (u.1 = F_MH_written_1 pt s ∧ frm (M_MH_written_1 pt) s u.1 ∧ True) ∧ okn g T u.1 u.2) (po g.1 vcl A (fun (u : (Sto) × va_W) => [] ++ u.2)) A) args s0 0 0 A) (F0 m 51 ls []) := by
        intro n22
        induction n22 with
        | zero =>
          intro i22 az21 s22 pl ls H locs hm22 hi21 hF hf29 hf30 hf31 hf32 hf33 hf34 hf35 hf36 hR hl hO hP hD hS
          refine lv_iload hx hb dMH_written_51 (lv_at hl 0 rfl) ?_
          refine lv_aload_n hx hb dMH_written_53 rfl (lv_at hl 3 rfl) ?_
          refine nw_get (C := "LatticeKeysModel$Hands") (TT := T_MH) (N := 31) hx hb hts (wg_ft i_MH) hown hK hO k_h0 (kn := 225) (ci := 12) (fl := [(3, 172), (3, 181), (3, 226), (3, 291), (3, 299), (3, 308), (3, 317), (3, 326), (3, 334), (3, 342), (3, 350), (3, 359), (3, 368), (3, 369), (3, 370), (3, 371), (3, 372), (3, 373), (3, 374), (3, 375), (3, 376), (3, 377), (3, 378), (0, 0), (0, 0), (0, 0), (0, 0), (0, 0), (0, 0), (0, 0), (0, 0)]) rfl hP rfl 25 (by decide) (hts _ (wg_t kw_1457)) (fun _ h9 => h9) (cd := (0, 0)) rfl dMH_written_54 (fun v24 hv24 => ?_)
          obtain rfl := (show v24 = .int (s22.1 225 25) from hv24)
          obtain ⟨z24, ez24, hz27, hz28⟩ := cl_of (b := 2147483648) hf31 (by omega) (by decide)
          replace hR := bnd_step hR ez24
          refine mi_as hz27 ?_
          subst hz28
          refine mi_ge (tgt := 110) hx hb dMH_written_57 (by decide) (by omega) (by omega) (fun h23 => ?_) (fun h23 => absurd h23 (by omega))
          refine lv_iload_n hx hb dMH_written_110 rfl (lv_at hl 1 rfl) ?_
          refine lv_bipush (v := nI 8) hx hb dMH_written_111 (by decide) ?_
          refine mi_idiv hx hb dMH_written_113 (by omega) (by omega) (by omega) ?_
          refine lv_istore (lv' := [(4, .int (nI (az21 / 8))), (3, .int (nI az21)), (2, .int (nI 20)), (0, .ref h0), (1, .ref to)]) hx hb dMH_written_114 hl (by decide) rfl (fun ls hl => ?_)
          refine lv_iconst (v := nI 0) hx hb dMH_written_116 (by decide) ?_
          refine lv_istore (lv' := [(5, .int (nI 0)), (4, .int (nI (az21 / 8))), (3, .int (nI az21)), (2, .int (nI 20)), (0, .ref h0), (1, .ref to)]) hx hb dMH_written_117 hl (by decide) rfl (fun ls hl => ?_)
          refine lv_iconst (v := nI 0) hx hb dMH_written_119 (by decide) ?_
          refine lv_istore (lv' := [(6, .int (nI 0)), (5, .int (nI 0)), (4, .int (nI (az21 / 8))), (3, .int (nI az21)), (2, .int (nI 20)), (0, .ref h0), (1, .ref to)]) hx hb dMH_written_120 hl (by decide) rfl (fun ls hl => ?_)
          have lp23 : ∀ (n23 : Nat) (i23 : Nat) (s23 : Sto) (pl : va_W) (ls : Array Slot) (H : Heap) (locs : List Loc), n23 + i23 = 61 → frm (M_MH_written_1 pt) s s23 → s23.1 225 23 = nI 1 → s23.1 225 24 = nI 6 → s23.1 225 25 = nI 5 → s23.1 225 26 = nI 4 → s23.1 225 27 = nI 524288 → s23.1 225 28 = nI 261888 → s23.1 225 29 = nI 196 → s23.1 225 30 = nI 48 → F_MH_written_1 pt s = F_MH_written_1_L2 pt az21 n23 i23 s23 → lv_has ls 8 [(6, .int (nI i23)), (5, .int (nI 0)), (4, .int (nI (az21 / 8))), (0, .ref h0), (1, .ref to)] → okn g T s23 pl → va_P g.1 vcl ([] ++ pl) H → va_D A ([] ++ pl) → va_S A s0.heap H locs → W p l e ({ frames := 1, cells := 0, slots := 0, locals := 26 } : Room) s0 m args below meth c H locs 0 0 (MQ below (va_Qv (fun (u : (Sto) × va_W) => (u.1 = F_MH_written_1 pt s ∧ frm (M_MH_written_1 pt) s u.1 ∧ True) ∧ okn g T u.1 u.2) (po g.1 vcl A (fun (u : (Sto) × va_W) => [] ++ u.2)) A) args s0 0 0 A) (F0 m 122 ls []) := by
            intro n23
            induction n23 with
            | zero =>
              intro i23 s23 pl ls H locs hm23 hF hf37 hf38 hf39 hf40 hf41 hf42 hf43 hf44 hR hl hO hP hD hS
              refine lv_iload hx hb dMH_written_122 (lv_at hl 0 rfl) ?_
              refine va_gets hx hb (hE.2.1 27 _ rfl).1 hS hown (hts _ (wg_t kw_1908)) (fun _ h9 => h9) dMH_written_124 ?_
              refine lv_aload_n hx hb dMH_written_127 rfl (lv_at hl 3 rfl) ?_
              refine nw_get (C := "LatticeKeysModel$Hands") (TT := T_MH) (N := 31) hx hb hts (wg_ft i_MH) hown hK hO k_h0 (kn := 225) (ci := 12) (fl := [(3, 172), (3, 181), (3, 226), (3, 291), (3, 299), (3, 308), (3, 317), (3, 326), (3, 334), (3, 342), (3, 350), (3, 359), (3, 368), (3, 369), (3, 370), (3, 371), (3, 372), (3, 373), (3, 374), (3, 375), (3, 376), (3, 377), (3, 378), (0, 0), (0, 0), (0, 0), (0, 0), (0, 0), (0, 0), (0, 0), (0, 0)]) rfl hP rfl 23 (by decide) (hts _ (wg_t kw_1455)) (fun _ h9 => h9) (cd := (0, 0)) rfl dMH_written_128 (fun v25 hv25 => ?_)
              obtain rfl := (show v25 = .int (s23.1 225 23) from hv25)
              obtain ⟨z25, ez25, hz29, hz30⟩ := cl_of (b := 2147483648) hf37 (by omega) (by decide)
              replace hR := bnd_step hR ez25
              refine mi_as hz29 ?_
              subst hz30
              refine va_ti (v := .int (nI 55)) hx hb (hE.2.1 27 _ rfl).2 hS (vp_in_nI (by decide) (by decide)) (by decide +kernel) dMH_written_131 ?_
              refine lv_aload_n hx hb dMH_written_132 rfl (lv_at hl 3 rfl) ?_
              refine nw_get (C := "LatticeKeysModel$Hands") (TT := T_MH) (N := 31) hx hb hts (wg_ft i_MH) hown hK hO k_h0 (kn := 225) (ci := 12) (fl := [(3, 172), (3, 181), (3, 226), (3, 291), (3, 299), (3, 308), (3, 317), (3, 326), (3, 334), (3, 342), (3, 350), (3, 359), (3, 368), (3, 369), (3, 370), (3, 371), (3, 372), (3, 373), (3, 374), (3, 375), (3, 376), (3, 377), (3, 378), (0, 0), (0, 0), (0, 0), (0, 0), (0, 0), (0, 0), (0, 0), (0, 0)]) rfl hP rfl 24 (by decide) (hts _ (wg_t kw_1456)) (fun _ h9 => h9) (cd := (0, 0)) rfl dMH_written_133 (fun v26 hv26 => ?_)
              obtain rfl := (show v26 = .int (s23.1 225 24) from hv26)
              obtain ⟨z26, ez26, hz31, hz32⟩ := cl_of (b := 2147483648) hf38 (by omega) (by decide)
              replace hR := bnd_step hR ez26
              refine mi_as hz31 ?_
              subst hz32
              refine mi_iadd hx hb dMH_written_136 ?_
              refine mi_as (show nI (55 + 6) = nI 61 from rfl) ?_
              refine mi_ge (tgt := 154) hx hb dMH_written_137 (by decide) (by omega) (by omega) (fun h24 => ?_) (fun h24 => absurd h24 (by omega))
              refine lv_iconst (v := nI 0) hx hb dMH_written_154 (by decide) ?_
              refine lv_istore (lv' := [(6, .int (nI 0)), (5, .int (nI 0)), (4, .int (nI (az21 / 8))), (0, .ref h0), (1, .ref to)]) hx hb dMH_written_155 hl (by decide) rfl (fun ls hl => ?_)
              have lp24 : ∀ (n24 : Nat) (i24 : Nat) (my21 : Nat) (s24 : Sto) (pl : va_W) (ls : Array Slot) (H : Heap) (locs : List Loc), n24 + i24 = 6 → (my21 ≤ 256 * i24) → frm (M_MH_written_1 pt) s s24 → s24.1 225 23 = nI 1 → s24.1 225 24 = nI 6 → s24.1 225 25 = nI 5 → s24.1 225 26 = nI 4 → s24.1 225 27 = nI 524288 → s24.1 225 28 = nI 261888 → s24.1 225 29 = nI 196 → s24.1 225 30 = nI 48 → F_MH_written_1 pt s = F_MH_written_1_L3 pt az21 n24 i24 my21 s24 → lv_has ls 8 [(6, .int (nI i24)), (5, .int (nI my21)), (4, .int (nI (az21 / 8))), (0, .ref h0), (1, .ref to)] → okn g T s24 pl → va_P g.1 vcl ([] ++ pl) H → va_D A ([] ++ pl) → va_S A s0.heap H locs → W p l e ({ frames := 1, cells := 0, slots := 0, locals := 26 } : Room) s0 m args below meth c H locs 0 0 (MQ below (va_Qv (fun (u : (Sto) × va_W) => (u.1 = F_MH_written_1 pt s ∧ frm (M_MH_written_1 pt) s u.1 ∧ True) ∧ okn g T u.1 u.2) (po g.1 vcl A (fun (u : (Sto) × va_W) => [] ++ u.2)) A) args s0 0 0 A) (F0 m 157 ls []) := by
                intro n24
                induction n24 with
                | zero =>
                  intro i24 my21 s24 pl ls H locs hm24 hi22 hF hf45 hf46 hf47 hf48 hf49 hf50 hf51 hf52 hR hl hO hP hD hS
                  refine lv_iload hx hb dMH_written_157 (lv_at hl 0 rfl) ?_
                  refine lv_aload_n hx hb dMH_written_159 rfl (lv_at hl 3 rfl) ?_
                  refine nw_get (C := "LatticeKeysModel$Hands") (TT := T_MH) (N := 31) hx hb hts (wg_ft i_MH) hown hK hO k_h0 (kn := 225) (ci := 12) (fl := [(3, 172), (3, 181), (3, 226), (3, 291), (3, 299), (3, 308), (3, 317), (3, 326), (3, 334), (3, 342), (3, 350), (3, 359), (3, 368), (3, 369), (3, 370), (3, 371), (3, 372), (3, 373), (3, 374), (3, 375), (3, 376), (3, 377), (3, 378), (0, 0), (0, 0), (0, 0), (0, 0), (0, 0), (0, 0), (0, 0), (0, 0)]) rfl hP rfl 24 (by decide) (hts _ (wg_t kw_1456)) (fun _ h9 => h9) (cd := (0, 0)) rfl dMH_written_160 (fun v27 hv27 => ?_)
                  obtain rfl := (show v27 = .int (s24.1 225 24) from hv27)
                  obtain ⟨z27, ez27, hz33, hz34⟩ := cl_of (b := 2147483648) hf46 (by omega) (by decide)
                  replace hR := bnd_step hR ez27
                  refine mi_as hz33 ?_
                  subst hz34
                  refine mi_ge (tgt := 237) hx hb dMH_written_163 (by decide) (by omega) (by omega) (fun h25 => ?_) (fun h25 => absurd h25 (by omega))
                  exact mp_vret hx hb hr hlk hP hD hS (s24, pl) ⟨⟨hR.symm, hF, trivial⟩, hO⟩ [] rfl rfl rfl (by omega) (by omega) dMH_written_237
                | succ n24 ih24 =>
                  intro i24 my21 s24 pl ls H locs hm24 hi22 hF hf53 hf54 hf55 hf56 hf57 hf58 hf59 hf60 hR hl hO hP hD hS
                  refine lv_iload hx hb dMH_written_157 (lv_at hl 0 rfl) ?_
                  refine lv_aload_n hx hb dMH_written_159 rfl (lv_at hl 3 rfl) ?_
                  refine nw_get (C := "LatticeKeysModel$Hands") (TT := T_MH) (N := 31) hx hb hts (wg_ft i_MH) hown hK hO k_h0 (kn := 225) (ci := 12) (fl := [(3, 172), (3, 181), (3, 226), (3, 291), (3, 299), (3, 308), (3, 317), (3, 326), (3, 334), (3, 342), (3, 350), (3, 359), (3, 368), (3, 369), (3, 370), (3, 371), (3, 372), (3, 373), (3, 374), (3, 375), (3, 376), (3, 377), (3, 378), (0, 0), (0, 0), (0, 0), (0, 0), (0, 0), (0, 0), (0, 0), (0, 0)]) rfl hP rfl 24 (by decide) (hts _ (wg_t kw_1456)) (fun _ h9 => h9) (cd := (0, 0)) rfl dMH_written_160 (fun v28 hv28 => ?_)
                  obtain rfl := (show v28 = .int (s24.1 225 24) from hv28)
                  obtain ⟨z28, ez28, hz35, hz36⟩ := cl_of (b := 2147483648) hf54 (by omega) (by decide)
                  replace hR := bnd_step hR ez28
                  refine mi_as hz35 ?_
                  subst hz36
                  refine mi_ge (tgt := 237) hx hb dMH_written_163 (by decide) (by omega) (by omega) (fun h26 => absurd h26 (by omega)) (fun h26 => ?_)
                  refine lv_iconst (v := nI 0) hx hb dMH_written_166 (by decide) ?_
                  refine lv_istore (lv' := [(7, .int (nI 0)), (6, .int (nI i24)), (5, .int (nI my21)), (4, .int (nI (az21 / 8))), (0, .ref h0), (1, .ref to)]) hx hb dMH_written_167 hl (by decide) rfl (fun ls hl => ?_)
                  have lp25 : ∀ (n25 : Nat) (i25 : Nat) (my22 : Nat) (s25 : Sto) (pl : va_W) (ls : Array Slot) (H : Heap) (locs : List Loc), n25 + i25 = 256 → (my22 ≤ 256 * i24 + i25) → frm (M_MH_written_1 pt) s s25 → s25.1 225 23 = nI 1 → s25.1 225 24 = nI 6 → s25.1 225 25 = nI 5 → s25.1 225 26 = nI 4 → s25.1 225 27 = nI 524288 → s25.1 225 28 = nI 261888 → s25.1 225 29 = nI 196 → s25.1 225 30 = nI 48 → F_MH_written_1 pt s = F_MH_written_1_L4 pt az21 i24 (F_MH_written_1_L3 pt az21 n24) n25 i25 my22 s25 → lv_has ls 8 [(7, .int (nI i25)), (6, .int (nI i24)), (5, .int (nI my22)), (4, .int (nI (az21 / 8))), (0, .ref h0), (1, .ref to)] → okn g T s25 pl → va_P g.1 vcl ([] ++ pl) H → va_D A ([] ++ pl) → va_S A s0.heap H locs → W p l e ({ frames := 1, cells := 0, slots := 0, locals := 26 } : Room) s0 m args below meth c H locs 0 0 (MQ below (va_Qv (fun (u : (Sto) × va_W) => (u.1 = F_MH_written_1 pt s ∧ frm (M_MH_written_1 pt) s u.1 ∧ True) ∧ okn g T u.1 u.2) (po g.1 vcl A (fun (u : (Sto) × va_W) => [] ++ u.2)) A) args s0 0 0 A) (F0 m 169 ls []) := by
                    intro n25
                    induction n25 with
                    | zero =>
                      intro i25 my22 s25 pl ls H locs hm25 hi23 hF hf61 hf62 hf63 hf64 hf65 hf66 hf67 hf68 hR hl hO hP hD hS
                      refine lv_iload hx hb dMH_written_169 (lv_at hl 0 rfl) ?_
                      refine lv_sipush (v := nI 256) hx hb dMH_written_171 (by decide) ?_
                      refine mi_ge (tgt := 212) hx hb dMH_written_174 (by decide) (by omega) (by omega) (fun h27 => ?_) (fun h27 => absurd h27 (by omega))
                      refine lv_aload_n hx hb dMH_written_212 rfl (lv_at hl 5 rfl) ?_
                      refine lv_iload hx hb dMH_written_213 (lv_at hl 3 rfl) ?_
                      refine va_gets hx hb (hE.2.1 27 _ rfl).1 hS hown (hts _ (wg_t kw_1908)) (fun _ h9 => h9) dMH_written_215 ?_
                      refine lv_aload_n hx hb dMH_written_218 rfl (lv_at hl 4 rfl) ?_
                      refine nw_get (C := "LatticeKeysModel$Hands") (TT := T_MH) (N := 31) hx hb hts (wg_ft i_MH) hown hK hO k_h0 (kn := 225) (ci := 12) (fl := [(3, 172), (3, 181), (3, 226), (3, 291), (3, 299), (3, 308), (3, 317), (3, 326), (3, 334), (3, 342), (3, 350), (3, 359), (3, 368), (3, 369), (3, 370), (3, 371), (3, 372), (3, 373), (3, 374), (3, 375), (3, 376), (3, 377), (3, 378), (0, 0), (0, 0), (0, 0), (0, 0), (0, 0), (0, 0), (0, 0), (0, 0)]) rfl hP rfl 23 (by decide) (hts _ (wg_t kw_1455)) (fun _ h9 => h9) (cd := (0, 0)) rfl dMH_written_219 (fun v29 hv29 => ?_)
                      obtain rfl := (show v29 = .int (s25.1 225 23) from hv29)
                      obtain ⟨z29, ez29, hz37, hz38⟩ := cl_of (b := 2147483648) hf61 (by omega) (by decide)
                      replace hR := bnd_step hR ez29
                      refine mi_as hz37 ?_
                      subst hz38
                      refine va_ti (v := .int (nI 55)) hx hb (hE.2.1 27 _ rfl).2 hS (vp_in_nI (by decide) (by decide)) (by decide +kernel) dMH_written_222 ?_
                      refine mi_iadd hx hb dMH_written_223 ?_
                      refine lv_iload hx hb dMH_written_224 (lv_at hl 1 rfl) ?_
                      refine mi_iadd hx hb dMH_written_226 ?_
                      refine lv_iload hx hb dMH_written_227 (lv_at hl 2 rfl) ?_
                      refine lv_i2b hx hb dMH_written_229 rfl ?_
                      refine nw_bast hx hb hK hO hU k_to (k := pt) n_to hP hD hS (by omega) (by omega) dMH_written_230 (fun s26 pl H locs es21 hO hP hD hS => ?_)
                      replace hR := bnd_step hR es21
                      have hF := frm_sB hF es21 (by unfold M_MH_written_1; omega)
                      have hf69 : s26.1 225 23 = nI 1 := fc_B hf61 es21 (by omega)
                      have hf70 : s26.1 225 24 = nI 6 := fc_B hf62 es21 (by omega)
                      have hf71 : s26.1 225 25 = nI 5 := fc_B hf63 es21 (by omega)
                      have hf72 : s26.1 225 26 = nI 4 := fc_B hf64 es21 (by omega)
                      have hf73 : s26.1 225 27 = nI 524288 := fc_B hf65 es21 (by omega)
                      have hf74 : s26.1 225 28 = nI 261888 := fc_B hf66 es21 (by omega)
                      have hf75 : s26.1 225 29 = nI 196 := fc_B hf67 es21 (by omega)
                      have hf76 : s26.1 225 30 = nI 48 := fc_B hf68 es21 (by omega)
                      refine mi_iinc (k := 1) (x := i24) (d := 1) (y := i24 + 1) (lv' := [(6, .int (nI (i24 + 1))), (7, .int (nI i25)), (5, .int (nI my22)), (4, .int (nI (az21 / 8))), (0, .ref h0), (1, .ref to)]) hx hb dMH_written_231 hl rfl (by decide) rfl (by decide) rfl (fun ls hl => ?_)
                      refine lv_goto (tgt := 157) hx hb dMH_written_234 (by decide) ?_
                      exact ih24 (i24 + 1) my22 s26 pl ls H locs (by omega) (by omega) hF hf69 hf70 hf71 hf72 hf73 hf74 hf75 hf76 hR (lv_sub hl [0, 2, 3, 4, 5] rfl) hO hP hD hS
                    | succ n25 ih25 =>
                      intro i25 my22 s25 pl ls H locs hm25 hi23 hF hf77 hf78 hf79 hf80 hf81 hf82 hf83 hf84 hR hl hO hP hD hS
                      refine lv_iload hx hb dMH_written_169 (lv_at hl 0 rfl) ?_
                      refine lv_sipush (v := nI 256) hx hb dMH_written_171 (by decide) ?_
                      refine mi_ge (tgt := 212) hx hb dMH_written_174 (by decide) (by omega) (by omega) (fun h28 => absurd h28 (by omega)) (fun h28 => ?_)
                      refine lv_aload_n hx hb dMH_written_177 rfl (lv_at hl 4 rfl) ?_
                      refine nw_get (C := "LatticeKeysModel$Hands") (TT := T_MH) (N := 31) hx hb hts (wg_ft i_MH) hown hK hO k_h0 (kn := 225) (ci := 12) (fl := [(3, 172), (3, 181), (3, 226), (3, 291), (3, 299), (3, 308), (3, 317), (3, 326), (3, 334), (3, 342), (3, 350), (3, 359), (3, 368), (3, 369), (3, 370), (3, 371), (3, 372), (3, 373), (3, 374), (3, 375), (3, 376), (3, 377), (3, 378), (0, 0), (0, 0), (0, 0), (0, 0), (0, 0), (0, 0), (0, 0), (0, 0)]) rfl hP rfl 11 (by decide) (hts _ (wg_t kw_1443)) (fun _ h9 => h9) (cd := (3, 359)) rfl dMH_written_178 (fun v30 hv30 => ?_)
                      obtain ⟨r21, rfl, kr21⟩ := (show ∃ r : Nat, v30 = .ref r ∧ T r = some 359 from hv30)
                      refine lv_iload hx hb dMH_written_181 (lv_at hl 1 rfl) ?_
                      refine nw_aald3 hx hb hK hO kr21 (k := 359) (b := 360) rfl hP (by omega) (by omega) dMH_written_183 (fun r22 kr22 => ?_)
                      have hn21 : nsp (360 + i24) = (0, 256, []) := rows_ok 360 8 (by decide) _ (by omega)
                      refine lv_iload hx hb dMH_written_184 (lv_at hl 0 rfl) ?_
                      refine nw_iald hx hb hK hO kr22 (k := (360 + i24)) hn21 hP (by omega) (by omega) dMH_written_186 ?_
                      refine lv_if_ne (tgt := 193) hx hb dMH_written_187 (by decide) (fun h29 => ?_) (fun h29 => ?_)
                      · replace hR := hR.trans (if_neg h29)
                        refine lv_aload_n hx hb dMH_written_193 rfl (lv_at hl 5 rfl) ?_
                        refine lv_iload hx hb dMH_written_194 (lv_at hl 3 rfl) ?_
                        refine lv_iload hx hb dMH_written_196 (lv_at hl 2 rfl) ?_
                        refine mi_iadd hx hb dMH_written_198 ?_
                        refine lv_iload hx hb dMH_written_199 (lv_at hl 0 rfl) ?_
                        refine lv_i2b hx hb dMH_written_201 rfl ?_
                        refine nw_bast hx hb hK hO hU k_to (k := pt) n_to hP hD hS (by omega) (by omega) dMH_written_202 (fun s27 pl H locs es22 hO hP hD hS => ?_)
                        replace hR := bnd_step hR es22
                        have hF := frm_sB hF es22 (by unfold M_MH_written_1; omega)
                        have hf85 : s27.1 225 23 = nI 1 := fc_B hf77 es22 (by omega)
                        have hf86 : s27.1 225 24 = nI 6 := fc_B hf78 es22 (by omega)
                        have hf87 : s27.1 225 25 = nI 5 := fc_B hf79 es22 (by omega)
                        have hf88 : s27.1 225 26 = nI 4 := fc_B hf80 es22 (by omega)
                        have hf89 : s27.1 225 27 = nI 524288 := fc_B hf81 es22 (by omega)
                        have hf90 : s27.1 225 28 = nI 261888 := fc_B hf82 es22 (by omega)
                        have hf91 : s27.1 225 29 = nI 196 := fc_B hf83 es22 (by omega)
                        have hf92 : s27.1 225 30 = nI 48 := fc_B hf84 es22 (by omega)
                        refine mi_iinc (k := 2) (x := my22) (d := 1) (y := my22 + 1) (lv' := [(5, .int (nI (my22 + 1))), (7, .int (nI i25)), (6, .int (nI i24)), (4, .int (nI (az21 / 8))), (0, .ref h0), (1, .ref to)]) hx hb dMH_written_203 hl rfl (by decide) rfl (by decide) rfl (fun ls hl => ?_)
                        refine mi_iinc (k := 1) (x := i25) (d := 1) (y := i25 + 1) (lv' := [(7, .int (nI (i25 + 1))), (5, .int (nI (my22 + 1))), (6, .int (nI i24)), (4, .int (nI (az21 / 8))), (0, .ref h0), (1, .ref to)]) hx hb dMH_written_206 hl rfl (by decide) rfl (by decide) rfl (fun ls hl => ?_)
                        refine lv_goto (tgt := 169) hx hb dMH_written_209 (by decide) ?_
                        exact ih25 (i25 + 1) (my22 + 1) s27 pl ls H locs (by omega) (by omega) hF hf85 hf86 hf87 hf88 hf89 hf90 hf91 hf92 hR (lv_sub hl [0, 2, 1, 3, 4, 5] rfl) hO hP hD hS
                      · replace hR := hR.trans (if_pos h29)
                        refine lv_goto (tgt := 206) hx hb dMH_written_190 (by decide) ?_
                        refine mi_iinc (k := 0) (x := i25) (d := 1) (y := i25 + 1) (lv' := [(7, .int (nI (i25 + 1))), (6, .int (nI i24)), (5, .int (nI my22)), (4, .int (nI (az21 / 8))), (0, .ref h0), (1, .ref to)]) hx hb dMH_written_206 hl rfl (by decide) rfl (by decide) rfl (fun ls hl => ?_)
                        refine lv_goto (tgt := 169) hx hb dMH_written_209 (by decide) ?_
                        exact ih25 (i25 + 1) my22 s25 pl ls H locs (by omega) (by omega) hF hf77 hf78 hf79 hf80 hf81 hf82 hf83 hf84 hR (lv_sub hl [0, 1, 2, 3, 4, 5] rfl) hO hP hD hS
                  exact lp25 256 0 my21 s24 pl ls _ _ (by omega) (by omega) hF hf53 hf54 hf55 hf56 hf57 hf58 hf59 hf60 hR (lv_sub hl [0, 1, 2, 3, 4, 5] rfl) hO hP hD hS
              exact lp24 6 0 0 s23 pl ls _ _ (by omega) (by omega) hF hf37 hf38 hf39 hf40 hf41 hf42 hf43 hf44 hR (lv_sub hl [0, 1, 2, 3, 4] rfl) hO hP hD hS
            | succ n23 ih23 =>
              intro i23 s23 pl ls H locs hm23 hF hf93 hf94 hf95 hf96 hf97 hf98 hf99 hf100 hR hl hO hP hD hS
              refine lv_iload hx hb dMH_written_122 (lv_at hl 0 rfl) ?_
              refine va_gets hx hb (hE.2.1 27 _ rfl).1 hS hown (hts _ (wg_t kw_1908)) (fun _ h9 => h9) dMH_written_124 ?_
              refine lv_aload_n hx hb dMH_written_127 rfl (lv_at hl 3 rfl) ?_
              refine nw_get (C := "LatticeKeysModel$Hands") (TT := T_MH) (N := 31) hx hb hts (wg_ft i_MH) hown hK hO k_h0 (kn := 225) (ci := 12) (fl := [(3, 172), (3, 181), (3, 226), (3, 291), (3, 299), (3, 308), (3, 317), (3, 326), (3, 334), (3, 342), (3, 350), (3, 359), (3, 368), (3, 369), (3, 370), (3, 371), (3, 372), (3, 373), (3, 374), (3, 375), (3, 376), (3, 377), (3, 378), (0, 0), (0, 0), (0, 0), (0, 0), (0, 0), (0, 0), (0, 0), (0, 0)]) rfl hP rfl 23 (by decide) (hts _ (wg_t kw_1455)) (fun _ h9 => h9) (cd := (0, 0)) rfl dMH_written_128 (fun v31 hv31 => ?_)
              obtain rfl := (show v31 = .int (s23.1 225 23) from hv31)
              obtain ⟨z30, ez30, hz39, hz40⟩ := cl_of (b := 2147483648) hf93 (by omega) (by decide)
              replace hR := bnd_step hR ez30
              refine mi_as hz39 ?_
              subst hz40
              refine va_ti (v := .int (nI 55)) hx hb (hE.2.1 27 _ rfl).2 hS (vp_in_nI (by decide) (by decide)) (by decide +kernel) dMH_written_131 ?_
              refine lv_aload_n hx hb dMH_written_132 rfl (lv_at hl 3 rfl) ?_
              refine nw_get (C := "LatticeKeysModel$Hands") (TT := T_MH) (N := 31) hx hb hts (wg_ft i_MH) hown hK hO k_h0 (kn := 225) (ci := 12) (fl := [(3, 172), (3, 181), (3, 226), (3, 291), (3, 299), (3, 308), (3, 317), (3, 326), (3, 334), (3, 342), (3, 350), (3, 359), (3, 368), (3, 369), (3, 370), (3, 371), (3, 372), (3, 373), (3, 374), (3, 375), (3, 376), (3, 377), (3, 378), (0, 0), (0, 0), (0, 0), (0, 0), (0, 0), (0, 0), (0, 0), (0, 0)]) rfl hP rfl 24 (by decide) (hts _ (wg_t kw_1456)) (fun _ h9 => h9) (cd := (0, 0)) rfl dMH_written_133 (fun v32 hv32 => ?_)
              obtain rfl := (show v32 = .int (s23.1 225 24) from hv32)
              obtain ⟨z31, ez31, hz41, hz42⟩ := cl_of (b := 2147483648) hf94 (by omega) (by decide)
              replace hR := bnd_step hR ez31
              refine mi_as hz41 ?_
              subst hz42
              refine mi_iadd hx hb dMH_written_136 ?_
              refine mi_as (show nI (55 + 6) = nI 61 from rfl) ?_
              refine mi_ge (tgt := 154) hx hb dMH_written_137 (by decide) (by omega) (by omega) (fun h30 => absurd h30 (by omega)) (fun h30 => ?_)
              refine lv_aload_n hx hb dMH_written_140 rfl (lv_at hl 4 rfl) ?_
              refine lv_iload hx hb dMH_written_141 (lv_at hl 2 rfl) ?_
              refine lv_iload hx hb dMH_written_143 (lv_at hl 0 rfl) ?_
              refine mi_iadd hx hb dMH_written_145 ?_
              refine lv_iconst (v := nI 0) hx hb dMH_written_146 (by decide) ?_
              refine nw_bast hx hb hK hO hU k_to (k := pt) n_to hP hD hS (by omega) (by omega) dMH_written_147 (fun s28 pl H locs es23 hO hP hD hS => ?_)
              replace hR := bnd_step hR es23
              have hF := frm_sB hF es23 (by unfold M_MH_written_1; omega)
              have hf101 : s28.1 225 23 = nI 1 := fc_B hf93 es23 (by omega)
              have hf102 : s28.1 225 24 = nI 6 := fc_B hf94 es23 (by omega)
              have hf103 : s28.1 225 25 = nI 5 := fc_B hf95 es23 (by omega)
              have hf104 : s28.1 225 26 = nI 4 := fc_B hf96 es23 (by omega)
              have hf105 : s28.1 225 27 = nI 524288 := fc_B hf97 es23 (by omega)
              have hf106 : s28.1 225 28 = nI 261888 := fc_B hf98 es23 (by omega)
              have hf107 : s28.1 225 29 = nI 196 := fc_B hf99 es23 (by omega)
              have hf108 : s28.1 225 30 = nI 48 := fc_B hf100 es23 (by omega)
              refine mi_iinc (k := 0) (x := i23) (d := 1) (y := i23 + 1) (lv' := [(6, .int (nI (i23 + 1))), (5, .int (nI 0)), (4, .int (nI (az21 / 8))), (0, .ref h0), (1, .ref to)]) hx hb dMH_written_148 hl rfl (by decide) rfl (by decide) rfl (fun ls hl => ?_)
              refine lv_goto (tgt := 122) hx hb dMH_written_151 (by decide) ?_
              exact ih23 (i23 + 1) s28 pl ls H locs (by omega) hF hf101 hf102 hf103 hf104 hf105 hf106 hf107 hf108 hR (lv_sub hl [0, 1, 2, 3, 4] rfl) hO hP hD hS
          exact lp23 61 0 s22 pl ls _ _ (by omega) hF hf29 hf30 hf31 hf32 hf33 hf34 hf35 hf36 hR (lv_sub hl [0, 1, 2, 5, 6] rfl) hO hP hD hS
        | succ n22 ih22 =>
          intro i22 az21 s22 pl ls H locs hm22 hi21 hF hf109 hf110 hf111 hf112 hf113 hf114 hf115 hf116 hR hl hO hP hD hS
          refine lv_iload hx hb dMH_written_51 (lv_at hl 0 rfl) ?_
          refine lv_aload_n hx hb dMH_written_53 rfl (lv_at hl 3 rfl) ?_
          refine nw_get (C := "LatticeKeysModel$Hands") (TT := T_MH) (N := 31) hx hb hts (wg_ft i_MH) hown hK hO k_h0 (kn := 225) (ci := 12) (fl := [(3, 172), (3, 181), (3, 226), (3, 291), (3, 299), (3, 308), (3, 317), (3, 326), (3, 334), (3, 342), (3, 350), (3, 359), (3, 368), (3, 369), (3, 370), (3, 371), (3, 372), (3, 373), (3, 374), (3, 375), (3, 376), (3, 377), (3, 378), (0, 0), (0, 0), (0, 0), (0, 0), (0, 0), (0, 0), (0, 0), (0, 0)]) rfl hP rfl 25 (by decide) (hts _ (wg_t kw_1457)) (fun _ h9 => h9) (cd := (0, 0)) rfl dMH_written_54 (fun v33 hv33 => ?_)
          obtain rfl := (show v33 = .int (s22.1 225 25) from hv33)
          obtain ⟨z32, ez32, hz43, hz44⟩ := cl_of (b := 2147483648) hf111 (by omega) (by decide)
          replace hR := bnd_step hR ez32
          refine mi_as hz43 ?_
          subst hz44
          refine mi_ge (tgt := 110) hx hb dMH_written_57 (by decide) (by omega) (by omega) (fun h31 => absurd h31 (by omega)) (fun h31 => ?_)
          refine lv_iconst (v := nI 0) hx hb dMH_written_60 (by decide) ?_
          refine lv_istore (lv' := [(5, .int (nI 0)), (4, .int (nI i22)), (3, .int (nI az21)), (2, .int (nI 20)), (0, .ref h0), (1, .ref to)]) hx hb dMH_written_61 hl (by decide) rfl (fun ls hl => ?_)
          have lp26 : ∀ (n26 : Nat) (i26 : Nat) (az22 : Nat) (s29 : Sto) (pl : va_W) (ls : Array Slot) (H : Heap) (locs : List Loc), n26 + i26 = 256 → (az22 = 384 + 5120 * i22 + 20 * i26) → frm (M_MH_written_1 pt) s s29 → s29.1 225 23 = nI 1 → s29.1 225 24 = nI 6 → s29.1 225 25 = nI 5 → s29.1 225 26 = nI 4 → s29.1 225 27 = nI 524288 → s29.1 225 28 = nI 261888 → s29.1 225 29 = nI 196 → s29.1 225 30 = nI 48 → F_MH_written_1 pt s = F_MH_written_1_L5 pt i22 (F_MH_written_1_L1 pt n22) n26 i26 az22 s29 → lv_has ls 8 [(5, .int (nI i26)), (4, .int (nI i22)), (3, .int (nI az22)), (2, .int (nI 20)), (0, .ref h0), (1, .ref to)] → okn g T s29 pl → va_P g.1 vcl ([] ++ pl) H → va_D A ([] ++ pl) → va_S A s0.heap H locs → W p l e ({ frames := 1, cells := 0, slots := 0, locals := 26 } : Room) s0 m args below meth c H locs 0 0 (MQ below (va_Qv (fun (u : (Sto) × va_W) => (u.1 = F_MH_written_1 pt s ∧ frm (M_MH_written_1 pt) s u.1 ∧ True) ∧ okn g T u.1 u.2) (po g.1 vcl A (fun (u : (Sto) × va_W) => [] ++ u.2)) A) args s0 0 0 A) (F0 m 63 ls []) := by
            intro n26
            induction n26 with
            | zero =>
              intro i26 az22 s29 pl ls H locs hm26 hi24 hF hf117 hf118 hf119 hf120 hf121 hf122 hf123 hf124 hR hl hO hP hD hS
              refine lv_iload hx hb dMH_written_63 (lv_at hl 0 rfl) ?_
              refine lv_sipush (v := nI 256) hx hb dMH_written_65 (by decide) ?_
              refine mi_ge (tgt := 104) hx hb dMH_written_68 (by decide) (by omega) (by omega) (fun h32 => ?_) (fun h32 => absurd h32 (by omega))
              refine mi_iinc (k := 1) (x := i22) (d := 1) (y := i22 + 1) (lv' := [(4, .int (nI (i22 + 1))), (5, .int (nI i26)), (3, .int (nI az22)), (2, .int (nI 20)), (0, .ref h0), (1, .ref to)]) hx hb dMH_written_104 hl rfl (by decide) rfl (by decide) rfl (fun ls hl => ?_)
              refine lv_goto (tgt := 51) hx hb dMH_written_107 (by decide) ?_
              exact ih22 (i22 + 1) az22 s29 pl ls H locs (by omega) (by omega) hF hf117 hf118 hf119 hf120 hf121 hf122 hf123 hf124 hR (lv_sub hl [0, 2, 3, 4, 5] rfl) hO hP hD hS
            | succ n26 ih26 =>
              intro i26 az22 s29 pl ls H locs hm26 hi24 hF hf125 hf126 hf127 hf128 hf129 hf130 hf131 hf132 hR hl hO hP hD hS
              refine lv_iload hx hb dMH_written_63 (lv_at hl 0 rfl) ?_
              refine lv_sipush (v := nI 256) hx hb dMH_written_65 (by decide) ?_
              refine mi_ge (tgt := 104) hx hb dMH_written_68 (by decide) (by omega) (by omega) (fun h33 => absurd h33 (by omega)) (fun h33 => ?_)
              refine lv_aload_n hx hb dMH_written_71 rfl (lv_at hl 5 rfl) ?_
              refine lv_iload_n hx hb dMH_written_72 rfl (lv_at hl 2 rfl) ?_
              refine lv_iload_n hx hb dMH_written_73 rfl (lv_at hl 3 rfl) ?_
              refine lv_aload_n hx hb dMH_written_74 rfl (lv_at hl 4 rfl) ?_
              refine nw_get (C := "LatticeKeysModel$Hands") (TT := T_MH) (N := 31) hx hb hts (wg_ft i_MH) hown hK hO k_h0 (kn := 225) (ci := 12) (fl := [(3, 172), (3, 181), (3, 226), (3, 291), (3, 299), (3, 308), (3, 317), (3, 326), (3, 334), (3, 342), (3, 350), (3, 359), (3, 368), (3, 369), (3, 370), (3, 371), (3, 372), (3, 373), (3, 374), (3, 375), (3, 376), (3, 377), (3, 378), (0, 0), (0, 0), (0, 0), (0, 0), (0, 0), (0, 0), (0, 0), (0, 0)]) rfl hP rfl 27 (by decide) (hts _ (wg_t kw_1459)) (fun _ h9 => h9) (cd := (0, 0)) rfl dMH_written_75 (fun v34 hv34 => ?_)
              obtain rfl := (show v34 = .int (s29.1 225 27) from hv34)
              obtain ⟨z33, ez33, hz45, hz46⟩ := cl_of (b := 2147483648) hf129 (by omega) (by decide)
              replace hR := bnd_step hR ez33
              refine mi_as hz45 ?_
              subst hz46
              refine lv_aload_n hx hb dMH_written_78 rfl (lv_at hl 4 rfl) ?_
              refine nw_get (C := "LatticeKeysModel$Hands") (TT := T_MH) (N := 31) hx hb hts (wg_ft i_MH) hown hK hO k_h0 (kn := 225) (ci := 12) (fl := [(3, 172), (3, 181), (3, 226), (3, 291), (3, 299), (3, 308), (3, 317), (3, 326), (3, 334), (3, 342), (3, 350), (3, 359), (3, 368), (3, 369), (3, 370), (3, 371), (3, 372), (3, 373), (3, 374), (3, 375), (3, 376), (3, 377), (3, 378), (0, 0), (0, 0), (0, 0), (0, 0), (0, 0), (0, 0), (0, 0), (0, 0)]) rfl hP rfl 8 (by decide) (hts _ (wg_t kw_1440)) (fun _ h9 => h9) (cd := (3, 334)) rfl dMH_written_79 (fun v35 hv35 => ?_)
              obtain ⟨r23, rfl, kr23⟩ := (show ∃ r : Nat, v35 = .ref r ∧ T r = some 334 from hv35)
              refine lv_iload hx hb dMH_written_82 (lv_at hl 1 rfl) ?_
              refine nw_aald3 hx hb hK hO kr23 (k := 334) (b := 335) rfl hP (by omega) (by omega) dMH_written_84 (fun r24 kr24 => ?_)
              have hn22 : nsp (335 + i22) = (0, 256, []) := rows_ok 335 7 (by decide) _ (by omega)
              refine lv_iload hx hb dMH_written_85 (lv_at hl 0 rfl) ?_
              refine nw_iald hx hb hK hO kr24 (k := (335 + i22)) hn22 hP (by omega) (by omega) dMH_written_87 ?_
              refine mp_i (cx := []) (wr := []) hP hD hS hA [] [] rfl rfl rfl (by decide) (va_runS (As := [.int (nI 524288), .int ((s29.1 ((335 + i22)) i26))]) (rest := [.int (nI 20), .int (nI az22), .ref to]) F (N_MH_minus l g _ T s29 pl hO hU (nI 524288) (s29.1 ((335 + i22)) i26)) (va_cwS 2 hts (wg_app (wg_c kw_1861 (wg_c kw_1862 (wg_c kw_13 wg_n))) kw_1863) rfl rfl rfl (by decide +kernel) ⟨by decide, by decide⟩) (pp_S (en_ok g) hP hD hS hA hE [] rfl rfl) rfl rfl hl.1 rfl (lv_room (Nat.le_of_ble_eq_true rfl)) dMH_written_88 ⟨by omega, by omega⟩) (fun r25 u21 H locs hu21 hP hD hS => ?_)
              obtain ⟨q21, pl⟩ := u21
              obtain ⟨⟨eq21, rfl, hFc21, -⟩, hO⟩ := hu21
              have hO : okn g T q21.2 pl := hO
              have hP : va_P g.1 vcl ([] ++ pl) _ := hP
              have hD : va_D _ ([] ++ pl) := hD
              have hFc21 : frm (M_MH_minus) s29 q21.2 := hFc21
              replace hR := bnd_step hR eq21
              have hF := frm_tr hF hFc21 (fun k hk => by unfold M_MH_minus at hk; unfold M_MH_written_1; omega)
              have hf133 : q21.2.1 225 23 = nI 1 := fc_F hf125 hFc21 (by unfold M_MH_minus; omega)
              have hf134 : q21.2.1 225 24 = nI 6 := fc_F hf126 hFc21 (by unfold M_MH_minus; omega)
              have hf135 : q21.2.1 225 25 = nI 5 := fc_F hf127 hFc21 (by unfold M_MH_minus; omega)
              have hf136 : q21.2.1 225 26 = nI 4 := fc_F hf128 hFc21 (by unfold M_MH_minus; omega)
              have hf137 : q21.2.1 225 27 = nI 524288 := fc_F hf129 hFc21 (by unfold M_MH_minus; omega)
              have hf138 : q21.2.1 225 28 = nI 261888 := fc_F hf130 hFc21 (by unfold M_MH_minus; omega)
              have hf139 : q21.2.1 225 29 = nI 196 := fc_F hf131 hFc21 (by unfold M_MH_minus; omega)
              have hf140 : q21.2.1 225 30 = nI 48 := fc_F hf132 hFc21 (by unfold M_MH_minus; omega)
              refine W.widen (k := 0) (n := 0) (by omega) (by omega) ?_
              refine mp_v (cx := []) (wr := []) hP hD hS hA [] [] rfl rfl rfl (by decide) (va_runSN (As := [.ref to, .int (nI az22), .int (nI 20), .int q21.1]) (rest := []) F (N_M_pack l g _ T q21.2 pl hO hU to pt 8192 az22 20 (q21.1) k_to n_to (by omega) (by omega)) ⟨va_cnB 4 hts (wg_in kw_1686) rfl rfl rfl (hE.2.2.2.2.2.2.2.2.2.1) (hts _ (wg_t kw_9)) (by decide +kernel) ⟨by decide, by decide⟩, hts _ (wg_t kw_1685), trivial⟩ (pp_S (en_ok g) hP hD hS hA hE [] rfl rfl) rfl rfl hl.1 rfl (lv_room (Nat.le_of_ble_eq_true rfl)) dMH_written_91 ⟨by omega, by omega⟩) (fun  u22 H locs hu22 hP hD hS => ?_)
              obtain ⟨s30, pl⟩ := u22
              obtain ⟨⟨eq22, hFc22, -⟩, hO⟩ := hu22
              have hO : okn g T s30 pl := hO
              have hP : va_P g.1 vcl ([] ++ pl) _ := hP
              have hD : va_D _ ([] ++ pl) := hD
              have hFc22 : frm (M_M_pack pt) q21.2 s30 := hFc22
              replace hR := bnd_step hR eq22
              have hF := frm_tr hF hFc22 (fun k hk => by unfold M_M_pack at hk; unfold M_MH_written_1; omega)
              have hf141 : s30.1 225 23 = nI 1 := fc_F hf133 hFc22 (by unfold M_M_pack; omega)
              have hf142 : s30.1 225 24 = nI 6 := fc_F hf134 hFc22 (by unfold M_M_pack; omega)
              have hf143 : s30.1 225 25 = nI 5 := fc_F hf135 hFc22 (by unfold M_M_pack; omega)
              have hf144 : s30.1 225 26 = nI 4 := fc_F hf136 hFc22 (by unfold M_M_pack; omega)
              have hf145 : s30.1 225 27 = nI 524288 := fc_F hf137 hFc22 (by unfold M_M_pack; omega)
              have hf146 : s30.1 225 28 = nI 261888 := fc_F hf138 hFc22 (by unfold M_M_pack; omega)
              have hf147 : s30.1 225 29 = nI 196 := fc_F hf139 hFc22 (by unfold M_M_pack; omega)
              have hf148 : s30.1 225 30 = nI 48 := fc_F hf140 hFc22 (by unfold M_M_pack; omega)
              refine W.widen (k := 0) (n := 0) (by omega) (by omega) ?_
              refine lv_iload_n hx hb dMH_written_94 rfl (lv_at hl 2 rfl) ?_
              refine lv_iload_n hx hb dMH_written_95 rfl (lv_at hl 3 rfl) ?_
              refine mi_iadd hx hb dMH_written_96 ?_
              refine lv_istore_n (lv' := [(3, .int (nI (az22 + 20))), (5, .int (nI i26)), (4, .int (nI i22)), (2, .int (nI 20)), (0, .ref h0), (1, .ref to)]) hx hb dMH_written_97 rfl hl (by decide) rfl (fun ls hl => ?_)
              refine mi_iinc (k := 1) (x := i26) (d := 1) (y := i26 + 1) (lv' := [(5, .int (nI (i26 + 1))), (3, .int (nI (az22 + 20))), (4, .int (nI i22)), (2, .int (nI 20)), (0, .ref h0), (1, .ref to)]) hx hb dMH_written_98 hl rfl (by decide) rfl (by decide) rfl (fun ls hl => ?_)
              refine lv_goto (tgt := 63) hx hb dMH_written_101 (by decide) ?_
              exact ih26 (i26 + 1) (az22 + 20) s30 pl ls H locs (by omega) (by omega) hF hf141 hf142 hf143 hf144 hf145 hf146 hf147 hf148 hR (lv_sub hl [0, 2, 1, 3, 4, 5] rfl) hO hP hD hS
          exact lp26 256 0 az21 s22 pl ls _ _ (by omega) (by omega) hF hf109 hf110 hf111 hf112 hf113 hf114 hf115 hf116 hR (lv_sub hl [0, 1, 2, 3, 4, 5] rfl) hO hP hD hS
      exact lp22 5 0 384 s21 pl ls _ _ (by omega) (by omega) hF hf21 hf22 hf23 hf24 hf25 hf26 hf27 hf28 hR (lv_sub hl [0, 1, 2, 3, 4] rfl) hO hP hD hS
    | succ n21 ih21 =>
      intro i21 s21 pl ls H locs hm21 hF hf149 hf150 hf151 hf152 hf153 hf154 hf155 hf156 hR hl hO hP hD hS
      refine lv_iload_n hx hb dMH_written_2 rfl (lv_at hl 0 rfl) ?_
      refine lv_aload_n hx hb dMH_written_3 rfl (lv_at hl 1 rfl) ?_
      refine nw_get (C := "LatticeKeysModel$Hands") (TT := T_MH) (N := 31) hx hb hts (wg_ft i_MH) hown hK hO k_h0 (kn := 225) (ci := 12) (fl := [(3, 172), (3, 181), (3, 226), (3, 291), (3, 299), (3, 308), (3, 317), (3, 326), (3, 334), (3, 342), (3, 350), (3, 359), (3, 368), (3, 369), (3, 370), (3, 371), (3, 372), (3, 373), (3, 374), (3, 375), (3, 376), (3, 377), (3, 378), (0, 0), (0, 0), (0, 0), (0, 0), (0, 0), (0, 0), (0, 0), (0, 0)]) rfl hP rfl 30 (by decide) (hts _ (wg_t kw_1462)) (fun _ h9 => h9) (cd := (0, 0)) rfl dMH_written_4 (fun v36 hv36 => ?_)
      obtain rfl := (show v36 = .int (s21.1 225 30) from hv36)
      obtain ⟨z34, ez34, hz47, hz48⟩ := cl_of (b := 2147483648) hf156 (by omega) (by decide)
      replace hR := bnd_step hR ez34
      refine mi_as hz47 ?_
      subst hz48
      refine mi_ge (tgt := 25) hx hb dMH_written_7 (by decide) (by omega) (by omega) (fun h34 => absurd h34 (by omega)) (fun h34 => ?_)
      refine lv_aload_n hx hb dMH_written_10 rfl (lv_at hl 2 rfl) ?_
      refine lv_iload_n hx hb dMH_written_11 rfl (lv_at hl 0 rfl) ?_
      refine lv_aload_n hx hb dMH_written_12 rfl (lv_at hl 1 rfl) ?_
      refine nw_get (C := "LatticeKeysModel$Hands") (TT := T_MH) (N := 31) hx hb hts (wg_ft i_MH) hown hK hO k_h0 (kn := 225) (ci := 12) (fl := [(3, 172), (3, 181), (3, 226), (3, 291), (3, 299), (3, 308), (3, 317), (3, 326), (3, 334), (3, 342), (3, 350), (3, 359), (3, 368), (3, 369), (3, 370), (3, 371), (3, 372), (3, 373), (3, 374), (3, 375), (3, 376), (3, 377), (3, 378), (0, 0), (0, 0), (0, 0), (0, 0), (0, 0), (0, 0), (0, 0), (0, 0)]) rfl hP rfl 20 (by decide) (hts _ (wg_t kw_1452)) (fun _ h9 => h9) (cd := (3, 376)) rfl dMH_written_13 (fun v37 hv37 => ?_)
      obtain ⟨r26, rfl, kr25⟩ := (show ∃ r : Nat, v37 = .ref r ∧ T r = some 376 from hv37)
      refine lv_iload_n hx hb dMH_written_16 rfl (lv_at hl 0 rfl) ?_
      refine nw_bald hx hb hK hO kr25 (k := 376) rfl hP (by omega) (by omega) dMH_written_17 ?_
      refine nw_bast hx hb hK hO hU k_to (k := pt) n_to hP hD hS (by omega) (by omega) dMH_written_18 (fun s31 pl H locs es24 hO hP hD hS => ?_)
      replace hR := bnd_step hR es24
      have hF := frm_sB hF es24 (by unfold M_MH_written_1; omega)
      have hf157 : s31.1 225 23 = nI 1 := fc_B hf149 es24 (by omega)
      have hf158 : s31.1 225 24 = nI 6 := fc_B hf150 es24 (by omega)
      have hf159 : s31.1 225 25 = nI 5 := fc_B hf151 es24 (by omega)
      have hf160 : s31.1 225 26 = nI 4 := fc_B hf152 es24 (by omega)
      have hf161 : s31.1 225 27 = nI 524288 := fc_B hf153 es24 (by omega)
      have hf162 : s31.1 225 28 = nI 261888 := fc_B hf154 es24 (by omega)
      have hf163 : s31.1 225 29 = nI 196 := fc_B hf155 es24 (by omega)
      have hf164 : s31.1 225 30 = nI 48 := fc_B hf156 es24 (by omega)
      refine mi_iinc (k := 0) (x := i21) (d := 1) (y := i21 + 1) (lv' := [(2, .int (nI (i21 + 1))), (0, .ref h0), (1, .ref to)]) hx hb dMH_written_19 hl rfl (by decide) rfl (by decide) rfl (fun ls hl => ?_)
      refine lv_goto (tgt := 2) hx hb dMH_written_22 (by decide) ?_
      exact ih21 (i21 + 1) s31 pl ls H locs (by omega) hF hf157 hf158 hf159 hf160 hf161 hf162 hf163 hf164 hR (lv_sub hl [0, 1, 2] rfl) hO hP hD hS
  exact lp21 48 0 s pl ls _ _ (by omega) hF e_c0 e_c1 e_c2 e_c3 e_c4 e_c5 e_c6 e_c7 hR (lv_sub hl [0, 1, 2] rfl) hO hP hD hS
def M_MH_written_2 (pt : Nat) (k : Nat) : Prop := k = pt ∨ (0 : Nat) = 1
noncomputable def F_MH_written_2_L5 (pt : Nat) (i22 : Nat) (kk : Nat → Nat → Sto → Sto) : Nat → Nat → Nat → Sto → Sto
  | 0, i26, az22, s29 => kk (i22 + 1) az22 s29
  | n26 + 1, i26, az22, s29 => bnd ((s29.1 225 27).toNatClampNeg) fun z33 => bnd (F_MH_minus (nI 524288) (s29.1 ((335 + i22)) i26) s29) fun q21 => bnd (F_M_pack pt 8192 az22 20 (q21.1) q21.2) fun s30 => F_MH_written_2_L5 pt i22 kk n26 (i26 + 1) (az22 + 20) s30
noncomputable def F_MH_written_2_L4 (pt : Nat) (az21 : Nat) (i24 : Nat) (kk : Nat → Nat → Sto → Sto) : Nat → Nat → Nat → Sto → Sto
  | 0, i25, my22, s25 => bnd ((s25.1 225 23).toNatClampNeg) fun z29 => bnd (sB s25 pt (((az21 / 8) + 75) + i24) ((nI my22).toInt8.toInt32)) fun s26 => kk (i24 + 1) my22 s26
  | n25 + 1, i25, my22, s25 => if (s25.1 ((360 + i24)) i25) = 0 then F_MH_written_2_L4 pt az21 i24 kk n25 (i25 + 1) my22 s25 else bnd (sB s25 pt ((az21 / 8) + my22) ((nI i25).toInt8.toInt32)) fun s27 => F_MH_written_2_L4 pt az21 i24 kk n25 (i25 + 1) (my22 + 1) s27
noncomputable def F_MH_written_2_L3 (pt : Nat) (az21 : Nat) : Nat → Nat → Nat → Sto → Sto
  | 0, i24, my21, s24 => bnd ((s24.1 225 24).toNatClampNeg) fun z27 => s24
  | n24 + 1, i24, my21, s24 => bnd ((s24.1 225 24).toNatClampNeg) fun z28 => F_MH_written_2_L4 pt az21 i24 (F_MH_written_2_L3 pt az21 n24) 256 0 my21 s24
noncomputable def F_MH_written_2_L2 (pt : Nat) (az21 : Nat) : Nat → Nat → Sto → Sto
  | 0, i23, s23 => bnd ((s23.1 225 23).toNatClampNeg) fun z25 => bnd ((s23.1 225 24).toNatClampNeg) fun z26 => F_MH_written_2_L3 pt az21 8 0 0 s23
  | n23 + 1, i23, s23 => bnd ((s23.1 225 23).toNatClampNeg) fun z30 => bnd ((s23.1 225 24).toNatClampNeg) fun z31 => bnd (sB s23 pt ((az21 / 8) + i23) (nI 0)) fun s28 => F_MH_written_2_L2 pt az21 n23 (i23 + 1) s28
noncomputable def F_MH_written_2_L1 (pt : Nat) : Nat → Nat → Nat → Sto → Sto
  | 0, i22, az21, s22 => bnd ((s22.1 225 25).toNatClampNeg) fun z24 => F_MH_written_2_L2 pt az21 83 0 s22
  | n22 + 1, i22, az21, s22 => bnd ((s22.1 225 25).toNatClampNeg) fun z32 => F_MH_written_2_L5 pt i22 (F_MH_written_2_L1 pt n22) 256 0 az21 s22
noncomputable def F_MH_written_2_L0 (pt : Nat) : Nat → Nat → Sto → Sto
  | 0, i21, s21 => bnd ((s21.1 225 30).toNatClampNeg) fun z21 => bnd ((s21.1 225 23).toNatClampNeg) fun z22 => bnd ((s21.1 225 30).toNatClampNeg) fun z23 => F_MH_written_2_L1 pt 7 0 512 s21
  | n21 + 1, i21, s21 => bnd ((s21.1 225 30).toNatClampNeg) fun z34 => bnd (sB s21 pt i21 (s21.1 376 i21)) fun s31 => F_MH_written_2_L0 pt n21 (i21 + 1) s31
noncomputable def F_MH_written_2 (pt : Nat) (s : Sto) : Sto := F_MH_written_2_L0 pt 64 0 s
set_option maxHeartbeats 8000000 in
set_option maxRecDepth 100000 in
theorem N_MH_written_2 (l : Launch) (g : Gd) (sz : Nat) (T : TyN) (s : Sto) (pl : va_W) (hO : okn g T s pl) (hU : inj T) (h0 to : Nat) (pt : Nat) (k_h0 : T h0 = some 225) (k_to : T to = some pt) (n_to : nsp pt = (1, 8192, [])) (e_c0 : s.1 225 23 = nI 2) (e_c1 : s.1 225 24 = nI 8) (e_c2 : s.1 225 25 = nI 7) (e_c3 : s.1 225 26 = nI 2) (e_c4 : s.1 225 27 = nI 524288) (e_c5 : s.1 225 28 = nI 261888) (e_c6 : s.1 225 29 = nI 120) (e_c7 : s.1 225 30 = nI 64)  : Met l y_MH_written w_MH_written ({ frames := 1, cells := 0, slots := 0, locals := 26 } : Room) (va_Pc [.ref h0, .ref to] (pr (en g) g.1 vcl sz ([] ++ pl))) (va_Qv (fun (u : (Sto) × va_W) => (u.1 = F_MH_written_2 pt s ∧ frm (M_MH_written_2 pt) s u.1 ∧ True) ∧ okn g T u.1 u.2) (po g.1 vcl (va_A ([] ++ pl) sz) (fun (u : (Sto) × va_W) => [] ++ u.2)) (va_A ([] ++ pl) sz)) 0 0 (va_A ([] ++ pl) sz) := by
  refine mc_entry (cc := c_MH_written) (maxL := 8) (ret := none) (by decide) rfl (Nat.le_of_ble_eq_true rfl) ?_
  intro p e s0 m args below meth c ls F hr hlk hnm hsz hP hD hE hA hl
  obtain ⟨hx, hb, hml, hown, hts⟩ := id F
  have hK := hE.1
  generalize va_A ([] ++ pl) sz = A at hD hE hA ⊢
  have hS : va_S A s0.heap s0.heap [] := va_S.rf
  have hl : lv_has ls 8 [(0, .ref h0), (1, .ref to)] := hl
  have hR : F_MH_written_2 pt s = F_MH_written_2 pt s := rfl
  have hF : frm (M_MH_written_2 pt) s s := frm_rf
  have ne_172_pt : 172 ≠ pt := nsp_ne (p := 172) rfl n_to (show (5 : Nat) ≠ 1 by decide)
  have ne_225_pt : 225 ≠ pt := nsp_ne (p := 225) rfl n_to (show (5 : Nat) ≠ 1 by decide)
  refine lv_iconst (v := nI 0) hx hb dMH_written_0 (by decide) ?_
  refine lv_istore_n (lv' := [(2, .int (nI 0)), (0, .ref h0), (1, .ref to)]) hx hb dMH_written_1 rfl hl (by decide) rfl (fun ls hl => ?_)
  have lp21 : ∀ (n21 : Nat) (i21 : Nat) (s21 : Sto) (pl : va_W) (ls : Array Slot) (H : Heap) (locs : List Loc), n21 + i21 = 64 → frm (M_MH_written_2 pt) s s21 → s21.1 225 23 = nI 2 → s21.1 225 24 = nI 8 → s21.1 225 25 = nI 7 → s21.1 225 26 = nI 2 → s21.1 225 27 = nI 524288 → s21.1 225 28 = nI 261888 → s21.1 225 29 = nI 120 → s21.1 225 30 = nI 64 → F_MH_written_2 pt s = F_MH_written_2_L0 pt n21 i21 s21 → lv_has ls 8 [(2, .int (nI i21)), (0, .ref h0), (1, .ref to)] → okn g T s21 pl → va_P g.1 vcl ([] ++ pl) H → va_D A ([] ++ pl) → va_S A s0.heap H locs → W p l e ({ frames := 1, cells := 0, slots := 0, locals := 26 } : Room) s0 m args below meth c H locs 0 0 (MQ below (va_Qv (fun (u : (Sto) × va_W) => (u.1 = F_MH_written_2 pt s ∧ frm (M_MH_written_2 pt) s u.1 ∧ True) ∧ okn g T u.1 u.2) (po g.1 vcl A (fun (u : (Sto) × va_W) => [] ++ u.2)) A) args s0 0 0 A) (F0 m 2 ls []) := by
    intro n21
    induction n21 with
    | zero =>
      intro i21 s21 pl ls H locs hm21 hF hf21 hf22 hf23 hf24 hf25 hf26 hf27 hf28 hR hl hO hP hD hS
      refine lv_iload_n hx hb dMH_written_2 rfl (lv_at hl 0 rfl) ?_
      refine lv_aload_n hx hb dMH_written_3 rfl (lv_at hl 1 rfl) ?_
      refine nw_get (C := "LatticeKeysModel$Hands") (TT := T_MH) (N := 31) hx hb hts (wg_ft i_MH) hown hK hO k_h0 (kn := 225) (ci := 12) (fl := [(3, 172), (3, 181), (3, 226), (3, 291), (3, 299), (3, 308), (3, 317), (3, 326), (3, 334), (3, 342), (3, 350), (3, 359), (3, 368), (3, 369), (3, 370), (3, 371), (3, 372), (3, 373), (3, 374), (3, 375), (3, 376), (3, 377), (3, 378), (0, 0), (0, 0), (0, 0), (0, 0), (0, 0), (0, 0), (0, 0), (0, 0)]) rfl hP rfl 30 (by decide) (hts _ (wg_t kw_1462)) (fun _ h9 => h9) (cd := (0, 0)) rfl dMH_written_4 (fun v21 hv21 => ?_)
      obtain rfl := (show v21 = .int (s21.1 225 30) from hv21)
      obtain ⟨z21, ez21, hz21, hz22⟩ := cl_of (b := 2147483648) hf28 (by omega) (by decide)
      replace hR := bnd_step hR ez21
      refine mi_as hz21 ?_
      subst hz22
      refine mi_ge (tgt := 25) hx hb dMH_written_7 (by decide) (by omega) (by omega) (fun h21 => ?_) (fun h21 => absurd h21 (by omega))
      refine lv_aload_n hx hb dMH_written_25 rfl (lv_at hl 1 rfl) ?_
      refine nw_get (C := "LatticeKeysModel$Hands") (TT := T_MH) (N := 31) hx hb hts (wg_ft i_MH) hown hK hO k_h0 (kn := 225) (ci := 12) (fl := [(3, 172), (3, 181), (3, 226), (3, 291), (3, 299), (3, 308), (3, 317), (3, 326), (3, 334), (3, 342), (3, 350), (3, 359), (3, 368), (3, 369), (3, 370), (3, 371), (3, 372), (3, 373), (3, 374), (3, 375), (3, 376), (3, 377), (3, 378), (0, 0), (0, 0), (0, 0), (0, 0), (0, 0), (0, 0), (0, 0), (0, 0)]) rfl hP rfl 23 (by decide) (hts _ (wg_t kw_1455)) (fun _ h9 => h9) (cd := (0, 0)) rfl dMH_written_26 (fun v22 hv22 => ?_)
      obtain rfl := (show v22 = .int (s21.1 225 23) from hv22)
      obtain ⟨z22, ez22, hz23, hz24⟩ := cl_of (b := 2147483648) hf21 (by omega) (by decide)
      replace hR := bnd_step hR ez22
      refine mi_as hz23 ?_
      subst hz24
      refine lv_if_ne (tgt := 37) hx hb dMH_written_29 (by decide) (fun h22 => ?_) (fun h22 => absurd h22 (by decide))
      refine lv_bipush (v := nI 20) hx hb dMH_written_37 (by decide) ?_
      refine lv_istore_n (lv' := [(2, .int (nI 20)), (0, .ref h0), (1, .ref to)]) hx hb dMH_written_39 rfl hl (by decide) rfl (fun ls hl => ?_)
      refine lv_bipush (v := nI 8) hx hb dMH_written_40 (by decide) ?_
      refine lv_aload_n hx hb dMH_written_42 rfl (lv_at hl 1 rfl) ?_
      refine nw_get (C := "LatticeKeysModel$Hands") (TT := T_MH) (N := 31) hx hb hts (wg_ft i_MH) hown hK hO k_h0 (kn := 225) (ci := 12) (fl := [(3, 172), (3, 181), (3, 226), (3, 291), (3, 299), (3, 308), (3, 317), (3, 326), (3, 334), (3, 342), (3, 350), (3, 359), (3, 368), (3, 369), (3, 370), (3, 371), (3, 372), (3, 373), (3, 374), (3, 375), (3, 376), (3, 377), (3, 378), (0, 0), (0, 0), (0, 0), (0, 0), (0, 0), (0, 0), (0, 0), (0, 0)]) rfl hP rfl 30 (by decide) (hts _ (wg_t kw_1462)) (fun _ h9 => h9) (cd := (0, 0)) rfl dMH_written_43 (fun v23 hv23 => ?_)
      obtain rfl := (show v23 = .int (s21.1 225 30) from hv23)
      obtain ⟨z23, ez23, hz25, hz26⟩ := cl_of (b := 2147483648) hf28 (by omega) (by decide)
      replace hR := bnd_step hR ez23
      refine mi_as hz25 ?_
      subst hz26
      refine mi_imul hx hb dMH_written_46 ?_
      refine mi_as (show nI (8 * 64) = nI 512 from rfl) ?_
      refine lv_istore_n (lv' := [(3, .int (nI 512)), (2, .int (nI 20)), (0, .ref h0), (1, .ref to)]) hx hb dMH_written_47 rfl hl (by decide) rfl (fun ls hl => ?_)
      refine lv_iconst (v := nI 0) hx hb dMH_written_48 (by decide) ?_
      refine lv_istore (lv' := [(4, .int (nI 0)), (3, .int (nI 512)), (2, .int (nI 20)), (0, .ref h0), (1, .ref to)]) hx hb dMH_written_49 hl (by decide) rfl (fun ls hl => ?_)
      have lp22 : ∀ (n22 : Nat) (i22 : Nat) (az21 : Nat) (s22 : Sto) (pl : va_W) (ls : Array Slot) (H : Heap) (locs : List Loc), n22 + i22 = 7 → (az21 = 512 + 5120 * i22) → frm (M_MH_written_2 pt) s s22 → s22.1 225 23 = nI 2 → s22.1 225 24 = nI 8 → s22.1 225 25 = nI 7 → s22.1 225 26 = nI 2 → s22.1 225 27 = nI 524288 → s22.1 225 28 = nI 261888 → s22.1 225 29 = nI 120 → s22.1 225 30 = nI 64 → F_MH_written_2 pt s = F_MH_written_2_L1 pt n22 i22 az21 s22 → lv_has ls 8 [(4, .int (nI i22)), (3, .int (nI az21)), (2, .int (nI 20)), (0, .ref h0), (1, .ref to)] → okn g T s22 pl → va_P g.1 vcl ([] ++ pl) H → va_D A ([] ++ pl) → va_S A s0.heap H locs → W p l e ({ frames := 1, cells := 0, slots := 0, locals := 26 } : Room) s0 m args below meth c H locs 0 0 (MQ below (va_Qv (fun (u : (Sto) × va_W) => (u.1 = F_MH_written_2 pt s ∧ frm (M_MH_written_2 pt) s u.1 ∧ True) ∧ okn g T u.1 u.2) (po g.1 vcl A (fun (u : (Sto) × va_W) => [] ++ u.2)) A) args s0 0 0 A) (F0 m 51 ls []) := by
        intro n22
        induction n22 with
        | zero =>
          intro i22 az21 s22 pl ls H locs hm22 hi21 hF hf29 hf30 hf31 hf32 hf33 hf34 hf35 hf36 hR hl hO hP hD hS
          refine lv_iload hx hb dMH_written_51 (lv_at hl 0 rfl) ?_
          refine lv_aload_n hx hb dMH_written_53 rfl (lv_at hl 3 rfl) ?_
          refine nw_get (C := "LatticeKeysModel$Hands") (TT := T_MH) (N := 31) hx hb hts (wg_ft i_MH) hown hK hO k_h0 (kn := 225) (ci := 12) (fl := [(3, 172), (3, 181), (3, 226), (3, 291), (3, 299), (3, 308), (3, 317), (3, 326), (3, 334), (3, 342), (3, 350), (3, 359), (3, 368), (3, 369), (3, 370), (3, 371), (3, 372), (3, 373), (3, 374), (3, 375), (3, 376), (3, 377), (3, 378), (0, 0), (0, 0), (0, 0), (0, 0), (0, 0), (0, 0), (0, 0), (0, 0)]) rfl hP rfl 25 (by decide) (hts _ (wg_t kw_1457)) (fun _ h9 => h9) (cd := (0, 0)) rfl dMH_written_54 (fun v24 hv24 => ?_)
          obtain rfl := (show v24 = .int (s22.1 225 25) from hv24)
          obtain ⟨z24, ez24, hz27, hz28⟩ := cl_of (b := 2147483648) hf31 (by omega) (by decide)
          replace hR := bnd_step hR ez24
          refine mi_as hz27 ?_
          subst hz28
          refine mi_ge (tgt := 110) hx hb dMH_written_57 (by decide) (by omega) (by omega) (fun h23 => ?_) (fun h23 => absurd h23 (by omega))
          refine lv_iload_n hx hb dMH_written_110 rfl (lv_at hl 1 rfl) ?_
          refine lv_bipush (v := nI 8) hx hb dMH_written_111 (by decide) ?_
          refine mi_idiv hx hb dMH_written_113 (by omega) (by omega) (by omega) ?_
          refine lv_istore (lv' := [(4, .int (nI (az21 / 8))), (3, .int (nI az21)), (2, .int (nI 20)), (0, .ref h0), (1, .ref to)]) hx hb dMH_written_114 hl (by decide) rfl (fun ls hl => ?_)
          refine lv_iconst (v := nI 0) hx hb dMH_written_116 (by decide) ?_
          refine lv_istore (lv' := [(5, .int (nI 0)), (4, .int (nI (az21 / 8))), (3, .int (nI az21)), (2, .int (nI 20)), (0, .ref h0), (1, .ref to)]) hx hb dMH_written_117 hl (by decide) rfl (fun ls hl => ?_)
          refine lv_iconst (v := nI 0) hx hb dMH_written_119 (by decide) ?_
          refine lv_istore (lv' := [(6, .int (nI 0)), (5, .int (nI 0)), (4, .int (nI (az21 / 8))), (3, .int (nI az21)), (2, .int (nI 20)), (0, .ref h0), (1, .ref to)]) hx hb dMH_written_120 hl (by decide) rfl (fun ls hl => ?_)
          have lp23 : ∀ (n23 : Nat) (i23 : Nat) (s23 : Sto) (pl : va_W) (ls : Array Slot) (H : Heap) (locs : List Loc), n23 + i23 = 83 → frm (M_MH_written_2 pt) s s23 → s23.1 225 23 = nI 2 → s23.1 225 24 = nI 8 → s23.1 225 25 = nI 7 → s23.1 225 26 = nI 2 → s23.1 225 27 = nI 524288 → s23.1 225 28 = nI 261888 → s23.1 225 29 = nI 120 → s23.1 225 30 = nI 64 → F_MH_written_2 pt s = F_MH_written_2_L2 pt az21 n23 i23 s23 → lv_has ls 8 [(6, .int (nI i23)), (5, .int (nI 0)), (4, .int (nI (az21 / 8))), (0, .ref h0), (1, .ref to)] → okn g T s23 pl → va_P g.1 vcl ([] ++ pl) H → va_D A ([] ++ pl) → va_S A s0.heap H locs → W p l e ({ frames := 1, cells := 0, slots := 0, locals := 26 } : Room) s0 m args below meth c H locs 0 0 (MQ below (va_Qv (fun (u : (Sto) × va_W) => (u.1 = F_MH_written_2 pt s ∧ frm (M_MH_written_2 pt) s u.1 ∧ True) ∧ okn g T u.1 u.2) (po g.1 vcl A (fun (u : (Sto) × va_W) => [] ++ u.2)) A) args s0 0 0 A) (F0 m 122 ls []) := by
            intro n23
            induction n23 with
            | zero =>
              intro i23 s23 pl ls H locs hm23 hF hf37 hf38 hf39 hf40 hf41 hf42 hf43 hf44 hR hl hO hP hD hS
              refine lv_iload hx hb dMH_written_122 (lv_at hl 0 rfl) ?_
              refine va_gets hx hb (hE.2.1 27 _ rfl).1 hS hown (hts _ (wg_t kw_1908)) (fun _ h9 => h9) dMH_written_124 ?_
              refine lv_aload_n hx hb dMH_written_127 rfl (lv_at hl 3 rfl) ?_
              refine nw_get (C := "LatticeKeysModel$Hands") (TT := T_MH) (N := 31) hx hb hts (wg_ft i_MH) hown hK hO k_h0 (kn := 225) (ci := 12) (fl := [(3, 172), (3, 181), (3, 226), (3, 291), (3, 299), (3, 308), (3, 317), (3, 326), (3, 334), (3, 342), (3, 350), (3, 359), (3, 368), (3, 369), (3, 370), (3, 371), (3, 372), (3, 373), (3, 374), (3, 375), (3, 376), (3, 377), (3, 378), (0, 0), (0, 0), (0, 0), (0, 0), (0, 0), (0, 0), (0, 0), (0, 0)]) rfl hP rfl 23 (by decide) (hts _ (wg_t kw_1455)) (fun _ h9 => h9) (cd := (0, 0)) rfl dMH_written_128 (fun v25 hv25 => ?_)
              obtain rfl := (show v25 = .int (s23.1 225 23) from hv25)
              obtain ⟨z25, ez25, hz29, hz30⟩ := cl_of (b := 2147483648) hf37 (by omega) (by decide)
              replace hR := bnd_step hR ez25
              refine mi_as hz29 ?_
              subst hz30
              refine va_ti (v := .int (nI 75)) hx hb (hE.2.1 27 _ rfl).2 hS (vp_in_nI (by decide) (by decide)) (by decide +kernel) dMH_written_131 ?_
              refine lv_aload_n hx hb dMH_written_132 rfl (lv_at hl 3 rfl) ?_
              refine nw_get (C := "LatticeKeysModel$Hands") (TT := T_MH) (N := 31) hx hb hts (wg_ft i_MH) hown hK hO k_h0 (kn := 225) (ci := 12) (fl := [(3, 172), (3, 181), (3, 226), (3, 291), (3, 299), (3, 308), (3, 317), (3, 326), (3, 334), (3, 342), (3, 350), (3, 359), (3, 368), (3, 369), (3, 370), (3, 371), (3, 372), (3, 373), (3, 374), (3, 375), (3, 376), (3, 377), (3, 378), (0, 0), (0, 0), (0, 0), (0, 0), (0, 0), (0, 0), (0, 0), (0, 0)]) rfl hP rfl 24 (by decide) (hts _ (wg_t kw_1456)) (fun _ h9 => h9) (cd := (0, 0)) rfl dMH_written_133 (fun v26 hv26 => ?_)
              obtain rfl := (show v26 = .int (s23.1 225 24) from hv26)
              obtain ⟨z26, ez26, hz31, hz32⟩ := cl_of (b := 2147483648) hf38 (by omega) (by decide)
              replace hR := bnd_step hR ez26
              refine mi_as hz31 ?_
              subst hz32
              refine mi_iadd hx hb dMH_written_136 ?_
              refine mi_as (show nI (75 + 8) = nI 83 from rfl) ?_
              refine mi_ge (tgt := 154) hx hb dMH_written_137 (by decide) (by omega) (by omega) (fun h24 => ?_) (fun h24 => absurd h24 (by omega))
              refine lv_iconst (v := nI 0) hx hb dMH_written_154 (by decide) ?_
              refine lv_istore (lv' := [(6, .int (nI 0)), (5, .int (nI 0)), (4, .int (nI (az21 / 8))), (0, .ref h0), (1, .ref to)]) hx hb dMH_written_155 hl (by decide) rfl (fun ls hl => ?_)
              have lp24 : ∀ (n24 : Nat) (i24 : Nat) (my21 : Nat) (s24 : Sto) (pl : va_W) (ls : Array Slot) (H : Heap) (locs : List Loc), n24 + i24 = 8 → (my21 ≤ 256 * i24) → frm (M_MH_written_2 pt) s s24 → s24.1 225 23 = nI 2 → s24.1 225 24 = nI 8 → s24.1 225 25 = nI 7 → s24.1 225 26 = nI 2 → s24.1 225 27 = nI 524288 → s24.1 225 28 = nI 261888 → s24.1 225 29 = nI 120 → s24.1 225 30 = nI 64 → F_MH_written_2 pt s = F_MH_written_2_L3 pt az21 n24 i24 my21 s24 → lv_has ls 8 [(6, .int (nI i24)), (5, .int (nI my21)), (4, .int (nI (az21 / 8))), (0, .ref h0), (1, .ref to)] → okn g T s24 pl → va_P g.1 vcl ([] ++ pl) H → va_D A ([] ++ pl) → va_S A s0.heap H locs → W p l e ({ frames := 1, cells := 0, slots := 0, locals := 26 } : Room) s0 m args below meth c H locs 0 0 (MQ below (va_Qv (fun (u : (Sto) × va_W) => (u.1 = F_MH_written_2 pt s ∧ frm (M_MH_written_2 pt) s u.1 ∧ True) ∧ okn g T u.1 u.2) (po g.1 vcl A (fun (u : (Sto) × va_W) => [] ++ u.2)) A) args s0 0 0 A) (F0 m 157 ls []) := by
                intro n24
                induction n24 with
                | zero =>
                  intro i24 my21 s24 pl ls H locs hm24 hi22 hF hf45 hf46 hf47 hf48 hf49 hf50 hf51 hf52 hR hl hO hP hD hS
                  refine lv_iload hx hb dMH_written_157 (lv_at hl 0 rfl) ?_
                  refine lv_aload_n hx hb dMH_written_159 rfl (lv_at hl 3 rfl) ?_
                  refine nw_get (C := "LatticeKeysModel$Hands") (TT := T_MH) (N := 31) hx hb hts (wg_ft i_MH) hown hK hO k_h0 (kn := 225) (ci := 12) (fl := [(3, 172), (3, 181), (3, 226), (3, 291), (3, 299), (3, 308), (3, 317), (3, 326), (3, 334), (3, 342), (3, 350), (3, 359), (3, 368), (3, 369), (3, 370), (3, 371), (3, 372), (3, 373), (3, 374), (3, 375), (3, 376), (3, 377), (3, 378), (0, 0), (0, 0), (0, 0), (0, 0), (0, 0), (0, 0), (0, 0), (0, 0)]) rfl hP rfl 24 (by decide) (hts _ (wg_t kw_1456)) (fun _ h9 => h9) (cd := (0, 0)) rfl dMH_written_160 (fun v27 hv27 => ?_)
                  obtain rfl := (show v27 = .int (s24.1 225 24) from hv27)
                  obtain ⟨z27, ez27, hz33, hz34⟩ := cl_of (b := 2147483648) hf46 (by omega) (by decide)
                  replace hR := bnd_step hR ez27
                  refine mi_as hz33 ?_
                  subst hz34
                  refine mi_ge (tgt := 237) hx hb dMH_written_163 (by decide) (by omega) (by omega) (fun h25 => ?_) (fun h25 => absurd h25 (by omega))
                  exact mp_vret hx hb hr hlk hP hD hS (s24, pl) ⟨⟨hR.symm, hF, trivial⟩, hO⟩ [] rfl rfl rfl (by omega) (by omega) dMH_written_237
                | succ n24 ih24 =>
                  intro i24 my21 s24 pl ls H locs hm24 hi22 hF hf53 hf54 hf55 hf56 hf57 hf58 hf59 hf60 hR hl hO hP hD hS
                  refine lv_iload hx hb dMH_written_157 (lv_at hl 0 rfl) ?_
                  refine lv_aload_n hx hb dMH_written_159 rfl (lv_at hl 3 rfl) ?_
                  refine nw_get (C := "LatticeKeysModel$Hands") (TT := T_MH) (N := 31) hx hb hts (wg_ft i_MH) hown hK hO k_h0 (kn := 225) (ci := 12) (fl := [(3, 172), (3, 181), (3, 226), (3, 291), (3, 299), (3, 308), (3, 317), (3, 326), (3, 334), (3, 342), (3, 350), (3, 359), (3, 368), (3, 369), (3, 370), (3, 371), (3, 372), (3, 373), (3, 374), (3, 375), (3, 376), (3, 377), (3, 378), (0, 0), (0, 0), (0, 0), (0, 0), (0, 0), (0, 0), (0, 0), (0, 0)]) rfl hP rfl 24 (by decide) (hts _ (wg_t kw_1456)) (fun _ h9 => h9) (cd := (0, 0)) rfl dMH_written_160 (fun v28 hv28 => ?_)
                  obtain rfl := (show v28 = .int (s24.1 225 24) from hv28)
                  obtain ⟨z28, ez28, hz35, hz36⟩ := cl_of (b := 2147483648) hf54 (by omega) (by decide)
                  replace hR := bnd_step hR ez28
                  refine mi_as hz35 ?_
                  subst hz36
                  refine mi_ge (tgt := 237) hx hb dMH_written_163 (by decide) (by omega) (by omega) (fun h26 => absurd h26 (by omega)) (fun h26 => ?_)
                  refine lv_iconst (v := nI 0) hx hb dMH_written_166 (by decide) ?_
                  refine lv_istore (lv' := [(7, .int (nI 0)), (6, .int (nI i24)), (5, .int (nI my21)), (4, .int (nI (az21 / 8))), (0, .ref h0), (1, .ref to)]) hx hb dMH_written_167 hl (by decide) rfl (fun ls hl => ?_)
                  have lp25 : ∀ (n25 : Nat) (i25 : Nat) (my22 : Nat) (s25 : Sto) (pl : va_W) (ls : Array Slot) (H : Heap) (locs : List Loc), n25 + i25 = 256 → (my22 ≤ 256 * i24 + i25) → frm (M_MH_written_2 pt) s s25 → s25.1 225 23 = nI 2 → s25.1 225 24 = nI 8 → s25.1 225 25 = nI 7 → s25.1 225 26 = nI 2 → s25.1 225 27 = nI 524288 → s25.1 225 28 = nI 261888 → s25.1 225 29 = nI 120 → s25.1 225 30 = nI 64 → F_MH_written_2 pt s = F_MH_written_2_L4 pt az21 i24 (F_MH_written_2_L3 pt az21 n24) n25 i25 my22 s25 → lv_has ls 8 [(7, .int (nI i25)), (6, .int (nI i24)), (5, .int (nI my22)), (4, .int (nI (az21 / 8))), (0, .ref h0), (1, .ref to)] → okn g T s25 pl → va_P g.1 vcl ([] ++ pl) H → va_D A ([] ++ pl) → va_S A s0.heap H locs → W p l e ({ frames := 1, cells := 0, slots := 0, locals := 26 } : Room) s0 m args below meth c H locs 0 0 (MQ below (va_Qv (fun (u : (Sto) × va_W) => (u.1 = F_MH_written_2 pt s ∧ frm (M_MH_written_2 pt) s u.1 ∧ True) ∧ okn g T u.1 u.2) (po g.1 vcl A (fun (u : (Sto) × va_W) => [] ++ u.2)) A) args s0 0 0 A) (F0 m 169 ls []) := by
                    intro n25
                    induction n25 with
                    | zero =>
                      intro i25 my22 s25 pl ls H locs hm25 hi23 hF hf61 hf62 hf63 hf64 hf65 hf66 hf67 hf68 hR hl hO hP hD hS
                      refine lv_iload hx hb dMH_written_169 (lv_at hl 0 rfl) ?_
                      refine lv_sipush (v := nI 256) hx hb dMH_written_171 (by decide) ?_
                      refine mi_ge (tgt := 212) hx hb dMH_written_174 (by decide) (by omega) (by omega) (fun h27 => ?_) (fun h27 => absurd h27 (by omega))
                      refine lv_aload_n hx hb dMH_written_212 rfl (lv_at hl 5 rfl) ?_
                      refine lv_iload hx hb dMH_written_213 (lv_at hl 3 rfl) ?_
                      refine va_gets hx hb (hE.2.1 27 _ rfl).1 hS hown (hts _ (wg_t kw_1908)) (fun _ h9 => h9) dMH_written_215 ?_
                      refine lv_aload_n hx hb dMH_written_218 rfl (lv_at hl 4 rfl) ?_
                      refine nw_get (C := "LatticeKeysModel$Hands") (TT := T_MH) (N := 31) hx hb hts (wg_ft i_MH) hown hK hO k_h0 (kn := 225) (ci := 12) (fl := [(3, 172), (3, 181), (3, 226), (3, 291), (3, 299), (3, 308), (3, 317), (3, 326), (3, 334), (3, 342), (3, 350), (3, 359), (3, 368), (3, 369), (3, 370), (3, 371), (3, 372), (3, 373), (3, 374), (3, 375), (3, 376), (3, 377), (3, 378), (0, 0), (0, 0), (0, 0), (0, 0), (0, 0), (0, 0), (0, 0), (0, 0)]) rfl hP rfl 23 (by decide) (hts _ (wg_t kw_1455)) (fun _ h9 => h9) (cd := (0, 0)) rfl dMH_written_219 (fun v29 hv29 => ?_)
                      obtain rfl := (show v29 = .int (s25.1 225 23) from hv29)
                      obtain ⟨z29, ez29, hz37, hz38⟩ := cl_of (b := 2147483648) hf61 (by omega) (by decide)
                      replace hR := bnd_step hR ez29
                      refine mi_as hz37 ?_
                      subst hz38
                      refine va_ti (v := .int (nI 75)) hx hb (hE.2.1 27 _ rfl).2 hS (vp_in_nI (by decide) (by decide)) (by decide +kernel) dMH_written_222 ?_
                      refine mi_iadd hx hb dMH_written_223 ?_
                      refine lv_iload hx hb dMH_written_224 (lv_at hl 1 rfl) ?_
                      refine mi_iadd hx hb dMH_written_226 ?_
                      refine lv_iload hx hb dMH_written_227 (lv_at hl 2 rfl) ?_
                      refine lv_i2b hx hb dMH_written_229 rfl ?_
                      refine nw_bast hx hb hK hO hU k_to (k := pt) n_to hP hD hS (by omega) (by omega) dMH_written_230 (fun s26 pl H locs es21 hO hP hD hS => ?_)
                      replace hR := bnd_step hR es21
                      have hF := frm_sB hF es21 (by unfold M_MH_written_2; omega)
                      have hf69 : s26.1 225 23 = nI 2 := fc_B hf61 es21 (by omega)
                      have hf70 : s26.1 225 24 = nI 8 := fc_B hf62 es21 (by omega)
                      have hf71 : s26.1 225 25 = nI 7 := fc_B hf63 es21 (by omega)
                      have hf72 : s26.1 225 26 = nI 2 := fc_B hf64 es21 (by omega)
                      have hf73 : s26.1 225 27 = nI 524288 := fc_B hf65 es21 (by omega)
                      have hf74 : s26.1 225 28 = nI 261888 := fc_B hf66 es21 (by omega)
                      have hf75 : s26.1 225 29 = nI 120 := fc_B hf67 es21 (by omega)
                      have hf76 : s26.1 225 30 = nI 64 := fc_B hf68 es21 (by omega)
                      refine mi_iinc (k := 1) (x := i24) (d := 1) (y := i24 + 1) (lv' := [(6, .int (nI (i24 + 1))), (7, .int (nI i25)), (5, .int (nI my22)), (4, .int (nI (az21 / 8))), (0, .ref h0), (1, .ref to)]) hx hb dMH_written_231 hl rfl (by decide) rfl (by decide) rfl (fun ls hl => ?_)
                      refine lv_goto (tgt := 157) hx hb dMH_written_234 (by decide) ?_
                      exact ih24 (i24 + 1) my22 s26 pl ls H locs (by omega) (by omega) hF hf69 hf70 hf71 hf72 hf73 hf74 hf75 hf76 hR (lv_sub hl [0, 2, 3, 4, 5] rfl) hO hP hD hS
                    | succ n25 ih25 =>
                      intro i25 my22 s25 pl ls H locs hm25 hi23 hF hf77 hf78 hf79 hf80 hf81 hf82 hf83 hf84 hR hl hO hP hD hS
                      refine lv_iload hx hb dMH_written_169 (lv_at hl 0 rfl) ?_
                      refine lv_sipush (v := nI 256) hx hb dMH_written_171 (by decide) ?_
                      refine mi_ge (tgt := 212) hx hb dMH_written_174 (by decide) (by omega) (by omega) (fun h28 => absurd h28 (by omega)) (fun h28 => ?_)
                      refine lv_aload_n hx hb dMH_written_177 rfl (lv_at hl 4 rfl) ?_
                      refine nw_get (C := "LatticeKeysModel$Hands") (TT := T_MH) (N := 31) hx hb hts (wg_ft i_MH) hown hK hO k_h0 (kn := 225) (ci := 12) (fl := [(3, 172), (3, 181), (3, 226), (3, 291), (3, 299), (3, 308), (3, 317), (3, 326), (3, 334), (3, 342), (3, 350), (3, 359), (3, 368), (3, 369), (3, 370), (3, 371), (3, 372), (3, 373), (3, 374), (3, 375), (3, 376), (3, 377), (3, 378), (0, 0), (0, 0), (0, 0), (0, 0), (0, 0), (0, 0), (0, 0), (0, 0)]) rfl hP rfl 11 (by decide) (hts _ (wg_t kw_1443)) (fun _ h9 => h9) (cd := (3, 359)) rfl dMH_written_178 (fun v30 hv30 => ?_)
                      obtain ⟨r21, rfl, kr21⟩ := (show ∃ r : Nat, v30 = .ref r ∧ T r = some 359 from hv30)
                      refine lv_iload hx hb dMH_written_181 (lv_at hl 1 rfl) ?_
                      refine nw_aald3 hx hb hK hO kr21 (k := 359) (b := 360) rfl hP (by omega) (by omega) dMH_written_183 (fun r22 kr22 => ?_)
                      have hn21 : nsp (360 + i24) = (0, 256, []) := rows_ok 360 8 (by decide) _ (by omega)
                      refine lv_iload hx hb dMH_written_184 (lv_at hl 0 rfl) ?_
                      refine nw_iald hx hb hK hO kr22 (k := (360 + i24)) hn21 hP (by omega) (by omega) dMH_written_186 ?_
                      refine lv_if_ne (tgt := 193) hx hb dMH_written_187 (by decide) (fun h29 => ?_) (fun h29 => ?_)
                      · replace hR := hR.trans (if_neg h29)
                        refine lv_aload_n hx hb dMH_written_193 rfl (lv_at hl 5 rfl) ?_
                        refine lv_iload hx hb dMH_written_194 (lv_at hl 3 rfl) ?_
                        refine lv_iload hx hb dMH_written_196 (lv_at hl 2 rfl) ?_
                        refine mi_iadd hx hb dMH_written_198 ?_
                        refine lv_iload hx hb dMH_written_199 (lv_at hl 0 rfl) ?_
                        refine lv_i2b hx hb dMH_written_201 rfl ?_
                        refine nw_bast hx hb hK hO hU k_to (k := pt) n_to hP hD hS (by omega) (by omega) dMH_written_202 (fun s27 pl H locs es22 hO hP hD hS => ?_)
                        replace hR := bnd_step hR es22
                        have hF := frm_sB hF es22 (by unfold M_MH_written_2; omega)
                        have hf85 : s27.1 225 23 = nI 2 := fc_B hf77 es22 (by omega)
                        have hf86 : s27.1 225 24 = nI 8 := fc_B hf78 es22 (by omega)
                        have hf87 : s27.1 225 25 = nI 7 := fc_B hf79 es22 (by omega)
                        have hf88 : s27.1 225 26 = nI 2 := fc_B hf80 es22 (by omega)
                        have hf89 : s27.1 225 27 = nI 524288 := fc_B hf81 es22 (by omega)
                        have hf90 : s27.1 225 28 = nI 261888 := fc_B hf82 es22 (by omega)
                        have hf91 : s27.1 225 29 = nI 120 := fc_B hf83 es22 (by omega)
                        have hf92 : s27.1 225 30 = nI 64 := fc_B hf84 es22 (by omega)
                        refine mi_iinc (k := 2) (x := my22) (d := 1) (y := my22 + 1) (lv' := [(5, .int (nI (my22 + 1))), (7, .int (nI i25)), (6, .int (nI i24)), (4, .int (nI (az21 / 8))), (0, .ref h0), (1, .ref to)]) hx hb dMH_written_203 hl rfl (by decide) rfl (by decide) rfl (fun ls hl => ?_)
                        refine mi_iinc (k := 1) (x := i25) (d := 1) (y := i25 + 1) (lv' := [(7, .int (nI (i25 + 1))), (5, .int (nI (my22 + 1))), (6, .int (nI i24)), (4, .int (nI (az21 / 8))), (0, .ref h0), (1, .ref to)]) hx hb dMH_written_206 hl rfl (by decide) rfl (by decide) rfl (fun ls hl => ?_)
                        refine lv_goto (tgt := 169) hx hb dMH_written_209 (by decide) ?_
                        exact ih25 (i25 + 1) (my22 + 1) s27 pl ls H locs (by omega) (by omega) hF hf85 hf86 hf87 hf88 hf89 hf90 hf91 hf92 hR (lv_sub hl [0, 2, 1, 3, 4, 5] rfl) hO hP hD hS
                      · replace hR := hR.trans (if_pos h29)
                        refine lv_goto (tgt := 206) hx hb dMH_written_190 (by decide) ?_
                        refine mi_iinc (k := 0) (x := i25) (d := 1) (y := i25 + 1) (lv' := [(7, .int (nI (i25 + 1))), (6, .int (nI i24)), (5, .int (nI my22)), (4, .int (nI (az21 / 8))), (0, .ref h0), (1, .ref to)]) hx hb dMH_written_206 hl rfl (by decide) rfl (by decide) rfl (fun ls hl => ?_)
                        refine lv_goto (tgt := 169) hx hb dMH_written_209 (by decide) ?_
                        exact ih25 (i25 + 1) my22 s25 pl ls H locs (by omega) (by omega) hF hf77 hf78 hf79 hf80 hf81 hf82 hf83 hf84 hR (lv_sub hl [0, 1, 2, 3, 4, 5] rfl) hO hP hD hS
                  exact lp25 256 0 my21 s24 pl ls _ _ (by omega) (by omega) hF hf53 hf54 hf55 hf56 hf57 hf58 hf59 hf60 hR (lv_sub hl [0, 1, 2, 3, 4, 5] rfl) hO hP hD hS
              exact lp24 8 0 0 s23 pl ls _ _ (by omega) (by omega) hF hf37 hf38 hf39 hf40 hf41 hf42 hf43 hf44 hR (lv_sub hl [0, 1, 2, 3, 4] rfl) hO hP hD hS
            | succ n23 ih23 =>
              intro i23 s23 pl ls H locs hm23 hF hf93 hf94 hf95 hf96 hf97 hf98 hf99 hf100 hR hl hO hP hD hS
              refine lv_iload hx hb dMH_written_122 (lv_at hl 0 rfl) ?_
              refine va_gets hx hb (hE.2.1 27 _ rfl).1 hS hown (hts _ (wg_t kw_1908)) (fun _ h9 => h9) dMH_written_124 ?_
              refine lv_aload_n hx hb dMH_written_127 rfl (lv_at hl 3 rfl) ?_
              refine nw_get (C := "LatticeKeysModel$Hands") (TT := T_MH) (N := 31) hx hb hts (wg_ft i_MH) hown hK hO k_h0 (kn := 225) (ci := 12) (fl := [(3, 172), (3, 181), (3, 226), (3, 291), (3, 299), (3, 308), (3, 317), (3, 326), (3, 334), (3, 342), (3, 350), (3, 359), (3, 368), (3, 369), (3, 370), (3, 371), (3, 372), (3, 373), (3, 374), (3, 375), (3, 376), (3, 377), (3, 378), (0, 0), (0, 0), (0, 0), (0, 0), (0, 0), (0, 0), (0, 0), (0, 0)]) rfl hP rfl 23 (by decide) (hts _ (wg_t kw_1455)) (fun _ h9 => h9) (cd := (0, 0)) rfl dMH_written_128 (fun v31 hv31 => ?_)
              obtain rfl := (show v31 = .int (s23.1 225 23) from hv31)
              obtain ⟨z30, ez30, hz39, hz40⟩ := cl_of (b := 2147483648) hf93 (by omega) (by decide)
              replace hR := bnd_step hR ez30
              refine mi_as hz39 ?_
              subst hz40
              refine va_ti (v := .int (nI 75)) hx hb (hE.2.1 27 _ rfl).2 hS (vp_in_nI (by decide) (by decide)) (by decide +kernel) dMH_written_131 ?_
              refine lv_aload_n hx hb dMH_written_132 rfl (lv_at hl 3 rfl) ?_
              refine nw_get (C := "LatticeKeysModel$Hands") (TT := T_MH) (N := 31) hx hb hts (wg_ft i_MH) hown hK hO k_h0 (kn := 225) (ci := 12) (fl := [(3, 172), (3, 181), (3, 226), (3, 291), (3, 299), (3, 308), (3, 317), (3, 326), (3, 334), (3, 342), (3, 350), (3, 359), (3, 368), (3, 369), (3, 370), (3, 371), (3, 372), (3, 373), (3, 374), (3, 375), (3, 376), (3, 377), (3, 378), (0, 0), (0, 0), (0, 0), (0, 0), (0, 0), (0, 0), (0, 0), (0, 0)]) rfl hP rfl 24 (by decide) (hts _ (wg_t kw_1456)) (fun _ h9 => h9) (cd := (0, 0)) rfl dMH_written_133 (fun v32 hv32 => ?_)
              obtain rfl := (show v32 = .int (s23.1 225 24) from hv32)
              obtain ⟨z31, ez31, hz41, hz42⟩ := cl_of (b := 2147483648) hf94 (by omega) (by decide)
              replace hR := bnd_step hR ez31
              refine mi_as hz41 ?_
              subst hz42
              refine mi_iadd hx hb dMH_written_136 ?_
              refine mi_as (show nI (75 + 8) = nI 83 from rfl) ?_
              refine mi_ge (tgt := 154) hx hb dMH_written_137 (by decide) (by omega) (by omega) (fun h30 => absurd h30 (by omega)) (fun h30 => ?_)
              refine lv_aload_n hx hb dMH_written_140 rfl (lv_at hl 4 rfl) ?_
              refine lv_iload hx hb dMH_written_141 (lv_at hl 2 rfl) ?_
              refine lv_iload hx hb dMH_written_143 (lv_at hl 0 rfl) ?_
              refine mi_iadd hx hb dMH_written_145 ?_
              refine lv_iconst (v := nI 0) hx hb dMH_written_146 (by decide) ?_
              refine nw_bast hx hb hK hO hU k_to (k := pt) n_to hP hD hS (by omega) (by omega) dMH_written_147 (fun s28 pl H locs es23 hO hP hD hS => ?_)
              replace hR := bnd_step hR es23
              have hF := frm_sB hF es23 (by unfold M_MH_written_2; omega)
              have hf101 : s28.1 225 23 = nI 2 := fc_B hf93 es23 (by omega)
              have hf102 : s28.1 225 24 = nI 8 := fc_B hf94 es23 (by omega)
              have hf103 : s28.1 225 25 = nI 7 := fc_B hf95 es23 (by omega)
              have hf104 : s28.1 225 26 = nI 2 := fc_B hf96 es23 (by omega)
              have hf105 : s28.1 225 27 = nI 524288 := fc_B hf97 es23 (by omega)
              have hf106 : s28.1 225 28 = nI 261888 := fc_B hf98 es23 (by omega)
              have hf107 : s28.1 225 29 = nI 120 := fc_B hf99 es23 (by omega)
              have hf108 : s28.1 225 30 = nI 64 := fc_B hf100 es23 (by omega)
              refine mi_iinc (k := 0) (x := i23) (d := 1) (y := i23 + 1) (lv' := [(6, .int (nI (i23 + 1))), (5, .int (nI 0)), (4, .int (nI (az21 / 8))), (0, .ref h0), (1, .ref to)]) hx hb dMH_written_148 hl rfl (by decide) rfl (by decide) rfl (fun ls hl => ?_)
              refine lv_goto (tgt := 122) hx hb dMH_written_151 (by decide) ?_
              exact ih23 (i23 + 1) s28 pl ls H locs (by omega) hF hf101 hf102 hf103 hf104 hf105 hf106 hf107 hf108 hR (lv_sub hl [0, 1, 2, 3, 4] rfl) hO hP hD hS
          exact lp23 83 0 s22 pl ls _ _ (by omega) hF hf29 hf30 hf31 hf32 hf33 hf34 hf35 hf36 hR (lv_sub hl [0, 1, 2, 5, 6] rfl) hO hP hD hS
        | succ n22 ih22 =>
          intro i22 az21 s22 pl ls H locs hm22 hi21 hF hf109 hf110 hf111 hf112 hf113 hf114 hf115 hf116 hR hl hO hP hD hS
          refine lv_iload hx hb dMH_written_51 (lv_at hl 0 rfl) ?_
          refine lv_aload_n hx hb dMH_written_53 rfl (lv_at hl 3 rfl) ?_
          refine nw_get (C := "LatticeKeysModel$Hands") (TT := T_MH) (N := 31) hx hb hts (wg_ft i_MH) hown hK hO k_h0 (kn := 225) (ci := 12) (fl := [(3, 172), (3, 181), (3, 226), (3, 291), (3, 299), (3, 308), (3, 317), (3, 326), (3, 334), (3, 342), (3, 350), (3, 359), (3, 368), (3, 369), (3, 370), (3, 371), (3, 372), (3, 373), (3, 374), (3, 375), (3, 376), (3, 377), (3, 378), (0, 0), (0, 0), (0, 0), (0, 0), (0, 0), (0, 0), (0, 0), (0, 0)]) rfl hP rfl 25 (by decide) (hts _ (wg_t kw_1457)) (fun _ h9 => h9) (cd := (0, 0)) rfl dMH_written_54 (fun v33 hv33 => ?_)
          obtain rfl := (show v33 = .int (s22.1 225 25) from hv33)
          obtain ⟨z32, ez32, hz43, hz44⟩ := cl_of (b := 2147483648) hf111 (by omega) (by decide)
          replace hR := bnd_step hR ez32
          refine mi_as hz43 ?_
          subst hz44
          refine mi_ge (tgt := 110) hx hb dMH_written_57 (by decide) (by omega) (by omega) (fun h31 => absurd h31 (by omega)) (fun h31 => ?_)
          refine lv_iconst (v := nI 0) hx hb dMH_written_60 (by decide) ?_
          refine lv_istore (lv' := [(5, .int (nI 0)), (4, .int (nI i22)), (3, .int (nI az21)), (2, .int (nI 20)), (0, .ref h0), (1, .ref to)]) hx hb dMH_written_61 hl (by decide) rfl (fun ls hl => ?_)
          have lp26 : ∀ (n26 : Nat) (i26 : Nat) (az22 : Nat) (s29 : Sto) (pl : va_W) (ls : Array Slot) (H : Heap) (locs : List Loc), n26 + i26 = 256 → (az22 = 512 + 5120 * i22 + 20 * i26) → frm (M_MH_written_2 pt) s s29 → s29.1 225 23 = nI 2 → s29.1 225 24 = nI 8 → s29.1 225 25 = nI 7 → s29.1 225 26 = nI 2 → s29.1 225 27 = nI 524288 → s29.1 225 28 = nI 261888 → s29.1 225 29 = nI 120 → s29.1 225 30 = nI 64 → F_MH_written_2 pt s = F_MH_written_2_L5 pt i22 (F_MH_written_2_L1 pt n22) n26 i26 az22 s29 → lv_has ls 8 [(5, .int (nI i26)), (4, .int (nI i22)), (3, .int (nI az22)), (2, .int (nI 20)), (0, .ref h0), (1, .ref to)] → okn g T s29 pl → va_P g.1 vcl ([] ++ pl) H → va_D A ([] ++ pl) → va_S A s0.heap H locs → W p l e ({ frames := 1, cells := 0, slots := 0, locals := 26 } : Room) s0 m args below meth c H locs 0 0 (MQ below (va_Qv (fun (u : (Sto) × va_W) => (u.1 = F_MH_written_2 pt s ∧ frm (M_MH_written_2 pt) s u.1 ∧ True) ∧ okn g T u.1 u.2) (po g.1 vcl A (fun (u : (Sto) × va_W) => [] ++ u.2)) A) args s0 0 0 A) (F0 m 63 ls []) := by
            intro n26
            induction n26 with
            | zero =>
              intro i26 az22 s29 pl ls H locs hm26 hi24 hF hf117 hf118 hf119 hf120 hf121 hf122 hf123 hf124 hR hl hO hP hD hS
              refine lv_iload hx hb dMH_written_63 (lv_at hl 0 rfl) ?_
              refine lv_sipush (v := nI 256) hx hb dMH_written_65 (by decide) ?_
              refine mi_ge (tgt := 104) hx hb dMH_written_68 (by decide) (by omega) (by omega) (fun h32 => ?_) (fun h32 => absurd h32 (by omega))
              refine mi_iinc (k := 1) (x := i22) (d := 1) (y := i22 + 1) (lv' := [(4, .int (nI (i22 + 1))), (5, .int (nI i26)), (3, .int (nI az22)), (2, .int (nI 20)), (0, .ref h0), (1, .ref to)]) hx hb dMH_written_104 hl rfl (by decide) rfl (by decide) rfl (fun ls hl => ?_)
              refine lv_goto (tgt := 51) hx hb dMH_written_107 (by decide) ?_
              exact ih22 (i22 + 1) az22 s29 pl ls H locs (by omega) (by omega) hF hf117 hf118 hf119 hf120 hf121 hf122 hf123 hf124 hR (lv_sub hl [0, 2, 3, 4, 5] rfl) hO hP hD hS
            | succ n26 ih26 =>
              intro i26 az22 s29 pl ls H locs hm26 hi24 hF hf125 hf126 hf127 hf128 hf129 hf130 hf131 hf132 hR hl hO hP hD hS
              refine lv_iload hx hb dMH_written_63 (lv_at hl 0 rfl) ?_
              refine lv_sipush (v := nI 256) hx hb dMH_written_65 (by decide) ?_
              refine mi_ge (tgt := 104) hx hb dMH_written_68 (by decide) (by omega) (by omega) (fun h33 => absurd h33 (by omega)) (fun h33 => ?_)
              refine lv_aload_n hx hb dMH_written_71 rfl (lv_at hl 5 rfl) ?_
              refine lv_iload_n hx hb dMH_written_72 rfl (lv_at hl 2 rfl) ?_
              refine lv_iload_n hx hb dMH_written_73 rfl (lv_at hl 3 rfl) ?_
              refine lv_aload_n hx hb dMH_written_74 rfl (lv_at hl 4 rfl) ?_
              refine nw_get (C := "LatticeKeysModel$Hands") (TT := T_MH) (N := 31) hx hb hts (wg_ft i_MH) hown hK hO k_h0 (kn := 225) (ci := 12) (fl := [(3, 172), (3, 181), (3, 226), (3, 291), (3, 299), (3, 308), (3, 317), (3, 326), (3, 334), (3, 342), (3, 350), (3, 359), (3, 368), (3, 369), (3, 370), (3, 371), (3, 372), (3, 373), (3, 374), (3, 375), (3, 376), (3, 377), (3, 378), (0, 0), (0, 0), (0, 0), (0, 0), (0, 0), (0, 0), (0, 0), (0, 0)]) rfl hP rfl 27 (by decide) (hts _ (wg_t kw_1459)) (fun _ h9 => h9) (cd := (0, 0)) rfl dMH_written_75 (fun v34 hv34 => ?_)
              obtain rfl := (show v34 = .int (s29.1 225 27) from hv34)
              obtain ⟨z33, ez33, hz45, hz46⟩ := cl_of (b := 2147483648) hf129 (by omega) (by decide)
              replace hR := bnd_step hR ez33
              refine mi_as hz45 ?_
              subst hz46
              refine lv_aload_n hx hb dMH_written_78 rfl (lv_at hl 4 rfl) ?_
              refine nw_get (C := "LatticeKeysModel$Hands") (TT := T_MH) (N := 31) hx hb hts (wg_ft i_MH) hown hK hO k_h0 (kn := 225) (ci := 12) (fl := [(3, 172), (3, 181), (3, 226), (3, 291), (3, 299), (3, 308), (3, 317), (3, 326), (3, 334), (3, 342), (3, 350), (3, 359), (3, 368), (3, 369), (3, 370), (3, 371), (3, 372), (3, 373), (3, 374), (3, 375), (3, 376), (3, 377), (3, 378), (0, 0), (0, 0), (0, 0), (0, 0), (0, 0), (0, 0), (0, 0), (0, 0)]) rfl hP rfl 8 (by decide) (hts _ (wg_t kw_1440)) (fun _ h9 => h9) (cd := (3, 334)) rfl dMH_written_79 (fun v35 hv35 => ?_)
              obtain ⟨r23, rfl, kr23⟩ := (show ∃ r : Nat, v35 = .ref r ∧ T r = some 334 from hv35)
              refine lv_iload hx hb dMH_written_82 (lv_at hl 1 rfl) ?_
              refine nw_aald3 hx hb hK hO kr23 (k := 334) (b := 335) rfl hP (by omega) (by omega) dMH_written_84 (fun r24 kr24 => ?_)
              have hn22 : nsp (335 + i22) = (0, 256, []) := rows_ok 335 7 (by decide) _ (by omega)
              refine lv_iload hx hb dMH_written_85 (lv_at hl 0 rfl) ?_
              refine nw_iald hx hb hK hO kr24 (k := (335 + i22)) hn22 hP (by omega) (by omega) dMH_written_87 ?_
              refine mp_i (cx := []) (wr := []) hP hD hS hA [] [] rfl rfl rfl (by decide) (va_runS (As := [.int (nI 524288), .int ((s29.1 ((335 + i22)) i26))]) (rest := [.int (nI 20), .int (nI az22), .ref to]) F (N_MH_minus l g _ T s29 pl hO hU (nI 524288) (s29.1 ((335 + i22)) i26)) (va_cwS 2 hts (wg_app (wg_c kw_1861 (wg_c kw_1862 (wg_c kw_13 wg_n))) kw_1863) rfl rfl rfl (by decide +kernel) ⟨by decide, by decide⟩) (pp_S (en_ok g) hP hD hS hA hE [] rfl rfl) rfl rfl hl.1 rfl (lv_room (Nat.le_of_ble_eq_true rfl)) dMH_written_88 ⟨by omega, by omega⟩) (fun r25 u21 H locs hu21 hP hD hS => ?_)
              obtain ⟨q21, pl⟩ := u21
              obtain ⟨⟨eq21, rfl, hFc21, -⟩, hO⟩ := hu21
              have hO : okn g T q21.2 pl := hO
              have hP : va_P g.1 vcl ([] ++ pl) _ := hP
              have hD : va_D _ ([] ++ pl) := hD
              have hFc21 : frm (M_MH_minus) s29 q21.2 := hFc21
              replace hR := bnd_step hR eq21
              have hF := frm_tr hF hFc21 (fun k hk => by unfold M_MH_minus at hk; unfold M_MH_written_2; omega)
              have hf133 : q21.2.1 225 23 = nI 2 := fc_F hf125 hFc21 (by unfold M_MH_minus; omega)
              have hf134 : q21.2.1 225 24 = nI 8 := fc_F hf126 hFc21 (by unfold M_MH_minus; omega)
              have hf135 : q21.2.1 225 25 = nI 7 := fc_F hf127 hFc21 (by unfold M_MH_minus; omega)
              have hf136 : q21.2.1 225 26 = nI 2 := fc_F hf128 hFc21 (by unfold M_MH_minus; omega)
              have hf137 : q21.2.1 225 27 = nI 524288 := fc_F hf129 hFc21 (by unfold M_MH_minus; omega)
              have hf138 : q21.2.1 225 28 = nI 261888 := fc_F hf130 hFc21 (by unfold M_MH_minus; omega)
              have hf139 : q21.2.1 225 29 = nI 120 := fc_F hf131 hFc21 (by unfold M_MH_minus; omega)
              have hf140 : q21.2.1 225 30 = nI 64 := fc_F hf132 hFc21 (by unfold M_MH_minus; omega)
              refine W.widen (k := 0) (n := 0) (by omega) (by omega) ?_
              refine mp_v (cx := []) (wr := []) hP hD hS hA [] [] rfl rfl rfl (by decide) (va_runSN (As := [.ref to, .int (nI az22), .int (nI 20), .int q21.1]) (rest := []) F (N_M_pack l g _ T q21.2 pl hO hU to pt 8192 az22 20 (q21.1) k_to n_to (by omega) (by omega)) ⟨va_cnB 4 hts (wg_in kw_1686) rfl rfl rfl (hE.2.2.2.2.2.2.2.2.2.1) (hts _ (wg_t kw_9)) (by decide +kernel) ⟨by decide, by decide⟩, hts _ (wg_t kw_1685), trivial⟩ (pp_S (en_ok g) hP hD hS hA hE [] rfl rfl) rfl rfl hl.1 rfl (lv_room (Nat.le_of_ble_eq_true rfl)) dMH_written_91 ⟨by omega, by omega⟩) (fun  u22 H locs hu22 hP hD hS => ?_)
              obtain ⟨s30, pl⟩ := u22
              obtain ⟨⟨eq22, hFc22, -⟩, hO⟩ := hu22
              have hO : okn g T s30 pl := hO
              have hP : va_P g.1 vcl ([] ++ pl) _ := hP
              have hD : va_D _ ([] ++ pl) := hD
              have hFc22 : frm (M_M_pack pt) q21.2 s30 := hFc22
              replace hR := bnd_step hR eq22
              have hF := frm_tr hF hFc22 (fun k hk => by unfold M_M_pack at hk; unfold M_MH_written_2; omega)
              have hf141 : s30.1 225 23 = nI 2 := fc_F hf133 hFc22 (by unfold M_M_pack; omega)
              have hf142 : s30.1 225 24 = nI 8 := fc_F hf134 hFc22 (by unfold M_M_pack; omega)
              have hf143 : s30.1 225 25 = nI 7 := fc_F hf135 hFc22 (by unfold M_M_pack; omega)
              have hf144 : s30.1 225 26 = nI 2 := fc_F hf136 hFc22 (by unfold M_M_pack; omega)
              have hf145 : s30.1 225 27 = nI 524288 := fc_F hf137 hFc22 (by unfold M_M_pack; omega)
              have hf146 : s30.1 225 28 = nI 261888 := fc_F hf138 hFc22 (by unfold M_M_pack; omega)
              have hf147 : s30.1 225 29 = nI 120 := fc_F hf139 hFc22 (by unfold M_M_pack; omega)
              have hf148 : s30.1 225 30 = nI 64 := fc_F hf140 hFc22 (by unfold M_M_pack; omega)
              refine W.widen (k := 0) (n := 0) (by omega) (by omega) ?_
              refine lv_iload_n hx hb dMH_written_94 rfl (lv_at hl 2 rfl) ?_
              refine lv_iload_n hx hb dMH_written_95 rfl (lv_at hl 3 rfl) ?_
              refine mi_iadd hx hb dMH_written_96 ?_
              refine lv_istore_n (lv' := [(3, .int (nI (az22 + 20))), (5, .int (nI i26)), (4, .int (nI i22)), (2, .int (nI 20)), (0, .ref h0), (1, .ref to)]) hx hb dMH_written_97 rfl hl (by decide) rfl (fun ls hl => ?_)
              refine mi_iinc (k := 1) (x := i26) (d := 1) (y := i26 + 1) (lv' := [(5, .int (nI (i26 + 1))), (3, .int (nI (az22 + 20))), (4, .int (nI i22)), (2, .int (nI 20)), (0, .ref h0), (1, .ref to)]) hx hb dMH_written_98 hl rfl (by decide) rfl (by decide) rfl (fun ls hl => ?_)
              refine lv_goto (tgt := 63) hx hb dMH_written_101 (by decide) ?_
              exact ih26 (i26 + 1) (az22 + 20) s30 pl ls H locs (by omega) (by omega) hF hf141 hf142 hf143 hf144 hf145 hf146 hf147 hf148 hR (lv_sub hl [0, 2, 1, 3, 4, 5] rfl) hO hP hD hS
          exact lp26 256 0 az21 s22 pl ls _ _ (by omega) (by omega) hF hf109 hf110 hf111 hf112 hf113 hf114 hf115 hf116 hR (lv_sub hl [0, 1, 2, 3, 4, 5] rfl) hO hP hD hS
      exact lp22 7 0 512 s21 pl ls _ _ (by omega) (by omega) hF hf21 hf22 hf23 hf24 hf25 hf26 hf27 hf28 hR (lv_sub hl [0, 1, 2, 3, 4] rfl) hO hP hD hS
    | succ n21 ih21 =>
      intro i21 s21 pl ls H locs hm21 hF hf149 hf150 hf151 hf152 hf153 hf154 hf155 hf156 hR hl hO hP hD hS
      refine lv_iload_n hx hb dMH_written_2 rfl (lv_at hl 0 rfl) ?_
      refine lv_aload_n hx hb dMH_written_3 rfl (lv_at hl 1 rfl) ?_
      refine nw_get (C := "LatticeKeysModel$Hands") (TT := T_MH) (N := 31) hx hb hts (wg_ft i_MH) hown hK hO k_h0 (kn := 225) (ci := 12) (fl := [(3, 172), (3, 181), (3, 226), (3, 291), (3, 299), (3, 308), (3, 317), (3, 326), (3, 334), (3, 342), (3, 350), (3, 359), (3, 368), (3, 369), (3, 370), (3, 371), (3, 372), (3, 373), (3, 374), (3, 375), (3, 376), (3, 377), (3, 378), (0, 0), (0, 0), (0, 0), (0, 0), (0, 0), (0, 0), (0, 0), (0, 0)]) rfl hP rfl 30 (by decide) (hts _ (wg_t kw_1462)) (fun _ h9 => h9) (cd := (0, 0)) rfl dMH_written_4 (fun v36 hv36 => ?_)
      obtain rfl := (show v36 = .int (s21.1 225 30) from hv36)
      obtain ⟨z34, ez34, hz47, hz48⟩ := cl_of (b := 2147483648) hf156 (by omega) (by decide)
      replace hR := bnd_step hR ez34
      refine mi_as hz47 ?_
      subst hz48
      refine mi_ge (tgt := 25) hx hb dMH_written_7 (by decide) (by omega) (by omega) (fun h34 => absurd h34 (by omega)) (fun h34 => ?_)
      refine lv_aload_n hx hb dMH_written_10 rfl (lv_at hl 2 rfl) ?_
      refine lv_iload_n hx hb dMH_written_11 rfl (lv_at hl 0 rfl) ?_
      refine lv_aload_n hx hb dMH_written_12 rfl (lv_at hl 1 rfl) ?_
      refine nw_get (C := "LatticeKeysModel$Hands") (TT := T_MH) (N := 31) hx hb hts (wg_ft i_MH) hown hK hO k_h0 (kn := 225) (ci := 12) (fl := [(3, 172), (3, 181), (3, 226), (3, 291), (3, 299), (3, 308), (3, 317), (3, 326), (3, 334), (3, 342), (3, 350), (3, 359), (3, 368), (3, 369), (3, 370), (3, 371), (3, 372), (3, 373), (3, 374), (3, 375), (3, 376), (3, 377), (3, 378), (0, 0), (0, 0), (0, 0), (0, 0), (0, 0), (0, 0), (0, 0), (0, 0)]) rfl hP rfl 20 (by decide) (hts _ (wg_t kw_1452)) (fun _ h9 => h9) (cd := (3, 376)) rfl dMH_written_13 (fun v37 hv37 => ?_)
      obtain ⟨r26, rfl, kr25⟩ := (show ∃ r : Nat, v37 = .ref r ∧ T r = some 376 from hv37)
      refine lv_iload_n hx hb dMH_written_16 rfl (lv_at hl 0 rfl) ?_
      refine nw_bald hx hb hK hO kr25 (k := 376) rfl hP (by omega) (by omega) dMH_written_17 ?_
      refine nw_bast hx hb hK hO hU k_to (k := pt) n_to hP hD hS (by omega) (by omega) dMH_written_18 (fun s31 pl H locs es24 hO hP hD hS => ?_)
      replace hR := bnd_step hR es24
      have hF := frm_sB hF es24 (by unfold M_MH_written_2; omega)
      have hf157 : s31.1 225 23 = nI 2 := fc_B hf149 es24 (by omega)
      have hf158 : s31.1 225 24 = nI 8 := fc_B hf150 es24 (by omega)
      have hf159 : s31.1 225 25 = nI 7 := fc_B hf151 es24 (by omega)
      have hf160 : s31.1 225 26 = nI 2 := fc_B hf152 es24 (by omega)
      have hf161 : s31.1 225 27 = nI 524288 := fc_B hf153 es24 (by omega)
      have hf162 : s31.1 225 28 = nI 261888 := fc_B hf154 es24 (by omega)
      have hf163 : s31.1 225 29 = nI 120 := fc_B hf155 es24 (by omega)
      have hf164 : s31.1 225 30 = nI 64 := fc_B hf156 es24 (by omega)
      refine mi_iinc (k := 0) (x := i21) (d := 1) (y := i21 + 1) (lv' := [(2, .int (nI (i21 + 1))), (0, .ref h0), (1, .ref to)]) hx hb dMH_written_19 hl rfl (by decide) rfl (by decide) rfl (fun ls hl => ?_)
      refine lv_goto (tgt := 2) hx hb dMH_written_22 (by decide) ?_
      exact ih21 (i21 + 1) s31 pl ls H locs (by omega) hF hf157 hf158 hf159 hf160 hf161 hf162 hf163 hf164 hR (lv_sub hl [0, 1, 2] rfl) hO hP hD hS
  exact lp21 64 0 s pl ls _ _ (by omega) hF e_c0 e_c1 e_c2 e_c3 e_c4 e_c5 e_c6 e_c7 hR (lv_sub hl [0, 1, 2] rfl) hO hP hD hS
def M_MH_readHints_0 (k : Nat) : Prop := (360 ≤ k ∧ k < 368) ∨ (0 : Nat) = 1
noncomputable def F_MH_readHints_0_L3 (pb : Nat) (fi : Nat) (i21 : Nat) (my21 : Nat) (z26 : Nat) (kk : Nat → Nat → Sto → Int32 × Sto) : Nat → Nat → Sto → Int32 × Sto
  | 0, ii21, s24 => kk (i21 + 1) z26 s24
  | n24 + 1, ii21, s24 => bnd (((s24.1 pb (fi + ii21)) &&& nI 255).toNatClampNeg) fun z28 => if ii21 ≤ my21 then bnd (sI s24 ((360 + i21)) z28 (nI 1)) fun s25 => F_MH_readHints_0_L3 pb fi i21 my21 z26 kk n24 (ii21 + 1) s25 else bnd (((s24.1 pb ((fi + ii21) - 1)) &&& nI 255).toNatClampNeg) fun z29 => if z29 < z28 then bnd (sI s24 ((360 + i21)) z28 (nI 1)) fun s26 => F_MH_readHints_0_L3 pb fi i21 my21 z26 kk n24 (ii21 + 1) s26 else (nI 0, s24)
noncomputable def F_MH_readHints_0_L2 (pb : Nat) (fi : Nat) (i21 : Nat) (my21 : Nat) (kk : Nat → Nat → Sto → Int32 × Sto) : Nat → Nat → Sto → Int32 × Sto
  | 0, i23, s23 => bnd ((s23.1 225 23).toNatClampNeg) fun z25 => bnd (((s23.1 pb ((fi + 80) + i21)) &&& nI 255).toNatClampNeg) fun z26 => if z26 < my21 then (nI 0, s23) else bnd ((s23.1 225 23).toNatClampNeg) fun z27 => if z26 ≤ 80 then F_MH_readHints_0_L3 pb fi i21 my21 z26 (kk) (z26 - my21) my21 s23 else (nI 0, s23)
  | n23 + 1, i23, s23 => bnd (sI s23 ((360 + i21)) i23 (nI 0)) fun s27 => F_MH_readHints_0_L2 pb fi i21 my21 kk n23 (i23 + 1) s27
noncomputable def F_MH_readHints_0_L1 (pb : Nat) (fi : Nat) : Nat → Nat → Sto → Int32 × Sto
  | 0, i22, s22 => bnd ((s22.1 225 23).toNatClampNeg) fun z22 => (nI 1, s22)
  | n22 + 1, i22, s22 => bnd ((s22.1 225 23).toNatClampNeg) fun z23 => if (s22.1 pb (fi + i22)) = 0 then F_MH_readHints_0_L1 pb fi n22 (i22 + 1) s22 else (nI 0, s22)
noncomputable def F_MH_readHints_0_L0 (pb : Nat) (fi : Nat) : Nat → Nat → Nat → Sto → Int32 × Sto
  | 0, i21, my21, s21 => bnd ((s21.1 225 24).toNatClampNeg) fun z21 => F_MH_readHints_0_L1 pb fi (80 - my21) my21 s21
  | n21 + 1, i21, my21, s21 => bnd ((s21.1 225 24).toNatClampNeg) fun z24 => F_MH_readHints_0_L2 pb fi i21 my21 (F_MH_readHints_0_L0 pb fi n21) 256 0 s21
noncomputable def F_MH_readHints_0 (pb : Nat) (fi : Nat) (s : Sto) : Int32 × Sto := F_MH_readHints_0_L0 pb fi 4 0 0 s
set_option maxHeartbeats 8000000 in
set_option maxRecDepth 100000 in
theorem N_MH_readHints_0 (l : Launch) (g : Gd) (sz : Nat) (T : TyN) (s : Sto) (pl : va_W) (hO : okn g T s pl) (hU : inj T) (h0 b : Nat) (pb : Nat) (fi : Nat) (k_h0 : T h0 = some 225) (k_b : T b = some pb) (n_b : nsp pb = (1, 16384, [])) (e_c0 : s.1 225 23 = nI 0) (e_c1 : s.1 225 24 = nI 4) (e_c2 : s.1 225 25 = nI 4) (e_c3 : s.1 225 26 = nI 2) (e_c4 : s.1 225 27 = nI 131072) (e_c5 : s.1 225 28 = nI 95232) (e_c6 : s.1 225 29 = nI 78) (e_c7 : s.1 225 30 = nI 32) (h1 : fi + 84 ≤ 16384)  : Met l y_MH_readHints w_MH_readHints ({ frames := 0, cells := 0, slots := 0, locals := 0 } : Room) (va_Pc [.ref h0, .ref b, .int (nI fi)] (pr (en g) g.1 vcl sz ([] ++ pl))) (va_Qi (fun (r : Int32) (u : (Int32 × Sto) × va_W) => (u.1 = F_MH_readHints_0 pb fi s ∧ r = u.1.1 ∧ frm (M_MH_readHints_0) s u.1.2 ∧ True) ∧ okn g T u.1.2 u.2) (po g.1 vcl (va_A ([] ++ pl) sz) (fun (u : (Int32 × Sto) × va_W) => [] ++ u.2)) (va_A ([] ++ pl) sz)) 0 0 (va_A ([] ++ pl) sz) := by
  refine mc_entry (cc := c_MH_readHints) (maxL := 8) (ret := (some .boolean)) (by decide) rfl (Nat.le_of_ble_eq_true rfl) ?_
  intro p e s0 m args below meth c ls F hr hlk hnm hsz hP hD hE hA hl
  obtain ⟨hx, hb, hml, hown, hts⟩ := id F
  have hK := hE.1
  generalize va_A ([] ++ pl) sz = A at hD hE hA ⊢
  have hS : va_S A s0.heap s0.heap [] := va_S.rf
  have hl : lv_has ls 8 [(0, .ref h0), (1, .ref b), (2, .int (nI fi))] := hl
  have hR : F_MH_readHints_0 pb fi s = F_MH_readHints_0 pb fi s := rfl
  have hF : frm (M_MH_readHints_0) s s := frm_rf
  have ne_172_pb : 172 ≠ pb := nsp_ne (p := 172) rfl n_b (show (5 : Nat) ≠ 1 by decide)
  have ne_225_pb : 225 ≠ pb := nsp_ne (p := 225) rfl n_b (show (5 : Nat) ≠ 1 by decide)
  refine lv_iconst (v := nI 0) hx hb dMH_readHints_0 (by decide) ?_
  refine lv_istore_n (lv' := [(3, .int (nI 0)), (0, .ref h0), (1, .ref b), (2, .int (nI fi))]) hx hb dMH_readHints_1 rfl hl (by decide) rfl (fun ls hl => ?_)
  refine lv_iconst (v := nI 0) hx hb dMH_readHints_2 (by decide) ?_
  refine lv_istore (lv' := [(4, .int (nI 0)), (3, .int (nI 0)), (0, .ref h0), (1, .ref b), (2, .int (nI fi))]) hx hb dMH_readHints_3 hl (by decide) rfl (fun ls hl => ?_)
  have lp21 : ∀ (n21 : Nat) (i21 : Nat) (my21 : Nat) (s21 : Sto) (pl : va_W) (ls : Array Slot) (H : Heap) (locs : List Loc), n21 + i21 = 4 → (my21 ≤ 80) → frm (M_MH_readHints_0) s s21 → s21.1 225 23 = nI 0 → s21.1 225 24 = nI 4 → s21.1 225 25 = nI 4 → s21.1 225 26 = nI 2 → s21.1 225 27 = nI 131072 → s21.1 225 28 = nI 95232 → s21.1 225 29 = nI 78 → s21.1 225 30 = nI 32 → F_MH_readHints_0 pb fi s = F_MH_readHints_0_L0 pb fi n21 i21 my21 s21 → lv_has ls 8 [(4, .int (nI i21)), (3, .int (nI my21)), (0, .ref h0), (1, .ref b), (2, .int (nI fi))] → okn g T s21 pl → va_P g.1 vcl ([] ++ pl) H → va_D A ([] ++ pl) → va_S A s0.heap H locs → W p l e ({ frames := 0, cells := 0, slots := 0, locals := 0 } : Room) s0 m args below meth c H locs 0 0 (MQ below (va_Qi (fun (r : Int32) (u : (Int32 × Sto) × va_W) => (u.1 = F_MH_readHints_0 pb fi s ∧ r = u.1.1 ∧ frm (M_MH_readHints_0) s u.1.2 ∧ True) ∧ okn g T u.1.2 u.2) (po g.1 vcl A (fun (u : (Int32 × Sto) × va_W) => [] ++ u.2)) A) args s0 0 0 A) (F0 m 5 ls []) := by
    intro n21
    induction n21 with
    | zero =>
      intro i21 my21 s21 pl ls H locs hm21 hi21 hF hf21 hf22 hf23 hf24 hf25 hf26 hf27 hf28 hR hl hO hP hD hS
      refine lv_iload hx hb dMH_readHints_5 (lv_at hl 0 rfl) ?_
      refine lv_aload_n hx hb dMH_readHints_7 rfl (lv_at hl 2 rfl) ?_
      refine nw_get (C := "LatticeKeysModel$Hands") (TT := T_MH) (N := 31) hx hb hts (wg_ft i_MH) hown hK hO k_h0 (kn := 225) (ci := 12) (fl := [(3, 172), (3, 181), (3, 226), (3, 291), (3, 299), (3, 308), (3, 317), (3, 326), (3, 334), (3, 342), (3, 350), (3, 359), (3, 368), (3, 369), (3, 370), (3, 371), (3, 372), (3, 373), (3, 374), (3, 375), (3, 376), (3, 377), (3, 378), (0, 0), (0, 0), (0, 0), (0, 0), (0, 0), (0, 0), (0, 0), (0, 0)]) rfl hP rfl 24 (by decide) (hts _ (wg_t kw_1456)) (fun _ h9 => h9) (cd := (0, 0)) rfl dMH_readHints_8 (fun v21 hv21 => ?_)
      obtain rfl := (show v21 = .int (s21.1 225 24) from hv21)
      obtain ⟨z21, ez21, hz21, hz22⟩ := cl_of (b := 2147483648) hf22 (by omega) (by decide)
      replace hR := bnd_step hR ez21
      refine mi_as hz21 ?_
      subst hz22
      refine mi_ge (tgt := 157) hx hb dMH_readHints_11 (by decide) (by omega) (by omega) (fun h21 => ?_) (fun h21 => absurd h21 (by omega))
      refine lv_iload_n hx hb dMH_readHints_157 rfl (lv_at hl 1 rfl) ?_
      refine lv_istore (lv' := [(4, .int (nI my21)), (3, .int (nI my21)), (0, .ref h0), (1, .ref b), (2, .int (nI fi))]) hx hb dMH_readHints_158 hl (by decide) rfl (fun ls hl => ?_)
      have lp22 : ∀ (n22 : Nat) (i22 : Nat) (s22 : Sto) (pl : va_W) (ls : Array Slot) (H : Heap) (locs : List Loc), n22 + i22 = 80 → (my21 ≤ i22) → frm (M_MH_readHints_0) s s22 → s22.1 225 23 = nI 0 → s22.1 225 24 = nI 4 → s22.1 225 25 = nI 4 → s22.1 225 26 = nI 2 → s22.1 225 27 = nI 131072 → s22.1 225 28 = nI 95232 → s22.1 225 29 = nI 78 → s22.1 225 30 = nI 32 → F_MH_readHints_0 pb fi s = F_MH_readHints_0_L1 pb fi n22 i22 s22 → lv_has ls 8 [(4, .int (nI i22)), (0, .ref h0), (1, .ref b), (2, .int (nI fi))] → okn g T s22 pl → va_P g.1 vcl ([] ++ pl) H → va_D A ([] ++ pl) → va_S A s0.heap H locs → W p l e ({ frames := 0, cells := 0, slots := 0, locals := 0 } : Room) s0 m args below meth c H locs 0 0 (MQ below (va_Qi (fun (r : Int32) (u : (Int32 × Sto) × va_W) => (u.1 = F_MH_readHints_0 pb fi s ∧ r = u.1.1 ∧ frm (M_MH_readHints_0) s u.1.2 ∧ True) ∧ okn g T u.1.2 u.2) (po g.1 vcl A (fun (u : (Int32 × Sto) × va_W) => [] ++ u.2)) A) args s0 0 0 A) (F0 m 160 ls []) := by
        intro n22
        induction n22 with
        | zero =>
          intro i22 s22 pl ls H locs hm22 hi22 hF hf29 hf30 hf31 hf32 hf33 hf34 hf35 hf36 hR hl hO hP hD hS
          refine lv_iload hx hb dMH_readHints_160 (lv_at hl 0 rfl) ?_
          refine va_gets hx hb (hE.2.1 27 _ rfl).1 hS hown (hts _ (wg_t kw_1908)) (fun _ h9 => h9) dMH_readHints_162 ?_
          refine lv_aload_n hx hb dMH_readHints_165 rfl (lv_at hl 1 rfl) ?_
          refine nw_get (C := "LatticeKeysModel$Hands") (TT := T_MH) (N := 31) hx hb hts (wg_ft i_MH) hown hK hO k_h0 (kn := 225) (ci := 12) (fl := [(3, 172), (3, 181), (3, 226), (3, 291), (3, 299), (3, 308), (3, 317), (3, 326), (3, 334), (3, 342), (3, 350), (3, 359), (3, 368), (3, 369), (3, 370), (3, 371), (3, 372), (3, 373), (3, 374), (3, 375), (3, 376), (3, 377), (3, 378), (0, 0), (0, 0), (0, 0), (0, 0), (0, 0), (0, 0), (0, 0), (0, 0)]) rfl hP rfl 23 (by decide) (hts _ (wg_t kw_1455)) (fun _ h9 => h9) (cd := (0, 0)) rfl dMH_readHints_166 (fun v22 hv22 => ?_)
          obtain rfl := (show v22 = .int (s22.1 225 23) from hv22)
          obtain ⟨z22, ez22, hz23, hz24⟩ := cl_of (b := 2147483648) hf29 (by omega) (by decide)
          replace hR := bnd_step hR ez22
          refine mi_as hz23 ?_
          subst hz24
          refine va_ti (v := .int (nI 80)) hx hb (hE.2.1 27 _ rfl).2 hS (vp_in_nI (by decide) (by decide)) (by decide +kernel) dMH_readHints_169 ?_
          refine mi_ge (tgt := 190) hx hb dMH_readHints_170 (by decide) (by omega) (by omega) (fun h22 => ?_) (fun h22 => absurd h22 (by omega))
          refine lv_iconst (v := nI 1) hx hb dMH_readHints_190 (by decide) ?_
          exact mp_zret hx hb hr hlk rfl hP hD hS ((nI 1, s22), pl) ⟨⟨hR.symm, rfl, hF, trivial⟩, hO⟩ [] rfl rfl rfl (by omega) (by omega) dMH_readHints_191
        | succ n22 ih22 =>
          intro i22 s22 pl ls H locs hm22 hi22 hF hf37 hf38 hf39 hf40 hf41 hf42 hf43 hf44 hR hl hO hP hD hS
          refine lv_iload hx hb dMH_readHints_160 (lv_at hl 0 rfl) ?_
          refine va_gets hx hb (hE.2.1 27 _ rfl).1 hS hown (hts _ (wg_t kw_1908)) (fun _ h9 => h9) dMH_readHints_162 ?_
          refine lv_aload_n hx hb dMH_readHints_165 rfl (lv_at hl 1 rfl) ?_
          refine nw_get (C := "LatticeKeysModel$Hands") (TT := T_MH) (N := 31) hx hb hts (wg_ft i_MH) hown hK hO k_h0 (kn := 225) (ci := 12) (fl := [(3, 172), (3, 181), (3, 226), (3, 291), (3, 299), (3, 308), (3, 317), (3, 326), (3, 334), (3, 342), (3, 350), (3, 359), (3, 368), (3, 369), (3, 370), (3, 371), (3, 372), (3, 373), (3, 374), (3, 375), (3, 376), (3, 377), (3, 378), (0, 0), (0, 0), (0, 0), (0, 0), (0, 0), (0, 0), (0, 0), (0, 0)]) rfl hP rfl 23 (by decide) (hts _ (wg_t kw_1455)) (fun _ h9 => h9) (cd := (0, 0)) rfl dMH_readHints_166 (fun v23 hv23 => ?_)
          obtain rfl := (show v23 = .int (s22.1 225 23) from hv23)
          obtain ⟨z23, ez23, hz25, hz26⟩ := cl_of (b := 2147483648) hf37 (by omega) (by decide)
          replace hR := bnd_step hR ez23
          refine mi_as hz25 ?_
          subst hz26
          refine va_ti (v := .int (nI 80)) hx hb (hE.2.1 27 _ rfl).2 hS (vp_in_nI (by decide) (by decide)) (by decide +kernel) dMH_readHints_169 ?_
          refine mi_ge (tgt := 190) hx hb dMH_readHints_170 (by decide) (by omega) (by omega) (fun h23 => absurd h23 (by omega)) (fun h23 => ?_)
          refine lv_aload_n hx hb dMH_readHints_173 rfl (lv_at hl 2 rfl) ?_
          refine lv_iload_n hx hb dMH_readHints_174 rfl (lv_at hl 3 rfl) ?_
          refine lv_iload hx hb dMH_readHints_175 (lv_at hl 0 rfl) ?_
          refine mi_iadd hx hb dMH_readHints_177 ?_
          refine nw_bald hx hb hK hO k_b (k := pb) n_b hP (by omega) (by omega) dMH_readHints_178 ?_
          refine lv_if_eq (tgt := 184) hx hb dMH_readHints_179 (by decide) (fun h24 => ?_) (fun h24 => ?_)
          · replace hR := hR.trans (if_pos h24)
            refine mi_iinc (k := 0) (x := i22) (d := 1) (y := i22 + 1) (lv' := [(4, .int (nI (i22 + 1))), (0, .ref h0), (1, .ref b), (2, .int (nI fi))]) hx hb dMH_readHints_184 hl rfl (by decide) rfl (by decide) rfl (fun ls hl => ?_)
            refine lv_goto (tgt := 160) hx hb dMH_readHints_187 (by decide) ?_
            exact ih22 (i22 + 1) s22 pl ls H locs (by omega) (by omega) hF hf37 hf38 hf39 hf40 hf41 hf42 hf43 hf44 hR (lv_sub hl [0, 1, 2, 3] rfl) hO hP hD hS
          · replace hR := hR.trans (if_neg h24)
            refine lv_iconst (v := nI 0) hx hb dMH_readHints_182 (by decide) ?_
            exact mp_zret hx hb hr hlk rfl hP hD hS ((nI 0, s22), pl) ⟨⟨hR.symm, rfl, hF, trivial⟩, hO⟩ [] rfl rfl rfl (by omega) (by omega) dMH_readHints_183
      exact lp22 (80 - my21) my21 s21 pl ls _ _ (by omega) (by omega) hF hf21 hf22 hf23 hf24 hf25 hf26 hf27 hf28 hR (lv_sub hl [0, 2, 3, 4] rfl) hO hP hD hS
    | succ n21 ih21 =>
      intro i21 my21 s21 pl ls H locs hm21 hi21 hF hf45 hf46 hf47 hf48 hf49 hf50 hf51 hf52 hR hl hO hP hD hS
      refine lv_iload hx hb dMH_readHints_5 (lv_at hl 0 rfl) ?_
      refine lv_aload_n hx hb dMH_readHints_7 rfl (lv_at hl 2 rfl) ?_
      refine nw_get (C := "LatticeKeysModel$Hands") (TT := T_MH) (N := 31) hx hb hts (wg_ft i_MH) hown hK hO k_h0 (kn := 225) (ci := 12) (fl := [(3, 172), (3, 181), (3, 226), (3, 291), (3, 299), (3, 308), (3, 317), (3, 326), (3, 334), (3, 342), (3, 350), (3, 359), (3, 368), (3, 369), (3, 370), (3, 371), (3, 372), (3, 373), (3, 374), (3, 375), (3, 376), (3, 377), (3, 378), (0, 0), (0, 0), (0, 0), (0, 0), (0, 0), (0, 0), (0, 0), (0, 0)]) rfl hP rfl 24 (by decide) (hts _ (wg_t kw_1456)) (fun _ h9 => h9) (cd := (0, 0)) rfl dMH_readHints_8 (fun v24 hv24 => ?_)
      obtain rfl := (show v24 = .int (s21.1 225 24) from hv24)
      obtain ⟨z24, ez24, hz27, hz28⟩ := cl_of (b := 2147483648) hf46 (by omega) (by decide)
      replace hR := bnd_step hR ez24
      refine mi_as hz27 ?_
      subst hz28
      refine mi_ge (tgt := 157) hx hb dMH_readHints_11 (by decide) (by omega) (by omega) (fun h25 => absurd h25 (by omega)) (fun h25 => ?_)
      refine lv_iconst (v := nI 0) hx hb dMH_readHints_14 (by decide) ?_
      refine lv_istore (lv' := [(5, .int (nI 0)), (4, .int (nI i21)), (3, .int (nI my21)), (0, .ref h0), (1, .ref b), (2, .int (nI fi))]) hx hb dMH_readHints_15 hl (by decide) rfl (fun ls hl => ?_)
      have lp23 : ∀ (n23 : Nat) (i23 : Nat) (s23 : Sto) (pl : va_W) (ls : Array Slot) (H : Heap) (locs : List Loc), n23 + i23 = 256 → frm (M_MH_readHints_0) s s23 → s23.1 225 23 = nI 0 → s23.1 225 24 = nI 4 → s23.1 225 25 = nI 4 → s23.1 225 26 = nI 2 → s23.1 225 27 = nI 131072 → s23.1 225 28 = nI 95232 → s23.1 225 29 = nI 78 → s23.1 225 30 = nI 32 → F_MH_readHints_0 pb fi s = F_MH_readHints_0_L2 pb fi i21 my21 (F_MH_readHints_0_L0 pb fi n21) n23 i23 s23 → lv_has ls 8 [(5, .int (nI i23)), (4, .int (nI i21)), (3, .int (nI my21)), (0, .ref h0), (1, .ref b), (2, .int (nI fi))] → okn g T s23 pl → va_P g.1 vcl ([] ++ pl) H → va_D A ([] ++ pl) → va_S A s0.heap H locs → W p l e ({ frames := 0, cells := 0, slots := 0, locals := 0 } : Room) s0 m args below meth c H locs 0 0 (MQ below (va_Qi (fun (r : Int32) (u : (Int32 × Sto) × va_W) => (u.1 = F_MH_readHints_0 pb fi s ∧ r = u.1.1 ∧ frm (M_MH_readHints_0) s u.1.2 ∧ True) ∧ okn g T u.1.2 u.2) (po g.1 vcl A (fun (u : (Int32 × Sto) × va_W) => [] ++ u.2)) A) args s0 0 0 A) (F0 m 17 ls []) := by
        intro n23
        induction n23 with
        | zero =>
          intro i23 s23 pl ls H locs hm23 hF hf53 hf54 hf55 hf56 hf57 hf58 hf59 hf60 hR hl hO hP hD hS
          refine lv_iload hx hb dMH_readHints_17 (lv_at hl 0 rfl) ?_
          refine lv_sipush (v := nI 256) hx hb dMH_readHints_19 (by decide) ?_
          refine mi_ge (tgt := 42) hx hb dMH_readHints_22 (by decide) (by omega) (by omega) (fun h26 => ?_) (fun h26 => absurd h26 (by omega))
          refine lv_aload_n hx hb dMH_readHints_42 rfl (lv_at hl 4 rfl) ?_
          refine lv_iload_n hx hb dMH_readHints_43 rfl (lv_at hl 5 rfl) ?_
          refine va_gets hx hb (hE.2.1 27 _ rfl).1 hS hown (hts _ (wg_t kw_1908)) (fun _ h9 => h9) dMH_readHints_44 ?_
          refine lv_aload_n hx hb dMH_readHints_47 rfl (lv_at hl 3 rfl) ?_
          refine nw_get (C := "LatticeKeysModel$Hands") (TT := T_MH) (N := 31) hx hb hts (wg_ft i_MH) hown hK hO k_h0 (kn := 225) (ci := 12) (fl := [(3, 172), (3, 181), (3, 226), (3, 291), (3, 299), (3, 308), (3, 317), (3, 326), (3, 334), (3, 342), (3, 350), (3, 359), (3, 368), (3, 369), (3, 370), (3, 371), (3, 372), (3, 373), (3, 374), (3, 375), (3, 376), (3, 377), (3, 378), (0, 0), (0, 0), (0, 0), (0, 0), (0, 0), (0, 0), (0, 0), (0, 0)]) rfl hP rfl 23 (by decide) (hts _ (wg_t kw_1455)) (fun _ h9 => h9) (cd := (0, 0)) rfl dMH_readHints_48 (fun v25 hv25 => ?_)
          obtain rfl := (show v25 = .int (s23.1 225 23) from hv25)
          obtain ⟨z25, ez25, hz29, hz30⟩ := cl_of (b := 2147483648) hf53 (by omega) (by decide)
          replace hR := bnd_step hR ez25
          refine mi_as hz29 ?_
          subst hz30
          refine va_ti (v := .int (nI 80)) hx hb (hE.2.1 27 _ rfl).2 hS (vp_in_nI (by decide) (by decide)) (by decide +kernel) dMH_readHints_51 ?_
          refine mi_iadd hx hb dMH_readHints_52 ?_
          refine lv_iload hx hb dMH_readHints_53 (lv_at hl 1 rfl) ?_
          refine mi_iadd hx hb dMH_readHints_55 ?_
          refine nw_bald hx hb hK hO k_b (k := pb) n_b hP (by omega) (by omega) dMH_readHints_56 ?_
          refine lv_sipush (v := nI 255) hx hb dMH_readHints_57 (by decide) ?_
          refine mi_iandT hx hb 8 dMH_readHints_60 (by decide) (by decide) (fun z26 ez26 hz31 => ?_)
          have hz31 : z26 < 256 := hz31
          replace hR := bnd_step hR ez26
          refine lv_istore (lv' := [(5, .int (nI z26)), (4, .int (nI i21)), (3, .int (nI my21)), (0, .ref h0), (1, .ref b), (2, .int (nI fi))]) hx hb dMH_readHints_61 hl (by decide) rfl (fun ls hl => ?_)
          refine lv_iload hx hb dMH_readHints_63 (lv_at hl 0 rfl) ?_
          refine lv_iload_n hx hb dMH_readHints_65 rfl (lv_at hl 2 rfl) ?_
          refine mi_lt (tgt := 82) hx hb dMH_readHints_66 (by decide) (by omega) (by omega) (fun h27 => ?_) (fun h27 => ?_)
          · replace hR := hR.trans (if_pos h27)
            refine lv_iconst (v := nI 0) hx hb dMH_readHints_82 (by decide) ?_
            exact mp_zret hx hb hr hlk rfl hP hD hS ((nI 0, s23), pl) ⟨⟨hR.symm, rfl, hF, trivial⟩, hO⟩ [] rfl rfl rfl (by omega) (by omega) dMH_readHints_83
          · replace hR := hR.trans (if_neg (Nat.not_lt.mpr h27))
            refine lv_iload hx hb dMH_readHints_69 (lv_at hl 0 rfl) ?_
            refine va_gets hx hb (hE.2.1 27 _ rfl).1 hS hown (hts _ (wg_t kw_1908)) (fun _ h9 => h9) dMH_readHints_71 ?_
            refine lv_aload_n hx hb dMH_readHints_74 rfl (lv_at hl 3 rfl) ?_
            refine nw_get (C := "LatticeKeysModel$Hands") (TT := T_MH) (N := 31) hx hb hts (wg_ft i_MH) hown hK hO k_h0 (kn := 225) (ci := 12) (fl := [(3, 172), (3, 181), (3, 226), (3, 291), (3, 299), (3, 308), (3, 317), (3, 326), (3, 334), (3, 342), (3, 350), (3, 359), (3, 368), (3, 369), (3, 370), (3, 371), (3, 372), (3, 373), (3, 374), (3, 375), (3, 376), (3, 377), (3, 378), (0, 0), (0, 0), (0, 0), (0, 0), (0, 0), (0, 0), (0, 0), (0, 0)]) rfl hP rfl 23 (by decide) (hts _ (wg_t kw_1455)) (fun _ h9 => h9) (cd := (0, 0)) rfl dMH_readHints_75 (fun v26 hv26 => ?_)
            obtain rfl := (show v26 = .int (s23.1 225 23) from hv26)
            obtain ⟨z27, ez27, hz32, hz33⟩ := cl_of (b := 2147483648) hf53 (by omega) (by decide)
            replace hR := bnd_step hR ez27
            refine mi_as hz32 ?_
            subst hz33
            refine va_ti (v := .int (nI 80)) hx hb (hE.2.1 27 _ rfl).2 hS (vp_in_nI (by decide) (by decide)) (by decide +kernel) dMH_readHints_78 ?_
            refine mi_le (tgt := 84) hx hb dMH_readHints_79 (by decide) (by omega) (by omega) (fun h28 => ?_) (fun h28 => ?_)
            · replace hR := hR.trans (if_pos h28)
              refine lv_iload_n hx hb dMH_readHints_84 rfl (lv_at hl 2 rfl) ?_
              refine lv_istore (lv' := [(6, .int (nI my21)), (5, .int (nI z26)), (4, .int (nI i21)), (3, .int (nI my21)), (0, .ref h0), (1, .ref b), (2, .int (nI fi))]) hx hb dMH_readHints_85 hl (by decide) rfl (fun ls hl => ?_)
              have lp24 : ∀ (n24 : Nat) (ii21 : Nat) (s24 : Sto) (pl : va_W) (ls : Array Slot) (H : Heap) (locs : List Loc), n24 = z26 - ii21 → (my21 ≤ ii21) → (ii21 ≤ 80) → frm (M_MH_readHints_0) s s24 → s24.1 225 23 = nI 0 → s24.1 225 24 = nI 4 → s24.1 225 25 = nI 4 → s24.1 225 26 = nI 2 → s24.1 225 27 = nI 131072 → s24.1 225 28 = nI 95232 → s24.1 225 29 = nI 78 → s24.1 225 30 = nI 32 → F_MH_readHints_0 pb fi s = F_MH_readHints_0_L3 pb fi i21 my21 z26 (F_MH_readHints_0_L0 pb fi n21) n24 ii21 s24 → lv_has ls 8 [(6, .int (nI ii21)), (5, .int (nI z26)), (4, .int (nI i21)), (3, .int (nI my21)), (0, .ref h0), (1, .ref b), (2, .int (nI fi))] → okn g T s24 pl → va_P g.1 vcl ([] ++ pl) H → va_D A ([] ++ pl) → va_S A s0.heap H locs → W p l e ({ frames := 0, cells := 0, slots := 0, locals := 0 } : Room) s0 m args below meth c H locs 0 0 (MQ below (va_Qi (fun (r : Int32) (u : (Int32 × Sto) × va_W) => (u.1 = F_MH_readHints_0 pb fi s ∧ r = u.1.1 ∧ frm (M_MH_readHints_0) s u.1.2 ∧ True) ∧ okn g T u.1.2 u.2) (po g.1 vcl A (fun (u : (Int32 × Sto) × va_W) => [] ++ u.2)) A) args s0 0 0 A) (F0 m 87 ls []) := by
                intro n24
                induction n24 with
                | zero =>
                  intro ii21 s24 pl ls H locs hm24 hi23 hi24 hF hf61 hf62 hf63 hf64 hf65 hf66 hf67 hf68 hR hl hO hP hD hS
                  refine lv_iload hx hb dMH_readHints_87 (lv_at hl 0 rfl) ?_
                  refine lv_iload hx hb dMH_readHints_89 (lv_at hl 1 rfl) ?_
                  refine mi_ge (tgt := 148) hx hb dMH_readHints_91 (by decide) (by omega) (by omega) (fun h29 => ?_) (fun h29 => absurd h29 (by omega))
                  refine lv_iload hx hb dMH_readHints_148 (lv_at hl 1 rfl) ?_
                  refine lv_istore_n (lv' := [(3, .int (nI z26)), (6, .int (nI ii21)), (5, .int (nI z26)), (4, .int (nI i21)), (0, .ref h0), (1, .ref b), (2, .int (nI fi))]) hx hb dMH_readHints_150 rfl hl (by decide) rfl (fun ls hl => ?_)
                  refine mi_iinc (k := 3) (x := i21) (d := 1) (y := i21 + 1) (lv' := [(4, .int (nI (i21 + 1))), (3, .int (nI z26)), (6, .int (nI ii21)), (5, .int (nI z26)), (0, .ref h0), (1, .ref b), (2, .int (nI fi))]) hx hb dMH_readHints_151 hl rfl (by decide) rfl (by decide) rfl (fun ls hl => ?_)
                  refine lv_goto (tgt := 5) hx hb dMH_readHints_154 (by decide) ?_
                  exact ih21 (i21 + 1) z26 s24 pl ls H locs (by omega) (by omega) hF hf61 hf62 hf63 hf64 hf65 hf66 hf67 hf68 hR (lv_sub hl [0, 1, 4, 5, 6] rfl) hO hP hD hS
                | succ n24 ih24 =>
                  intro ii21 s24 pl ls H locs hm24 hi23 hi24 hF hf69 hf70 hf71 hf72 hf73 hf74 hf75 hf76 hR hl hO hP hD hS
                  refine lv_iload hx hb dMH_readHints_87 (lv_at hl 0 rfl) ?_
                  refine lv_iload hx hb dMH_readHints_89 (lv_at hl 1 rfl) ?_
                  refine mi_ge (tgt := 148) hx hb dMH_readHints_91 (by decide) (by omega) (by omega) (fun h30 => absurd h30 (by omega)) (fun h30 => ?_)
                  refine lv_aload_n hx hb dMH_readHints_94 rfl (lv_at hl 5 rfl) ?_
                  refine lv_iload_n hx hb dMH_readHints_95 rfl (lv_at hl 6 rfl) ?_
                  refine lv_iload hx hb dMH_readHints_96 (lv_at hl 0 rfl) ?_
                  refine mi_iadd hx hb dMH_readHints_98 ?_
                  refine nw_bald hx hb hK hO k_b (k := pb) n_b hP (by omega) (by omega) dMH_readHints_99 ?_
                  refine lv_sipush (v := nI 255) hx hb dMH_readHints_100 (by decide) ?_
                  refine mi_iandT hx hb 8 dMH_readHints_103 (by decide) (by decide) (fun z28 ez28 hz34 => ?_)
                  have hz34 : z28 < 256 := hz34
                  replace hR := bnd_step hR ez28
                  refine lv_istore (lv' := [(7, .int (nI z28)), (6, .int (nI ii21)), (5, .int (nI z26)), (4, .int (nI i21)), (3, .int (nI my21)), (0, .ref h0), (1, .ref b), (2, .int (nI fi))]) hx hb dMH_readHints_104 hl (by decide) rfl (fun ls hl => ?_)
                  refine lv_iload hx hb dMH_readHints_106 (lv_at hl 1 rfl) ?_
                  refine lv_iload_n hx hb dMH_readHints_108 rfl (lv_at hl 4 rfl) ?_
                  refine mi_le (tgt := 131) hx hb dMH_readHints_109 (by decide) (by omega) (by omega) (fun h31 => ?_) (fun h31 => ?_)
                  · replace hR := hR.trans (if_pos h31)
                    refine lv_aload_n hx hb dMH_readHints_131 rfl (lv_at hl 5 rfl) ?_
                    refine nw_get (C := "LatticeKeysModel$Hands") (TT := T_MH) (N := 31) hx hb hts (wg_ft i_MH) hown hK hO k_h0 (kn := 225) (ci := 12) (fl := [(3, 172), (3, 181), (3, 226), (3, 291), (3, 299), (3, 308), (3, 317), (3, 326), (3, 334), (3, 342), (3, 350), (3, 359), (3, 368), (3, 369), (3, 370), (3, 371), (3, 372), (3, 373), (3, 374), (3, 375), (3, 376), (3, 377), (3, 378), (0, 0), (0, 0), (0, 0), (0, 0), (0, 0), (0, 0), (0, 0), (0, 0)]) rfl hP rfl 11 (by decide) (hts _ (wg_t kw_1443)) (fun _ h9 => h9) (cd := (3, 359)) rfl dMH_readHints_132 (fun v27 hv27 => ?_)
                    obtain ⟨r21, rfl, kr21⟩ := (show ∃ r : Nat, v27 = .ref r ∧ T r = some 359 from hv27)
                    refine lv_iload hx hb dMH_readHints_135 (lv_at hl 3 rfl) ?_
                    refine nw_aald3 hx hb hK hO kr21 (k := 359) (b := 360) rfl hP (by omega) (by omega) dMH_readHints_137 (fun r22 kr22 => ?_)
                    have hn21 : nsp (360 + i21) = (0, 256, []) := rows_ok 360 8 (by decide) _ (by omega)
                    refine lv_iload hx hb dMH_readHints_138 (lv_at hl 0 rfl) ?_
                    refine lv_iconst (v := nI 1) hx hb dMH_readHints_140 (by decide) ?_
                    refine nw_iast hx hb hK hO hU kr22 (k := (360 + i21)) hn21 hP hD hS (by omega) (by omega) dMH_readHints_141 (fun s25 pl H locs es21 hO hP hD hS => ?_)
                    replace hR := bnd_step hR es21
                    have hF := frm_sI hF es21 (by unfold M_MH_readHints_0; omega)
                    have hf77 : s25.1 225 23 = nI 0 := fc_ne hf69 es21 (by omega)
                    have hf78 : s25.1 225 24 = nI 4 := fc_ne hf70 es21 (by omega)
                    have hf79 : s25.1 225 25 = nI 4 := fc_ne hf71 es21 (by omega)
                    have hf80 : s25.1 225 26 = nI 2 := fc_ne hf72 es21 (by omega)
                    have hf81 : s25.1 225 27 = nI 131072 := fc_ne hf73 es21 (by omega)
                    have hf82 : s25.1 225 28 = nI 95232 := fc_ne hf74 es21 (by omega)
                    have hf83 : s25.1 225 29 = nI 78 := fc_ne hf75 es21 (by omega)
                    have hf84 : s25.1 225 30 = nI 32 := fc_ne hf76 es21 (by omega)
                    refine mi_iinc (k := 1) (x := ii21) (d := 1) (y := ii21 + 1) (lv' := [(6, .int (nI (ii21 + 1))), (7, .int (nI z28)), (5, .int (nI z26)), (4, .int (nI i21)), (3, .int (nI my21)), (0, .ref h0), (1, .ref b), (2, .int (nI fi))]) hx hb dMH_readHints_142 hl rfl (by decide) rfl (by decide) rfl (fun ls hl => ?_)
                    refine lv_goto (tgt := 87) hx hb dMH_readHints_145 (by decide) ?_
                    exact ih24 (ii21 + 1) s25 pl ls H locs (by omega) (by omega) (by omega) hF hf77 hf78 hf79 hf80 hf81 hf82 hf83 hf84 hR (lv_sub hl [0, 2, 3, 4, 5, 6, 7] rfl) hO hP hD hS
                  · replace hR := hR.trans (if_neg (Nat.not_le.mpr h31))
                    refine lv_aload_n hx hb dMH_readHints_112 rfl (lv_at hl 6 rfl) ?_
                    refine lv_iload_n hx hb dMH_readHints_113 rfl (lv_at hl 7 rfl) ?_
                    refine lv_iload hx hb dMH_readHints_114 (lv_at hl 1 rfl) ?_
                    refine mi_iadd hx hb dMH_readHints_116 ?_
                    refine lv_iconst (v := nI 1) hx hb dMH_readHints_117 (by decide) ?_
                    refine mi_isub hx hb dMH_readHints_118 (by omega) ?_
                    refine nw_bald hx hb hK hO k_b (k := pb) n_b hP (by omega) (by omega) dMH_readHints_119 ?_
                    refine lv_sipush (v := nI 255) hx hb dMH_readHints_120 (by decide) ?_
                    refine mi_iandT hx hb 8 dMH_readHints_123 (by decide) (by decide) (fun z29 ez29 hz35 => ?_)
                    have hz35 : z29 < 256 := hz35
                    replace hR := bnd_step hR ez29
                    refine lv_iload hx hb dMH_readHints_124 (lv_at hl 0 rfl) ?_
                    refine mi_lt (tgt := 131) hx hb dMH_readHints_126 (by decide) (by omega) (by omega) (fun h32 => ?_) (fun h32 => ?_)
                    · replace hR := hR.trans (if_pos h32)
                      refine lv_aload_n hx hb dMH_readHints_131 rfl (lv_at hl 5 rfl) ?_
                      refine nw_get (C := "LatticeKeysModel$Hands") (TT := T_MH) (N := 31) hx hb hts (wg_ft i_MH) hown hK hO k_h0 (kn := 225) (ci := 12) (fl := [(3, 172), (3, 181), (3, 226), (3, 291), (3, 299), (3, 308), (3, 317), (3, 326), (3, 334), (3, 342), (3, 350), (3, 359), (3, 368), (3, 369), (3, 370), (3, 371), (3, 372), (3, 373), (3, 374), (3, 375), (3, 376), (3, 377), (3, 378), (0, 0), (0, 0), (0, 0), (0, 0), (0, 0), (0, 0), (0, 0), (0, 0)]) rfl hP rfl 11 (by decide) (hts _ (wg_t kw_1443)) (fun _ h9 => h9) (cd := (3, 359)) rfl dMH_readHints_132 (fun v28 hv28 => ?_)
                      obtain ⟨r23, rfl, kr23⟩ := (show ∃ r : Nat, v28 = .ref r ∧ T r = some 359 from hv28)
                      refine lv_iload hx hb dMH_readHints_135 (lv_at hl 3 rfl) ?_
                      refine nw_aald3 hx hb hK hO kr23 (k := 359) (b := 360) rfl hP (by omega) (by omega) dMH_readHints_137 (fun r24 kr24 => ?_)
                      have hn22 : nsp (360 + i21) = (0, 256, []) := rows_ok 360 8 (by decide) _ (by omega)
                      refine lv_iload hx hb dMH_readHints_138 (lv_at hl 0 rfl) ?_
                      refine lv_iconst (v := nI 1) hx hb dMH_readHints_140 (by decide) ?_
                      refine nw_iast hx hb hK hO hU kr24 (k := (360 + i21)) hn22 hP hD hS (by omega) (by omega) dMH_readHints_141 (fun s26 pl H locs es22 hO hP hD hS => ?_)
                      replace hR := bnd_step hR es22
                      have hF := frm_sI hF es22 (by unfold M_MH_readHints_0; omega)
                      have hf85 : s26.1 225 23 = nI 0 := fc_ne hf69 es22 (by omega)
                      have hf86 : s26.1 225 24 = nI 4 := fc_ne hf70 es22 (by omega)
                      have hf87 : s26.1 225 25 = nI 4 := fc_ne hf71 es22 (by omega)
                      have hf88 : s26.1 225 26 = nI 2 := fc_ne hf72 es22 (by omega)
                      have hf89 : s26.1 225 27 = nI 131072 := fc_ne hf73 es22 (by omega)
                      have hf90 : s26.1 225 28 = nI 95232 := fc_ne hf74 es22 (by omega)
                      have hf91 : s26.1 225 29 = nI 78 := fc_ne hf75 es22 (by omega)
                      have hf92 : s26.1 225 30 = nI 32 := fc_ne hf76 es22 (by omega)
                      refine mi_iinc (k := 1) (x := ii21) (d := 1) (y := ii21 + 1) (lv' := [(6, .int (nI (ii21 + 1))), (7, .int (nI z28)), (5, .int (nI z26)), (4, .int (nI i21)), (3, .int (nI my21)), (0, .ref h0), (1, .ref b), (2, .int (nI fi))]) hx hb dMH_readHints_142 hl rfl (by decide) rfl (by decide) rfl (fun ls hl => ?_)
                      refine lv_goto (tgt := 87) hx hb dMH_readHints_145 (by decide) ?_
                      exact ih24 (ii21 + 1) s26 pl ls H locs (by omega) (by omega) (by omega) hF hf85 hf86 hf87 hf88 hf89 hf90 hf91 hf92 hR (lv_sub hl [0, 2, 3, 4, 5, 6, 7] rfl) hO hP hD hS
                    · replace hR := hR.trans (if_neg (Nat.not_lt.mpr h32))
                      refine lv_iconst (v := nI 0) hx hb dMH_readHints_129 (by decide) ?_
                      exact mp_zret hx hb hr hlk rfl hP hD hS ((nI 0, s24), pl) ⟨⟨hR.symm, rfl, hF, trivial⟩, hO⟩ [] rfl rfl rfl (by omega) (by omega) dMH_readHints_130
              exact lp24 (z26 - my21) my21 s23 pl ls _ _ (by omega) (by omega) (by omega) hF hf53 hf54 hf55 hf56 hf57 hf58 hf59 hf60 hR (lv_sub hl [0, 1, 2, 3, 4, 5, 6] rfl) hO hP hD hS
            · replace hR := hR.trans (if_neg (Nat.not_le.mpr h28))
              refine lv_iconst (v := nI 0) hx hb dMH_readHints_82 (by decide) ?_
              exact mp_zret hx hb hr hlk rfl hP hD hS ((nI 0, s23), pl) ⟨⟨hR.symm, rfl, hF, trivial⟩, hO⟩ [] rfl rfl rfl (by omega) (by omega) dMH_readHints_83
        | succ n23 ih23 =>
          intro i23 s23 pl ls H locs hm23 hF hf93 hf94 hf95 hf96 hf97 hf98 hf99 hf100 hR hl hO hP hD hS
          refine lv_iload hx hb dMH_readHints_17 (lv_at hl 0 rfl) ?_
          refine lv_sipush (v := nI 256) hx hb dMH_readHints_19 (by decide) ?_
          refine mi_ge (tgt := 42) hx hb dMH_readHints_22 (by decide) (by omega) (by omega) (fun h33 => absurd h33 (by omega)) (fun h33 => ?_)
          refine lv_aload_n hx hb dMH_readHints_25 rfl (lv_at hl 3 rfl) ?_
          refine nw_get (C := "LatticeKeysModel$Hands") (TT := T_MH) (N := 31) hx hb hts (wg_ft i_MH) hown hK hO k_h0 (kn := 225) (ci := 12) (fl := [(3, 172), (3, 181), (3, 226), (3, 291), (3, 299), (3, 308), (3, 317), (3, 326), (3, 334), (3, 342), (3, 350), (3, 359), (3, 368), (3, 369), (3, 370), (3, 371), (3, 372), (3, 373), (3, 374), (3, 375), (3, 376), (3, 377), (3, 378), (0, 0), (0, 0), (0, 0), (0, 0), (0, 0), (0, 0), (0, 0), (0, 0)]) rfl hP rfl 11 (by decide) (hts _ (wg_t kw_1443)) (fun _ h9 => h9) (cd := (3, 359)) rfl dMH_readHints_26 (fun v29 hv29 => ?_)
          obtain ⟨r25, rfl, kr25⟩ := (show ∃ r : Nat, v29 = .ref r ∧ T r = some 359 from hv29)
          refine lv_iload hx hb dMH_readHints_29 (lv_at hl 1 rfl) ?_
          refine nw_aald3 hx hb hK hO kr25 (k := 359) (b := 360) rfl hP (by omega) (by omega) dMH_readHints_31 (fun r26 kr26 => ?_)
          have hn23 : nsp (360 + i21) = (0, 256, []) := rows_ok 360 8 (by decide) _ (by omega)
          refine lv_iload hx hb dMH_readHints_32 (lv_at hl 0 rfl) ?_
          refine lv_iconst (v := nI 0) hx hb dMH_readHints_34 (by decide) ?_
          refine nw_iast hx hb hK hO hU kr26 (k := (360 + i21)) hn23 hP hD hS (by omega) (by omega) dMH_readHints_35 (fun s27 pl H locs es23 hO hP hD hS => ?_)
          replace hR := bnd_step hR es23
          have hF := frm_sI hF es23 (by unfold M_MH_readHints_0; omega)
          have hf101 : s27.1 225 23 = nI 0 := fc_ne hf93 es23 (by omega)
          have hf102 : s27.1 225 24 = nI 4 := fc_ne hf94 es23 (by omega)
          have hf103 : s27.1 225 25 = nI 4 := fc_ne hf95 es23 (by omega)
          have hf104 : s27.1 225 26 = nI 2 := fc_ne hf96 es23 (by omega)
          have hf105 : s27.1 225 27 = nI 131072 := fc_ne hf97 es23 (by omega)
          have hf106 : s27.1 225 28 = nI 95232 := fc_ne hf98 es23 (by omega)
          have hf107 : s27.1 225 29 = nI 78 := fc_ne hf99 es23 (by omega)
          have hf108 : s27.1 225 30 = nI 32 := fc_ne hf100 es23 (by omega)
          refine mi_iinc (k := 0) (x := i23) (d := 1) (y := i23 + 1) (lv' := [(5, .int (nI (i23 + 1))), (4, .int (nI i21)), (3, .int (nI my21)), (0, .ref h0), (1, .ref b), (2, .int (nI fi))]) hx hb dMH_readHints_36 hl rfl (by decide) rfl (by decide) rfl (fun ls hl => ?_)
          refine lv_goto (tgt := 17) hx hb dMH_readHints_39 (by decide) ?_
          exact ih23 (i23 + 1) s27 pl ls H locs (by omega) hF hf101 hf102 hf103 hf104 hf105 hf106 hf107 hf108 hR (lv_sub hl [0, 1, 2, 3, 4, 5] rfl) hO hP hD hS
      exact lp23 256 0 s21 pl ls _ _ (by omega) hF hf45 hf46 hf47 hf48 hf49 hf50 hf51 hf52 hR (lv_sub hl [0, 1, 2, 3, 4, 5] rfl) hO hP hD hS
  exact lp21 4 0 0 s pl ls _ _ (by omega) (by omega) hF e_c0 e_c1 e_c2 e_c3 e_c4 e_c5 e_c6 e_c7 hR (lv_sub hl [0, 1, 2, 3, 4] rfl) hO hP hD hS
def M_MH_readHints_1 (k : Nat) : Prop := (360 ≤ k ∧ k < 368) ∨ (0 : Nat) = 1
noncomputable def F_MH_readHints_1_L3 (pb : Nat) (fi : Nat) (i21 : Nat) (my21 : Nat) (z26 : Nat) (kk : Nat → Nat → Sto → Int32 × Sto) : Nat → Nat → Sto → Int32 × Sto
  | 0, ii21, s24 => kk (i21 + 1) z26 s24
  | n24 + 1, ii21, s24 => bnd (((s24.1 pb (fi + ii21)) &&& nI 255).toNatClampNeg) fun z28 => if ii21 ≤ my21 then bnd (sI s24 ((360 + i21)) z28 (nI 1)) fun s25 => F_MH_readHints_1_L3 pb fi i21 my21 z26 kk n24 (ii21 + 1) s25 else bnd (((s24.1 pb ((fi + ii21) - 1)) &&& nI 255).toNatClampNeg) fun z29 => if z29 < z28 then bnd (sI s24 ((360 + i21)) z28 (nI 1)) fun s26 => F_MH_readHints_1_L3 pb fi i21 my21 z26 kk n24 (ii21 + 1) s26 else (nI 0, s24)
noncomputable def F_MH_readHints_1_L2 (pb : Nat) (fi : Nat) (i21 : Nat) (my21 : Nat) (kk : Nat → Nat → Sto → Int32 × Sto) : Nat → Nat → Sto → Int32 × Sto
  | 0, i23, s23 => bnd ((s23.1 225 23).toNatClampNeg) fun z25 => bnd (((s23.1 pb ((fi + 55) + i21)) &&& nI 255).toNatClampNeg) fun z26 => if z26 < my21 then (nI 0, s23) else bnd ((s23.1 225 23).toNatClampNeg) fun z27 => if z26 ≤ 55 then F_MH_readHints_1_L3 pb fi i21 my21 z26 (kk) (z26 - my21) my21 s23 else (nI 0, s23)
  | n23 + 1, i23, s23 => bnd (sI s23 ((360 + i21)) i23 (nI 0)) fun s27 => F_MH_readHints_1_L2 pb fi i21 my21 kk n23 (i23 + 1) s27
noncomputable def F_MH_readHints_1_L1 (pb : Nat) (fi : Nat) : Nat → Nat → Sto → Int32 × Sto
  | 0, i22, s22 => bnd ((s22.1 225 23).toNatClampNeg) fun z22 => (nI 1, s22)
  | n22 + 1, i22, s22 => bnd ((s22.1 225 23).toNatClampNeg) fun z23 => if (s22.1 pb (fi + i22)) = 0 then F_MH_readHints_1_L1 pb fi n22 (i22 + 1) s22 else (nI 0, s22)
noncomputable def F_MH_readHints_1_L0 (pb : Nat) (fi : Nat) : Nat → Nat → Nat → Sto → Int32 × Sto
  | 0, i21, my21, s21 => bnd ((s21.1 225 24).toNatClampNeg) fun z21 => F_MH_readHints_1_L1 pb fi (55 - my21) my21 s21
  | n21 + 1, i21, my21, s21 => bnd ((s21.1 225 24).toNatClampNeg) fun z24 => F_MH_readHints_1_L2 pb fi i21 my21 (F_MH_readHints_1_L0 pb fi n21) 256 0 s21
noncomputable def F_MH_readHints_1 (pb : Nat) (fi : Nat) (s : Sto) : Int32 × Sto := F_MH_readHints_1_L0 pb fi 6 0 0 s
set_option maxHeartbeats 8000000 in
set_option maxRecDepth 100000 in
theorem N_MH_readHints_1 (l : Launch) (g : Gd) (sz : Nat) (T : TyN) (s : Sto) (pl : va_W) (hO : okn g T s pl) (hU : inj T) (h0 b : Nat) (pb : Nat) (fi : Nat) (k_h0 : T h0 = some 225) (k_b : T b = some pb) (n_b : nsp pb = (1, 16384, [])) (e_c0 : s.1 225 23 = nI 1) (e_c1 : s.1 225 24 = nI 6) (e_c2 : s.1 225 25 = nI 5) (e_c3 : s.1 225 26 = nI 4) (e_c4 : s.1 225 27 = nI 524288) (e_c5 : s.1 225 28 = nI 261888) (e_c6 : s.1 225 29 = nI 196) (e_c7 : s.1 225 30 = nI 48) (h1 : fi + 61 ≤ 16384)  : Met l y_MH_readHints w_MH_readHints ({ frames := 0, cells := 0, slots := 0, locals := 0 } : Room) (va_Pc [.ref h0, .ref b, .int (nI fi)] (pr (en g) g.1 vcl sz ([] ++ pl))) (va_Qi (fun (r : Int32) (u : (Int32 × Sto) × va_W) => (u.1 = F_MH_readHints_1 pb fi s ∧ r = u.1.1 ∧ frm (M_MH_readHints_1) s u.1.2 ∧ True) ∧ okn g T u.1.2 u.2) (po g.1 vcl (va_A ([] ++ pl) sz) (fun (u : (Int32 × Sto) × va_W) => [] ++ u.2)) (va_A ([] ++ pl) sz)) 0 0 (va_A ([] ++ pl) sz) := by
  refine mc_entry (cc := c_MH_readHints) (maxL := 8) (ret := (some .boolean)) (by decide) rfl (Nat.le_of_ble_eq_true rfl) ?_
  intro p e s0 m args below meth c ls F hr hlk hnm hsz hP hD hE hA hl
  obtain ⟨hx, hb, hml, hown, hts⟩ := id F
  have hK := hE.1
  generalize va_A ([] ++ pl) sz = A at hD hE hA ⊢
  have hS : va_S A s0.heap s0.heap [] := va_S.rf
  have hl : lv_has ls 8 [(0, .ref h0), (1, .ref b), (2, .int (nI fi))] := hl
  have hR : F_MH_readHints_1 pb fi s = F_MH_readHints_1 pb fi s := rfl
  have hF : frm (M_MH_readHints_1) s s := frm_rf
  have ne_172_pb : 172 ≠ pb := nsp_ne (p := 172) rfl n_b (show (5 : Nat) ≠ 1 by decide)
  have ne_225_pb : 225 ≠ pb := nsp_ne (p := 225) rfl n_b (show (5 : Nat) ≠ 1 by decide)
  refine lv_iconst (v := nI 0) hx hb dMH_readHints_0 (by decide) ?_
  refine lv_istore_n (lv' := [(3, .int (nI 0)), (0, .ref h0), (1, .ref b), (2, .int (nI fi))]) hx hb dMH_readHints_1 rfl hl (by decide) rfl (fun ls hl => ?_)
  refine lv_iconst (v := nI 0) hx hb dMH_readHints_2 (by decide) ?_
  refine lv_istore (lv' := [(4, .int (nI 0)), (3, .int (nI 0)), (0, .ref h0), (1, .ref b), (2, .int (nI fi))]) hx hb dMH_readHints_3 hl (by decide) rfl (fun ls hl => ?_)
  have lp21 : ∀ (n21 : Nat) (i21 : Nat) (my21 : Nat) (s21 : Sto) (pl : va_W) (ls : Array Slot) (H : Heap) (locs : List Loc), n21 + i21 = 6 → (my21 ≤ 55) → frm (M_MH_readHints_1) s s21 → s21.1 225 23 = nI 1 → s21.1 225 24 = nI 6 → s21.1 225 25 = nI 5 → s21.1 225 26 = nI 4 → s21.1 225 27 = nI 524288 → s21.1 225 28 = nI 261888 → s21.1 225 29 = nI 196 → s21.1 225 30 = nI 48 → F_MH_readHints_1 pb fi s = F_MH_readHints_1_L0 pb fi n21 i21 my21 s21 → lv_has ls 8 [(4, .int (nI i21)), (3, .int (nI my21)), (0, .ref h0), (1, .ref b), (2, .int (nI fi))] → okn g T s21 pl → va_P g.1 vcl ([] ++ pl) H → va_D A ([] ++ pl) → va_S A s0.heap H locs → W p l e ({ frames := 0, cells := 0, slots := 0, locals := 0 } : Room) s0 m args below meth c H locs 0 0 (MQ below (va_Qi (fun (r : Int32) (u : (Int32 × Sto) × va_W) => (u.1 = F_MH_readHints_1 pb fi s ∧ r = u.1.1 ∧ frm (M_MH_readHints_1) s u.1.2 ∧ True) ∧ okn g T u.1.2 u.2) (po g.1 vcl A (fun (u : (Int32 × Sto) × va_W) => [] ++ u.2)) A) args s0 0 0 A) (F0 m 5 ls []) := by
    intro n21
    induction n21 with
    | zero =>
      intro i21 my21 s21 pl ls H locs hm21 hi21 hF hf21 hf22 hf23 hf24 hf25 hf26 hf27 hf28 hR hl hO hP hD hS
      refine lv_iload hx hb dMH_readHints_5 (lv_at hl 0 rfl) ?_
      refine lv_aload_n hx hb dMH_readHints_7 rfl (lv_at hl 2 rfl) ?_
      refine nw_get (C := "LatticeKeysModel$Hands") (TT := T_MH) (N := 31) hx hb hts (wg_ft i_MH) hown hK hO k_h0 (kn := 225) (ci := 12) (fl := [(3, 172), (3, 181), (3, 226), (3, 291), (3, 299), (3, 308), (3, 317), (3, 326), (3, 334), (3, 342), (3, 350), (3, 359), (3, 368), (3, 369), (3, 370), (3, 371), (3, 372), (3, 373), (3, 374), (3, 375), (3, 376), (3, 377), (3, 378), (0, 0), (0, 0), (0, 0), (0, 0), (0, 0), (0, 0), (0, 0), (0, 0)]) rfl hP rfl 24 (by decide) (hts _ (wg_t kw_1456)) (fun _ h9 => h9) (cd := (0, 0)) rfl dMH_readHints_8 (fun v21 hv21 => ?_)
      obtain rfl := (show v21 = .int (s21.1 225 24) from hv21)
      obtain ⟨z21, ez21, hz21, hz22⟩ := cl_of (b := 2147483648) hf22 (by omega) (by decide)
      replace hR := bnd_step hR ez21
      refine mi_as hz21 ?_
      subst hz22
      refine mi_ge (tgt := 157) hx hb dMH_readHints_11 (by decide) (by omega) (by omega) (fun h21 => ?_) (fun h21 => absurd h21 (by omega))
      refine lv_iload_n hx hb dMH_readHints_157 rfl (lv_at hl 1 rfl) ?_
      refine lv_istore (lv' := [(4, .int (nI my21)), (3, .int (nI my21)), (0, .ref h0), (1, .ref b), (2, .int (nI fi))]) hx hb dMH_readHints_158 hl (by decide) rfl (fun ls hl => ?_)
      have lp22 : ∀ (n22 : Nat) (i22 : Nat) (s22 : Sto) (pl : va_W) (ls : Array Slot) (H : Heap) (locs : List Loc), n22 + i22 = 55 → (my21 ≤ i22) → frm (M_MH_readHints_1) s s22 → s22.1 225 23 = nI 1 → s22.1 225 24 = nI 6 → s22.1 225 25 = nI 5 → s22.1 225 26 = nI 4 → s22.1 225 27 = nI 524288 → s22.1 225 28 = nI 261888 → s22.1 225 29 = nI 196 → s22.1 225 30 = nI 48 → F_MH_readHints_1 pb fi s = F_MH_readHints_1_L1 pb fi n22 i22 s22 → lv_has ls 8 [(4, .int (nI i22)), (0, .ref h0), (1, .ref b), (2, .int (nI fi))] → okn g T s22 pl → va_P g.1 vcl ([] ++ pl) H → va_D A ([] ++ pl) → va_S A s0.heap H locs → W p l e ({ frames := 0, cells := 0, slots := 0, locals := 0 } : Room) s0 m args below meth c H locs 0 0 (MQ below (va_Qi (fun (r : Int32) (u : (Int32 × Sto) × va_W) => (u.1 = F_MH_readHints_1 pb fi s ∧ r = u.1.1 ∧ frm (M_MH_readHints_1) s u.1.2 ∧ True) ∧ okn g T u.1.2 u.2) (po g.1 vcl A (fun (u : (Int32 × Sto) × va_W) => [] ++ u.2)) A) args s0 0 0 A) (F0 m 160 ls []) := by
        intro n22
        induction n22 with
        | zero =>
          intro i22 s22 pl ls H locs hm22 hi22 hF hf29 hf30 hf31 hf32 hf33 hf34 hf35 hf36 hR hl hO hP hD hS
          refine lv_iload hx hb dMH_readHints_160 (lv_at hl 0 rfl) ?_
          refine va_gets hx hb (hE.2.1 27 _ rfl).1 hS hown (hts _ (wg_t kw_1908)) (fun _ h9 => h9) dMH_readHints_162 ?_
          refine lv_aload_n hx hb dMH_readHints_165 rfl (lv_at hl 1 rfl) ?_
          refine nw_get (C := "LatticeKeysModel$Hands") (TT := T_MH) (N := 31) hx hb hts (wg_ft i_MH) hown hK hO k_h0 (kn := 225) (ci := 12) (fl := [(3, 172), (3, 181), (3, 226), (3, 291), (3, 299), (3, 308), (3, 317), (3, 326), (3, 334), (3, 342), (3, 350), (3, 359), (3, 368), (3, 369), (3, 370), (3, 371), (3, 372), (3, 373), (3, 374), (3, 375), (3, 376), (3, 377), (3, 378), (0, 0), (0, 0), (0, 0), (0, 0), (0, 0), (0, 0), (0, 0), (0, 0)]) rfl hP rfl 23 (by decide) (hts _ (wg_t kw_1455)) (fun _ h9 => h9) (cd := (0, 0)) rfl dMH_readHints_166 (fun v22 hv22 => ?_)
          obtain rfl := (show v22 = .int (s22.1 225 23) from hv22)
          obtain ⟨z22, ez22, hz23, hz24⟩ := cl_of (b := 2147483648) hf29 (by omega) (by decide)
          replace hR := bnd_step hR ez22
          refine mi_as hz23 ?_
          subst hz24
          refine va_ti (v := .int (nI 55)) hx hb (hE.2.1 27 _ rfl).2 hS (vp_in_nI (by decide) (by decide)) (by decide +kernel) dMH_readHints_169 ?_
          refine mi_ge (tgt := 190) hx hb dMH_readHints_170 (by decide) (by omega) (by omega) (fun h22 => ?_) (fun h22 => absurd h22 (by omega))
          refine lv_iconst (v := nI 1) hx hb dMH_readHints_190 (by decide) ?_
          exact mp_zret hx hb hr hlk rfl hP hD hS ((nI 1, s22), pl) ⟨⟨hR.symm, rfl, hF, trivial⟩, hO⟩ [] rfl rfl rfl (by omega) (by omega) dMH_readHints_191
        | succ n22 ih22 =>
          intro i22 s22 pl ls H locs hm22 hi22 hF hf37 hf38 hf39 hf40 hf41 hf42 hf43 hf44 hR hl hO hP hD hS
          refine lv_iload hx hb dMH_readHints_160 (lv_at hl 0 rfl) ?_
          refine va_gets hx hb (hE.2.1 27 _ rfl).1 hS hown (hts _ (wg_t kw_1908)) (fun _ h9 => h9) dMH_readHints_162 ?_
          refine lv_aload_n hx hb dMH_readHints_165 rfl (lv_at hl 1 rfl) ?_
          refine nw_get (C := "LatticeKeysModel$Hands") (TT := T_MH) (N := 31) hx hb hts (wg_ft i_MH) hown hK hO k_h0 (kn := 225) (ci := 12) (fl := [(3, 172), (3, 181), (3, 226), (3, 291), (3, 299), (3, 308), (3, 317), (3, 326), (3, 334), (3, 342), (3, 350), (3, 359), (3, 368), (3, 369), (3, 370), (3, 371), (3, 372), (3, 373), (3, 374), (3, 375), (3, 376), (3, 377), (3, 378), (0, 0), (0, 0), (0, 0), (0, 0), (0, 0), (0, 0), (0, 0), (0, 0)]) rfl hP rfl 23 (by decide) (hts _ (wg_t kw_1455)) (fun _ h9 => h9) (cd := (0, 0)) rfl dMH_readHints_166 (fun v23 hv23 => ?_)
          obtain rfl := (show v23 = .int (s22.1 225 23) from hv23)
          obtain ⟨z23, ez23, hz25, hz26⟩ := cl_of (b := 2147483648) hf37 (by omega) (by decide)
          replace hR := bnd_step hR ez23
          refine mi_as hz25 ?_
          subst hz26
          refine va_ti (v := .int (nI 55)) hx hb (hE.2.1 27 _ rfl).2 hS (vp_in_nI (by decide) (by decide)) (by decide +kernel) dMH_readHints_169 ?_
          refine mi_ge (tgt := 190) hx hb dMH_readHints_170 (by decide) (by omega) (by omega) (fun h23 => absurd h23 (by omega)) (fun h23 => ?_)
          refine lv_aload_n hx hb dMH_readHints_173 rfl (lv_at hl 2 rfl) ?_
          refine lv_iload_n hx hb dMH_readHints_174 rfl (lv_at hl 3 rfl) ?_
          refine lv_iload hx hb dMH_readHints_175 (lv_at hl 0 rfl) ?_
          refine mi_iadd hx hb dMH_readHints_177 ?_
          refine nw_bald hx hb hK hO k_b (k := pb) n_b hP (by omega) (by omega) dMH_readHints_178 ?_
          refine lv_if_eq (tgt := 184) hx hb dMH_readHints_179 (by decide) (fun h24 => ?_) (fun h24 => ?_)
          · replace hR := hR.trans (if_pos h24)
            refine mi_iinc (k := 0) (x := i22) (d := 1) (y := i22 + 1) (lv' := [(4, .int (nI (i22 + 1))), (0, .ref h0), (1, .ref b), (2, .int (nI fi))]) hx hb dMH_readHints_184 hl rfl (by decide) rfl (by decide) rfl (fun ls hl => ?_)
            refine lv_goto (tgt := 160) hx hb dMH_readHints_187 (by decide) ?_
            exact ih22 (i22 + 1) s22 pl ls H locs (by omega) (by omega) hF hf37 hf38 hf39 hf40 hf41 hf42 hf43 hf44 hR (lv_sub hl [0, 1, 2, 3] rfl) hO hP hD hS
          · replace hR := hR.trans (if_neg h24)
            refine lv_iconst (v := nI 0) hx hb dMH_readHints_182 (by decide) ?_
            exact mp_zret hx hb hr hlk rfl hP hD hS ((nI 0, s22), pl) ⟨⟨hR.symm, rfl, hF, trivial⟩, hO⟩ [] rfl rfl rfl (by omega) (by omega) dMH_readHints_183
      exact lp22 (55 - my21) my21 s21 pl ls _ _ (by omega) (by omega) hF hf21 hf22 hf23 hf24 hf25 hf26 hf27 hf28 hR (lv_sub hl [0, 2, 3, 4] rfl) hO hP hD hS
    | succ n21 ih21 =>
      intro i21 my21 s21 pl ls H locs hm21 hi21 hF hf45 hf46 hf47 hf48 hf49 hf50 hf51 hf52 hR hl hO hP hD hS
      refine lv_iload hx hb dMH_readHints_5 (lv_at hl 0 rfl) ?_
      refine lv_aload_n hx hb dMH_readHints_7 rfl (lv_at hl 2 rfl) ?_
      refine nw_get (C := "LatticeKeysModel$Hands") (TT := T_MH) (N := 31) hx hb hts (wg_ft i_MH) hown hK hO k_h0 (kn := 225) (ci := 12) (fl := [(3, 172), (3, 181), (3, 226), (3, 291), (3, 299), (3, 308), (3, 317), (3, 326), (3, 334), (3, 342), (3, 350), (3, 359), (3, 368), (3, 369), (3, 370), (3, 371), (3, 372), (3, 373), (3, 374), (3, 375), (3, 376), (3, 377), (3, 378), (0, 0), (0, 0), (0, 0), (0, 0), (0, 0), (0, 0), (0, 0), (0, 0)]) rfl hP rfl 24 (by decide) (hts _ (wg_t kw_1456)) (fun _ h9 => h9) (cd := (0, 0)) rfl dMH_readHints_8 (fun v24 hv24 => ?_)
      obtain rfl := (show v24 = .int (s21.1 225 24) from hv24)
      obtain ⟨z24, ez24, hz27, hz28⟩ := cl_of (b := 2147483648) hf46 (by omega) (by decide)
      replace hR := bnd_step hR ez24
      refine mi_as hz27 ?_
      subst hz28
      refine mi_ge (tgt := 157) hx hb dMH_readHints_11 (by decide) (by omega) (by omega) (fun h25 => absurd h25 (by omega)) (fun h25 => ?_)
      refine lv_iconst (v := nI 0) hx hb dMH_readHints_14 (by decide) ?_
      refine lv_istore (lv' := [(5, .int (nI 0)), (4, .int (nI i21)), (3, .int (nI my21)), (0, .ref h0), (1, .ref b), (2, .int (nI fi))]) hx hb dMH_readHints_15 hl (by decide) rfl (fun ls hl => ?_)
      have lp23 : ∀ (n23 : Nat) (i23 : Nat) (s23 : Sto) (pl : va_W) (ls : Array Slot) (H : Heap) (locs : List Loc), n23 + i23 = 256 → frm (M_MH_readHints_1) s s23 → s23.1 225 23 = nI 1 → s23.1 225 24 = nI 6 → s23.1 225 25 = nI 5 → s23.1 225 26 = nI 4 → s23.1 225 27 = nI 524288 → s23.1 225 28 = nI 261888 → s23.1 225 29 = nI 196 → s23.1 225 30 = nI 48 → F_MH_readHints_1 pb fi s = F_MH_readHints_1_L2 pb fi i21 my21 (F_MH_readHints_1_L0 pb fi n21) n23 i23 s23 → lv_has ls 8 [(5, .int (nI i23)), (4, .int (nI i21)), (3, .int (nI my21)), (0, .ref h0), (1, .ref b), (2, .int (nI fi))] → okn g T s23 pl → va_P g.1 vcl ([] ++ pl) H → va_D A ([] ++ pl) → va_S A s0.heap H locs → W p l e ({ frames := 0, cells := 0, slots := 0, locals := 0 } : Room) s0 m args below meth c H locs 0 0 (MQ below (va_Qi (fun (r : Int32) (u : (Int32 × Sto) × va_W) => (u.1 = F_MH_readHints_1 pb fi s ∧ r = u.1.1 ∧ frm (M_MH_readHints_1) s u.1.2 ∧ True) ∧ okn g T u.1.2 u.2) (po g.1 vcl A (fun (u : (Int32 × Sto) × va_W) => [] ++ u.2)) A) args s0 0 0 A) (F0 m 17 ls []) := by
        intro n23
        induction n23 with
        | zero =>
          intro i23 s23 pl ls H locs hm23 hF hf53 hf54 hf55 hf56 hf57 hf58 hf59 hf60 hR hl hO hP hD hS
          refine lv_iload hx hb dMH_readHints_17 (lv_at hl 0 rfl) ?_
          refine lv_sipush (v := nI 256) hx hb dMH_readHints_19 (by decide) ?_
          refine mi_ge (tgt := 42) hx hb dMH_readHints_22 (by decide) (by omega) (by omega) (fun h26 => ?_) (fun h26 => absurd h26 (by omega))
          refine lv_aload_n hx hb dMH_readHints_42 rfl (lv_at hl 4 rfl) ?_
          refine lv_iload_n hx hb dMH_readHints_43 rfl (lv_at hl 5 rfl) ?_
          refine va_gets hx hb (hE.2.1 27 _ rfl).1 hS hown (hts _ (wg_t kw_1908)) (fun _ h9 => h9) dMH_readHints_44 ?_
          refine lv_aload_n hx hb dMH_readHints_47 rfl (lv_at hl 3 rfl) ?_
          refine nw_get (C := "LatticeKeysModel$Hands") (TT := T_MH) (N := 31) hx hb hts (wg_ft i_MH) hown hK hO k_h0 (kn := 225) (ci := 12) (fl := [(3, 172), (3, 181), (3, 226), (3, 291), (3, 299), (3, 308), (3, 317), (3, 326), (3, 334), (3, 342), (3, 350), (3, 359), (3, 368), (3, 369), (3, 370), (3, 371), (3, 372), (3, 373), (3, 374), (3, 375), (3, 376), (3, 377), (3, 378), (0, 0), (0, 0), (0, 0), (0, 0), (0, 0), (0, 0), (0, 0), (0, 0)]) rfl hP rfl 23 (by decide) (hts _ (wg_t kw_1455)) (fun _ h9 => h9) (cd := (0, 0)) rfl dMH_readHints_48 (fun v25 hv25 => ?_)
          obtain rfl := (show v25 = .int (s23.1 225 23) from hv25)
          obtain ⟨z25, ez25, hz29, hz30⟩ := cl_of (b := 2147483648) hf53 (by omega) (by decide)
          replace hR := bnd_step hR ez25
          refine mi_as hz29 ?_
          subst hz30
          refine va_ti (v := .int (nI 55)) hx hb (hE.2.1 27 _ rfl).2 hS (vp_in_nI (by decide) (by decide)) (by decide +kernel) dMH_readHints_51 ?_
          refine mi_iadd hx hb dMH_readHints_52 ?_
          refine lv_iload hx hb dMH_readHints_53 (lv_at hl 1 rfl) ?_
          refine mi_iadd hx hb dMH_readHints_55 ?_
          refine nw_bald hx hb hK hO k_b (k := pb) n_b hP (by omega) (by omega) dMH_readHints_56 ?_
          refine lv_sipush (v := nI 255) hx hb dMH_readHints_57 (by decide) ?_
          refine mi_iandT hx hb 8 dMH_readHints_60 (by decide) (by decide) (fun z26 ez26 hz31 => ?_)
          have hz31 : z26 < 256 := hz31
          replace hR := bnd_step hR ez26
          refine lv_istore (lv' := [(5, .int (nI z26)), (4, .int (nI i21)), (3, .int (nI my21)), (0, .ref h0), (1, .ref b), (2, .int (nI fi))]) hx hb dMH_readHints_61 hl (by decide) rfl (fun ls hl => ?_)
          refine lv_iload hx hb dMH_readHints_63 (lv_at hl 0 rfl) ?_
          refine lv_iload_n hx hb dMH_readHints_65 rfl (lv_at hl 2 rfl) ?_
          refine mi_lt (tgt := 82) hx hb dMH_readHints_66 (by decide) (by omega) (by omega) (fun h27 => ?_) (fun h27 => ?_)
          · replace hR := hR.trans (if_pos h27)
            refine lv_iconst (v := nI 0) hx hb dMH_readHints_82 (by decide) ?_
            exact mp_zret hx hb hr hlk rfl hP hD hS ((nI 0, s23), pl) ⟨⟨hR.symm, rfl, hF, trivial⟩, hO⟩ [] rfl rfl rfl (by omega) (by omega) dMH_readHints_83
          · replace hR := hR.trans (if_neg (Nat.not_lt.mpr h27))
            refine lv_iload hx hb dMH_readHints_69 (lv_at hl 0 rfl) ?_
            refine va_gets hx hb (hE.2.1 27 _ rfl).1 hS hown (hts _ (wg_t kw_1908)) (fun _ h9 => h9) dMH_readHints_71 ?_
            refine lv_aload_n hx hb dMH_readHints_74 rfl (lv_at hl 3 rfl) ?_
            refine nw_get (C := "LatticeKeysModel$Hands") (TT := T_MH) (N := 31) hx hb hts (wg_ft i_MH) hown hK hO k_h0 (kn := 225) (ci := 12) (fl := [(3, 172), (3, 181), (3, 226), (3, 291), (3, 299), (3, 308), (3, 317), (3, 326), (3, 334), (3, 342), (3, 350), (3, 359), (3, 368), (3, 369), (3, 370), (3, 371), (3, 372), (3, 373), (3, 374), (3, 375), (3, 376), (3, 377), (3, 378), (0, 0), (0, 0), (0, 0), (0, 0), (0, 0), (0, 0), (0, 0), (0, 0)]) rfl hP rfl 23 (by decide) (hts _ (wg_t kw_1455)) (fun _ h9 => h9) (cd := (0, 0)) rfl dMH_readHints_75 (fun v26 hv26 => ?_)
            obtain rfl := (show v26 = .int (s23.1 225 23) from hv26)
            obtain ⟨z27, ez27, hz32, hz33⟩ := cl_of (b := 2147483648) hf53 (by omega) (by decide)
            replace hR := bnd_step hR ez27
            refine mi_as hz32 ?_
            subst hz33
            refine va_ti (v := .int (nI 55)) hx hb (hE.2.1 27 _ rfl).2 hS (vp_in_nI (by decide) (by decide)) (by decide +kernel) dMH_readHints_78 ?_
            refine mi_le (tgt := 84) hx hb dMH_readHints_79 (by decide) (by omega) (by omega) (fun h28 => ?_) (fun h28 => ?_)
            · replace hR := hR.trans (if_pos h28)
              refine lv_iload_n hx hb dMH_readHints_84 rfl (lv_at hl 2 rfl) ?_
              refine lv_istore (lv' := [(6, .int (nI my21)), (5, .int (nI z26)), (4, .int (nI i21)), (3, .int (nI my21)), (0, .ref h0), (1, .ref b), (2, .int (nI fi))]) hx hb dMH_readHints_85 hl (by decide) rfl (fun ls hl => ?_)
              have lp24 : ∀ (n24 : Nat) (ii21 : Nat) (s24 : Sto) (pl : va_W) (ls : Array Slot) (H : Heap) (locs : List Loc), n24 = z26 - ii21 → (my21 ≤ ii21) → (ii21 ≤ 55) → frm (M_MH_readHints_1) s s24 → s24.1 225 23 = nI 1 → s24.1 225 24 = nI 6 → s24.1 225 25 = nI 5 → s24.1 225 26 = nI 4 → s24.1 225 27 = nI 524288 → s24.1 225 28 = nI 261888 → s24.1 225 29 = nI 196 → s24.1 225 30 = nI 48 → F_MH_readHints_1 pb fi s = F_MH_readHints_1_L3 pb fi i21 my21 z26 (F_MH_readHints_1_L0 pb fi n21) n24 ii21 s24 → lv_has ls 8 [(6, .int (nI ii21)), (5, .int (nI z26)), (4, .int (nI i21)), (3, .int (nI my21)), (0, .ref h0), (1, .ref b), (2, .int (nI fi))] → okn g T s24 pl → va_P g.1 vcl ([] ++ pl) H → va_D A ([] ++ pl) → va_S A s0.heap H locs → W p l e ({ frames := 0, cells := 0, slots := 0, locals := 0 } : Room) s0 m args below meth c H locs 0 0 (MQ below (va_Qi (fun (r : Int32) (u : (Int32 × Sto) × va_W) => (u.1 = F_MH_readHints_1 pb fi s ∧ r = u.1.1 ∧ frm (M_MH_readHints_1) s u.1.2 ∧ True) ∧ okn g T u.1.2 u.2) (po g.1 vcl A (fun (u : (Int32 × Sto) × va_W) => [] ++ u.2)) A) args s0 0 0 A) (F0 m 87 ls []) := by
                intro n24
                induction n24 with
                | zero =>
                  intro ii21 s24 pl ls H locs hm24 hi23 hi24 hF hf61 hf62 hf63 hf64 hf65 hf66 hf67 hf68 hR hl hO hP hD hS
                  refine lv_iload hx hb dMH_readHints_87 (lv_at hl 0 rfl) ?_
                  refine lv_iload hx hb dMH_readHints_89 (lv_at hl 1 rfl) ?_
                  refine mi_ge (tgt := 148) hx hb dMH_readHints_91 (by decide) (by omega) (by omega) (fun h29 => ?_) (fun h29 => absurd h29 (by omega))
                  refine lv_iload hx hb dMH_readHints_148 (lv_at hl 1 rfl) ?_
                  refine lv_istore_n (lv' := [(3, .int (nI z26)), (6, .int (nI ii21)), (5, .int (nI z26)), (4, .int (nI i21)), (0, .ref h0), (1, .ref b), (2, .int (nI fi))]) hx hb dMH_readHints_150 rfl hl (by decide) rfl (fun ls hl => ?_)
                  refine mi_iinc (k := 3) (x := i21) (d := 1) (y := i21 + 1) (lv' := [(4, .int (nI (i21 + 1))), (3, .int (nI z26)), (6, .int (nI ii21)), (5, .int (nI z26)), (0, .ref h0), (1, .ref b), (2, .int (nI fi))]) hx hb dMH_readHints_151 hl rfl (by decide) rfl (by decide) rfl (fun ls hl => ?_)
                  refine lv_goto (tgt := 5) hx hb dMH_readHints_154 (by decide) ?_
                  exact ih21 (i21 + 1) z26 s24 pl ls H locs (by omega) (by omega) hF hf61 hf62 hf63 hf64 hf65 hf66 hf67 hf68 hR (lv_sub hl [0, 1, 4, 5, 6] rfl) hO hP hD hS
                | succ n24 ih24 =>
                  intro ii21 s24 pl ls H locs hm24 hi23 hi24 hF hf69 hf70 hf71 hf72 hf73 hf74 hf75 hf76 hR hl hO hP hD hS
                  refine lv_iload hx hb dMH_readHints_87 (lv_at hl 0 rfl) ?_
                  refine lv_iload hx hb dMH_readHints_89 (lv_at hl 1 rfl) ?_
                  refine mi_ge (tgt := 148) hx hb dMH_readHints_91 (by decide) (by omega) (by omega) (fun h30 => absurd h30 (by omega)) (fun h30 => ?_)
                  refine lv_aload_n hx hb dMH_readHints_94 rfl (lv_at hl 5 rfl) ?_
                  refine lv_iload_n hx hb dMH_readHints_95 rfl (lv_at hl 6 rfl) ?_
                  refine lv_iload hx hb dMH_readHints_96 (lv_at hl 0 rfl) ?_
                  refine mi_iadd hx hb dMH_readHints_98 ?_
                  refine nw_bald hx hb hK hO k_b (k := pb) n_b hP (by omega) (by omega) dMH_readHints_99 ?_
                  refine lv_sipush (v := nI 255) hx hb dMH_readHints_100 (by decide) ?_
                  refine mi_iandT hx hb 8 dMH_readHints_103 (by decide) (by decide) (fun z28 ez28 hz34 => ?_)
                  have hz34 : z28 < 256 := hz34
                  replace hR := bnd_step hR ez28
                  refine lv_istore (lv' := [(7, .int (nI z28)), (6, .int (nI ii21)), (5, .int (nI z26)), (4, .int (nI i21)), (3, .int (nI my21)), (0, .ref h0), (1, .ref b), (2, .int (nI fi))]) hx hb dMH_readHints_104 hl (by decide) rfl (fun ls hl => ?_)
                  refine lv_iload hx hb dMH_readHints_106 (lv_at hl 1 rfl) ?_
                  refine lv_iload_n hx hb dMH_readHints_108 rfl (lv_at hl 4 rfl) ?_
                  refine mi_le (tgt := 131) hx hb dMH_readHints_109 (by decide) (by omega) (by omega) (fun h31 => ?_) (fun h31 => ?_)
                  · replace hR := hR.trans (if_pos h31)
                    refine lv_aload_n hx hb dMH_readHints_131 rfl (lv_at hl 5 rfl) ?_
                    refine nw_get (C := "LatticeKeysModel$Hands") (TT := T_MH) (N := 31) hx hb hts (wg_ft i_MH) hown hK hO k_h0 (kn := 225) (ci := 12) (fl := [(3, 172), (3, 181), (3, 226), (3, 291), (3, 299), (3, 308), (3, 317), (3, 326), (3, 334), (3, 342), (3, 350), (3, 359), (3, 368), (3, 369), (3, 370), (3, 371), (3, 372), (3, 373), (3, 374), (3, 375), (3, 376), (3, 377), (3, 378), (0, 0), (0, 0), (0, 0), (0, 0), (0, 0), (0, 0), (0, 0), (0, 0)]) rfl hP rfl 11 (by decide) (hts _ (wg_t kw_1443)) (fun _ h9 => h9) (cd := (3, 359)) rfl dMH_readHints_132 (fun v27 hv27 => ?_)
                    obtain ⟨r21, rfl, kr21⟩ := (show ∃ r : Nat, v27 = .ref r ∧ T r = some 359 from hv27)
                    refine lv_iload hx hb dMH_readHints_135 (lv_at hl 3 rfl) ?_
                    refine nw_aald3 hx hb hK hO kr21 (k := 359) (b := 360) rfl hP (by omega) (by omega) dMH_readHints_137 (fun r22 kr22 => ?_)
                    have hn21 : nsp (360 + i21) = (0, 256, []) := rows_ok 360 8 (by decide) _ (by omega)
                    refine lv_iload hx hb dMH_readHints_138 (lv_at hl 0 rfl) ?_
                    refine lv_iconst (v := nI 1) hx hb dMH_readHints_140 (by decide) ?_
                    refine nw_iast hx hb hK hO hU kr22 (k := (360 + i21)) hn21 hP hD hS (by omega) (by omega) dMH_readHints_141 (fun s25 pl H locs es21 hO hP hD hS => ?_)
                    replace hR := bnd_step hR es21
                    have hF := frm_sI hF es21 (by unfold M_MH_readHints_1; omega)
                    have hf77 : s25.1 225 23 = nI 1 := fc_ne hf69 es21 (by omega)
                    have hf78 : s25.1 225 24 = nI 6 := fc_ne hf70 es21 (by omega)
                    have hf79 : s25.1 225 25 = nI 5 := fc_ne hf71 es21 (by omega)
                    have hf80 : s25.1 225 26 = nI 4 := fc_ne hf72 es21 (by omega)
                    have hf81 : s25.1 225 27 = nI 524288 := fc_ne hf73 es21 (by omega)
                    have hf82 : s25.1 225 28 = nI 261888 := fc_ne hf74 es21 (by omega)
                    have hf83 : s25.1 225 29 = nI 196 := fc_ne hf75 es21 (by omega)
                    have hf84 : s25.1 225 30 = nI 48 := fc_ne hf76 es21 (by omega)
                    refine mi_iinc (k := 1) (x := ii21) (d := 1) (y := ii21 + 1) (lv' := [(6, .int (nI (ii21 + 1))), (7, .int (nI z28)), (5, .int (nI z26)), (4, .int (nI i21)), (3, .int (nI my21)), (0, .ref h0), (1, .ref b), (2, .int (nI fi))]) hx hb dMH_readHints_142 hl rfl (by decide) rfl (by decide) rfl (fun ls hl => ?_)
                    refine lv_goto (tgt := 87) hx hb dMH_readHints_145 (by decide) ?_
                    exact ih24 (ii21 + 1) s25 pl ls H locs (by omega) (by omega) (by omega) hF hf77 hf78 hf79 hf80 hf81 hf82 hf83 hf84 hR (lv_sub hl [0, 2, 3, 4, 5, 6, 7] rfl) hO hP hD hS
                  · replace hR := hR.trans (if_neg (Nat.not_le.mpr h31))
                    refine lv_aload_n hx hb dMH_readHints_112 rfl (lv_at hl 6 rfl) ?_
                    refine lv_iload_n hx hb dMH_readHints_113 rfl (lv_at hl 7 rfl) ?_
                    refine lv_iload hx hb dMH_readHints_114 (lv_at hl 1 rfl) ?_
                    refine mi_iadd hx hb dMH_readHints_116 ?_
                    refine lv_iconst (v := nI 1) hx hb dMH_readHints_117 (by decide) ?_
                    refine mi_isub hx hb dMH_readHints_118 (by omega) ?_
                    refine nw_bald hx hb hK hO k_b (k := pb) n_b hP (by omega) (by omega) dMH_readHints_119 ?_
                    refine lv_sipush (v := nI 255) hx hb dMH_readHints_120 (by decide) ?_
                    refine mi_iandT hx hb 8 dMH_readHints_123 (by decide) (by decide) (fun z29 ez29 hz35 => ?_)
                    have hz35 : z29 < 256 := hz35
                    replace hR := bnd_step hR ez29
                    refine lv_iload hx hb dMH_readHints_124 (lv_at hl 0 rfl) ?_
                    refine mi_lt (tgt := 131) hx hb dMH_readHints_126 (by decide) (by omega) (by omega) (fun h32 => ?_) (fun h32 => ?_)
                    · replace hR := hR.trans (if_pos h32)
                      refine lv_aload_n hx hb dMH_readHints_131 rfl (lv_at hl 5 rfl) ?_
                      refine nw_get (C := "LatticeKeysModel$Hands") (TT := T_MH) (N := 31) hx hb hts (wg_ft i_MH) hown hK hO k_h0 (kn := 225) (ci := 12) (fl := [(3, 172), (3, 181), (3, 226), (3, 291), (3, 299), (3, 308), (3, 317), (3, 326), (3, 334), (3, 342), (3, 350), (3, 359), (3, 368), (3, 369), (3, 370), (3, 371), (3, 372), (3, 373), (3, 374), (3, 375), (3, 376), (3, 377), (3, 378), (0, 0), (0, 0), (0, 0), (0, 0), (0, 0), (0, 0), (0, 0), (0, 0)]) rfl hP rfl 11 (by decide) (hts _ (wg_t kw_1443)) (fun _ h9 => h9) (cd := (3, 359)) rfl dMH_readHints_132 (fun v28 hv28 => ?_)
                      obtain ⟨r23, rfl, kr23⟩ := (show ∃ r : Nat, v28 = .ref r ∧ T r = some 359 from hv28)
                      refine lv_iload hx hb dMH_readHints_135 (lv_at hl 3 rfl) ?_
                      refine nw_aald3 hx hb hK hO kr23 (k := 359) (b := 360) rfl hP (by omega) (by omega) dMH_readHints_137 (fun r24 kr24 => ?_)
                      have hn22 : nsp (360 + i21) = (0, 256, []) := rows_ok 360 8 (by decide) _ (by omega)
                      refine lv_iload hx hb dMH_readHints_138 (lv_at hl 0 rfl) ?_
                      refine lv_iconst (v := nI 1) hx hb dMH_readHints_140 (by decide) ?_
                      refine nw_iast hx hb hK hO hU kr24 (k := (360 + i21)) hn22 hP hD hS (by omega) (by omega) dMH_readHints_141 (fun s26 pl H locs es22 hO hP hD hS => ?_)
                      replace hR := bnd_step hR es22
                      have hF := frm_sI hF es22 (by unfold M_MH_readHints_1; omega)
                      have hf85 : s26.1 225 23 = nI 1 := fc_ne hf69 es22 (by omega)
                      have hf86 : s26.1 225 24 = nI 6 := fc_ne hf70 es22 (by omega)
                      have hf87 : s26.1 225 25 = nI 5 := fc_ne hf71 es22 (by omega)
                      have hf88 : s26.1 225 26 = nI 4 := fc_ne hf72 es22 (by omega)
                      have hf89 : s26.1 225 27 = nI 524288 := fc_ne hf73 es22 (by omega)
                      have hf90 : s26.1 225 28 = nI 261888 := fc_ne hf74 es22 (by omega)
                      have hf91 : s26.1 225 29 = nI 196 := fc_ne hf75 es22 (by omega)
                      have hf92 : s26.1 225 30 = nI 48 := fc_ne hf76 es22 (by omega)
                      refine mi_iinc (k := 1) (x := ii21) (d := 1) (y := ii21 + 1) (lv' := [(6, .int (nI (ii21 + 1))), (7, .int (nI z28)), (5, .int (nI z26)), (4, .int (nI i21)), (3, .int (nI my21)), (0, .ref h0), (1, .ref b), (2, .int (nI fi))]) hx hb dMH_readHints_142 hl rfl (by decide) rfl (by decide) rfl (fun ls hl => ?_)
                      refine lv_goto (tgt := 87) hx hb dMH_readHints_145 (by decide) ?_
                      exact ih24 (ii21 + 1) s26 pl ls H locs (by omega) (by omega) (by omega) hF hf85 hf86 hf87 hf88 hf89 hf90 hf91 hf92 hR (lv_sub hl [0, 2, 3, 4, 5, 6, 7] rfl) hO hP hD hS
                    · replace hR := hR.trans (if_neg (Nat.not_lt.mpr h32))
                      refine lv_iconst (v := nI 0) hx hb dMH_readHints_129 (by decide) ?_
                      exact mp_zret hx hb hr hlk rfl hP hD hS ((nI 0, s24), pl) ⟨⟨hR.symm, rfl, hF, trivial⟩, hO⟩ [] rfl rfl rfl (by omega) (by omega) dMH_readHints_130
              exact lp24 (z26 - my21) my21 s23 pl ls _ _ (by omega) (by omega) (by omega) hF hf53 hf54 hf55 hf56 hf57 hf58 hf59 hf60 hR (lv_sub hl [0, 1, 2, 3, 4, 5, 6] rfl) hO hP hD hS
            · replace hR := hR.trans (if_neg (Nat.not_le.mpr h28))
              refine lv_iconst (v := nI 0) hx hb dMH_readHints_82 (by decide) ?_
              exact mp_zret hx hb hr hlk rfl hP hD hS ((nI 0, s23), pl) ⟨⟨hR.symm, rfl, hF, trivial⟩, hO⟩ [] rfl rfl rfl (by omega) (by omega) dMH_readHints_83
        | succ n23 ih23 =>
          intro i23 s23 pl ls H locs hm23 hF hf93 hf94 hf95 hf96 hf97 hf98 hf99 hf100 hR hl hO hP hD hS
          refine lv_iload hx hb dMH_readHints_17 (lv_at hl 0 rfl) ?_
          refine lv_sipush (v := nI 256) hx hb dMH_readHints_19 (by decide) ?_
          refine mi_ge (tgt := 42) hx hb dMH_readHints_22 (by decide) (by omega) (by omega) (fun h33 => absurd h33 (by omega)) (fun h33 => ?_)
          refine lv_aload_n hx hb dMH_readHints_25 rfl (lv_at hl 3 rfl) ?_
          refine nw_get (C := "LatticeKeysModel$Hands") (TT := T_MH) (N := 31) hx hb hts (wg_ft i_MH) hown hK hO k_h0 (kn := 225) (ci := 12) (fl := [(3, 172), (3, 181), (3, 226), (3, 291), (3, 299), (3, 308), (3, 317), (3, 326), (3, 334), (3, 342), (3, 350), (3, 359), (3, 368), (3, 369), (3, 370), (3, 371), (3, 372), (3, 373), (3, 374), (3, 375), (3, 376), (3, 377), (3, 378), (0, 0), (0, 0), (0, 0), (0, 0), (0, 0), (0, 0), (0, 0), (0, 0)]) rfl hP rfl 11 (by decide) (hts _ (wg_t kw_1443)) (fun _ h9 => h9) (cd := (3, 359)) rfl dMH_readHints_26 (fun v29 hv29 => ?_)
          obtain ⟨r25, rfl, kr25⟩ := (show ∃ r : Nat, v29 = .ref r ∧ T r = some 359 from hv29)
          refine lv_iload hx hb dMH_readHints_29 (lv_at hl 1 rfl) ?_
          refine nw_aald3 hx hb hK hO kr25 (k := 359) (b := 360) rfl hP (by omega) (by omega) dMH_readHints_31 (fun r26 kr26 => ?_)
          have hn23 : nsp (360 + i21) = (0, 256, []) := rows_ok 360 8 (by decide) _ (by omega)
          refine lv_iload hx hb dMH_readHints_32 (lv_at hl 0 rfl) ?_
          refine lv_iconst (v := nI 0) hx hb dMH_readHints_34 (by decide) ?_
          refine nw_iast hx hb hK hO hU kr26 (k := (360 + i21)) hn23 hP hD hS (by omega) (by omega) dMH_readHints_35 (fun s27 pl H locs es23 hO hP hD hS => ?_)
          replace hR := bnd_step hR es23
          have hF := frm_sI hF es23 (by unfold M_MH_readHints_1; omega)
          have hf101 : s27.1 225 23 = nI 1 := fc_ne hf93 es23 (by omega)
          have hf102 : s27.1 225 24 = nI 6 := fc_ne hf94 es23 (by omega)
          have hf103 : s27.1 225 25 = nI 5 := fc_ne hf95 es23 (by omega)
          have hf104 : s27.1 225 26 = nI 4 := fc_ne hf96 es23 (by omega)
          have hf105 : s27.1 225 27 = nI 524288 := fc_ne hf97 es23 (by omega)
          have hf106 : s27.1 225 28 = nI 261888 := fc_ne hf98 es23 (by omega)
          have hf107 : s27.1 225 29 = nI 196 := fc_ne hf99 es23 (by omega)
          have hf108 : s27.1 225 30 = nI 48 := fc_ne hf100 es23 (by omega)
          refine mi_iinc (k := 0) (x := i23) (d := 1) (y := i23 + 1) (lv' := [(5, .int (nI (i23 + 1))), (4, .int (nI i21)), (3, .int (nI my21)), (0, .ref h0), (1, .ref b), (2, .int (nI fi))]) hx hb dMH_readHints_36 hl rfl (by decide) rfl (by decide) rfl (fun ls hl => ?_)
          refine lv_goto (tgt := 17) hx hb dMH_readHints_39 (by decide) ?_
          exact ih23 (i23 + 1) s27 pl ls H locs (by omega) hF hf101 hf102 hf103 hf104 hf105 hf106 hf107 hf108 hR (lv_sub hl [0, 1, 2, 3, 4, 5] rfl) hO hP hD hS
      exact lp23 256 0 s21 pl ls _ _ (by omega) hF hf45 hf46 hf47 hf48 hf49 hf50 hf51 hf52 hR (lv_sub hl [0, 1, 2, 3, 4, 5] rfl) hO hP hD hS
  exact lp21 6 0 0 s pl ls _ _ (by omega) (by omega) hF e_c0 e_c1 e_c2 e_c3 e_c4 e_c5 e_c6 e_c7 hR (lv_sub hl [0, 1, 2, 3, 4] rfl) hO hP hD hS
def M_MH_readHints_2 (k : Nat) : Prop := (360 ≤ k ∧ k < 368) ∨ (0 : Nat) = 1
noncomputable def F_MH_readHints_2_L3 (pb : Nat) (fi : Nat) (i21 : Nat) (my21 : Nat) (z26 : Nat) (kk : Nat → Nat → Sto → Int32 × Sto) : Nat → Nat → Sto → Int32 × Sto
  | 0, ii21, s24 => kk (i21 + 1) z26 s24
  | n24 + 1, ii21, s24 => bnd (((s24.1 pb (fi + ii21)) &&& nI 255).toNatClampNeg) fun z28 => if ii21 ≤ my21 then bnd (sI s24 ((360 + i21)) z28 (nI 1)) fun s25 => F_MH_readHints_2_L3 pb fi i21 my21 z26 kk n24 (ii21 + 1) s25 else bnd (((s24.1 pb ((fi + ii21) - 1)) &&& nI 255).toNatClampNeg) fun z29 => if z29 < z28 then bnd (sI s24 ((360 + i21)) z28 (nI 1)) fun s26 => F_MH_readHints_2_L3 pb fi i21 my21 z26 kk n24 (ii21 + 1) s26 else (nI 0, s24)
noncomputable def F_MH_readHints_2_L2 (pb : Nat) (fi : Nat) (i21 : Nat) (my21 : Nat) (kk : Nat → Nat → Sto → Int32 × Sto) : Nat → Nat → Sto → Int32 × Sto
  | 0, i23, s23 => bnd ((s23.1 225 23).toNatClampNeg) fun z25 => bnd (((s23.1 pb ((fi + 75) + i21)) &&& nI 255).toNatClampNeg) fun z26 => if z26 < my21 then (nI 0, s23) else bnd ((s23.1 225 23).toNatClampNeg) fun z27 => if z26 ≤ 75 then F_MH_readHints_2_L3 pb fi i21 my21 z26 (kk) (z26 - my21) my21 s23 else (nI 0, s23)
  | n23 + 1, i23, s23 => bnd (sI s23 ((360 + i21)) i23 (nI 0)) fun s27 => F_MH_readHints_2_L2 pb fi i21 my21 kk n23 (i23 + 1) s27
noncomputable def F_MH_readHints_2_L1 (pb : Nat) (fi : Nat) : Nat → Nat → Sto → Int32 × Sto
  | 0, i22, s22 => bnd ((s22.1 225 23).toNatClampNeg) fun z22 => (nI 1, s22)
  | n22 + 1, i22, s22 => bnd ((s22.1 225 23).toNatClampNeg) fun z23 => if (s22.1 pb (fi + i22)) = 0 then F_MH_readHints_2_L1 pb fi n22 (i22 + 1) s22 else (nI 0, s22)
noncomputable def F_MH_readHints_2_L0 (pb : Nat) (fi : Nat) : Nat → Nat → Nat → Sto → Int32 × Sto
  | 0, i21, my21, s21 => bnd ((s21.1 225 24).toNatClampNeg) fun z21 => F_MH_readHints_2_L1 pb fi (75 - my21) my21 s21
  | n21 + 1, i21, my21, s21 => bnd ((s21.1 225 24).toNatClampNeg) fun z24 => F_MH_readHints_2_L2 pb fi i21 my21 (F_MH_readHints_2_L0 pb fi n21) 256 0 s21
noncomputable def F_MH_readHints_2 (pb : Nat) (fi : Nat) (s : Sto) : Int32 × Sto := F_MH_readHints_2_L0 pb fi 8 0 0 s
set_option maxHeartbeats 8000000 in
set_option maxRecDepth 100000 in
theorem N_MH_readHints_2 (l : Launch) (g : Gd) (sz : Nat) (T : TyN) (s : Sto) (pl : va_W) (hO : okn g T s pl) (hU : inj T) (h0 b : Nat) (pb : Nat) (fi : Nat) (k_h0 : T h0 = some 225) (k_b : T b = some pb) (n_b : nsp pb = (1, 16384, [])) (e_c0 : s.1 225 23 = nI 2) (e_c1 : s.1 225 24 = nI 8) (e_c2 : s.1 225 25 = nI 7) (e_c3 : s.1 225 26 = nI 2) (e_c4 : s.1 225 27 = nI 524288) (e_c5 : s.1 225 28 = nI 261888) (e_c6 : s.1 225 29 = nI 120) (e_c7 : s.1 225 30 = nI 64) (h1 : fi + 83 ≤ 16384)  : Met l y_MH_readHints w_MH_readHints ({ frames := 0, cells := 0, slots := 0, locals := 0 } : Room) (va_Pc [.ref h0, .ref b, .int (nI fi)] (pr (en g) g.1 vcl sz ([] ++ pl))) (va_Qi (fun (r : Int32) (u : (Int32 × Sto) × va_W) => (u.1 = F_MH_readHints_2 pb fi s ∧ r = u.1.1 ∧ frm (M_MH_readHints_2) s u.1.2 ∧ True) ∧ okn g T u.1.2 u.2) (po g.1 vcl (va_A ([] ++ pl) sz) (fun (u : (Int32 × Sto) × va_W) => [] ++ u.2)) (va_A ([] ++ pl) sz)) 0 0 (va_A ([] ++ pl) sz) := by
  refine mc_entry (cc := c_MH_readHints) (maxL := 8) (ret := (some .boolean)) (by decide) rfl (Nat.le_of_ble_eq_true rfl) ?_
  intro p e s0 m args below meth c ls F hr hlk hnm hsz hP hD hE hA hl
  obtain ⟨hx, hb, hml, hown, hts⟩ := id F
  have hK := hE.1
  generalize va_A ([] ++ pl) sz = A at hD hE hA ⊢
  have hS : va_S A s0.heap s0.heap [] := va_S.rf
  have hl : lv_has ls 8 [(0, .ref h0), (1, .ref b), (2, .int (nI fi))] := hl
  have hR : F_MH_readHints_2 pb fi s = F_MH_readHints_2 pb fi s := rfl
  have hF : frm (M_MH_readHints_2) s s := frm_rf
  have ne_172_pb : 172 ≠ pb := nsp_ne (p := 172) rfl n_b (show (5 : Nat) ≠ 1 by decide)
  have ne_225_pb : 225 ≠ pb := nsp_ne (p := 225) rfl n_b (show (5 : Nat) ≠ 1 by decide)
  refine lv_iconst (v := nI 0) hx hb dMH_readHints_0 (by decide) ?_
  refine lv_istore_n (lv' := [(3, .int (nI 0)), (0, .ref h0), (1, .ref b), (2, .int (nI fi))]) hx hb dMH_readHints_1 rfl hl (by decide) rfl (fun ls hl => ?_)
  refine lv_iconst (v := nI 0) hx hb dMH_readHints_2 (by decide) ?_
  refine lv_istore (lv' := [(4, .int (nI 0)), (3, .int (nI 0)), (0, .ref h0), (1, .ref b), (2, .int (nI fi))]) hx hb dMH_readHints_3 hl (by decide) rfl (fun ls hl => ?_)
  have lp21 : ∀ (n21 : Nat) (i21 : Nat) (my21 : Nat) (s21 : Sto) (pl : va_W) (ls : Array Slot) (H : Heap) (locs : List Loc), n21 + i21 = 8 → (my21 ≤ 75) → frm (M_MH_readHints_2) s s21 → s21.1 225 23 = nI 2 → s21.1 225 24 = nI 8 → s21.1 225 25 = nI 7 → s21.1 225 26 = nI 2 → s21.1 225 27 = nI 524288 → s21.1 225 28 = nI 261888 → s21.1 225 29 = nI 120 → s21.1 225 30 = nI 64 → F_MH_readHints_2 pb fi s = F_MH_readHints_2_L0 pb fi n21 i21 my21 s21 → lv_has ls 8 [(4, .int (nI i21)), (3, .int (nI my21)), (0, .ref h0), (1, .ref b), (2, .int (nI fi))] → okn g T s21 pl → va_P g.1 vcl ([] ++ pl) H → va_D A ([] ++ pl) → va_S A s0.heap H locs → W p l e ({ frames := 0, cells := 0, slots := 0, locals := 0 } : Room) s0 m args below meth c H locs 0 0 (MQ below (va_Qi (fun (r : Int32) (u : (Int32 × Sto) × va_W) => (u.1 = F_MH_readHints_2 pb fi s ∧ r = u.1.1 ∧ frm (M_MH_readHints_2) s u.1.2 ∧ True) ∧ okn g T u.1.2 u.2) (po g.1 vcl A (fun (u : (Int32 × Sto) × va_W) => [] ++ u.2)) A) args s0 0 0 A) (F0 m 5 ls []) := by
    intro n21
    induction n21 with
    | zero =>
      intro i21 my21 s21 pl ls H locs hm21 hi21 hF hf21 hf22 hf23 hf24 hf25 hf26 hf27 hf28 hR hl hO hP hD hS
      refine lv_iload hx hb dMH_readHints_5 (lv_at hl 0 rfl) ?_
      refine lv_aload_n hx hb dMH_readHints_7 rfl (lv_at hl 2 rfl) ?_
      refine nw_get (C := "LatticeKeysModel$Hands") (TT := T_MH) (N := 31) hx hb hts (wg_ft i_MH) hown hK hO k_h0 (kn := 225) (ci := 12) (fl := [(3, 172), (3, 181), (3, 226), (3, 291), (3, 299), (3, 308), (3, 317), (3, 326), (3, 334), (3, 342), (3, 350), (3, 359), (3, 368), (3, 369), (3, 370), (3, 371), (3, 372), (3, 373), (3, 374), (3, 375), (3, 376), (3, 377), (3, 378), (0, 0), (0, 0), (0, 0), (0, 0), (0, 0), (0, 0), (0, 0), (0, 0)]) rfl hP rfl 24 (by decide) (hts _ (wg_t kw_1456)) (fun _ h9 => h9) (cd := (0, 0)) rfl dMH_readHints_8 (fun v21 hv21 => ?_)
      obtain rfl := (show v21 = .int (s21.1 225 24) from hv21)
      obtain ⟨z21, ez21, hz21, hz22⟩ := cl_of (b := 2147483648) hf22 (by omega) (by decide)
      replace hR := bnd_step hR ez21
      refine mi_as hz21 ?_
      subst hz22
      refine mi_ge (tgt := 157) hx hb dMH_readHints_11 (by decide) (by omega) (by omega) (fun h21 => ?_) (fun h21 => absurd h21 (by omega))
      refine lv_iload_n hx hb dMH_readHints_157 rfl (lv_at hl 1 rfl) ?_
      refine lv_istore (lv' := [(4, .int (nI my21)), (3, .int (nI my21)), (0, .ref h0), (1, .ref b), (2, .int (nI fi))]) hx hb dMH_readHints_158 hl (by decide) rfl (fun ls hl => ?_)
      have lp22 : ∀ (n22 : Nat) (i22 : Nat) (s22 : Sto) (pl : va_W) (ls : Array Slot) (H : Heap) (locs : List Loc), n22 + i22 = 75 → (my21 ≤ i22) → frm (M_MH_readHints_2) s s22 → s22.1 225 23 = nI 2 → s22.1 225 24 = nI 8 → s22.1 225 25 = nI 7 → s22.1 225 26 = nI 2 → s22.1 225 27 = nI 524288 → s22.1 225 28 = nI 261888 → s22.1 225 29 = nI 120 → s22.1 225 30 = nI 64 → F_MH_readHints_2 pb fi s = F_MH_readHints_2_L1 pb fi n22 i22 s22 → lv_has ls 8 [(4, .int (nI i22)), (0, .ref h0), (1, .ref b), (2, .int (nI fi))] → okn g T s22 pl → va_P g.1 vcl ([] ++ pl) H → va_D A ([] ++ pl) → va_S A s0.heap H locs → W p l e ({ frames := 0, cells := 0, slots := 0, locals := 0 } : Room) s0 m args below meth c H locs 0 0 (MQ below (va_Qi (fun (r : Int32) (u : (Int32 × Sto) × va_W) => (u.1 = F_MH_readHints_2 pb fi s ∧ r = u.1.1 ∧ frm (M_MH_readHints_2) s u.1.2 ∧ True) ∧ okn g T u.1.2 u.2) (po g.1 vcl A (fun (u : (Int32 × Sto) × va_W) => [] ++ u.2)) A) args s0 0 0 A) (F0 m 160 ls []) := by
        intro n22
        induction n22 with
        | zero =>
          intro i22 s22 pl ls H locs hm22 hi22 hF hf29 hf30 hf31 hf32 hf33 hf34 hf35 hf36 hR hl hO hP hD hS
          refine lv_iload hx hb dMH_readHints_160 (lv_at hl 0 rfl) ?_
          refine va_gets hx hb (hE.2.1 27 _ rfl).1 hS hown (hts _ (wg_t kw_1908)) (fun _ h9 => h9) dMH_readHints_162 ?_
          refine lv_aload_n hx hb dMH_readHints_165 rfl (lv_at hl 1 rfl) ?_
          refine nw_get (C := "LatticeKeysModel$Hands") (TT := T_MH) (N := 31) hx hb hts (wg_ft i_MH) hown hK hO k_h0 (kn := 225) (ci := 12) (fl := [(3, 172), (3, 181), (3, 226), (3, 291), (3, 299), (3, 308), (3, 317), (3, 326), (3, 334), (3, 342), (3, 350), (3, 359), (3, 368), (3, 369), (3, 370), (3, 371), (3, 372), (3, 373), (3, 374), (3, 375), (3, 376), (3, 377), (3, 378), (0, 0), (0, 0), (0, 0), (0, 0), (0, 0), (0, 0), (0, 0), (0, 0)]) rfl hP rfl 23 (by decide) (hts _ (wg_t kw_1455)) (fun _ h9 => h9) (cd := (0, 0)) rfl dMH_readHints_166 (fun v22 hv22 => ?_)
          obtain rfl := (show v22 = .int (s22.1 225 23) from hv22)
          obtain ⟨z22, ez22, hz23, hz24⟩ := cl_of (b := 2147483648) hf29 (by omega) (by decide)
          replace hR := bnd_step hR ez22
          refine mi_as hz23 ?_
          subst hz24
          refine va_ti (v := .int (nI 75)) hx hb (hE.2.1 27 _ rfl).2 hS (vp_in_nI (by decide) (by decide)) (by decide +kernel) dMH_readHints_169 ?_
          refine mi_ge (tgt := 190) hx hb dMH_readHints_170 (by decide) (by omega) (by omega) (fun h22 => ?_) (fun h22 => absurd h22 (by omega))
          refine lv_iconst (v := nI 1) hx hb dMH_readHints_190 (by decide) ?_
          exact mp_zret hx hb hr hlk rfl hP hD hS ((nI 1, s22), pl) ⟨⟨hR.symm, rfl, hF, trivial⟩, hO⟩ [] rfl rfl rfl (by omega) (by omega) dMH_readHints_191
        | succ n22 ih22 =>
          intro i22 s22 pl ls H locs hm22 hi22 hF hf37 hf38 hf39 hf40 hf41 hf42 hf43 hf44 hR hl hO hP hD hS
          refine lv_iload hx hb dMH_readHints_160 (lv_at hl 0 rfl) ?_
          refine va_gets hx hb (hE.2.1 27 _ rfl).1 hS hown (hts _ (wg_t kw_1908)) (fun _ h9 => h9) dMH_readHints_162 ?_
          refine lv_aload_n hx hb dMH_readHints_165 rfl (lv_at hl 1 rfl) ?_
          refine nw_get (C := "LatticeKeysModel$Hands") (TT := T_MH) (N := 31) hx hb hts (wg_ft i_MH) hown hK hO k_h0 (kn := 225) (ci := 12) (fl := [(3, 172), (3, 181), (3, 226), (3, 291), (3, 299), (3, 308), (3, 317), (3, 326), (3, 334), (3, 342), (3, 350), (3, 359), (3, 368), (3, 369), (3, 370), (3, 371), (3, 372), (3, 373), (3, 374), (3, 375), (3, 376), (3, 377), (3, 378), (0, 0), (0, 0), (0, 0), (0, 0), (0, 0), (0, 0), (0, 0), (0, 0)]) rfl hP rfl 23 (by decide) (hts _ (wg_t kw_1455)) (fun _ h9 => h9) (cd := (0, 0)) rfl dMH_readHints_166 (fun v23 hv23 => ?_)
          obtain rfl := (show v23 = .int (s22.1 225 23) from hv23)
          obtain ⟨z23, ez23, hz25, hz26⟩ := cl_of (b := 2147483648) hf37 (by omega) (by decide)
          replace hR := bnd_step hR ez23
          refine mi_as hz25 ?_
          subst hz26
          refine va_ti (v := .int (nI 75)) hx hb (hE.2.1 27 _ rfl).2 hS (vp_in_nI (by decide) (by decide)) (by decide +kernel) dMH_readHints_169 ?_
          refine mi_ge (tgt := 190) hx hb dMH_readHints_170 (by decide) (by omega) (by omega) (fun h23 => absurd h23 (by omega)) (fun h23 => ?_)
          refine lv_aload_n hx hb dMH_readHints_173 rfl (lv_at hl 2 rfl) ?_
          refine lv_iload_n hx hb dMH_readHints_174 rfl (lv_at hl 3 rfl) ?_
          refine lv_iload hx hb dMH_readHints_175 (lv_at hl 0 rfl) ?_
          refine mi_iadd hx hb dMH_readHints_177 ?_
          refine nw_bald hx hb hK hO k_b (k := pb) n_b hP (by omega) (by omega) dMH_readHints_178 ?_
          refine lv_if_eq (tgt := 184) hx hb dMH_readHints_179 (by decide) (fun h24 => ?_) (fun h24 => ?_)
          · replace hR := hR.trans (if_pos h24)
            refine mi_iinc (k := 0) (x := i22) (d := 1) (y := i22 + 1) (lv' := [(4, .int (nI (i22 + 1))), (0, .ref h0), (1, .ref b), (2, .int (nI fi))]) hx hb dMH_readHints_184 hl rfl (by decide) rfl (by decide) rfl (fun ls hl => ?_)
            refine lv_goto (tgt := 160) hx hb dMH_readHints_187 (by decide) ?_
            exact ih22 (i22 + 1) s22 pl ls H locs (by omega) (by omega) hF hf37 hf38 hf39 hf40 hf41 hf42 hf43 hf44 hR (lv_sub hl [0, 1, 2, 3] rfl) hO hP hD hS
          · replace hR := hR.trans (if_neg h24)
            refine lv_iconst (v := nI 0) hx hb dMH_readHints_182 (by decide) ?_
            exact mp_zret hx hb hr hlk rfl hP hD hS ((nI 0, s22), pl) ⟨⟨hR.symm, rfl, hF, trivial⟩, hO⟩ [] rfl rfl rfl (by omega) (by omega) dMH_readHints_183
      exact lp22 (75 - my21) my21 s21 pl ls _ _ (by omega) (by omega) hF hf21 hf22 hf23 hf24 hf25 hf26 hf27 hf28 hR (lv_sub hl [0, 2, 3, 4] rfl) hO hP hD hS
    | succ n21 ih21 =>
      intro i21 my21 s21 pl ls H locs hm21 hi21 hF hf45 hf46 hf47 hf48 hf49 hf50 hf51 hf52 hR hl hO hP hD hS
      refine lv_iload hx hb dMH_readHints_5 (lv_at hl 0 rfl) ?_
      refine lv_aload_n hx hb dMH_readHints_7 rfl (lv_at hl 2 rfl) ?_
      refine nw_get (C := "LatticeKeysModel$Hands") (TT := T_MH) (N := 31) hx hb hts (wg_ft i_MH) hown hK hO k_h0 (kn := 225) (ci := 12) (fl := [(3, 172), (3, 181), (3, 226), (3, 291), (3, 299), (3, 308), (3, 317), (3, 326), (3, 334), (3, 342), (3, 350), (3, 359), (3, 368), (3, 369), (3, 370), (3, 371), (3, 372), (3, 373), (3, 374), (3, 375), (3, 376), (3, 377), (3, 378), (0, 0), (0, 0), (0, 0), (0, 0), (0, 0), (0, 0), (0, 0), (0, 0)]) rfl hP rfl 24 (by decide) (hts _ (wg_t kw_1456)) (fun _ h9 => h9) (cd := (0, 0)) rfl dMH_readHints_8 (fun v24 hv24 => ?_)
      obtain rfl := (show v24 = .int (s21.1 225 24) from hv24)
      obtain ⟨z24, ez24, hz27, hz28⟩ := cl_of (b := 2147483648) hf46 (by omega) (by decide)
      replace hR := bnd_step hR ez24
      refine mi_as hz27 ?_
      subst hz28
      refine mi_ge (tgt := 157) hx hb dMH_readHints_11 (by decide) (by omega) (by omega) (fun h25 => absurd h25 (by omega)) (fun h25 => ?_)
      refine lv_iconst (v := nI 0) hx hb dMH_readHints_14 (by decide) ?_
      refine lv_istore (lv' := [(5, .int (nI 0)), (4, .int (nI i21)), (3, .int (nI my21)), (0, .ref h0), (1, .ref b), (2, .int (nI fi))]) hx hb dMH_readHints_15 hl (by decide) rfl (fun ls hl => ?_)
      have lp23 : ∀ (n23 : Nat) (i23 : Nat) (s23 : Sto) (pl : va_W) (ls : Array Slot) (H : Heap) (locs : List Loc), n23 + i23 = 256 → frm (M_MH_readHints_2) s s23 → s23.1 225 23 = nI 2 → s23.1 225 24 = nI 8 → s23.1 225 25 = nI 7 → s23.1 225 26 = nI 2 → s23.1 225 27 = nI 524288 → s23.1 225 28 = nI 261888 → s23.1 225 29 = nI 120 → s23.1 225 30 = nI 64 → F_MH_readHints_2 pb fi s = F_MH_readHints_2_L2 pb fi i21 my21 (F_MH_readHints_2_L0 pb fi n21) n23 i23 s23 → lv_has ls 8 [(5, .int (nI i23)), (4, .int (nI i21)), (3, .int (nI my21)), (0, .ref h0), (1, .ref b), (2, .int (nI fi))] → okn g T s23 pl → va_P g.1 vcl ([] ++ pl) H → va_D A ([] ++ pl) → va_S A s0.heap H locs → W p l e ({ frames := 0, cells := 0, slots := 0, locals := 0 } : Room) s0 m args below meth c H locs 0 0 (MQ below (va_Qi (fun (r : Int32) (u : (Int32 × Sto) × va_W) => (u.1 = F_MH_readHints_2 pb fi s ∧ r = u.1.1 ∧ frm (M_MH_readHints_2) s u.1.2 ∧ True) ∧ okn g T u.1.2 u.2) (po g.1 vcl A (fun (u : (Int32 × Sto) × va_W) => [] ++ u.2)) A) args s0 0 0 A) (F0 m 17 ls []) := by
        intro n23
        induction n23 with
        | zero =>
          intro i23 s23 pl ls H locs hm23 hF hf53 hf54 hf55 hf56 hf57 hf58 hf59 hf60 hR hl hO hP hD hS
          refine lv_iload hx hb dMH_readHints_17 (lv_at hl 0 rfl) ?_
          refine lv_sipush (v := nI 256) hx hb dMH_readHints_19 (by decide) ?_
          refine mi_ge (tgt := 42) hx hb dMH_readHints_22 (by decide) (by omega) (by omega) (fun h26 => ?_) (fun h26 => absurd h26 (by omega))
          refine lv_aload_n hx hb dMH_readHints_42 rfl (lv_at hl 4 rfl) ?_
          refine lv_iload_n hx hb dMH_readHints_43 rfl (lv_at hl 5 rfl) ?_
          refine va_gets hx hb (hE.2.1 27 _ rfl).1 hS hown (hts _ (wg_t kw_1908)) (fun _ h9 => h9) dMH_readHints_44 ?_
          refine lv_aload_n hx hb dMH_readHints_47 rfl (lv_at hl 3 rfl) ?_
          refine nw_get (C := "LatticeKeysModel$Hands") (TT := T_MH) (N := 31) hx hb hts (wg_ft i_MH) hown hK hO k_h0 (kn := 225) (ci := 12) (fl := [(3, 172), (3, 181), (3, 226), (3, 291), (3, 299), (3, 308), (3, 317), (3, 326), (3, 334), (3, 342), (3, 350), (3, 359), (3, 368), (3, 369), (3, 370), (3, 371), (3, 372), (3, 373), (3, 374), (3, 375), (3, 376), (3, 377), (3, 378), (0, 0), (0, 0), (0, 0), (0, 0), (0, 0), (0, 0), (0, 0), (0, 0)]) rfl hP rfl 23 (by decide) (hts _ (wg_t kw_1455)) (fun _ h9 => h9) (cd := (0, 0)) rfl dMH_readHints_48 (fun v25 hv25 => ?_)
          obtain rfl := (show v25 = .int (s23.1 225 23) from hv25)
          obtain ⟨z25, ez25, hz29, hz30⟩ := cl_of (b := 2147483648) hf53 (by omega) (by decide)
          replace hR := bnd_step hR ez25
          refine mi_as hz29 ?_
          subst hz30
          refine va_ti (v := .int (nI 75)) hx hb (hE.2.1 27 _ rfl).2 hS (vp_in_nI (by decide) (by decide)) (by decide +kernel) dMH_readHints_51 ?_
          refine mi_iadd hx hb dMH_readHints_52 ?_
          refine lv_iload hx hb dMH_readHints_53 (lv_at hl 1 rfl) ?_
          refine mi_iadd hx hb dMH_readHints_55 ?_
          refine nw_bald hx hb hK hO k_b (k := pb) n_b hP (by omega) (by omega) dMH_readHints_56 ?_
          refine lv_sipush (v := nI 255) hx hb dMH_readHints_57 (by decide) ?_
          refine mi_iandT hx hb 8 dMH_readHints_60 (by decide) (by decide) (fun z26 ez26 hz31 => ?_)
          have hz31 : z26 < 256 := hz31
          replace hR := bnd_step hR ez26
          refine lv_istore (lv' := [(5, .int (nI z26)), (4, .int (nI i21)), (3, .int (nI my21)), (0, .ref h0), (1, .ref b), (2, .int (nI fi))]) hx hb dMH_readHints_61 hl (by decide) rfl (fun ls hl => ?_)
          refine lv_iload hx hb dMH_readHints_63 (lv_at hl 0 rfl) ?_
          refine lv_iload_n hx hb dMH_readHints_65 rfl (lv_at hl 2 rfl) ?_
          refine mi_lt (tgt := 82) hx hb dMH_readHints_66 (by decide) (by omega) (by omega) (fun h27 => ?_) (fun h27 => ?_)
          · replace hR := hR.trans (if_pos h27)
            refine lv_iconst (v := nI 0) hx hb dMH_readHints_82 (by decide) ?_
            exact mp_zret hx hb hr hlk rfl hP hD hS ((nI 0, s23), pl) ⟨⟨hR.symm, rfl, hF, trivial⟩, hO⟩ [] rfl rfl rfl (by omega) (by omega) dMH_readHints_83
          · replace hR := hR.trans (if_neg (Nat.not_lt.mpr h27))
            refine lv_iload hx hb dMH_readHints_69 (lv_at hl 0 rfl) ?_
            refine va_gets hx hb (hE.2.1 27 _ rfl).1 hS hown (hts _ (wg_t kw_1908)) (fun _ h9 => h9) dMH_readHints_71 ?_
            refine lv_aload_n hx hb dMH_readHints_74 rfl (lv_at hl 3 rfl) ?_
            refine nw_get (C := "LatticeKeysModel$Hands") (TT := T_MH) (N := 31) hx hb hts (wg_ft i_MH) hown hK hO k_h0 (kn := 225) (ci := 12) (fl := [(3, 172), (3, 181), (3, 226), (3, 291), (3, 299), (3, 308), (3, 317), (3, 326), (3, 334), (3, 342), (3, 350), (3, 359), (3, 368), (3, 369), (3, 370), (3, 371), (3, 372), (3, 373), (3, 374), (3, 375), (3, 376), (3, 377), (3, 378), (0, 0), (0, 0), (0, 0), (0, 0), (0, 0), (0, 0), (0, 0), (0, 0)]) rfl hP rfl 23 (by decide) (hts _ (wg_t kw_1455)) (fun _ h9 => h9) (cd := (0, 0)) rfl dMH_readHints_75 (fun v26 hv26 => ?_)
            obtain rfl := (show v26 = .int (s23.1 225 23) from hv26)
            obtain ⟨z27, ez27, hz32, hz33⟩ := cl_of (b := 2147483648) hf53 (by omega) (by decide)
            replace hR := bnd_step hR ez27
            refine mi_as hz32 ?_
            subst hz33
            refine va_ti (v := .int (nI 75)) hx hb (hE.2.1 27 _ rfl).2 hS (vp_in_nI (by decide) (by decide)) (by decide +kernel) dMH_readHints_78 ?_
            refine mi_le (tgt := 84) hx hb dMH_readHints_79 (by decide) (by omega) (by omega) (fun h28 => ?_) (fun h28 => ?_)
            · replace hR := hR.trans (if_pos h28)
              refine lv_iload_n hx hb dMH_readHints_84 rfl (lv_at hl 2 rfl) ?_
              refine lv_istore (lv' := [(6, .int (nI my21)), (5, .int (nI z26)), (4, .int (nI i21)), (3, .int (nI my21)), (0, .ref h0), (1, .ref b), (2, .int (nI fi))]) hx hb dMH_readHints_85 hl (by decide) rfl (fun ls hl => ?_)
              have lp24 : ∀ (n24 : Nat) (ii21 : Nat) (s24 : Sto) (pl : va_W) (ls : Array Slot) (H : Heap) (locs : List Loc), n24 = z26 - ii21 → (my21 ≤ ii21) → (ii21 ≤ 75) → frm (M_MH_readHints_2) s s24 → s24.1 225 23 = nI 2 → s24.1 225 24 = nI 8 → s24.1 225 25 = nI 7 → s24.1 225 26 = nI 2 → s24.1 225 27 = nI 524288 → s24.1 225 28 = nI 261888 → s24.1 225 29 = nI 120 → s24.1 225 30 = nI 64 → F_MH_readHints_2 pb fi s = F_MH_readHints_2_L3 pb fi i21 my21 z26 (F_MH_readHints_2_L0 pb fi n21) n24 ii21 s24 → lv_has ls 8 [(6, .int (nI ii21)), (5, .int (nI z26)), (4, .int (nI i21)), (3, .int (nI my21)), (0, .ref h0), (1, .ref b), (2, .int (nI fi))] → okn g T s24 pl → va_P g.1 vcl ([] ++ pl) H → va_D A ([] ++ pl) → va_S A s0.heap H locs → W p l e ({ frames := 0, cells := 0, slots := 0, locals := 0 } : Room) s0 m args below meth c H locs 0 0 (MQ below (va_Qi (fun (r : Int32) (u : (Int32 × Sto) × va_W) => (u.1 = F_MH_readHints_2 pb fi s ∧ r = u.1.1 ∧ frm (M_MH_readHints_2) s u.1.2 ∧ True) ∧ okn g T u.1.2 u.2) (po g.1 vcl A (fun (u : (Int32 × Sto) × va_W) => [] ++ u.2)) A) args s0 0 0 A) (F0 m 87 ls []) := by
                intro n24
                induction n24 with
                | zero =>
                  intro ii21 s24 pl ls H locs hm24 hi23 hi24 hF hf61 hf62 hf63 hf64 hf65 hf66 hf67 hf68 hR hl hO hP hD hS
                  refine lv_iload hx hb dMH_readHints_87 (lv_at hl 0 rfl) ?_
                  refine lv_iload hx hb dMH_readHints_89 (lv_at hl 1 rfl) ?_
                  refine mi_ge (tgt := 148) hx hb dMH_readHints_91 (by decide) (by omega) (by omega) (fun h29 => ?_) (fun h29 => absurd h29 (by omega))
                  refine lv_iload hx hb dMH_readHints_148 (lv_at hl 1 rfl) ?_
                  refine lv_istore_n (lv' := [(3, .int (nI z26)), (6, .int (nI ii21)), (5, .int (nI z26)), (4, .int (nI i21)), (0, .ref h0), (1, .ref b), (2, .int (nI fi))]) hx hb dMH_readHints_150 rfl hl (by decide) rfl (fun ls hl => ?_)
                  refine mi_iinc (k := 3) (x := i21) (d := 1) (y := i21 + 1) (lv' := [(4, .int (nI (i21 + 1))), (3, .int (nI z26)), (6, .int (nI ii21)), (5, .int (nI z26)), (0, .ref h0), (1, .ref b), (2, .int (nI fi))]) hx hb dMH_readHints_151 hl rfl (by decide) rfl (by decide) rfl (fun ls hl => ?_)
                  refine lv_goto (tgt := 5) hx hb dMH_readHints_154 (by decide) ?_
                  exact ih21 (i21 + 1) z26 s24 pl ls H locs (by omega) (by omega) hF hf61 hf62 hf63 hf64 hf65 hf66 hf67 hf68 hR (lv_sub hl [0, 1, 4, 5, 6] rfl) hO hP hD hS
                | succ n24 ih24 =>
                  intro ii21 s24 pl ls H locs hm24 hi23 hi24 hF hf69 hf70 hf71 hf72 hf73 hf74 hf75 hf76 hR hl hO hP hD hS
                  refine lv_iload hx hb dMH_readHints_87 (lv_at hl 0 rfl) ?_
                  refine lv_iload hx hb dMH_readHints_89 (lv_at hl 1 rfl) ?_
                  refine mi_ge (tgt := 148) hx hb dMH_readHints_91 (by decide) (by omega) (by omega) (fun h30 => absurd h30 (by omega)) (fun h30 => ?_)
                  refine lv_aload_n hx hb dMH_readHints_94 rfl (lv_at hl 5 rfl) ?_
                  refine lv_iload_n hx hb dMH_readHints_95 rfl (lv_at hl 6 rfl) ?_
                  refine lv_iload hx hb dMH_readHints_96 (lv_at hl 0 rfl) ?_
                  refine mi_iadd hx hb dMH_readHints_98 ?_
                  refine nw_bald hx hb hK hO k_b (k := pb) n_b hP (by omega) (by omega) dMH_readHints_99 ?_
                  refine lv_sipush (v := nI 255) hx hb dMH_readHints_100 (by decide) ?_
                  refine mi_iandT hx hb 8 dMH_readHints_103 (by decide) (by decide) (fun z28 ez28 hz34 => ?_)
                  have hz34 : z28 < 256 := hz34
                  replace hR := bnd_step hR ez28
                  refine lv_istore (lv' := [(7, .int (nI z28)), (6, .int (nI ii21)), (5, .int (nI z26)), (4, .int (nI i21)), (3, .int (nI my21)), (0, .ref h0), (1, .ref b), (2, .int (nI fi))]) hx hb dMH_readHints_104 hl (by decide) rfl (fun ls hl => ?_)
                  refine lv_iload hx hb dMH_readHints_106 (lv_at hl 1 rfl) ?_
                  refine lv_iload_n hx hb dMH_readHints_108 rfl (lv_at hl 4 rfl) ?_
                  refine mi_le (tgt := 131) hx hb dMH_readHints_109 (by decide) (by omega) (by omega) (fun h31 => ?_) (fun h31 => ?_)
                  · replace hR := hR.trans (if_pos h31)
                    refine lv_aload_n hx hb dMH_readHints_131 rfl (lv_at hl 5 rfl) ?_
                    refine nw_get (C := "LatticeKeysModel$Hands") (TT := T_MH) (N := 31) hx hb hts (wg_ft i_MH) hown hK hO k_h0 (kn := 225) (ci := 12) (fl := [(3, 172), (3, 181), (3, 226), (3, 291), (3, 299), (3, 308), (3, 317), (3, 326), (3, 334), (3, 342), (3, 350), (3, 359), (3, 368), (3, 369), (3, 370), (3, 371), (3, 372), (3, 373), (3, 374), (3, 375), (3, 376), (3, 377), (3, 378), (0, 0), (0, 0), (0, 0), (0, 0), (0, 0), (0, 0), (0, 0), (0, 0)]) rfl hP rfl 11 (by decide) (hts _ (wg_t kw_1443)) (fun _ h9 => h9) (cd := (3, 359)) rfl dMH_readHints_132 (fun v27 hv27 => ?_)
                    obtain ⟨r21, rfl, kr21⟩ := (show ∃ r : Nat, v27 = .ref r ∧ T r = some 359 from hv27)
                    refine lv_iload hx hb dMH_readHints_135 (lv_at hl 3 rfl) ?_
                    refine nw_aald3 hx hb hK hO kr21 (k := 359) (b := 360) rfl hP (by omega) (by omega) dMH_readHints_137 (fun r22 kr22 => ?_)
                    have hn21 : nsp (360 + i21) = (0, 256, []) := rows_ok 360 8 (by decide) _ (by omega)
                    refine lv_iload hx hb dMH_readHints_138 (lv_at hl 0 rfl) ?_
                    refine lv_iconst (v := nI 1) hx hb dMH_readHints_140 (by decide) ?_
                    refine nw_iast hx hb hK hO hU kr22 (k := (360 + i21)) hn21 hP hD hS (by omega) (by omega) dMH_readHints_141 (fun s25 pl H locs es21 hO hP hD hS => ?_)
                    replace hR := bnd_step hR es21
                    have hF := frm_sI hF es21 (by unfold M_MH_readHints_2; omega)
                    have hf77 : s25.1 225 23 = nI 2 := fc_ne hf69 es21 (by omega)
                    have hf78 : s25.1 225 24 = nI 8 := fc_ne hf70 es21 (by omega)
                    have hf79 : s25.1 225 25 = nI 7 := fc_ne hf71 es21 (by omega)
                    have hf80 : s25.1 225 26 = nI 2 := fc_ne hf72 es21 (by omega)
                    have hf81 : s25.1 225 27 = nI 524288 := fc_ne hf73 es21 (by omega)
                    have hf82 : s25.1 225 28 = nI 261888 := fc_ne hf74 es21 (by omega)
                    have hf83 : s25.1 225 29 = nI 120 := fc_ne hf75 es21 (by omega)
                    have hf84 : s25.1 225 30 = nI 64 := fc_ne hf76 es21 (by omega)
                    refine mi_iinc (k := 1) (x := ii21) (d := 1) (y := ii21 + 1) (lv' := [(6, .int (nI (ii21 + 1))), (7, .int (nI z28)), (5, .int (nI z26)), (4, .int (nI i21)), (3, .int (nI my21)), (0, .ref h0), (1, .ref b), (2, .int (nI fi))]) hx hb dMH_readHints_142 hl rfl (by decide) rfl (by decide) rfl (fun ls hl => ?_)
                    refine lv_goto (tgt := 87) hx hb dMH_readHints_145 (by decide) ?_
                    exact ih24 (ii21 + 1) s25 pl ls H locs (by omega) (by omega) (by omega) hF hf77 hf78 hf79 hf80 hf81 hf82 hf83 hf84 hR (lv_sub hl [0, 2, 3, 4, 5, 6, 7] rfl) hO hP hD hS
                  · replace hR := hR.trans (if_neg (Nat.not_le.mpr h31))
                    refine lv_aload_n hx hb dMH_readHints_112 rfl (lv_at hl 6 rfl) ?_
                    refine lv_iload_n hx hb dMH_readHints_113 rfl (lv_at hl 7 rfl) ?_
                    refine lv_iload hx hb dMH_readHints_114 (lv_at hl 1 rfl) ?_
                    refine mi_iadd hx hb dMH_readHints_116 ?_
                    refine lv_iconst (v := nI 1) hx hb dMH_readHints_117 (by decide) ?_
                    refine mi_isub hx hb dMH_readHints_118 (by omega) ?_
                    refine nw_bald hx hb hK hO k_b (k := pb) n_b hP (by omega) (by omega) dMH_readHints_119 ?_
                    refine lv_sipush (v := nI 255) hx hb dMH_readHints_120 (by decide) ?_
                    refine mi_iandT hx hb 8 dMH_readHints_123 (by decide) (by decide) (fun z29 ez29 hz35 => ?_)
                    have hz35 : z29 < 256 := hz35
                    replace hR := bnd_step hR ez29
                    refine lv_iload hx hb dMH_readHints_124 (lv_at hl 0 rfl) ?_
                    refine mi_lt (tgt := 131) hx hb dMH_readHints_126 (by decide) (by omega) (by omega) (fun h32 => ?_) (fun h32 => ?_)
                    · replace hR := hR.trans (if_pos h32)
                      refine lv_aload_n hx hb dMH_readHints_131 rfl (lv_at hl 5 rfl) ?_
                      refine nw_get (C := "LatticeKeysModel$Hands") (TT := T_MH) (N := 31) hx hb hts (wg_ft i_MH) hown hK hO k_h0 (kn := 225) (ci := 12) (fl := [(3, 172), (3, 181), (3, 226), (3, 291), (3, 299), (3, 308), (3, 317), (3, 326), (3, 334), (3, 342), (3, 350), (3, 359), (3, 368), (3, 369), (3, 370), (3, 371), (3, 372), (3, 373), (3, 374), (3, 375), (3, 376), (3, 377), (3, 378), (0, 0), (0, 0), (0, 0), (0, 0), (0, 0), (0, 0), (0, 0), (0, 0)]) rfl hP rfl 11 (by decide) (hts _ (wg_t kw_1443)) (fun _ h9 => h9) (cd := (3, 359)) rfl dMH_readHints_132 (fun v28 hv28 => ?_)
                      obtain ⟨r23, rfl, kr23⟩ := (show ∃ r : Nat, v28 = .ref r ∧ T r = some 359 from hv28)
                      refine lv_iload hx hb dMH_readHints_135 (lv_at hl 3 rfl) ?_
                      refine nw_aald3 hx hb hK hO kr23 (k := 359) (b := 360) rfl hP (by omega) (by omega) dMH_readHints_137 (fun r24 kr24 => ?_)
                      have hn22 : nsp (360 + i21) = (0, 256, []) := rows_ok 360 8 (by decide) _ (by omega)
                      refine lv_iload hx hb dMH_readHints_138 (lv_at hl 0 rfl) ?_
                      refine lv_iconst (v := nI 1) hx hb dMH_readHints_140 (by decide) ?_
                      refine nw_iast hx hb hK hO hU kr24 (k := (360 + i21)) hn22 hP hD hS (by omega) (by omega) dMH_readHints_141 (fun s26 pl H locs es22 hO hP hD hS => ?_)
                      replace hR := bnd_step hR es22
                      have hF := frm_sI hF es22 (by unfold M_MH_readHints_2; omega)
                      have hf85 : s26.1 225 23 = nI 2 := fc_ne hf69 es22 (by omega)
                      have hf86 : s26.1 225 24 = nI 8 := fc_ne hf70 es22 (by omega)
                      have hf87 : s26.1 225 25 = nI 7 := fc_ne hf71 es22 (by omega)
                      have hf88 : s26.1 225 26 = nI 2 := fc_ne hf72 es22 (by omega)
                      have hf89 : s26.1 225 27 = nI 524288 := fc_ne hf73 es22 (by omega)
                      have hf90 : s26.1 225 28 = nI 261888 := fc_ne hf74 es22 (by omega)
                      have hf91 : s26.1 225 29 = nI 120 := fc_ne hf75 es22 (by omega)
                      have hf92 : s26.1 225 30 = nI 64 := fc_ne hf76 es22 (by omega)
                      refine mi_iinc (k := 1) (x := ii21) (d := 1) (y := ii21 + 1) (lv' := [(6, .int (nI (ii21 + 1))), (7, .int (nI z28)), (5, .int (nI z26)), (4, .int (nI i21)), (3, .int (nI my21)), (0, .ref h0), (1, .ref b), (2, .int (nI fi))]) hx hb dMH_readHints_142 hl rfl (by decide) rfl (by decide) rfl (fun ls hl => ?_)
                      refine lv_goto (tgt := 87) hx hb dMH_readHints_145 (by decide) ?_
                      exact ih24 (ii21 + 1) s26 pl ls H locs (by omega) (by omega) (by omega) hF hf85 hf86 hf87 hf88 hf89 hf90 hf91 hf92 hR (lv_sub hl [0, 2, 3, 4, 5, 6, 7] rfl) hO hP hD hS
                    · replace hR := hR.trans (if_neg (Nat.not_lt.mpr h32))
                      refine lv_iconst (v := nI 0) hx hb dMH_readHints_129 (by decide) ?_
                      exact mp_zret hx hb hr hlk rfl hP hD hS ((nI 0, s24), pl) ⟨⟨hR.symm, rfl, hF, trivial⟩, hO⟩ [] rfl rfl rfl (by omega) (by omega) dMH_readHints_130
              exact lp24 (z26 - my21) my21 s23 pl ls _ _ (by omega) (by omega) (by omega) hF hf53 hf54 hf55 hf56 hf57 hf58 hf59 hf60 hR (lv_sub hl [0, 1, 2, 3, 4, 5, 6] rfl) hO hP hD hS
            · replace hR := hR.trans (if_neg (Nat.not_le.mpr h28))
              refine lv_iconst (v := nI 0) hx hb dMH_readHints_82 (by decide) ?_
              exact mp_zret hx hb hr hlk rfl hP hD hS ((nI 0, s23), pl) ⟨⟨hR.symm, rfl, hF, trivial⟩, hO⟩ [] rfl rfl rfl (by omega) (by omega) dMH_readHints_83
        | succ n23 ih23 =>
          intro i23 s23 pl ls H locs hm23 hF hf93 hf94 hf95 hf96 hf97 hf98 hf99 hf100 hR hl hO hP hD hS
          refine lv_iload hx hb dMH_readHints_17 (lv_at hl 0 rfl) ?_
          refine lv_sipush (v := nI 256) hx hb dMH_readHints_19 (by decide) ?_
          refine mi_ge (tgt := 42) hx hb dMH_readHints_22 (by decide) (by omega) (by omega) (fun h33 => absurd h33 (by omega)) (fun h33 => ?_)
          refine lv_aload_n hx hb dMH_readHints_25 rfl (lv_at hl 3 rfl) ?_
          refine nw_get (C := "LatticeKeysModel$Hands") (TT := T_MH) (N := 31) hx hb hts (wg_ft i_MH) hown hK hO k_h0 (kn := 225) (ci := 12) (fl := [(3, 172), (3, 181), (3, 226), (3, 291), (3, 299), (3, 308), (3, 317), (3, 326), (3, 334), (3, 342), (3, 350), (3, 359), (3, 368), (3, 369), (3, 370), (3, 371), (3, 372), (3, 373), (3, 374), (3, 375), (3, 376), (3, 377), (3, 378), (0, 0), (0, 0), (0, 0), (0, 0), (0, 0), (0, 0), (0, 0), (0, 0)]) rfl hP rfl 11 (by decide) (hts _ (wg_t kw_1443)) (fun _ h9 => h9) (cd := (3, 359)) rfl dMH_readHints_26 (fun v29 hv29 => ?_)
          obtain ⟨r25, rfl, kr25⟩ := (show ∃ r : Nat, v29 = .ref r ∧ T r = some 359 from hv29)
          refine lv_iload hx hb dMH_readHints_29 (lv_at hl 1 rfl) ?_
          refine nw_aald3 hx hb hK hO kr25 (k := 359) (b := 360) rfl hP (by omega) (by omega) dMH_readHints_31 (fun r26 kr26 => ?_)
          have hn23 : nsp (360 + i21) = (0, 256, []) := rows_ok 360 8 (by decide) _ (by omega)
          refine lv_iload hx hb dMH_readHints_32 (lv_at hl 0 rfl) ?_
          refine lv_iconst (v := nI 0) hx hb dMH_readHints_34 (by decide) ?_
          refine nw_iast hx hb hK hO hU kr26 (k := (360 + i21)) hn23 hP hD hS (by omega) (by omega) dMH_readHints_35 (fun s27 pl H locs es23 hO hP hD hS => ?_)
          replace hR := bnd_step hR es23
          have hF := frm_sI hF es23 (by unfold M_MH_readHints_2; omega)
          have hf101 : s27.1 225 23 = nI 2 := fc_ne hf93 es23 (by omega)
          have hf102 : s27.1 225 24 = nI 8 := fc_ne hf94 es23 (by omega)
          have hf103 : s27.1 225 25 = nI 7 := fc_ne hf95 es23 (by omega)
          have hf104 : s27.1 225 26 = nI 2 := fc_ne hf96 es23 (by omega)
          have hf105 : s27.1 225 27 = nI 524288 := fc_ne hf97 es23 (by omega)
          have hf106 : s27.1 225 28 = nI 261888 := fc_ne hf98 es23 (by omega)
          have hf107 : s27.1 225 29 = nI 120 := fc_ne hf99 es23 (by omega)
          have hf108 : s27.1 225 30 = nI 64 := fc_ne hf100 es23 (by omega)
          refine mi_iinc (k := 0) (x := i23) (d := 1) (y := i23 + 1) (lv' := [(5, .int (nI (i23 + 1))), (4, .int (nI i21)), (3, .int (nI my21)), (0, .ref h0), (1, .ref b), (2, .int (nI fi))]) hx hb dMH_readHints_36 hl rfl (by decide) rfl (by decide) rfl (fun ls hl => ?_)
          refine lv_goto (tgt := 17) hx hb dMH_readHints_39 (by decide) ?_
          exact ih23 (i23 + 1) s27 pl ls H locs (by omega) hF hf101 hf102 hf103 hf104 hf105 hf106 hf107 hf108 hR (lv_sub hl [0, 1, 2, 3, 4, 5] rfl) hO hP hD hS
      exact lp23 256 0 s21 pl ls _ _ (by omega) hF hf45 hf46 hf47 hf48 hf49 hf50 hf51 hf52 hR (lv_sub hl [0, 1, 2, 3, 4, 5] rfl) hO hP hD hS
  exact lp21 8 0 0 s pl ls _ _ (by omega) (by omega) hF e_c0 e_c1 e_c2 e_c3 e_c4 e_c5 e_c6 e_c7 hR (lv_sub hl [0, 1, 2, 3, 4] rfl) hO hP hD hS
def M_MH_expand_0 (k : Nat) : Prop := (227 ≤ k ∧ k < 291) ∨ k = 172 ∨ (0 : Nat) = 1
noncomputable def F_MH_expand_0_L2 (i21 : Nat) (i22 : Nat) (kk : Nat → Sto → Sto) : Nat → Nat → Sto → Sto
  | 0, nn21, s28 => kk (i22 + 1) s28
  | n23 + 1, nn21, s28 => if 256 ≤ nn21 then kk (i22 + 1) s28 else bnd (F_MS_next  s28) fun q21 => bnd (q21.1.toNatClampNeg) fun z25 => bnd (F_MS_next  q21.2) fun q22 => bnd (q22.1.toNatClampNeg) fun z26 => bnd (((nI z25) + ((nI z26) <<< ((nI 8) &&& 31)))) fun z27 => bnd (F_MS_next  q22.2) fun q23 => bnd (q23.1.toNatClampNeg) fun z28 => bnd ((z27 + (((nI z28) &&& (nI 127)) <<< ((nI 16) &&& 31)))) fun z29 => if z29 < (nI 8380417) then bnd (sI q23.2 ((227 + ((8 * i21) + i22))) nn21 z29) fun s29 => F_MH_expand_0_L2 i21 i22 kk n23 (nn21 + 1) s29 else F_MH_expand_0_L2 i21 i22 kk n23 nn21 q23.2
noncomputable def E_MH_expand_0_L2 (i21 : Nat) (i22 : Nat) (ke : Nat → Sto → Prop) : Nat → Nat → Sto → Prop
  | 0, nn21, s28 => (256 ≤ nn21) ∧ (ke (i22 + 1) s28)
  | n23 + 1, nn21, s28 => if 256 ≤ nn21 then ke (i22 + 1) s28 else bnd (F_MS_next  s28) fun q21 => bnd (q21.1.toNatClampNeg) fun z25 => bnd (F_MS_next  q21.2) fun q22 => bnd (q22.1.toNatClampNeg) fun z26 => bnd (((nI z25) + ((nI z26) <<< ((nI 8) &&& 31)))) fun z27 => bnd (F_MS_next  q22.2) fun q23 => bnd (q23.1.toNatClampNeg) fun z28 => bnd ((z27 + (((nI z28) &&& (nI 127)) <<< ((nI 16) &&& 31)))) fun z29 => if z29 < (nI 8380417) then bnd (sI q23.2 ((227 + ((8 * i21) + i22))) nn21 z29) fun s29 => E_MH_expand_0_L2 i21 i22 ke n23 (nn21 + 1) s29 else E_MH_expand_0_L2 i21 i22 ke n23 nn21 q23.2
noncomputable def F_MH_expand_0_L1 (pb : Nat) (n : Nat) (i21 : Nat) (kk : Nat → Sto → Sto) : Nat → Nat → Sto → Sto
  | 0, i22, s22 => bnd ((s22.1 225 25).toNatClampNeg) fun z23 => kk (i21 + 1) s22
  | n22 + 1, i22, s22 => bnd ((s22.1 225 25).toNatClampNeg) fun z24 => bnd (F_MS_begin 168 (nI 31) s22) fun s23 => bnd (F_MS_puts pb n 0 32 s23) fun s24 => bnd (F_MS_put (nI i22) s24) fun s25 => bnd (F_MS_put (nI i21) s25) fun s26 => bnd (F_MS_end  s26) fun s27 => F_MH_expand_0_L2 i21 i22 (F_MH_expand_0_L1 pb n i21 kk n22) 1000000 0 s27
noncomputable def E_MH_expand_0_L1 (pb : Nat) (n : Nat) (i21 : Nat) (ke : Nat → Sto → Prop) : Nat → Nat → Sto → Prop
  | 0, i22, s22 => bnd ((s22.1 225 25).toNatClampNeg) fun z23 => ke (i21 + 1) s22
  | n22 + 1, i22, s22 => bnd ((s22.1 225 25).toNatClampNeg) fun z24 => bnd (F_MS_begin 168 (nI 31) s22) fun s23 => bnd (F_MS_puts pb n 0 32 s23) fun s24 => bnd (F_MS_put (nI i22) s24) fun s25 => bnd (F_MS_put (nI i21) s25) fun s26 => bnd (F_MS_end  s26) fun s27 => E_MH_expand_0_L2 i21 i22 (E_MH_expand_0_L1 pb n i21 ke n22) 1000000 0 s27
noncomputable def F_MH_expand_0_L0 (pb : Nat) (n : Nat) : Nat → Nat → Sto → Sto
  | 0, i21, s21 => bnd ((s21.1 225 24).toNatClampNeg) fun z21 => s21
  | n21 + 1, i21, s21 => bnd ((s21.1 225 24).toNatClampNeg) fun z22 => F_MH_expand_0_L1 pb n i21 (F_MH_expand_0_L0 pb n n21) 4 0 s21
noncomputable def E_MH_expand_0_L0 (pb : Nat) (n : Nat) : Nat → Nat → Sto → Prop
  | 0, i21, s21 => bnd ((s21.1 225 24).toNatClampNeg) fun z21 => True
  | n21 + 1, i21, s21 => bnd ((s21.1 225 24).toNatClampNeg) fun z22 => E_MH_expand_0_L1 pb n i21 (E_MH_expand_0_L0 pb n n21) 4 0 s21
noncomputable def F_MH_expand_0 (pb : Nat) (n : Nat) (s : Sto) : Sto := F_MH_expand_0_L0 pb n 4 0 s
noncomputable def E_MH_expand_0 (pb : Nat) (n : Nat) (s : Sto) : Prop := E_MH_expand_0_L0 pb n 4 0 s
set_option maxHeartbeats 8000000 in
set_option maxRecDepth 100000 in
theorem N_MH_expand_0 (l : Launch) (g : Gd) (sz : Nat) (T : TyN) (s : Sto) (pl : va_W) (hO : okn g T s pl) (hU : inj T) (h0 b : Nat) (pb : Nat) (n : Nat) (k_h0 : T h0 = some 225) (k_b : T b = some pb) (n_b : nsp pb = (1, n, [])) (e_c0 : s.1 225 23 = nI 0) (e_c1 : s.1 225 24 = nI 4) (e_c2 : s.1 225 25 = nI 4) (e_c3 : s.1 225 26 = nI 2) (e_c4 : s.1 225 27 = nI 131072) (e_c5 : s.1 225 28 = nI 95232) (e_c6 : s.1 225 29 = nI 78) (e_c7 : s.1 225 30 = nI 32) (h1 : 32 ≤ n) (h2 : n < 65536) (hE : E_MH_expand_0 pb n s)  : Met l y_MH_expand w_MH_expand ({ frames := 4, cells := 0, slots := 0, locals := 90 } : Room) (va_Pc [.ref h0, .ref b] (pr (en g) g.1 vcl sz ([] ++ pl))) (va_Qv (fun (u : (Sto) × va_W) => (u.1 = F_MH_expand_0 pb n s ∧ frm (M_MH_expand_0) s u.1 ∧ True) ∧ okn g T u.1 u.2) (po g.1 vcl (va_A ([] ++ pl) sz) (fun (u : (Sto) × va_W) => [] ++ u.2)) (va_A ([] ++ pl) sz)) 0 0 (va_A ([] ++ pl) sz) := by
  refine mc_entry (cc := c_MH_expand) (maxL := 6) (ret := none) (by decide) rfl (Nat.le_of_ble_eq_true rfl) ?_
  intro p e s0 m args below meth c ls F hr hlk hnm hsz hP hD hEn hA hl
  obtain ⟨hx, hb, hml, hown, hts⟩ := id F
  have hK := hEn.1
  generalize va_A ([] ++ pl) sz = A at hD hEn hA ⊢
  have hS : va_S A s0.heap s0.heap [] := va_S.rf
  have hl : lv_has ls 6 [(0, .ref h0), (1, .ref b)] := hl
  have hR : F_MH_expand_0 pb n s = F_MH_expand_0 pb n s := rfl
  have hF : frm (M_MH_expand_0) s s := frm_rf
  have ne_172_pb : 172 ≠ pb := nsp_ne (p := 172) rfl n_b (show (5 : Nat) ≠ 1 by decide)
  have ne_225_pb : 225 ≠ pb := nsp_ne (p := 225) rfl n_b (show (5 : Nat) ≠ 1 by decide)
  refine lv_iconst (v := nI 0) hx hb dMH_expand_0 (by decide) ?_
  refine lv_istore_n (lv' := [(2, .int (nI 0)), (0, .ref h0), (1, .ref b)]) hx hb dMH_expand_1 rfl hl (by decide) rfl (fun ls hl => ?_)
  have lp21 : ∀ (n21 : Nat) (i21 : Nat) (s21 : Sto) (pl : va_W) (ls : Array Slot) (H : Heap) (locs : List Loc), n21 + i21 = 4 → frm (M_MH_expand_0) s s21 → s21.1 225 23 = nI 0 → s21.1 225 24 = nI 4 → s21.1 225 25 = nI 4 → s21.1 225 26 = nI 2 → s21.1 225 27 = nI 131072 → s21.1 225 28 = nI 95232 → s21.1 225 29 = nI 78 → s21.1 225 30 = nI 32 → E_MH_expand_0_L0 pb n n21 i21 s21 → F_MH_expand_0 pb n s = F_MH_expand_0_L0 pb n n21 i21 s21 → lv_has ls 6 [(2, .int (nI i21)), (0, .ref h0), (1, .ref b)] → okn g T s21 pl → va_P g.1 vcl ([] ++ pl) H → va_D A ([] ++ pl) → va_S A s0.heap H locs → W p l e ({ frames := 4, cells := 0, slots := 0, locals := 90 } : Room) s0 m args below meth c H locs 0 0 (MQ below (va_Qv (fun (u : (Sto) × va_W) => (u.1 = F_MH_expand_0 pb n s ∧ frm (M_MH_expand_0) s u.1 ∧ True) ∧ okn g T u.1 u.2) (po g.1 vcl A (fun (u : (Sto) × va_W) => [] ++ u.2)) A) args s0 0 0 A) (F0 m 2 ls []) := by
    intro n21
    induction n21 with
    | zero =>
      intro i21 s21 pl ls H locs hm21 hF hf21 hf22 hf23 hf24 hf25 hf26 hf27 hf28 hE hR hl hO hP hD hS
      refine lv_iload_n hx hb dMH_expand_2 rfl (lv_at hl 0 rfl) ?_
      refine lv_aload_n hx hb dMH_expand_3 rfl (lv_at hl 1 rfl) ?_
      refine nw_get (C := "LatticeKeysModel$Hands") (TT := T_MH) (N := 31) hx hb hts (wg_ft i_MH) hown hK hO k_h0 (kn := 225) (ci := 12) (fl := [(3, 172), (3, 181), (3, 226), (3, 291), (3, 299), (3, 308), (3, 317), (3, 326), (3, 334), (3, 342), (3, 350), (3, 359), (3, 368), (3, 369), (3, 370), (3, 371), (3, 372), (3, 373), (3, 374), (3, 375), (3, 376), (3, 377), (3, 378), (0, 0), (0, 0), (0, 0), (0, 0), (0, 0), (0, 0), (0, 0), (0, 0)]) rfl hP rfl 24 (by decide) (hts _ (wg_t kw_1456)) (fun _ h9 => h9) (cd := (0, 0)) rfl dMH_expand_4 (fun v21 hv21 => ?_)
      obtain rfl := (show v21 = .int (s21.1 225 24) from hv21)
      obtain ⟨z21, ez21, hz21, hz22⟩ := cl_of (b := 2147483648) hf22 (by omega) (by decide)
      replace hR := bnd_step hR ez21
      replace hE := bndP_step hE ez21
      refine mi_as hz21 ?_
      subst hz22
      refine mi_ge (tgt := 163) hx hb dMH_expand_7 (by decide) (by omega) (by omega) (fun h21 => ?_) (fun h21 => absurd h21 (by omega))
      exact mp_vret hx hb hr hlk hP hD hS (s21, pl) ⟨⟨hR.symm, hF, trivial⟩, hO⟩ [] rfl rfl rfl (by omega) (by omega) dMH_expand_163
    | succ n21 ih21 =>
      intro i21 s21 pl ls H locs hm21 hF hf29 hf30 hf31 hf32 hf33 hf34 hf35 hf36 hE hR hl hO hP hD hS
      refine lv_iload_n hx hb dMH_expand_2 rfl (lv_at hl 0 rfl) ?_
      refine lv_aload_n hx hb dMH_expand_3 rfl (lv_at hl 1 rfl) ?_
      refine nw_get (C := "LatticeKeysModel$Hands") (TT := T_MH) (N := 31) hx hb hts (wg_ft i_MH) hown hK hO k_h0 (kn := 225) (ci := 12) (fl := [(3, 172), (3, 181), (3, 226), (3, 291), (3, 299), (3, 308), (3, 317), (3, 326), (3, 334), (3, 342), (3, 350), (3, 359), (3, 368), (3, 369), (3, 370), (3, 371), (3, 372), (3, 373), (3, 374), (3, 375), (3, 376), (3, 377), (3, 378), (0, 0), (0, 0), (0, 0), (0, 0), (0, 0), (0, 0), (0, 0), (0, 0)]) rfl hP rfl 24 (by decide) (hts _ (wg_t kw_1456)) (fun _ h9 => h9) (cd := (0, 0)) rfl dMH_expand_4 (fun v22 hv22 => ?_)
      obtain rfl := (show v22 = .int (s21.1 225 24) from hv22)
      obtain ⟨z22, ez22, hz23, hz24⟩ := cl_of (b := 2147483648) hf30 (by omega) (by decide)
      replace hR := bnd_step hR ez22
      replace hE := bndP_step hE ez22
      refine mi_as hz23 ?_
      subst hz24
      refine mi_ge (tgt := 163) hx hb dMH_expand_7 (by decide) (by omega) (by omega) (fun h22 => absurd h22 (by omega)) (fun h22 => ?_)
      refine lv_iconst (v := nI 0) hx hb dMH_expand_10 (by decide) ?_
      refine lv_istore_n (lv' := [(3, .int (nI 0)), (2, .int (nI i21)), (0, .ref h0), (1, .ref b)]) hx hb dMH_expand_11 rfl hl (by decide) rfl (fun ls hl => ?_)
      have lp22 : ∀ (n22 : Nat) (i22 : Nat) (s22 : Sto) (pl : va_W) (ls : Array Slot) (H : Heap) (locs : List Loc), n22 + i22 = 4 → frm (M_MH_expand_0) s s22 → s22.1 225 23 = nI 0 → s22.1 225 24 = nI 4 → s22.1 225 25 = nI 4 → s22.1 225 26 = nI 2 → s22.1 225 27 = nI 131072 → s22.1 225 28 = nI 95232 → s22.1 225 29 = nI 78 → s22.1 225 30 = nI 32 → E_MH_expand_0_L1 pb n i21 (E_MH_expand_0_L0 pb n n21) n22 i22 s22 → F_MH_expand_0 pb n s = F_MH_expand_0_L1 pb n i21 (F_MH_expand_0_L0 pb n n21) n22 i22 s22 → lv_has ls 6 [(3, .int (nI i22)), (2, .int (nI i21)), (0, .ref h0), (1, .ref b)] → okn g T s22 pl → va_P g.1 vcl ([] ++ pl) H → va_D A ([] ++ pl) → va_S A s0.heap H locs → W p l e ({ frames := 4, cells := 0, slots := 0, locals := 90 } : Room) s0 m args below meth c H locs 0 0 (MQ below (va_Qv (fun (u : (Sto) × va_W) => (u.1 = F_MH_expand_0 pb n s ∧ frm (M_MH_expand_0) s u.1 ∧ True) ∧ okn g T u.1 u.2) (po g.1 vcl A (fun (u : (Sto) × va_W) => [] ++ u.2)) A) args s0 0 0 A) (F0 m 12 ls []) := by
        intro n22
        induction n22 with
        | zero =>
          intro i22 s22 pl ls H locs hm22 hF hf37 hf38 hf39 hf40 hf41 hf42 hf43 hf44 hE hR hl hO hP hD hS
          refine lv_iload_n hx hb dMH_expand_12 rfl (lv_at hl 0 rfl) ?_
          refine lv_aload_n hx hb dMH_expand_13 rfl (lv_at hl 2 rfl) ?_
          refine nw_get (C := "LatticeKeysModel$Hands") (TT := T_MH) (N := 31) hx hb hts (wg_ft i_MH) hown hK hO k_h0 (kn := 225) (ci := 12) (fl := [(3, 172), (3, 181), (3, 226), (3, 291), (3, 299), (3, 308), (3, 317), (3, 326), (3, 334), (3, 342), (3, 350), (3, 359), (3, 368), (3, 369), (3, 370), (3, 371), (3, 372), (3, 373), (3, 374), (3, 375), (3, 376), (3, 377), (3, 378), (0, 0), (0, 0), (0, 0), (0, 0), (0, 0), (0, 0), (0, 0), (0, 0)]) rfl hP rfl 25 (by decide) (hts _ (wg_t kw_1457)) (fun _ h9 => h9) (cd := (0, 0)) rfl dMH_expand_14 (fun v23 hv23 => ?_)
          obtain rfl := (show v23 = .int (s22.1 225 25) from hv23)
          obtain ⟨z23, ez23, hz25, hz26⟩ := cl_of (b := 2147483648) hf39 (by omega) (by decide)
          replace hR := bnd_step hR ez23
          replace hE := bndP_step hE ez23
          refine mi_as hz25 ?_
          subst hz26
          refine mi_ge (tgt := 157) hx hb dMH_expand_17 (by decide) (by omega) (by omega) (fun h23 => ?_) (fun h23 => absurd h23 (by omega))
          refine mi_iinc (k := 1) (x := i21) (d := 1) (y := i21 + 1) (lv' := [(2, .int (nI (i21 + 1))), (3, .int (nI i22)), (0, .ref h0), (1, .ref b)]) hx hb dMH_expand_157 hl rfl (by decide) rfl (by decide) rfl (fun ls hl => ?_)
          refine lv_goto (tgt := 2) hx hb dMH_expand_160 (by decide) ?_
          exact ih21 (i21 + 1) s22 pl ls H locs (by omega) hF hf37 hf38 hf39 hf40 hf41 hf42 hf43 hf44 hE hR (lv_sub hl [0, 2, 3] rfl) hO hP hD hS
        | succ n22 ih22 =>
          intro i22 s22 pl ls H locs hm22 hF hf45 hf46 hf47 hf48 hf49 hf50 hf51 hf52 hE hR hl hO hP hD hS
          refine lv_iload_n hx hb dMH_expand_12 rfl (lv_at hl 0 rfl) ?_
          refine lv_aload_n hx hb dMH_expand_13 rfl (lv_at hl 2 rfl) ?_
          refine nw_get (C := "LatticeKeysModel$Hands") (TT := T_MH) (N := 31) hx hb hts (wg_ft i_MH) hown hK hO k_h0 (kn := 225) (ci := 12) (fl := [(3, 172), (3, 181), (3, 226), (3, 291), (3, 299), (3, 308), (3, 317), (3, 326), (3, 334), (3, 342), (3, 350), (3, 359), (3, 368), (3, 369), (3, 370), (3, 371), (3, 372), (3, 373), (3, 374), (3, 375), (3, 376), (3, 377), (3, 378), (0, 0), (0, 0), (0, 0), (0, 0), (0, 0), (0, 0), (0, 0), (0, 0)]) rfl hP rfl 25 (by decide) (hts _ (wg_t kw_1457)) (fun _ h9 => h9) (cd := (0, 0)) rfl dMH_expand_14 (fun v24 hv24 => ?_)
          obtain rfl := (show v24 = .int (s22.1 225 25) from hv24)
          obtain ⟨z24, ez24, hz27, hz28⟩ := cl_of (b := 2147483648) hf47 (by omega) (by decide)
          replace hR := bnd_step hR ez24
          replace hE := bndP_step hE ez24
          refine mi_as hz27 ?_
          subst hz28
          refine mi_ge (tgt := 157) hx hb dMH_expand_17 (by decide) (by omega) (by omega) (fun h24 => absurd h24 (by omega)) (fun h24 => ?_)
          refine lv_aload_n hx hb dMH_expand_20 rfl (lv_at hl 2 rfl) ?_
          refine nw_get (C := "LatticeKeysModel$Hands") (TT := T_MH) (N := 31) hx hb hts (wg_ft i_MH) hown hK hO k_h0 (kn := 225) (ci := 12) (fl := [(3, 172), (3, 181), (3, 226), (3, 291), (3, 299), (3, 308), (3, 317), (3, 326), (3, 334), (3, 342), (3, 350), (3, 359), (3, 368), (3, 369), (3, 370), (3, 371), (3, 372), (3, 373), (3, 374), (3, 375), (3, 376), (3, 377), (3, 378), (0, 0), (0, 0), (0, 0), (0, 0), (0, 0), (0, 0), (0, 0), (0, 0)]) rfl hP rfl 0 (by decide) (hts _ (wg_t kw_1432)) (fun _ h9 => h9) (cd := (3, 172)) rfl dMH_expand_21 (fun v25 hv25 => ?_)
          obtain ⟨r21, rfl, kr21⟩ := (show ∃ r : Nat, v25 = .ref r ∧ T r = some 172 from hv25)
          refine lv_sipush (v := nI 168) hx hb dMH_expand_24 (by decide) ?_
          refine lv_bipush (v := nI 31) hx hb dMH_expand_27 (by decide) ?_
          refine mp_v (cx := []) (wr := []) hP hD hS hA [] [] rfl rfl rfl (by decide) (va_runV (As := [.int (nI 168), .int (nI 31)]) (rest := []) F (N_MS_begin l g _ T s22 pl hO hU r21 168 (nI 31) kr21 (by omega)) (cwV 2 hts (wg_app (wg_c kw_1723 (wg_c kw_1604 (wg_c kw_1605 (wg_c kw_10 wg_n)))) kw_1606) rfl rfl rfl (by decide +kernel) ⟨by decide, by decide⟩) (pn_V (en_ok g) (ci := 9) (kn := 172) (fl := [(3, 173), (3, 174), (3, 175), (3, 176), (3, 177), (0, 0), (0, 0), (0, 0)]) hK hO kr21 rfl hP hD hS hA hEn [] rfl rfl rfl) rfl rfl hl.1 rfl (lv_room (Nat.le_of_ble_eq_true rfl)) dMH_expand_29 ⟨by omega, by omega⟩) (fun  u21 H locs hu21 hP hD hS => ?_)
          obtain ⟨s23, pl⟩ := u21
          obtain ⟨⟨eq21, hFc21, ⟨x21, hx_21, hb_21⟩, ⟨x22, hx_22, hb_22⟩, -⟩, hO⟩ := hu21
          have hO : okn g T s23 pl := hO
          have hP : va_P g.1 vcl ([] ++ pl) _ := hP
          have hD : va_D _ ([] ++ pl) := hD
          have hFc21 : frm (M_MS_begin) s22 s23 := hFc21
          have hb_21 : x21 = 0 := hb_21
          have hb_22 : x22 = 168 := hb_22
          replace hR := bnd_step hR eq21
          replace hE := bndP_step hE eq21
          have hF := frm_tr hF hFc21 (fun k hk => by unfold M_MS_begin at hk; unfold M_MH_expand_0; omega)
          have hf53 : s23.1 225 23 = nI 0 := fc_F hf45 hFc21 (by unfold M_MS_begin; omega)
          have hf54 : s23.1 225 24 = nI 4 := fc_F hf46 hFc21 (by unfold M_MS_begin; omega)
          have hf55 : s23.1 225 25 = nI 4 := fc_F hf47 hFc21 (by unfold M_MS_begin; omega)
          have hf56 : s23.1 225 26 = nI 2 := fc_F hf48 hFc21 (by unfold M_MS_begin; omega)
          have hf57 : s23.1 225 27 = nI 131072 := fc_F hf49 hFc21 (by unfold M_MS_begin; omega)
          have hf58 : s23.1 225 28 = nI 95232 := fc_F hf50 hFc21 (by unfold M_MS_begin; omega)
          have hf59 : s23.1 225 29 = nI 78 := fc_F hf51 hFc21 (by unfold M_MS_begin; omega)
          have hf60 : s23.1 225 30 = nI 32 := fc_F hf52 hFc21 (by unfold M_MS_begin; omega)
          refine W.widen (k := 0) (n := 0) (by omega) (by omega) ?_
          refine lv_aload_n hx hb dMH_expand_32 rfl (lv_at hl 2 rfl) ?_
          refine nw_get (C := "LatticeKeysModel$Hands") (TT := T_MH) (N := 31) hx hb hts (wg_ft i_MH) hown hK hO k_h0 (kn := 225) (ci := 12) (fl := [(3, 172), (3, 181), (3, 226), (3, 291), (3, 299), (3, 308), (3, 317), (3, 326), (3, 334), (3, 342), (3, 350), (3, 359), (3, 368), (3, 369), (3, 370), (3, 371), (3, 372), (3, 373), (3, 374), (3, 375), (3, 376), (3, 377), (3, 378), (0, 0), (0, 0), (0, 0), (0, 0), (0, 0), (0, 0), (0, 0), (0, 0)]) rfl hP rfl 0 (by decide) (hts _ (wg_t kw_1432)) (fun _ h9 => h9) (cd := (3, 172)) rfl dMH_expand_33 (fun v26 hv26 => ?_)
          obtain ⟨r22, rfl, kr22⟩ := (show ∃ r : Nat, v26 = .ref r ∧ T r = some 172 from hv26)
          refine lv_aload_n hx hb dMH_expand_36 rfl (lv_at hl 3 rfl) ?_
          refine lv_iconst (v := nI 0) hx hb dMH_expand_37 (by decide) ?_
          refine lv_bipush (v := nI 32) hx hb dMH_expand_38 (by decide) ?_
          refine mp_v (cx := []) (wr := []) hP hD hS hA [] [] rfl rfl rfl (by decide) (va_runV (As := [.ref b, .int (nI 0), .int (nI 32)]) (rest := []) F (N_MS_puts l g _ T s23 pl hO hU r22 b pb n 0 32 x21 x22 kr22 k_b n_b hx_21 hx_22 (by omega) (by omega) (by omega) (by omega)) (cwV 3 hts (wg_app (wg_c kw_1715 (wg_c kw_1608 (wg_c kw_1609 (wg_c kw_10 wg_n)))) kw_1610) rfl rfl rfl (by decide +kernel) ⟨by decide, by decide⟩) (pn_V (en_ok g) (ci := 9) (kn := 172) (fl := [(3, 173), (3, 174), (3, 175), (3, 176), (3, 177), (0, 0), (0, 0), (0, 0)]) hK hO kr22 rfl hP hD hS hA hEn [] rfl rfl rfl) rfl rfl hl.1 rfl (lv_room (Nat.le_of_ble_eq_true rfl)) dMH_expand_40 ⟨by omega, by omega⟩) (fun  u22 H locs hu22 hP hD hS => ?_)
          obtain ⟨s24, pl⟩ := u22
          obtain ⟨⟨eq22, hFc22, ⟨x24, hx_24, hb_24⟩, ⟨x25, hx_25, hb_25⟩, -⟩, hO⟩ := hu22
          have hO : okn g T s24 pl := hO
          have hP : va_P g.1 vcl ([] ++ pl) _ := hP
          have hD : va_D _ ([] ++ pl) := hD
          have hFc22 : frm (M_MS_puts) s23 s24 := hFc22
          have hb_24 : x24 < x22 := hb_24
          have hb_25 : x25 = x22 := hb_25
          replace hR := bnd_step hR eq22
          replace hE := bndP_step hE eq22
          have hF := frm_tr hF hFc22 (fun k hk => by unfold M_MS_puts at hk; unfold M_MH_expand_0; omega)
          have hf61 : s24.1 225 23 = nI 0 := fc_F hf53 hFc22 (by unfold M_MS_puts; omega)
          have hf62 : s24.1 225 24 = nI 4 := fc_F hf54 hFc22 (by unfold M_MS_puts; omega)
          have hf63 : s24.1 225 25 = nI 4 := fc_F hf55 hFc22 (by unfold M_MS_puts; omega)
          have hf64 : s24.1 225 26 = nI 2 := fc_F hf56 hFc22 (by unfold M_MS_puts; omega)
          have hf65 : s24.1 225 27 = nI 131072 := fc_F hf57 hFc22 (by unfold M_MS_puts; omega)
          have hf66 : s24.1 225 28 = nI 95232 := fc_F hf58 hFc22 (by unfold M_MS_puts; omega)
          have hf67 : s24.1 225 29 = nI 78 := fc_F hf59 hFc22 (by unfold M_MS_puts; omega)
          have hf68 : s24.1 225 30 = nI 32 := fc_F hf60 hFc22 (by unfold M_MS_puts; omega)
          refine W.widen (k := 0) (n := 0) (by omega) (by omega) ?_
          refine lv_aload_n hx hb dMH_expand_43 rfl (lv_at hl 2 rfl) ?_
          refine nw_get (C := "LatticeKeysModel$Hands") (TT := T_MH) (N := 31) hx hb hts (wg_ft i_MH) hown hK hO k_h0 (kn := 225) (ci := 12) (fl := [(3, 172), (3, 181), (3, 226), (3, 291), (3, 299), (3, 308), (3, 317), (3, 326), (3, 334), (3, 342), (3, 350), (3, 359), (3, 368), (3, 369), (3, 370), (3, 371), (3, 372), (3, 373), (3, 374), (3, 375), (3, 376), (3, 377), (3, 378), (0, 0), (0, 0), (0, 0), (0, 0), (0, 0), (0, 0), (0, 0), (0, 0)]) rfl hP rfl 0 (by decide) (hts _ (wg_t kw_1432)) (fun _ h9 => h9) (cd := (3, 172)) rfl dMH_expand_44 (fun v27 hv27 => ?_)
          obtain ⟨r23, rfl, kr23⟩ := (show ∃ r : Nat, v27 = .ref r ∧ T r = some 172 from hv27)
          refine lv_iload_n hx hb dMH_expand_47 rfl (lv_at hl 0 rfl) ?_
          refine mp_v (cx := []) (wr := []) hP hD hS hA [] [] rfl rfl rfl (by decide) (va_runV (As := [.int (nI i22)]) (rest := []) F (N_MS_put l g _ T s24 pl hO hU r23 (nI i22) x24 x25 kr23 hx_24 hx_25 (by omega) (by omega)) (cwV 1 hts (wg_app (wg_c kw_1716 (wg_c kw_1612 (wg_c kw_1613 (wg_c kw_10 wg_n)))) kw_1614) rfl rfl rfl (by decide +kernel) ⟨by decide, by decide⟩) (pn_V (en_ok g) (ci := 9) (kn := 172) (fl := [(3, 173), (3, 174), (3, 175), (3, 176), (3, 177), (0, 0), (0, 0), (0, 0)]) hK hO kr23 rfl hP hD hS hA hEn [] rfl rfl rfl) rfl rfl hl.1 rfl (lv_room (Nat.le_of_ble_eq_true rfl)) dMH_expand_48 ⟨by omega, by omega⟩) (fun  u23 H locs hu23 hP hD hS => ?_)
          obtain ⟨s25, pl⟩ := u23
          obtain ⟨⟨eq23, hFc23, ⟨x27, hx_27, hb_27⟩, ⟨x28, hx_28, hb_28⟩, -⟩, hO⟩ := hu23
          have hO : okn g T s25 pl := hO
          have hP : va_P g.1 vcl ([] ++ pl) _ := hP
          have hD : va_D _ ([] ++ pl) := hD
          have hFc23 : frm (M_MS_put) s24 s25 := hFc23
          have hb_27 : x27 < x25 := hb_27
          have hb_28 : x28 = x25 := hb_28
          replace hR := bnd_step hR eq23
          replace hE := bndP_step hE eq23
          have hF := frm_tr hF hFc23 (fun k hk => by unfold M_MS_put at hk; unfold M_MH_expand_0; omega)
          have hf69 : s25.1 225 23 = nI 0 := fc_F hf61 hFc23 (by unfold M_MS_put; omega)
          have hf70 : s25.1 225 24 = nI 4 := fc_F hf62 hFc23 (by unfold M_MS_put; omega)
          have hf71 : s25.1 225 25 = nI 4 := fc_F hf63 hFc23 (by unfold M_MS_put; omega)
          have hf72 : s25.1 225 26 = nI 2 := fc_F hf64 hFc23 (by unfold M_MS_put; omega)
          have hf73 : s25.1 225 27 = nI 131072 := fc_F hf65 hFc23 (by unfold M_MS_put; omega)
          have hf74 : s25.1 225 28 = nI 95232 := fc_F hf66 hFc23 (by unfold M_MS_put; omega)
          have hf75 : s25.1 225 29 = nI 78 := fc_F hf67 hFc23 (by unfold M_MS_put; omega)
          have hf76 : s25.1 225 30 = nI 32 := fc_F hf68 hFc23 (by unfold M_MS_put; omega)
          refine W.widen (k := 0) (n := 0) (by omega) (by omega) ?_
          refine lv_aload_n hx hb dMH_expand_51 rfl (lv_at hl 2 rfl) ?_
          refine nw_get (C := "LatticeKeysModel$Hands") (TT := T_MH) (N := 31) hx hb hts (wg_ft i_MH) hown hK hO k_h0 (kn := 225) (ci := 12) (fl := [(3, 172), (3, 181), (3, 226), (3, 291), (3, 299), (3, 308), (3, 317), (3, 326), (3, 334), (3, 342), (3, 350), (3, 359), (3, 368), (3, 369), (3, 370), (3, 371), (3, 372), (3, 373), (3, 374), (3, 375), (3, 376), (3, 377), (3, 378), (0, 0), (0, 0), (0, 0), (0, 0), (0, 0), (0, 0), (0, 0), (0, 0)]) rfl hP rfl 0 (by decide) (hts _ (wg_t kw_1432)) (fun _ h9 => h9) (cd := (3, 172)) rfl dMH_expand_52 (fun v28 hv28 => ?_)
          obtain ⟨r24, rfl, kr24⟩ := (show ∃ r : Nat, v28 = .ref r ∧ T r = some 172 from hv28)
          refine lv_iload_n hx hb dMH_expand_55 rfl (lv_at hl 1 rfl) ?_
          refine mp_v (cx := []) (wr := []) hP hD hS hA [] [] rfl rfl rfl (by decide) (va_runV (As := [.int (nI i21)]) (rest := []) F (N_MS_put l g _ T s25 pl hO hU r24 (nI i21) x27 x28 kr24 hx_27 hx_28 (by omega) (by omega)) (cwV 1 hts (wg_app (wg_c kw_1716 (wg_c kw_1612 (wg_c kw_1613 (wg_c kw_10 wg_n)))) kw_1614) rfl rfl rfl (by decide +kernel) ⟨by decide, by decide⟩) (pn_V (en_ok g) (ci := 9) (kn := 172) (fl := [(3, 173), (3, 174), (3, 175), (3, 176), (3, 177), (0, 0), (0, 0), (0, 0)]) hK hO kr24 rfl hP hD hS hA hEn [] rfl rfl rfl) rfl rfl hl.1 rfl (lv_room (Nat.le_of_ble_eq_true rfl)) dMH_expand_56 ⟨by omega, by omega⟩) (fun  u24 H locs hu24 hP hD hS => ?_)
          obtain ⟨s26, pl⟩ := u24
          obtain ⟨⟨eq24, hFc24, ⟨x30, hx_30, hb_30⟩, ⟨x31, hx_31, hb_31⟩, -⟩, hO⟩ := hu24
          have hO : okn g T s26 pl := hO
          have hP : va_P g.1 vcl ([] ++ pl) _ := hP
          have hD : va_D _ ([] ++ pl) := hD
          have hFc24 : frm (M_MS_put) s25 s26 := hFc24
          have hb_30 : x30 < x28 := hb_30
          have hb_31 : x31 = x28 := hb_31
          replace hR := bnd_step hR eq24
          replace hE := bndP_step hE eq24
          have hF := frm_tr hF hFc24 (fun k hk => by unfold M_MS_put at hk; unfold M_MH_expand_0; omega)
          have hf77 : s26.1 225 23 = nI 0 := fc_F hf69 hFc24 (by unfold M_MS_put; omega)
          have hf78 : s26.1 225 24 = nI 4 := fc_F hf70 hFc24 (by unfold M_MS_put; omega)
          have hf79 : s26.1 225 25 = nI 4 := fc_F hf71 hFc24 (by unfold M_MS_put; omega)
          have hf80 : s26.1 225 26 = nI 2 := fc_F hf72 hFc24 (by unfold M_MS_put; omega)
          have hf81 : s26.1 225 27 = nI 131072 := fc_F hf73 hFc24 (by unfold M_MS_put; omega)
          have hf82 : s26.1 225 28 = nI 95232 := fc_F hf74 hFc24 (by unfold M_MS_put; omega)
          have hf83 : s26.1 225 29 = nI 78 := fc_F hf75 hFc24 (by unfold M_MS_put; omega)
          have hf84 : s26.1 225 30 = nI 32 := fc_F hf76 hFc24 (by unfold M_MS_put; omega)
          refine W.widen (k := 0) (n := 0) (by omega) (by omega) ?_
          refine lv_aload_n hx hb dMH_expand_59 rfl (lv_at hl 2 rfl) ?_
          refine nw_get (C := "LatticeKeysModel$Hands") (TT := T_MH) (N := 31) hx hb hts (wg_ft i_MH) hown hK hO k_h0 (kn := 225) (ci := 12) (fl := [(3, 172), (3, 181), (3, 226), (3, 291), (3, 299), (3, 308), (3, 317), (3, 326), (3, 334), (3, 342), (3, 350), (3, 359), (3, 368), (3, 369), (3, 370), (3, 371), (3, 372), (3, 373), (3, 374), (3, 375), (3, 376), (3, 377), (3, 378), (0, 0), (0, 0), (0, 0), (0, 0), (0, 0), (0, 0), (0, 0), (0, 0)]) rfl hP rfl 0 (by decide) (hts _ (wg_t kw_1432)) (fun _ h9 => h9) (cd := (3, 172)) rfl dMH_expand_60 (fun v29 hv29 => ?_)
          obtain ⟨r25, rfl, kr25⟩ := (show ∃ r : Nat, v29 = .ref r ∧ T r = some 172 from hv29)
          refine mp_v (cx := []) (wr := []) hP hD hS hA [] [] rfl rfl rfl (by decide) (va_runV (As := []) (rest := []) F (N_MS_end l g _ T s26 pl hO hU r25 x30 x31 kr25 hx_30 hx_31 (by omega) (by omega)) (cwV 0 hts (wg_app (wg_c kw_1717 (wg_c kw_1630 (wg_c kw_1631 (wg_c kw_10 wg_n)))) kw_1632) rfl rfl rfl (by decide +kernel) ⟨by decide, by decide⟩) (pn_V (en_ok g) (ci := 9) (kn := 172) (fl := [(3, 173), (3, 174), (3, 175), (3, 176), (3, 177), (0, 0), (0, 0), (0, 0)]) hK hO kr25 rfl hP hD hS hA hEn [] rfl rfl rfl) rfl rfl hl.1 rfl (lv_room (Nat.le_of_ble_eq_true rfl)) dMH_expand_63 ⟨by omega, by omega⟩) (fun  u25 H locs hu25 hP hD hS => ?_)
          obtain ⟨s27, pl⟩ := u25
          obtain ⟨⟨eq25, hFc25, ⟨x33, hx_33, hb_33⟩, ⟨x34, hx_34, hb_34⟩, -⟩, hO⟩ := hu25
          have hO : okn g T s27 pl := hO
          have hP : va_P g.1 vcl ([] ++ pl) _ := hP
          have hD : va_D _ ([] ++ pl) := hD
          have hFc25 : frm (M_MS_end) s26 s27 := hFc25
          have hb_33 : x33 = 0 := hb_33
          have hb_34 : x34 = x31 := hb_34
          replace hR := bnd_step hR eq25
          replace hE := bndP_step hE eq25
          have hF := frm_tr hF hFc25 (fun k hk => by unfold M_MS_end at hk; unfold M_MH_expand_0; omega)
          have hf85 : s27.1 225 23 = nI 0 := fc_F hf77 hFc25 (by unfold M_MS_end; omega)
          have hf86 : s27.1 225 24 = nI 4 := fc_F hf78 hFc25 (by unfold M_MS_end; omega)
          have hf87 : s27.1 225 25 = nI 4 := fc_F hf79 hFc25 (by unfold M_MS_end; omega)
          have hf88 : s27.1 225 26 = nI 2 := fc_F hf80 hFc25 (by unfold M_MS_end; omega)
          have hf89 : s27.1 225 27 = nI 131072 := fc_F hf81 hFc25 (by unfold M_MS_end; omega)
          have hf90 : s27.1 225 28 = nI 95232 := fc_F hf82 hFc25 (by unfold M_MS_end; omega)
          have hf91 : s27.1 225 29 = nI 78 := fc_F hf83 hFc25 (by unfold M_MS_end; omega)
          have hf92 : s27.1 225 30 = nI 32 := fc_F hf84 hFc25 (by unfold M_MS_end; omega)
          refine W.widen (k := 0) (n := 0) (by omega) (by omega) ?_
          refine lv_iconst (v := nI 0) hx hb dMH_expand_66 (by decide) ?_
          refine lv_istore (lv' := [(4, .int (nI 0)), (3, .int (nI i22)), (2, .int (nI i21)), (0, .ref h0), (1, .ref b)]) hx hb dMH_expand_67 hl (by decide) rfl (fun ls hl => ?_)
          have lp23 : ∀ (n23 : Nat) (nn21 : Nat) (s28 : Sto) (ps21 : Nat) (pl : va_W) (ls : Array Slot) (H : Heap) (locs : List Loc), 0 = 0 → (nn21 ≤ 256) → (ps21 ≤ 168) → frm (M_MH_expand_0) s s28 → s28.1 225 23 = nI 0 → s28.1 225 24 = nI 4 → s28.1 225 25 = nI 4 → s28.1 225 26 = nI 2 → s28.1 225 27 = nI 131072 → s28.1 225 28 = nI 95232 → s28.1 225 29 = nI 78 → s28.1 225 30 = nI 32 → s28.1 172 6 = nI ps21 → s28.1 172 5 = nI x34 → E_MH_expand_0_L2 i21 i22 (E_MH_expand_0_L1 pb n i21 (E_MH_expand_0_L0 pb n n21) n22) n23 nn21 s28 → F_MH_expand_0 pb n s = F_MH_expand_0_L2 i21 i22 (F_MH_expand_0_L1 pb n i21 (F_MH_expand_0_L0 pb n n21) n22) n23 nn21 s28 → lv_has ls 6 [(4, .int (nI nn21)), (3, .int (nI i22)), (2, .int (nI i21)), (0, .ref h0), (1, .ref b)] → okn g T s28 pl → va_P g.1 vcl ([] ++ pl) H → va_D A ([] ++ pl) → va_S A s0.heap H locs → W p l e ({ frames := 4, cells := 0, slots := 0, locals := 90 } : Room) s0 m args below meth c H locs 0 0 (MQ below (va_Qv (fun (u : (Sto) × va_W) => (u.1 = F_MH_expand_0 pb n s ∧ frm (M_MH_expand_0) s u.1 ∧ True) ∧ okn g T u.1 u.2) (po g.1 vcl A (fun (u : (Sto) × va_W) => [] ++ u.2)) A) args s0 0 0 A) (F0 m 69 ls []) := by
            intro n23
            induction n23 with
            | zero =>
              intro nn21 s28 ps21 pl ls H locs hm23 hi21 hi22 hF hf93 hf94 hf95 hf96 hf97 hf98 hf99 hf100 hf101 hf102 hE hR hl hO hP hD hS
              refine lv_iload hx hb dMH_expand_69 (lv_at hl 0 rfl) ?_
              refine lv_sipush (v := nI 256) hx hb dMH_expand_71 (by decide) ?_
              refine mi_ge (tgt := 151) hx hb dMH_expand_74 (by decide) (by omega) (by omega) (fun h25 => ?_) (fun h25 => absurd h25 (by have h9 : 256 ≤ nn21 := hE.1; omega))
              replace hE := hE.2
              refine mi_iinc (k := 1) (x := i22) (d := 1) (y := i22 + 1) (lv' := [(3, .int (nI (i22 + 1))), (4, .int (nI nn21)), (2, .int (nI i21)), (0, .ref h0), (1, .ref b)]) hx hb dMH_expand_151 hl rfl (by decide) rfl (by decide) rfl (fun ls hl => ?_)
              refine lv_goto (tgt := 12) hx hb dMH_expand_154 (by decide) ?_
              exact ih22 (i22 + 1) s28 pl ls H locs (by omega) hF hf93 hf94 hf95 hf96 hf97 hf98 hf99 hf100 hE hR (lv_sub hl [0, 2, 3, 4] rfl) hO hP hD hS
            | succ n23 ih23 =>
              intro nn21 s28 ps21 pl ls H locs hm23 hi21 hi22 hF hf103 hf104 hf105 hf106 hf107 hf108 hf109 hf110 hf111 hf112 hE hR hl hO hP hD hS
              refine lv_iload hx hb dMH_expand_69 (lv_at hl 0 rfl) ?_
              refine lv_sipush (v := nI 256) hx hb dMH_expand_71 (by decide) ?_
              refine mi_ge (tgt := 151) hx hb dMH_expand_74 (by decide) (by omega) (by omega) (fun h26 => ?_) (fun h26 => ?_)
              · replace hR := hR.trans (if_pos h26)
                replace hE := iteP_pos h26 hE
                refine mi_iinc (k := 1) (x := i22) (d := 1) (y := i22 + 1) (lv' := [(3, .int (nI (i22 + 1))), (4, .int (nI nn21)), (2, .int (nI i21)), (0, .ref h0), (1, .ref b)]) hx hb dMH_expand_151 hl rfl (by decide) rfl (by decide) rfl (fun ls hl => ?_)
                refine lv_goto (tgt := 12) hx hb dMH_expand_154 (by decide) ?_
                exact ih22 (i22 + 1) s28 pl ls H locs (by omega) hF hf103 hf104 hf105 hf106 hf107 hf108 hf109 hf110 hE hR (lv_sub hl [0, 2, 3, 4] rfl) hO hP hD hS
              · replace hR := hR.trans (if_neg (Nat.not_le.mpr h26))
                replace hE := iteP_neg (Nat.not_le.mpr h26) hE
                refine lv_aload_n hx hb dMH_expand_77 rfl (lv_at hl 3 rfl) ?_
                refine nw_get (C := "LatticeKeysModel$Hands") (TT := T_MH) (N := 31) hx hb hts (wg_ft i_MH) hown hK hO k_h0 (kn := 225) (ci := 12) (fl := [(3, 172), (3, 181), (3, 226), (3, 291), (3, 299), (3, 308), (3, 317), (3, 326), (3, 334), (3, 342), (3, 350), (3, 359), (3, 368), (3, 369), (3, 370), (3, 371), (3, 372), (3, 373), (3, 374), (3, 375), (3, 376), (3, 377), (3, 378), (0, 0), (0, 0), (0, 0), (0, 0), (0, 0), (0, 0), (0, 0), (0, 0)]) rfl hP rfl 0 (by decide) (hts _ (wg_t kw_1432)) (fun _ h9 => h9) (cd := (3, 172)) rfl dMH_expand_78 (fun v30 hv30 => ?_)
                obtain ⟨r26, rfl, kr26⟩ := (show ∃ r : Nat, v30 = .ref r ∧ T r = some 172 from hv30)
                refine mp_i (cx := []) (wr := []) hP hD hS hA [] [] rfl rfl rfl (by decide) (va_runV (As := []) (rest := []) F (N_MS_next l g _ T s28 pl hO hU r26 ps21 x34 kr26 hf111 hf112 (by omega) (by omega)) (cwV 0 hts (wg_app (wg_c kw_1724 (wg_c kw_1638 (wg_c kw_1639 (wg_c kw_10 wg_n)))) kw_1640) rfl rfl rfl (by decide +kernel) ⟨by decide, by decide⟩) (pn_V (en_ok g) (ci := 9) (kn := 172) (fl := [(3, 173), (3, 174), (3, 175), (3, 176), (3, 177), (0, 0), (0, 0), (0, 0)]) hK hO kr26 rfl hP hD hS hA hEn [] rfl rfl rfl) rfl rfl hl.1 rfl (lv_room (Nat.le_of_ble_eq_true rfl)) dMH_expand_81 ⟨by omega, by omega⟩) (fun r27 u26 H locs hu26 hP hD hS => ?_)
                obtain ⟨q21, pl⟩ := u26
                obtain ⟨⟨eq26, rfl, hFc26, ⟨x38, hx_38, hb_38⟩, ⟨x36, hx_36, hb_36⟩, ⟨x37, hx_37, hb_37⟩, -⟩, hO⟩ := hu26
                have hO : okn g T q21.2 pl := hO
                have hP : va_P g.1 vcl ([] ++ pl) _ := hP
                have hD : va_D _ ([] ++ pl) := hD
                have hFc26 : frm (M_MS_next) s28 q21.2 := hFc26
                have hb_36 : x36 ≤ x34 := hb_36
                have hb_37 : x37 = x34 := hb_37
                have hb_38 : x38 < 256 := hb_38
                replace hR := bnd_step hR eq26
                replace hE := bndP_step hE eq26
                have hF := frm_tr hF hFc26 (fun k hk => by unfold M_MS_next at hk; unfold M_MH_expand_0; omega)
                have hf113 : q21.2.1 225 23 = nI 0 := fc_F hf103 hFc26 (by unfold M_MS_next; omega)
                have hf114 : q21.2.1 225 24 = nI 4 := fc_F hf104 hFc26 (by unfold M_MS_next; omega)
                have hf115 : q21.2.1 225 25 = nI 4 := fc_F hf105 hFc26 (by unfold M_MS_next; omega)
                have hf116 : q21.2.1 225 26 = nI 2 := fc_F hf106 hFc26 (by unfold M_MS_next; omega)
                have hf117 : q21.2.1 225 27 = nI 131072 := fc_F hf107 hFc26 (by unfold M_MS_next; omega)
                have hf118 : q21.2.1 225 28 = nI 95232 := fc_F hf108 hFc26 (by unfold M_MS_next; omega)
                have hf119 : q21.2.1 225 29 = nI 78 := fc_F hf109 hFc26 (by unfold M_MS_next; omega)
                have hf120 : q21.2.1 225 30 = nI 32 := fc_F hf110 hFc26 (by unfold M_MS_next; omega)
                obtain ⟨z25, ez25, hz29, hz30⟩ := cl_of (b := 2147483648) hx_38 (by omega) (by decide)
                replace hR := bnd_step hR ez25
                replace hE := bndP_step hE ez25
                refine mi_as hz29 ?_
                refine W.widen (k := 0) (n := 0) (by omega) (by omega) ?_
                refine lv_istore (lv' := [(5, .int (nI z25)), (4, .int (nI nn21)), (3, .int (nI i22)), (2, .int (nI i21)), (0, .ref h0), (1, .ref b)]) hx hb dMH_expand_84 hl (by decide) rfl (fun ls hl => ?_)
                refine lv_iload hx hb dMH_expand_86 (lv_at hl 0 rfl) ?_
                refine lv_aload_n hx hb dMH_expand_88 rfl (lv_at hl 4 rfl) ?_
                refine nw_get (C := "LatticeKeysModel$Hands") (TT := T_MH) (N := 31) hx hb hts (wg_ft i_MH) hown hK hO k_h0 (kn := 225) (ci := 12) (fl := [(3, 172), (3, 181), (3, 226), (3, 291), (3, 299), (3, 308), (3, 317), (3, 326), (3, 334), (3, 342), (3, 350), (3, 359), (3, 368), (3, 369), (3, 370), (3, 371), (3, 372), (3, 373), (3, 374), (3, 375), (3, 376), (3, 377), (3, 378), (0, 0), (0, 0), (0, 0), (0, 0), (0, 0), (0, 0), (0, 0), (0, 0)]) rfl hP rfl 0 (by decide) (hts _ (wg_t kw_1432)) (fun _ h9 => h9) (cd := (3, 172)) rfl dMH_expand_89 (fun v31 hv31 => ?_)
                obtain ⟨r28, rfl, kr27⟩ := (show ∃ r : Nat, v31 = .ref r ∧ T r = some 172 from hv31)
                refine mp_i (cx := []) (wr := []) hP hD hS hA [] [] rfl rfl rfl (by decide) (va_runV (As := []) (rest := [.int (nI z25)]) F (N_MS_next l g _ T q21.2 pl hO hU r28 x36 x37 kr27 hx_36 hx_37 (by omega) (by omega)) (cwV 0 hts (wg_app (wg_c kw_1724 (wg_c kw_1638 (wg_c kw_1639 (wg_c kw_10 wg_n)))) kw_1640) rfl rfl rfl (by decide +kernel) ⟨by decide, by decide⟩) (pn_V (en_ok g) (ci := 9) (kn := 172) (fl := [(3, 173), (3, 174), (3, 175), (3, 176), (3, 177), (0, 0), (0, 0), (0, 0)]) hK hO kr27 rfl hP hD hS hA hEn [] rfl rfl rfl) rfl rfl hl.1 rfl (lv_room (Nat.le_of_ble_eq_true rfl)) dMH_expand_92 ⟨by omega, by omega⟩) (fun r29 u27 H locs hu27 hP hD hS => ?_)
                obtain ⟨q22, pl⟩ := u27
                obtain ⟨⟨eq27, rfl, hFc27, ⟨x41, hx_41, hb_41⟩, ⟨x39, hx_39, hb_39⟩, ⟨x40, hx_40, hb_40⟩, -⟩, hO⟩ := hu27
                have hO : okn g T q22.2 pl := hO
                have hP : va_P g.1 vcl ([] ++ pl) _ := hP
                have hD : va_D _ ([] ++ pl) := hD
                have hFc27 : frm (M_MS_next) q21.2 q22.2 := hFc27
                have hb_39 : x39 ≤ x37 := hb_39
                have hb_40 : x40 = x37 := hb_40
                have hb_41 : x41 < 256 := hb_41
                replace hR := bnd_step hR eq27
                replace hE := bndP_step hE eq27
                have hF := frm_tr hF hFc27 (fun k hk => by unfold M_MS_next at hk; unfold M_MH_expand_0; omega)
                have hf121 : q22.2.1 225 23 = nI 0 := fc_F hf113 hFc27 (by unfold M_MS_next; omega)
                have hf122 : q22.2.1 225 24 = nI 4 := fc_F hf114 hFc27 (by unfold M_MS_next; omega)
                have hf123 : q22.2.1 225 25 = nI 4 := fc_F hf115 hFc27 (by unfold M_MS_next; omega)
                have hf124 : q22.2.1 225 26 = nI 2 := fc_F hf116 hFc27 (by unfold M_MS_next; omega)
                have hf125 : q22.2.1 225 27 = nI 131072 := fc_F hf117 hFc27 (by unfold M_MS_next; omega)
                have hf126 : q22.2.1 225 28 = nI 95232 := fc_F hf118 hFc27 (by unfold M_MS_next; omega)
                have hf127 : q22.2.1 225 29 = nI 78 := fc_F hf119 hFc27 (by unfold M_MS_next; omega)
                have hf128 : q22.2.1 225 30 = nI 32 := fc_F hf120 hFc27 (by unfold M_MS_next; omega)
                obtain ⟨z26, ez26, hz31, hz32⟩ := cl_of (b := 2147483648) hx_41 (by omega) (by decide)
                replace hR := bnd_step hR ez26
                replace hE := bndP_step hE ez26
                refine mi_as hz31 ?_
                refine W.widen (k := 0) (n := 0) (by omega) (by omega) ?_
                refine lv_bipush (v := nI 8) hx hb dMH_expand_95 (by decide) ?_
                refine lv_ishl hx hb dMH_expand_97 ?_
                refine lv_iadd hx hb dMH_expand_98 ?_
                refine mi_eqv (fun z27 ez27 => ?_)
                replace hR := bnd_step hR ez27
                replace hE := bndP_step hE ez27
                refine lv_istore (lv' := [(5, .int z27), (4, .int (nI nn21)), (3, .int (nI i22)), (2, .int (nI i21)), (0, .ref h0), (1, .ref b)]) hx hb dMH_expand_99 hl (by decide) rfl (fun ls hl => ?_)
                refine lv_iload hx hb dMH_expand_101 (lv_at hl 0 rfl) ?_
                refine lv_aload_n hx hb dMH_expand_103 rfl (lv_at hl 4 rfl) ?_
                refine nw_get (C := "LatticeKeysModel$Hands") (TT := T_MH) (N := 31) hx hb hts (wg_ft i_MH) hown hK hO k_h0 (kn := 225) (ci := 12) (fl := [(3, 172), (3, 181), (3, 226), (3, 291), (3, 299), (3, 308), (3, 317), (3, 326), (3, 334), (3, 342), (3, 350), (3, 359), (3, 368), (3, 369), (3, 370), (3, 371), (3, 372), (3, 373), (3, 374), (3, 375), (3, 376), (3, 377), (3, 378), (0, 0), (0, 0), (0, 0), (0, 0), (0, 0), (0, 0), (0, 0), (0, 0)]) rfl hP rfl 0 (by decide) (hts _ (wg_t kw_1432)) (fun _ h9 => h9) (cd := (3, 172)) rfl dMH_expand_104 (fun v32 hv32 => ?_)
                obtain ⟨r30, rfl, kr28⟩ := (show ∃ r : Nat, v32 = .ref r ∧ T r = some 172 from hv32)
                refine mp_i (cx := []) (wr := []) hP hD hS hA [] [] rfl rfl rfl (by decide) (va_runV (As := []) (rest := [.int z27]) F (N_MS_next l g _ T q22.2 pl hO hU r30 x39 x40 kr28 hx_39 hx_40 (by omega) (by omega)) (cwV 0 hts (wg_app (wg_c kw_1724 (wg_c kw_1638 (wg_c kw_1639 (wg_c kw_10 wg_n)))) kw_1640) rfl rfl rfl (by decide +kernel) ⟨by decide, by decide⟩) (pn_V (en_ok g) (ci := 9) (kn := 172) (fl := [(3, 173), (3, 174), (3, 175), (3, 176), (3, 177), (0, 0), (0, 0), (0, 0)]) hK hO kr28 rfl hP hD hS hA hEn [] rfl rfl rfl) rfl rfl hl.1 rfl (lv_room (Nat.le_of_ble_eq_true rfl)) dMH_expand_107 ⟨by omega, by omega⟩) (fun r31 u28 H locs hu28 hP hD hS => ?_)
                obtain ⟨q23, pl⟩ := u28
                obtain ⟨⟨eq28, rfl, hFc28, ⟨x44, hx_44, hb_44⟩, ⟨x42, hx_42, hb_42⟩, ⟨x43, hx_43, hb_43⟩, -⟩, hO⟩ := hu28
                have hO : okn g T q23.2 pl := hO
                have hP : va_P g.1 vcl ([] ++ pl) _ := hP
                have hD : va_D _ ([] ++ pl) := hD
                have hFc28 : frm (M_MS_next) q22.2 q23.2 := hFc28
                have hb_42 : x42 ≤ x40 := hb_42
                have hb_43 : x43 = x40 := hb_43
                have hb_44 : x44 < 256 := hb_44
                replace hR := bnd_step hR eq28
                replace hE := bndP_step hE eq28
                have hF := frm_tr hF hFc28 (fun k hk => by unfold M_MS_next at hk; unfold M_MH_expand_0; omega)
                have hf129 : q23.2.1 225 23 = nI 0 := fc_F hf121 hFc28 (by unfold M_MS_next; omega)
                have hf130 : q23.2.1 225 24 = nI 4 := fc_F hf122 hFc28 (by unfold M_MS_next; omega)
                have hf131 : q23.2.1 225 25 = nI 4 := fc_F hf123 hFc28 (by unfold M_MS_next; omega)
                have hf132 : q23.2.1 225 26 = nI 2 := fc_F hf124 hFc28 (by unfold M_MS_next; omega)
                have hf133 : q23.2.1 225 27 = nI 131072 := fc_F hf125 hFc28 (by unfold M_MS_next; omega)
                have hf134 : q23.2.1 225 28 = nI 95232 := fc_F hf126 hFc28 (by unfold M_MS_next; omega)
                have hf135 : q23.2.1 225 29 = nI 78 := fc_F hf127 hFc28 (by unfold M_MS_next; omega)
                have hf136 : q23.2.1 225 30 = nI 32 := fc_F hf128 hFc28 (by unfold M_MS_next; omega)
                obtain ⟨z28, ez28, hz33, hz34⟩ := cl_of (b := 2147483648) hx_44 (by omega) (by decide)
                replace hR := bnd_step hR ez28
                replace hE := bndP_step hE ez28
                refine mi_as hz33 ?_
                refine W.widen (k := 0) (n := 0) (by omega) (by omega) ?_
                refine lv_bipush (v := nI 127) hx hb dMH_expand_110 (by decide) ?_
                refine lv_iand hx hb dMH_expand_112 ?_
                refine lv_bipush (v := nI 16) hx hb dMH_expand_113 (by decide) ?_
                refine lv_ishl hx hb dMH_expand_115 ?_
                refine lv_iadd hx hb dMH_expand_116 ?_
                refine mi_eqv (fun z29 ez29 => ?_)
                replace hR := bnd_step hR ez29
                replace hE := bndP_step hE ez29
                refine lv_istore (lv' := [(5, .int z29), (4, .int (nI nn21)), (3, .int (nI i22)), (2, .int (nI i21)), (0, .ref h0), (1, .ref b)]) hx hb dMH_expand_117 hl (by decide) rfl (fun ls hl => ?_)
                refine lv_iload hx hb dMH_expand_119 (lv_at hl 0 rfl) ?_
                refine lv_ldc (v := 8380417) hx hb hown (hts _ (wg_t kw_1429)) dMH_expand_121 ?_
                refine mi_as (show (8380417 : Int32) = nI 8380417 by decide) ?_
                refine lv_icmp_lt (tgt := 129) hx hb dMH_expand_123 (by decide) (fun h27 => ?_) (fun h27 => ?_)
                · replace hR := hR.trans (if_pos h27)
                  replace hE := iteP_pos h27 hE
                  refine lv_aload_n hx hb dMH_expand_129 rfl (lv_at hl 4 rfl) ?_
                  refine nw_get (C := "LatticeKeysModel$Hands") (TT := T_MH) (N := 31) hx hb hts (wg_ft i_MH) hown hK hO k_h0 (kn := 225) (ci := 12) (fl := [(3, 172), (3, 181), (3, 226), (3, 291), (3, 299), (3, 308), (3, 317), (3, 326), (3, 334), (3, 342), (3, 350), (3, 359), (3, 368), (3, 369), (3, 370), (3, 371), (3, 372), (3, 373), (3, 374), (3, 375), (3, 376), (3, 377), (3, 378), (0, 0), (0, 0), (0, 0), (0, 0), (0, 0), (0, 0), (0, 0), (0, 0)]) rfl hP rfl 2 (by decide) (hts _ (wg_t kw_1434)) (fun _ h9 => h9) (cd := (3, 226)) rfl dMH_expand_130 (fun v33 hv33 => ?_)
                  obtain ⟨r32, rfl, kr29⟩ := (show ∃ r : Nat, v33 = .ref r ∧ T r = some 226 from hv33)
                  refine lv_bipush (v := nI 8) hx hb dMH_expand_133 (by decide) ?_
                  refine lv_iload_n hx hb dMH_expand_135 rfl (lv_at hl 3 rfl) ?_
                  refine mi_imul hx hb dMH_expand_136 ?_
                  refine lv_iload_n hx hb dMH_expand_137 rfl (lv_at hl 2 rfl) ?_
                  refine mi_iadd hx hb dMH_expand_138 ?_
                  refine nw_aald3 hx hb hK hO kr29 (k := 226) (b := 227) rfl hP (by omega) (by omega) dMH_expand_139 (fun r33 kr30 => ?_)
                  have hn21 : nsp (227 + ((8 * i21) + i22)) = (0, 256, []) := rows_ok 227 64 (by decide) _ (by omega)
                  refine lv_iload hx hb dMH_expand_140 (lv_at hl 1 rfl) ?_
                  refine lv_iload hx hb dMH_expand_142 (lv_at hl 0 rfl) ?_
                  refine nw_iast hx hb hK hO hU kr30 (k := (227 + ((8 * i21) + i22))) hn21 hP hD hS (by omega) (by omega) dMH_expand_144 (fun s29 pl H locs es21 hO hP hD hS => ?_)
                  replace hR := bnd_step hR es21
                  replace hE := bndP_step hE es21
                  have hF := frm_sI hF es21 (by unfold M_MH_expand_0; omega)
                  have hf137 : s29.1 225 23 = nI 0 := fc_ne hf129 es21 (by omega)
                  have hf138 : s29.1 225 24 = nI 4 := fc_ne hf130 es21 (by omega)
                  have hf139 : s29.1 225 25 = nI 4 := fc_ne hf131 es21 (by omega)
                  have hf140 : s29.1 225 26 = nI 2 := fc_ne hf132 es21 (by omega)
                  have hf141 : s29.1 225 27 = nI 131072 := fc_ne hf133 es21 (by omega)
                  have hf142 : s29.1 225 28 = nI 95232 := fc_ne hf134 es21 (by omega)
                  have hf143 : s29.1 225 29 = nI 78 := fc_ne hf135 es21 (by omega)
                  have hf144 : s29.1 225 30 = nI 32 := fc_ne hf136 es21 (by omega)
                  have hf145 : s29.1 172 6 = nI x42 := fc_ne hx_42 es21 (by omega)
                  have hf146 : s29.1 172 5 = nI x43 := fc_ne hx_43 es21 (by omega)
                  refine mi_iinc (k := 1) (x := nn21) (d := 1) (y := nn21 + 1) (lv' := [(4, .int (nI (nn21 + 1))), (5, .int z29), (3, .int (nI i22)), (2, .int (nI i21)), (0, .ref h0), (1, .ref b)]) hx hb dMH_expand_145 hl rfl (by decide) rfl (by decide) rfl (fun ls hl => ?_)
                  refine lv_goto (tgt := 69) hx hb dMH_expand_148 (by decide) ?_
                  exact ih23 (nn21 + 1) s29 x42 pl ls H locs (by omega) (by omega) (by omega) hF hf137 hf138 hf139 hf140 hf141 hf142 hf143 hf144 hf145 (by have h9 := hf146; rw [show x43 = x34 by omega] at h9; exact h9) hE hR (lv_sub hl [0, 2, 3, 4, 5] rfl) hO hP hD hS
                · replace hR := hR.trans (if_neg h27)
                  replace hE := iteP_neg h27 hE
                  refine lv_goto (tgt := 69) hx hb dMH_expand_126 (by decide) ?_
                  exact ih23 nn21 q23.2 x42 pl ls H locs (by omega) (by omega) (by omega) hF hf129 hf130 hf131 hf132 hf133 hf134 hf135 hf136 hx_42 (by have h9 := hx_43; rw [show x43 = x34 by omega] at h9; exact h9) hE hR (lv_sub hl [1, 2, 3, 4, 5] rfl) hO hP hD hS
          exact lp23 1000000 0 s27 x33 pl ls _ _ (by omega) (by omega) (by omega) hF hf85 hf86 hf87 hf88 hf89 hf90 hf91 hf92 hx_33 hx_34 hE hR (lv_sub hl [0, 1, 2, 3, 4] rfl) hO hP hD hS
      exact lp22 4 0 s21 pl ls _ _ (by omega) hF hf29 hf30 hf31 hf32 hf33 hf34 hf35 hf36 hE hR (lv_sub hl [0, 1, 2, 3] rfl) hO hP hD hS
  exact lp21 4 0 s pl ls _ _ (by omega) hF e_c0 e_c1 e_c2 e_c3 e_c4 e_c5 e_c6 e_c7 hE hR (lv_sub hl [0, 1, 2] rfl) hO hP hD hS
def M_MH_expand_1 (k : Nat) : Prop := (227 ≤ k ∧ k < 291) ∨ k = 172 ∨ (0 : Nat) = 1
noncomputable def F_MH_expand_1_L2 (i21 : Nat) (i22 : Nat) (kk : Nat → Sto → Sto) : Nat → Nat → Sto → Sto
  | 0, nn21, s28 => kk (i22 + 1) s28
  | n23 + 1, nn21, s28 => if 256 ≤ nn21 then kk (i22 + 1) s28 else bnd (F_MS_next  s28) fun q21 => bnd (q21.1.toNatClampNeg) fun z25 => bnd (F_MS_next  q21.2) fun q22 => bnd (q22.1.toNatClampNeg) fun z26 => bnd (((nI z25) + ((nI z26) <<< ((nI 8) &&& 31)))) fun z27 => bnd (F_MS_next  q22.2) fun q23 => bnd (q23.1.toNatClampNeg) fun z28 => bnd ((z27 + (((nI z28) &&& (nI 127)) <<< ((nI 16) &&& 31)))) fun z29 => if z29 < (nI 8380417) then bnd (sI q23.2 ((227 + ((8 * i21) + i22))) nn21 z29) fun s29 => F_MH_expand_1_L2 i21 i22 kk n23 (nn21 + 1) s29 else F_MH_expand_1_L2 i21 i22 kk n23 nn21 q23.2
noncomputable def E_MH_expand_1_L2 (i21 : Nat) (i22 : Nat) (ke : Nat → Sto → Prop) : Nat → Nat → Sto → Prop
  | 0, nn21, s28 => (256 ≤ nn21) ∧ (ke (i22 + 1) s28)
  | n23 + 1, nn21, s28 => if 256 ≤ nn21 then ke (i22 + 1) s28 else bnd (F_MS_next  s28) fun q21 => bnd (q21.1.toNatClampNeg) fun z25 => bnd (F_MS_next  q21.2) fun q22 => bnd (q22.1.toNatClampNeg) fun z26 => bnd (((nI z25) + ((nI z26) <<< ((nI 8) &&& 31)))) fun z27 => bnd (F_MS_next  q22.2) fun q23 => bnd (q23.1.toNatClampNeg) fun z28 => bnd ((z27 + (((nI z28) &&& (nI 127)) <<< ((nI 16) &&& 31)))) fun z29 => if z29 < (nI 8380417) then bnd (sI q23.2 ((227 + ((8 * i21) + i22))) nn21 z29) fun s29 => E_MH_expand_1_L2 i21 i22 ke n23 (nn21 + 1) s29 else E_MH_expand_1_L2 i21 i22 ke n23 nn21 q23.2
noncomputable def F_MH_expand_1_L1 (pb : Nat) (n : Nat) (i21 : Nat) (kk : Nat → Sto → Sto) : Nat → Nat → Sto → Sto
  | 0, i22, s22 => bnd ((s22.1 225 25).toNatClampNeg) fun z23 => kk (i21 + 1) s22
  | n22 + 1, i22, s22 => bnd ((s22.1 225 25).toNatClampNeg) fun z24 => bnd (F_MS_begin 168 (nI 31) s22) fun s23 => bnd (F_MS_puts pb n 0 32 s23) fun s24 => bnd (F_MS_put (nI i22) s24) fun s25 => bnd (F_MS_put (nI i21) s25) fun s26 => bnd (F_MS_end  s26) fun s27 => F_MH_expand_1_L2 i21 i22 (F_MH_expand_1_L1 pb n i21 kk n22) 1000000 0 s27
noncomputable def E_MH_expand_1_L1 (pb : Nat) (n : Nat) (i21 : Nat) (ke : Nat → Sto → Prop) : Nat → Nat → Sto → Prop
  | 0, i22, s22 => bnd ((s22.1 225 25).toNatClampNeg) fun z23 => ke (i21 + 1) s22
  | n22 + 1, i22, s22 => bnd ((s22.1 225 25).toNatClampNeg) fun z24 => bnd (F_MS_begin 168 (nI 31) s22) fun s23 => bnd (F_MS_puts pb n 0 32 s23) fun s24 => bnd (F_MS_put (nI i22) s24) fun s25 => bnd (F_MS_put (nI i21) s25) fun s26 => bnd (F_MS_end  s26) fun s27 => E_MH_expand_1_L2 i21 i22 (E_MH_expand_1_L1 pb n i21 ke n22) 1000000 0 s27
noncomputable def F_MH_expand_1_L0 (pb : Nat) (n : Nat) : Nat → Nat → Sto → Sto
  | 0, i21, s21 => bnd ((s21.1 225 24).toNatClampNeg) fun z21 => s21
  | n21 + 1, i21, s21 => bnd ((s21.1 225 24).toNatClampNeg) fun z22 => F_MH_expand_1_L1 pb n i21 (F_MH_expand_1_L0 pb n n21) 5 0 s21
noncomputable def E_MH_expand_1_L0 (pb : Nat) (n : Nat) : Nat → Nat → Sto → Prop
  | 0, i21, s21 => bnd ((s21.1 225 24).toNatClampNeg) fun z21 => True
  | n21 + 1, i21, s21 => bnd ((s21.1 225 24).toNatClampNeg) fun z22 => E_MH_expand_1_L1 pb n i21 (E_MH_expand_1_L0 pb n n21) 5 0 s21
noncomputable def F_MH_expand_1 (pb : Nat) (n : Nat) (s : Sto) : Sto := F_MH_expand_1_L0 pb n 6 0 s
noncomputable def E_MH_expand_1 (pb : Nat) (n : Nat) (s : Sto) : Prop := E_MH_expand_1_L0 pb n 6 0 s
set_option maxHeartbeats 8000000 in
set_option maxRecDepth 100000 in
theorem N_MH_expand_1 (l : Launch) (g : Gd) (sz : Nat) (T : TyN) (s : Sto) (pl : va_W) (hO : okn g T s pl) (hU : inj T) (h0 b : Nat) (pb : Nat) (n : Nat) (k_h0 : T h0 = some 225) (k_b : T b = some pb) (n_b : nsp pb = (1, n, [])) (e_c0 : s.1 225 23 = nI 1) (e_c1 : s.1 225 24 = nI 6) (e_c2 : s.1 225 25 = nI 5) (e_c3 : s.1 225 26 = nI 4) (e_c4 : s.1 225 27 = nI 524288) (e_c5 : s.1 225 28 = nI 261888) (e_c6 : s.1 225 29 = nI 196) (e_c7 : s.1 225 30 = nI 48) (h1 : 32 ≤ n) (h2 : n < 65536) (hE : E_MH_expand_1 pb n s)  : Met l y_MH_expand w_MH_expand ({ frames := 4, cells := 0, slots := 0, locals := 90 } : Room) (va_Pc [.ref h0, .ref b] (pr (en g) g.1 vcl sz ([] ++ pl))) (va_Qv (fun (u : (Sto) × va_W) => (u.1 = F_MH_expand_1 pb n s ∧ frm (M_MH_expand_1) s u.1 ∧ True) ∧ okn g T u.1 u.2) (po g.1 vcl (va_A ([] ++ pl) sz) (fun (u : (Sto) × va_W) => [] ++ u.2)) (va_A ([] ++ pl) sz)) 0 0 (va_A ([] ++ pl) sz) := by
  refine mc_entry (cc := c_MH_expand) (maxL := 6) (ret := none) (by decide) rfl (Nat.le_of_ble_eq_true rfl) ?_
  intro p e s0 m args below meth c ls F hr hlk hnm hsz hP hD hEn hA hl
  obtain ⟨hx, hb, hml, hown, hts⟩ := id F
  have hK := hEn.1
  generalize va_A ([] ++ pl) sz = A at hD hEn hA ⊢
  have hS : va_S A s0.heap s0.heap [] := va_S.rf
  have hl : lv_has ls 6 [(0, .ref h0), (1, .ref b)] := hl
  have hR : F_MH_expand_1 pb n s = F_MH_expand_1 pb n s := rfl
  have hF : frm (M_MH_expand_1) s s := frm_rf
  have ne_172_pb : 172 ≠ pb := nsp_ne (p := 172) rfl n_b (show (5 : Nat) ≠ 1 by decide)
  have ne_225_pb : 225 ≠ pb := nsp_ne (p := 225) rfl n_b (show (5 : Nat) ≠ 1 by decide)
  refine lv_iconst (v := nI 0) hx hb dMH_expand_0 (by decide) ?_
  refine lv_istore_n (lv' := [(2, .int (nI 0)), (0, .ref h0), (1, .ref b)]) hx hb dMH_expand_1 rfl hl (by decide) rfl (fun ls hl => ?_)
  have lp21 : ∀ (n21 : Nat) (i21 : Nat) (s21 : Sto) (pl : va_W) (ls : Array Slot) (H : Heap) (locs : List Loc), n21 + i21 = 6 → frm (M_MH_expand_1) s s21 → s21.1 225 23 = nI 1 → s21.1 225 24 = nI 6 → s21.1 225 25 = nI 5 → s21.1 225 26 = nI 4 → s21.1 225 27 = nI 524288 → s21.1 225 28 = nI 261888 → s21.1 225 29 = nI 196 → s21.1 225 30 = nI 48 → E_MH_expand_1_L0 pb n n21 i21 s21 → F_MH_expand_1 pb n s = F_MH_expand_1_L0 pb n n21 i21 s21 → lv_has ls 6 [(2, .int (nI i21)), (0, .ref h0), (1, .ref b)] → okn g T s21 pl → va_P g.1 vcl ([] ++ pl) H → va_D A ([] ++ pl) → va_S A s0.heap H locs → W p l e ({ frames := 4, cells := 0, slots := 0, locals := 90 } : Room) s0 m args below meth c H locs 0 0 (MQ below (va_Qv (fun (u : (Sto) × va_W) => (u.1 = F_MH_expand_1 pb n s ∧ frm (M_MH_expand_1) s u.1 ∧ True) ∧ okn g T u.1 u.2) (po g.1 vcl A (fun (u : (Sto) × va_W) => [] ++ u.2)) A) args s0 0 0 A) (F0 m 2 ls []) := by
    intro n21
    induction n21 with
    | zero =>
      intro i21 s21 pl ls H locs hm21 hF hf21 hf22 hf23 hf24 hf25 hf26 hf27 hf28 hE hR hl hO hP hD hS
      refine lv_iload_n hx hb dMH_expand_2 rfl (lv_at hl 0 rfl) ?_
      refine lv_aload_n hx hb dMH_expand_3 rfl (lv_at hl 1 rfl) ?_
      refine nw_get (C := "LatticeKeysModel$Hands") (TT := T_MH) (N := 31) hx hb hts (wg_ft i_MH) hown hK hO k_h0 (kn := 225) (ci := 12) (fl := [(3, 172), (3, 181), (3, 226), (3, 291), (3, 299), (3, 308), (3, 317), (3, 326), (3, 334), (3, 342), (3, 350), (3, 359), (3, 368), (3, 369), (3, 370), (3, 371), (3, 372), (3, 373), (3, 374), (3, 375), (3, 376), (3, 377), (3, 378), (0, 0), (0, 0), (0, 0), (0, 0), (0, 0), (0, 0), (0, 0), (0, 0)]) rfl hP rfl 24 (by decide) (hts _ (wg_t kw_1456)) (fun _ h9 => h9) (cd := (0, 0)) rfl dMH_expand_4 (fun v21 hv21 => ?_)
      obtain rfl := (show v21 = .int (s21.1 225 24) from hv21)
      obtain ⟨z21, ez21, hz21, hz22⟩ := cl_of (b := 2147483648) hf22 (by omega) (by decide)
      replace hR := bnd_step hR ez21
      replace hE := bndP_step hE ez21
      refine mi_as hz21 ?_
      subst hz22
      refine mi_ge (tgt := 163) hx hb dMH_expand_7 (by decide) (by omega) (by omega) (fun h21 => ?_) (fun h21 => absurd h21 (by omega))
      exact mp_vret hx hb hr hlk hP hD hS (s21, pl) ⟨⟨hR.symm, hF, trivial⟩, hO⟩ [] rfl rfl rfl (by omega) (by omega) dMH_expand_163
    | succ n21 ih21 =>
      intro i21 s21 pl ls H locs hm21 hF hf29 hf30 hf31 hf32 hf33 hf34 hf35 hf36 hE hR hl hO hP hD hS
      refine lv_iload_n hx hb dMH_expand_2 rfl (lv_at hl 0 rfl) ?_
      refine lv_aload_n hx hb dMH_expand_3 rfl (lv_at hl 1 rfl) ?_
      refine nw_get (C := "LatticeKeysModel$Hands") (TT := T_MH) (N := 31) hx hb hts (wg_ft i_MH) hown hK hO k_h0 (kn := 225) (ci := 12) (fl := [(3, 172), (3, 181), (3, 226), (3, 291), (3, 299), (3, 308), (3, 317), (3, 326), (3, 334), (3, 342), (3, 350), (3, 359), (3, 368), (3, 369), (3, 370), (3, 371), (3, 372), (3, 373), (3, 374), (3, 375), (3, 376), (3, 377), (3, 378), (0, 0), (0, 0), (0, 0), (0, 0), (0, 0), (0, 0), (0, 0), (0, 0)]) rfl hP rfl 24 (by decide) (hts _ (wg_t kw_1456)) (fun _ h9 => h9) (cd := (0, 0)) rfl dMH_expand_4 (fun v22 hv22 => ?_)
      obtain rfl := (show v22 = .int (s21.1 225 24) from hv22)
      obtain ⟨z22, ez22, hz23, hz24⟩ := cl_of (b := 2147483648) hf30 (by omega) (by decide)
      replace hR := bnd_step hR ez22
      replace hE := bndP_step hE ez22
      refine mi_as hz23 ?_
      subst hz24
      refine mi_ge (tgt := 163) hx hb dMH_expand_7 (by decide) (by omega) (by omega) (fun h22 => absurd h22 (by omega)) (fun h22 => ?_)
      refine lv_iconst (v := nI 0) hx hb dMH_expand_10 (by decide) ?_
      refine lv_istore_n (lv' := [(3, .int (nI 0)), (2, .int (nI i21)), (0, .ref h0), (1, .ref b)]) hx hb dMH_expand_11 rfl hl (by decide) rfl (fun ls hl => ?_)
      have lp22 : ∀ (n22 : Nat) (i22 : Nat) (s22 : Sto) (pl : va_W) (ls : Array Slot) (H : Heap) (locs : List Loc), n22 + i22 = 5 → frm (M_MH_expand_1) s s22 → s22.1 225 23 = nI 1 → s22.1 225 24 = nI 6 → s22.1 225 25 = nI 5 → s22.1 225 26 = nI 4 → s22.1 225 27 = nI 524288 → s22.1 225 28 = nI 261888 → s22.1 225 29 = nI 196 → s22.1 225 30 = nI 48 → E_MH_expand_1_L1 pb n i21 (E_MH_expand_1_L0 pb n n21) n22 i22 s22 → F_MH_expand_1 pb n s = F_MH_expand_1_L1 pb n i21 (F_MH_expand_1_L0 pb n n21) n22 i22 s22 → lv_has ls 6 [(3, .int (nI i22)), (2, .int (nI i21)), (0, .ref h0), (1, .ref b)] → okn g T s22 pl → va_P g.1 vcl ([] ++ pl) H → va_D A ([] ++ pl) → va_S A s0.heap H locs → W p l e ({ frames := 4, cells := 0, slots := 0, locals := 90 } : Room) s0 m args below meth c H locs 0 0 (MQ below (va_Qv (fun (u : (Sto) × va_W) => (u.1 = F_MH_expand_1 pb n s ∧ frm (M_MH_expand_1) s u.1 ∧ True) ∧ okn g T u.1 u.2) (po g.1 vcl A (fun (u : (Sto) × va_W) => [] ++ u.2)) A) args s0 0 0 A) (F0 m 12 ls []) := by
        intro n22
        induction n22 with
        | zero =>
          intro i22 s22 pl ls H locs hm22 hF hf37 hf38 hf39 hf40 hf41 hf42 hf43 hf44 hE hR hl hO hP hD hS
          refine lv_iload_n hx hb dMH_expand_12 rfl (lv_at hl 0 rfl) ?_
          refine lv_aload_n hx hb dMH_expand_13 rfl (lv_at hl 2 rfl) ?_
          refine nw_get (C := "LatticeKeysModel$Hands") (TT := T_MH) (N := 31) hx hb hts (wg_ft i_MH) hown hK hO k_h0 (kn := 225) (ci := 12) (fl := [(3, 172), (3, 181), (3, 226), (3, 291), (3, 299), (3, 308), (3, 317), (3, 326), (3, 334), (3, 342), (3, 350), (3, 359), (3, 368), (3, 369), (3, 370), (3, 371), (3, 372), (3, 373), (3, 374), (3, 375), (3, 376), (3, 377), (3, 378), (0, 0), (0, 0), (0, 0), (0, 0), (0, 0), (0, 0), (0, 0), (0, 0)]) rfl hP rfl 25 (by decide) (hts _ (wg_t kw_1457)) (fun _ h9 => h9) (cd := (0, 0)) rfl dMH_expand_14 (fun v23 hv23 => ?_)
          obtain rfl := (show v23 = .int (s22.1 225 25) from hv23)
          obtain ⟨z23, ez23, hz25, hz26⟩ := cl_of (b := 2147483648) hf39 (by omega) (by decide)
          replace hR := bnd_step hR ez23
          replace hE := bndP_step hE ez23
          refine mi_as hz25 ?_
          subst hz26
          refine mi_ge (tgt := 157) hx hb dMH_expand_17 (by decide) (by omega) (by omega) (fun h23 => ?_) (fun h23 => absurd h23 (by omega))
          refine mi_iinc (k := 1) (x := i21) (d := 1) (y := i21 + 1) (lv' := [(2, .int (nI (i21 + 1))), (3, .int (nI i22)), (0, .ref h0), (1, .ref b)]) hx hb dMH_expand_157 hl rfl (by decide) rfl (by decide) rfl (fun ls hl => ?_)
          refine lv_goto (tgt := 2) hx hb dMH_expand_160 (by decide) ?_
          exact ih21 (i21 + 1) s22 pl ls H locs (by omega) hF hf37 hf38 hf39 hf40 hf41 hf42 hf43 hf44 hE hR (lv_sub hl [0, 2, 3] rfl) hO hP hD hS
        | succ n22 ih22 =>
          intro i22 s22 pl ls H locs hm22 hF hf45 hf46 hf47 hf48 hf49 hf50 hf51 hf52 hE hR hl hO hP hD hS
          refine lv_iload_n hx hb dMH_expand_12 rfl (lv_at hl 0 rfl) ?_
          refine lv_aload_n hx hb dMH_expand_13 rfl (lv_at hl 2 rfl) ?_
          refine nw_get (C := "LatticeKeysModel$Hands") (TT := T_MH) (N := 31) hx hb hts (wg_ft i_MH) hown hK hO k_h0 (kn := 225) (ci := 12) (fl := [(3, 172), (3, 181), (3, 226), (3, 291), (3, 299), (3, 308), (3, 317), (3, 326), (3, 334), (3, 342), (3, 350), (3, 359), (3, 368), (3, 369), (3, 370), (3, 371), (3, 372), (3, 373), (3, 374), (3, 375), (3, 376), (3, 377), (3, 378), (0, 0), (0, 0), (0, 0), (0, 0), (0, 0), (0, 0), (0, 0), (0, 0)]) rfl hP rfl 25 (by decide) (hts _ (wg_t kw_1457)) (fun _ h9 => h9) (cd := (0, 0)) rfl dMH_expand_14 (fun v24 hv24 => ?_)
          obtain rfl := (show v24 = .int (s22.1 225 25) from hv24)
          obtain ⟨z24, ez24, hz27, hz28⟩ := cl_of (b := 2147483648) hf47 (by omega) (by decide)
          replace hR := bnd_step hR ez24
          replace hE := bndP_step hE ez24
          refine mi_as hz27 ?_
          subst hz28
          refine mi_ge (tgt := 157) hx hb dMH_expand_17 (by decide) (by omega) (by omega) (fun h24 => absurd h24 (by omega)) (fun h24 => ?_)
          refine lv_aload_n hx hb dMH_expand_20 rfl (lv_at hl 2 rfl) ?_
          refine nw_get (C := "LatticeKeysModel$Hands") (TT := T_MH) (N := 31) hx hb hts (wg_ft i_MH) hown hK hO k_h0 (kn := 225) (ci := 12) (fl := [(3, 172), (3, 181), (3, 226), (3, 291), (3, 299), (3, 308), (3, 317), (3, 326), (3, 334), (3, 342), (3, 350), (3, 359), (3, 368), (3, 369), (3, 370), (3, 371), (3, 372), (3, 373), (3, 374), (3, 375), (3, 376), (3, 377), (3, 378), (0, 0), (0, 0), (0, 0), (0, 0), (0, 0), (0, 0), (0, 0), (0, 0)]) rfl hP rfl 0 (by decide) (hts _ (wg_t kw_1432)) (fun _ h9 => h9) (cd := (3, 172)) rfl dMH_expand_21 (fun v25 hv25 => ?_)
          obtain ⟨r21, rfl, kr21⟩ := (show ∃ r : Nat, v25 = .ref r ∧ T r = some 172 from hv25)
          refine lv_sipush (v := nI 168) hx hb dMH_expand_24 (by decide) ?_
          refine lv_bipush (v := nI 31) hx hb dMH_expand_27 (by decide) ?_
          refine mp_v (cx := []) (wr := []) hP hD hS hA [] [] rfl rfl rfl (by decide) (va_runV (As := [.int (nI 168), .int (nI 31)]) (rest := []) F (N_MS_begin l g _ T s22 pl hO hU r21 168 (nI 31) kr21 (by omega)) (cwV 2 hts (wg_app (wg_c kw_1723 (wg_c kw_1604 (wg_c kw_1605 (wg_c kw_10 wg_n)))) kw_1606) rfl rfl rfl (by decide +kernel) ⟨by decide, by decide⟩) (pn_V (en_ok g) (ci := 9) (kn := 172) (fl := [(3, 173), (3, 174), (3, 175), (3, 176), (3, 177), (0, 0), (0, 0), (0, 0)]) hK hO kr21 rfl hP hD hS hA hEn [] rfl rfl rfl) rfl rfl hl.1 rfl (lv_room (Nat.le_of_ble_eq_true rfl)) dMH_expand_29 ⟨by omega, by omega⟩) (fun  u21 H locs hu21 hP hD hS => ?_)
          obtain ⟨s23, pl⟩ := u21
          obtain ⟨⟨eq21, hFc21, ⟨x21, hx_21, hb_21⟩, ⟨x22, hx_22, hb_22⟩, -⟩, hO⟩ := hu21
          have hO : okn g T s23 pl := hO
          have hP : va_P g.1 vcl ([] ++ pl) _ := hP
          have hD : va_D _ ([] ++ pl) := hD
          have hFc21 : frm (M_MS_begin) s22 s23 := hFc21
          have hb_21 : x21 = 0 := hb_21
          have hb_22 : x22 = 168 := hb_22
          replace hR := bnd_step hR eq21
          replace hE := bndP_step hE eq21
          have hF := frm_tr hF hFc21 (fun k hk => by unfold M_MS_begin at hk; unfold M_MH_expand_1; omega)
          have hf53 : s23.1 225 23 = nI 1 := fc_F hf45 hFc21 (by unfold M_MS_begin; omega)
          have hf54 : s23.1 225 24 = nI 6 := fc_F hf46 hFc21 (by unfold M_MS_begin; omega)
          have hf55 : s23.1 225 25 = nI 5 := fc_F hf47 hFc21 (by unfold M_MS_begin; omega)
          have hf56 : s23.1 225 26 = nI 4 := fc_F hf48 hFc21 (by unfold M_MS_begin; omega)
          have hf57 : s23.1 225 27 = nI 524288 := fc_F hf49 hFc21 (by unfold M_MS_begin; omega)
          have hf58 : s23.1 225 28 = nI 261888 := fc_F hf50 hFc21 (by unfold M_MS_begin; omega)
          have hf59 : s23.1 225 29 = nI 196 := fc_F hf51 hFc21 (by unfold M_MS_begin; omega)
          have hf60 : s23.1 225 30 = nI 48 := fc_F hf52 hFc21 (by unfold M_MS_begin; omega)
          refine W.widen (k := 0) (n := 0) (by omega) (by omega) ?_
          refine lv_aload_n hx hb dMH_expand_32 rfl (lv_at hl 2 rfl) ?_
          refine nw_get (C := "LatticeKeysModel$Hands") (TT := T_MH) (N := 31) hx hb hts (wg_ft i_MH) hown hK hO k_h0 (kn := 225) (ci := 12) (fl := [(3, 172), (3, 181), (3, 226), (3, 291), (3, 299), (3, 308), (3, 317), (3, 326), (3, 334), (3, 342), (3, 350), (3, 359), (3, 368), (3, 369), (3, 370), (3, 371), (3, 372), (3, 373), (3, 374), (3, 375), (3, 376), (3, 377), (3, 378), (0, 0), (0, 0), (0, 0), (0, 0), (0, 0), (0, 0), (0, 0), (0, 0)]) rfl hP rfl 0 (by decide) (hts _ (wg_t kw_1432)) (fun _ h9 => h9) (cd := (3, 172)) rfl dMH_expand_33 (fun v26 hv26 => ?_)
          obtain ⟨r22, rfl, kr22⟩ := (show ∃ r : Nat, v26 = .ref r ∧ T r = some 172 from hv26)
          refine lv_aload_n hx hb dMH_expand_36 rfl (lv_at hl 3 rfl) ?_
          refine lv_iconst (v := nI 0) hx hb dMH_expand_37 (by decide) ?_
          refine lv_bipush (v := nI 32) hx hb dMH_expand_38 (by decide) ?_
          refine mp_v (cx := []) (wr := []) hP hD hS hA [] [] rfl rfl rfl (by decide) (va_runV (As := [.ref b, .int (nI 0), .int (nI 32)]) (rest := []) F (N_MS_puts l g _ T s23 pl hO hU r22 b pb n 0 32 x21 x22 kr22 k_b n_b hx_21 hx_22 (by omega) (by omega) (by omega) (by omega)) (cwV 3 hts (wg_app (wg_c kw_1715 (wg_c kw_1608 (wg_c kw_1609 (wg_c kw_10 wg_n)))) kw_1610) rfl rfl rfl (by decide +kernel) ⟨by decide, by decide⟩) (pn_V (en_ok g) (ci := 9) (kn := 172) (fl := [(3, 173), (3, 174), (3, 175), (3, 176), (3, 177), (0, 0), (0, 0), (0, 0)]) hK hO kr22 rfl hP hD hS hA hEn [] rfl rfl rfl) rfl rfl hl.1 rfl (lv_room (Nat.le_of_ble_eq_true rfl)) dMH_expand_40 ⟨by omega, by omega⟩) (fun  u22 H locs hu22 hP hD hS => ?_)
          obtain ⟨s24, pl⟩ := u22
          obtain ⟨⟨eq22, hFc22, ⟨x24, hx_24, hb_24⟩, ⟨x25, hx_25, hb_25⟩, -⟩, hO⟩ := hu22
          have hO : okn g T s24 pl := hO
          have hP : va_P g.1 vcl ([] ++ pl) _ := hP
          have hD : va_D _ ([] ++ pl) := hD
          have hFc22 : frm (M_MS_puts) s23 s24 := hFc22
          have hb_24 : x24 < x22 := hb_24
          have hb_25 : x25 = x22 := hb_25
          replace hR := bnd_step hR eq22
          replace hE := bndP_step hE eq22
          have hF := frm_tr hF hFc22 (fun k hk => by unfold M_MS_puts at hk; unfold M_MH_expand_1; omega)
          have hf61 : s24.1 225 23 = nI 1 := fc_F hf53 hFc22 (by unfold M_MS_puts; omega)
          have hf62 : s24.1 225 24 = nI 6 := fc_F hf54 hFc22 (by unfold M_MS_puts; omega)
          have hf63 : s24.1 225 25 = nI 5 := fc_F hf55 hFc22 (by unfold M_MS_puts; omega)
          have hf64 : s24.1 225 26 = nI 4 := fc_F hf56 hFc22 (by unfold M_MS_puts; omega)
          have hf65 : s24.1 225 27 = nI 524288 := fc_F hf57 hFc22 (by unfold M_MS_puts; omega)
          have hf66 : s24.1 225 28 = nI 261888 := fc_F hf58 hFc22 (by unfold M_MS_puts; omega)
          have hf67 : s24.1 225 29 = nI 196 := fc_F hf59 hFc22 (by unfold M_MS_puts; omega)
          have hf68 : s24.1 225 30 = nI 48 := fc_F hf60 hFc22 (by unfold M_MS_puts; omega)
          refine W.widen (k := 0) (n := 0) (by omega) (by omega) ?_
          refine lv_aload_n hx hb dMH_expand_43 rfl (lv_at hl 2 rfl) ?_
          refine nw_get (C := "LatticeKeysModel$Hands") (TT := T_MH) (N := 31) hx hb hts (wg_ft i_MH) hown hK hO k_h0 (kn := 225) (ci := 12) (fl := [(3, 172), (3, 181), (3, 226), (3, 291), (3, 299), (3, 308), (3, 317), (3, 326), (3, 334), (3, 342), (3, 350), (3, 359), (3, 368), (3, 369), (3, 370), (3, 371), (3, 372), (3, 373), (3, 374), (3, 375), (3, 376), (3, 377), (3, 378), (0, 0), (0, 0), (0, 0), (0, 0), (0, 0), (0, 0), (0, 0), (0, 0)]) rfl hP rfl 0 (by decide) (hts _ (wg_t kw_1432)) (fun _ h9 => h9) (cd := (3, 172)) rfl dMH_expand_44 (fun v27 hv27 => ?_)
          obtain ⟨r23, rfl, kr23⟩ := (show ∃ r : Nat, v27 = .ref r ∧ T r = some 172 from hv27)
          refine lv_iload_n hx hb dMH_expand_47 rfl (lv_at hl 0 rfl) ?_
          refine mp_v (cx := []) (wr := []) hP hD hS hA [] [] rfl rfl rfl (by decide) (va_runV (As := [.int (nI i22)]) (rest := []) F (N_MS_put l g _ T s24 pl hO hU r23 (nI i22) x24 x25 kr23 hx_24 hx_25 (by omega) (by omega)) (cwV 1 hts (wg_app (wg_c kw_1716 (wg_c kw_1612 (wg_c kw_1613 (wg_c kw_10 wg_n)))) kw_1614) rfl rfl rfl (by decide +kernel) ⟨by decide, by decide⟩) (pn_V (en_ok g) (ci := 9) (kn := 172) (fl := [(3, 173), (3, 174), (3, 175), (3, 176), (3, 177), (0, 0), (0, 0), (0, 0)]) hK hO kr23 rfl hP hD hS hA hEn [] rfl rfl rfl) rfl rfl hl.1 rfl (lv_room (Nat.le_of_ble_eq_true rfl)) dMH_expand_48 ⟨by omega, by omega⟩) (fun  u23 H locs hu23 hP hD hS => ?_)
          obtain ⟨s25, pl⟩ := u23
          obtain ⟨⟨eq23, hFc23, ⟨x27, hx_27, hb_27⟩, ⟨x28, hx_28, hb_28⟩, -⟩, hO⟩ := hu23
          have hO : okn g T s25 pl := hO
          have hP : va_P g.1 vcl ([] ++ pl) _ := hP
          have hD : va_D _ ([] ++ pl) := hD
          have hFc23 : frm (M_MS_put) s24 s25 := hFc23
          have hb_27 : x27 < x25 := hb_27
          have hb_28 : x28 = x25 := hb_28
          replace hR := bnd_step hR eq23
          replace hE := bndP_step hE eq23
          have hF := frm_tr hF hFc23 (fun k hk => by unfold M_MS_put at hk; unfold M_MH_expand_1; omega)
          have hf69 : s25.1 225 23 = nI 1 := fc_F hf61 hFc23 (by unfold M_MS_put; omega)
          have hf70 : s25.1 225 24 = nI 6 := fc_F hf62 hFc23 (by unfold M_MS_put; omega)
          have hf71 : s25.1 225 25 = nI 5 := fc_F hf63 hFc23 (by unfold M_MS_put; omega)
          have hf72 : s25.1 225 26 = nI 4 := fc_F hf64 hFc23 (by unfold M_MS_put; omega)
          have hf73 : s25.1 225 27 = nI 524288 := fc_F hf65 hFc23 (by unfold M_MS_put; omega)
          have hf74 : s25.1 225 28 = nI 261888 := fc_F hf66 hFc23 (by unfold M_MS_put; omega)
          have hf75 : s25.1 225 29 = nI 196 := fc_F hf67 hFc23 (by unfold M_MS_put; omega)
          have hf76 : s25.1 225 30 = nI 48 := fc_F hf68 hFc23 (by unfold M_MS_put; omega)
          refine W.widen (k := 0) (n := 0) (by omega) (by omega) ?_
          refine lv_aload_n hx hb dMH_expand_51 rfl (lv_at hl 2 rfl) ?_
          refine nw_get (C := "LatticeKeysModel$Hands") (TT := T_MH) (N := 31) hx hb hts (wg_ft i_MH) hown hK hO k_h0 (kn := 225) (ci := 12) (fl := [(3, 172), (3, 181), (3, 226), (3, 291), (3, 299), (3, 308), (3, 317), (3, 326), (3, 334), (3, 342), (3, 350), (3, 359), (3, 368), (3, 369), (3, 370), (3, 371), (3, 372), (3, 373), (3, 374), (3, 375), (3, 376), (3, 377), (3, 378), (0, 0), (0, 0), (0, 0), (0, 0), (0, 0), (0, 0), (0, 0), (0, 0)]) rfl hP rfl 0 (by decide) (hts _ (wg_t kw_1432)) (fun _ h9 => h9) (cd := (3, 172)) rfl dMH_expand_52 (fun v28 hv28 => ?_)
          obtain ⟨r24, rfl, kr24⟩ := (show ∃ r : Nat, v28 = .ref r ∧ T r = some 172 from hv28)
          refine lv_iload_n hx hb dMH_expand_55 rfl (lv_at hl 1 rfl) ?_
          refine mp_v (cx := []) (wr := []) hP hD hS hA [] [] rfl rfl rfl (by decide) (va_runV (As := [.int (nI i21)]) (rest := []) F (N_MS_put l g _ T s25 pl hO hU r24 (nI i21) x27 x28 kr24 hx_27 hx_28 (by omega) (by omega)) (cwV 1 hts (wg_app (wg_c kw_1716 (wg_c kw_1612 (wg_c kw_1613 (wg_c kw_10 wg_n)))) kw_1614) rfl rfl rfl (by decide +kernel) ⟨by decide, by decide⟩) (pn_V (en_ok g) (ci := 9) (kn := 172) (fl := [(3, 173), (3, 174), (3, 175), (3, 176), (3, 177), (0, 0), (0, 0), (0, 0)]) hK hO kr24 rfl hP hD hS hA hEn [] rfl rfl rfl) rfl rfl hl.1 rfl (lv_room (Nat.le_of_ble_eq_true rfl)) dMH_expand_56 ⟨by omega, by omega⟩) (fun  u24 H locs hu24 hP hD hS => ?_)
          obtain ⟨s26, pl⟩ := u24
          obtain ⟨⟨eq24, hFc24, ⟨x30, hx_30, hb_30⟩, ⟨x31, hx_31, hb_31⟩, -⟩, hO⟩ := hu24
          have hO : okn g T s26 pl := hO
          have hP : va_P g.1 vcl ([] ++ pl) _ := hP
          have hD : va_D _ ([] ++ pl) := hD
          have hFc24 : frm (M_MS_put) s25 s26 := hFc24
          have hb_30 : x30 < x28 := hb_30
          have hb_31 : x31 = x28 := hb_31
          replace hR := bnd_step hR eq24
          replace hE := bndP_step hE eq24
          have hF := frm_tr hF hFc24 (fun k hk => by unfold M_MS_put at hk; unfold M_MH_expand_1; omega)
          have hf77 : s26.1 225 23 = nI 1 := fc_F hf69 hFc24 (by unfold M_MS_put; omega)
          have hf78 : s26.1 225 24 = nI 6 := fc_F hf70 hFc24 (by unfold M_MS_put; omega)
          have hf79 : s26.1 225 25 = nI 5 := fc_F hf71 hFc24 (by unfold M_MS_put; omega)
          have hf80 : s26.1 225 26 = nI 4 := fc_F hf72 hFc24 (by unfold M_MS_put; omega)
          have hf81 : s26.1 225 27 = nI 524288 := fc_F hf73 hFc24 (by unfold M_MS_put; omega)
          have hf82 : s26.1 225 28 = nI 261888 := fc_F hf74 hFc24 (by unfold M_MS_put; omega)
          have hf83 : s26.1 225 29 = nI 196 := fc_F hf75 hFc24 (by unfold M_MS_put; omega)
          have hf84 : s26.1 225 30 = nI 48 := fc_F hf76 hFc24 (by unfold M_MS_put; omega)
          refine W.widen (k := 0) (n := 0) (by omega) (by omega) ?_
          refine lv_aload_n hx hb dMH_expand_59 rfl (lv_at hl 2 rfl) ?_
          refine nw_get (C := "LatticeKeysModel$Hands") (TT := T_MH) (N := 31) hx hb hts (wg_ft i_MH) hown hK hO k_h0 (kn := 225) (ci := 12) (fl := [(3, 172), (3, 181), (3, 226), (3, 291), (3, 299), (3, 308), (3, 317), (3, 326), (3, 334), (3, 342), (3, 350), (3, 359), (3, 368), (3, 369), (3, 370), (3, 371), (3, 372), (3, 373), (3, 374), (3, 375), (3, 376), (3, 377), (3, 378), (0, 0), (0, 0), (0, 0), (0, 0), (0, 0), (0, 0), (0, 0), (0, 0)]) rfl hP rfl 0 (by decide) (hts _ (wg_t kw_1432)) (fun _ h9 => h9) (cd := (3, 172)) rfl dMH_expand_60 (fun v29 hv29 => ?_)
          obtain ⟨r25, rfl, kr25⟩ := (show ∃ r : Nat, v29 = .ref r ∧ T r = some 172 from hv29)
          refine mp_v (cx := []) (wr := []) hP hD hS hA [] [] rfl rfl rfl (by decide) (va_runV (As := []) (rest := []) F (N_MS_end l g _ T s26 pl hO hU r25 x30 x31 kr25 hx_30 hx_31 (by omega) (by omega)) (cwV 0 hts (wg_app (wg_c kw_1717 (wg_c kw_1630 (wg_c kw_1631 (wg_c kw_10 wg_n)))) kw_1632) rfl rfl rfl (by decide +kernel) ⟨by decide, by decide⟩) (pn_V (en_ok g) (ci := 9) (kn := 172) (fl := [(3, 173), (3, 174), (3, 175), (3, 176), (3, 177), (0, 0), (0, 0), (0, 0)]) hK hO kr25 rfl hP hD hS hA hEn [] rfl rfl rfl) rfl rfl hl.1 rfl (lv_room (Nat.le_of_ble_eq_true rfl)) dMH_expand_63 ⟨by omega, by omega⟩) (fun  u25 H locs hu25 hP hD hS => ?_)
          obtain ⟨s27, pl⟩ := u25
          obtain ⟨⟨eq25, hFc25, ⟨x33, hx_33, hb_33⟩, ⟨x34, hx_34, hb_34⟩, -⟩, hO⟩ := hu25
          have hO : okn g T s27 pl := hO
          have hP : va_P g.1 vcl ([] ++ pl) _ := hP
          have hD : va_D _ ([] ++ pl) := hD
          have hFc25 : frm (M_MS_end) s26 s27 := hFc25
          have hb_33 : x33 = 0 := hb_33
          have hb_34 : x34 = x31 := hb_34
          replace hR := bnd_step hR eq25
          replace hE := bndP_step hE eq25
          have hF := frm_tr hF hFc25 (fun k hk => by unfold M_MS_end at hk; unfold M_MH_expand_1; omega)
          have hf85 : s27.1 225 23 = nI 1 := fc_F hf77 hFc25 (by unfold M_MS_end; omega)
          have hf86 : s27.1 225 24 = nI 6 := fc_F hf78 hFc25 (by unfold M_MS_end; omega)
          have hf87 : s27.1 225 25 = nI 5 := fc_F hf79 hFc25 (by unfold M_MS_end; omega)
          have hf88 : s27.1 225 26 = nI 4 := fc_F hf80 hFc25 (by unfold M_MS_end; omega)
          have hf89 : s27.1 225 27 = nI 524288 := fc_F hf81 hFc25 (by unfold M_MS_end; omega)
          have hf90 : s27.1 225 28 = nI 261888 := fc_F hf82 hFc25 (by unfold M_MS_end; omega)
          have hf91 : s27.1 225 29 = nI 196 := fc_F hf83 hFc25 (by unfold M_MS_end; omega)
          have hf92 : s27.1 225 30 = nI 48 := fc_F hf84 hFc25 (by unfold M_MS_end; omega)
          refine W.widen (k := 0) (n := 0) (by omega) (by omega) ?_
          refine lv_iconst (v := nI 0) hx hb dMH_expand_66 (by decide) ?_
          refine lv_istore (lv' := [(4, .int (nI 0)), (3, .int (nI i22)), (2, .int (nI i21)), (0, .ref h0), (1, .ref b)]) hx hb dMH_expand_67 hl (by decide) rfl (fun ls hl => ?_)
          have lp23 : ∀ (n23 : Nat) (nn21 : Nat) (s28 : Sto) (ps21 : Nat) (pl : va_W) (ls : Array Slot) (H : Heap) (locs : List Loc), 0 = 0 → (nn21 ≤ 256) → (ps21 ≤ 168) → frm (M_MH_expand_1) s s28 → s28.1 225 23 = nI 1 → s28.1 225 24 = nI 6 → s28.1 225 25 = nI 5 → s28.1 225 26 = nI 4 → s28.1 225 27 = nI 524288 → s28.1 225 28 = nI 261888 → s28.1 225 29 = nI 196 → s28.1 225 30 = nI 48 → s28.1 172 6 = nI ps21 → s28.1 172 5 = nI x34 → E_MH_expand_1_L2 i21 i22 (E_MH_expand_1_L1 pb n i21 (E_MH_expand_1_L0 pb n n21) n22) n23 nn21 s28 → F_MH_expand_1 pb n s = F_MH_expand_1_L2 i21 i22 (F_MH_expand_1_L1 pb n i21 (F_MH_expand_1_L0 pb n n21) n22) n23 nn21 s28 → lv_has ls 6 [(4, .int (nI nn21)), (3, .int (nI i22)), (2, .int (nI i21)), (0, .ref h0), (1, .ref b)] → okn g T s28 pl → va_P g.1 vcl ([] ++ pl) H → va_D A ([] ++ pl) → va_S A s0.heap H locs → W p l e ({ frames := 4, cells := 0, slots := 0, locals := 90 } : Room) s0 m args below meth c H locs 0 0 (MQ below (va_Qv (fun (u : (Sto) × va_W) => (u.1 = F_MH_expand_1 pb n s ∧ frm (M_MH_expand_1) s u.1 ∧ True) ∧ okn g T u.1 u.2) (po g.1 vcl A (fun (u : (Sto) × va_W) => [] ++ u.2)) A) args s0 0 0 A) (F0 m 69 ls []) := by
            intro n23
            induction n23 with
            | zero =>
              intro nn21 s28 ps21 pl ls H locs hm23 hi21 hi22 hF hf93 hf94 hf95 hf96 hf97 hf98 hf99 hf100 hf101 hf102 hE hR hl hO hP hD hS
              refine lv_iload hx hb dMH_expand_69 (lv_at hl 0 rfl) ?_
              refine lv_sipush (v := nI 256) hx hb dMH_expand_71 (by decide) ?_
              refine mi_ge (tgt := 151) hx hb dMH_expand_74 (by decide) (by omega) (by omega) (fun h25 => ?_) (fun h25 => absurd h25 (by have h9 : 256 ≤ nn21 := hE.1; omega))
              replace hE := hE.2
              refine mi_iinc (k := 1) (x := i22) (d := 1) (y := i22 + 1) (lv' := [(3, .int (nI (i22 + 1))), (4, .int (nI nn21)), (2, .int (nI i21)), (0, .ref h0), (1, .ref b)]) hx hb dMH_expand_151 hl rfl (by decide) rfl (by decide) rfl (fun ls hl => ?_)
              refine lv_goto (tgt := 12) hx hb dMH_expand_154 (by decide) ?_
              exact ih22 (i22 + 1) s28 pl ls H locs (by omega) hF hf93 hf94 hf95 hf96 hf97 hf98 hf99 hf100 hE hR (lv_sub hl [0, 2, 3, 4] rfl) hO hP hD hS
            | succ n23 ih23 =>
              intro nn21 s28 ps21 pl ls H locs hm23 hi21 hi22 hF hf103 hf104 hf105 hf106 hf107 hf108 hf109 hf110 hf111 hf112 hE hR hl hO hP hD hS
              refine lv_iload hx hb dMH_expand_69 (lv_at hl 0 rfl) ?_
              refine lv_sipush (v := nI 256) hx hb dMH_expand_71 (by decide) ?_
              refine mi_ge (tgt := 151) hx hb dMH_expand_74 (by decide) (by omega) (by omega) (fun h26 => ?_) (fun h26 => ?_)
              · replace hR := hR.trans (if_pos h26)
                replace hE := iteP_pos h26 hE
                refine mi_iinc (k := 1) (x := i22) (d := 1) (y := i22 + 1) (lv' := [(3, .int (nI (i22 + 1))), (4, .int (nI nn21)), (2, .int (nI i21)), (0, .ref h0), (1, .ref b)]) hx hb dMH_expand_151 hl rfl (by decide) rfl (by decide) rfl (fun ls hl => ?_)
                refine lv_goto (tgt := 12) hx hb dMH_expand_154 (by decide) ?_
                exact ih22 (i22 + 1) s28 pl ls H locs (by omega) hF hf103 hf104 hf105 hf106 hf107 hf108 hf109 hf110 hE hR (lv_sub hl [0, 2, 3, 4] rfl) hO hP hD hS
              · replace hR := hR.trans (if_neg (Nat.not_le.mpr h26))
                replace hE := iteP_neg (Nat.not_le.mpr h26) hE
                refine lv_aload_n hx hb dMH_expand_77 rfl (lv_at hl 3 rfl) ?_
                refine nw_get (C := "LatticeKeysModel$Hands") (TT := T_MH) (N := 31) hx hb hts (wg_ft i_MH) hown hK hO k_h0 (kn := 225) (ci := 12) (fl := [(3, 172), (3, 181), (3, 226), (3, 291), (3, 299), (3, 308), (3, 317), (3, 326), (3, 334), (3, 342), (3, 350), (3, 359), (3, 368), (3, 369), (3, 370), (3, 371), (3, 372), (3, 373), (3, 374), (3, 375), (3, 376), (3, 377), (3, 378), (0, 0), (0, 0), (0, 0), (0, 0), (0, 0), (0, 0), (0, 0), (0, 0)]) rfl hP rfl 0 (by decide) (hts _ (wg_t kw_1432)) (fun _ h9 => h9) (cd := (3, 172)) rfl dMH_expand_78 (fun v30 hv30 => ?_)
                obtain ⟨r26, rfl, kr26⟩ := (show ∃ r : Nat, v30 = .ref r ∧ T r = some 172 from hv30)
                refine mp_i (cx := []) (wr := []) hP hD hS hA [] [] rfl rfl rfl (by decide) (va_runV (As := []) (rest := []) F (N_MS_next l g _ T s28 pl hO hU r26 ps21 x34 kr26 hf111 hf112 (by omega) (by omega)) (cwV 0 hts (wg_app (wg_c kw_1724 (wg_c kw_1638 (wg_c kw_1639 (wg_c kw_10 wg_n)))) kw_1640) rfl rfl rfl (by decide +kernel) ⟨by decide, by decide⟩) (pn_V (en_ok g) (ci := 9) (kn := 172) (fl := [(3, 173), (3, 174), (3, 175), (3, 176), (3, 177), (0, 0), (0, 0), (0, 0)]) hK hO kr26 rfl hP hD hS hA hEn [] rfl rfl rfl) rfl rfl hl.1 rfl (lv_room (Nat.le_of_ble_eq_true rfl)) dMH_expand_81 ⟨by omega, by omega⟩) (fun r27 u26 H locs hu26 hP hD hS => ?_)
                obtain ⟨q21, pl⟩ := u26
                obtain ⟨⟨eq26, rfl, hFc26, ⟨x38, hx_38, hb_38⟩, ⟨x36, hx_36, hb_36⟩, ⟨x37, hx_37, hb_37⟩, -⟩, hO⟩ := hu26
                have hO : okn g T q21.2 pl := hO
                have hP : va_P g.1 vcl ([] ++ pl) _ := hP
                have hD : va_D _ ([] ++ pl) := hD
                have hFc26 : frm (M_MS_next) s28 q21.2 := hFc26
                have hb_36 : x36 ≤ x34 := hb_36
                have hb_37 : x37 = x34 := hb_37
                have hb_38 : x38 < 256 := hb_38
                replace hR := bnd_step hR eq26
                replace hE := bndP_step hE eq26
                have hF := frm_tr hF hFc26 (fun k hk => by unfold M_MS_next at hk; unfold M_MH_expand_1; omega)
                have hf113 : q21.2.1 225 23 = nI 1 := fc_F hf103 hFc26 (by unfold M_MS_next; omega)
                have hf114 : q21.2.1 225 24 = nI 6 := fc_F hf104 hFc26 (by unfold M_MS_next; omega)
                have hf115 : q21.2.1 225 25 = nI 5 := fc_F hf105 hFc26 (by unfold M_MS_next; omega)
                have hf116 : q21.2.1 225 26 = nI 4 := fc_F hf106 hFc26 (by unfold M_MS_next; omega)
                have hf117 : q21.2.1 225 27 = nI 524288 := fc_F hf107 hFc26 (by unfold M_MS_next; omega)
                have hf118 : q21.2.1 225 28 = nI 261888 := fc_F hf108 hFc26 (by unfold M_MS_next; omega)
                have hf119 : q21.2.1 225 29 = nI 196 := fc_F hf109 hFc26 (by unfold M_MS_next; omega)
                have hf120 : q21.2.1 225 30 = nI 48 := fc_F hf110 hFc26 (by unfold M_MS_next; omega)
                obtain ⟨z25, ez25, hz29, hz30⟩ := cl_of (b := 2147483648) hx_38 (by omega) (by decide)
                replace hR := bnd_step hR ez25
                replace hE := bndP_step hE ez25
                refine mi_as hz29 ?_
                refine W.widen (k := 0) (n := 0) (by omega) (by omega) ?_
                refine lv_istore (lv' := [(5, .int (nI z25)), (4, .int (nI nn21)), (3, .int (nI i22)), (2, .int (nI i21)), (0, .ref h0), (1, .ref b)]) hx hb dMH_expand_84 hl (by decide) rfl (fun ls hl => ?_)
                refine lv_iload hx hb dMH_expand_86 (lv_at hl 0 rfl) ?_
                refine lv_aload_n hx hb dMH_expand_88 rfl (lv_at hl 4 rfl) ?_
                refine nw_get (C := "LatticeKeysModel$Hands") (TT := T_MH) (N := 31) hx hb hts (wg_ft i_MH) hown hK hO k_h0 (kn := 225) (ci := 12) (fl := [(3, 172), (3, 181), (3, 226), (3, 291), (3, 299), (3, 308), (3, 317), (3, 326), (3, 334), (3, 342), (3, 350), (3, 359), (3, 368), (3, 369), (3, 370), (3, 371), (3, 372), (3, 373), (3, 374), (3, 375), (3, 376), (3, 377), (3, 378), (0, 0), (0, 0), (0, 0), (0, 0), (0, 0), (0, 0), (0, 0), (0, 0)]) rfl hP rfl 0 (by decide) (hts _ (wg_t kw_1432)) (fun _ h9 => h9) (cd := (3, 172)) rfl dMH_expand_89 (fun v31 hv31 => ?_)
                obtain ⟨r28, rfl, kr27⟩ := (show ∃ r : Nat, v31 = .ref r ∧ T r = some 172 from hv31)
                refine mp_i (cx := []) (wr := []) hP hD hS hA [] [] rfl rfl rfl (by decide) (va_runV (As := []) (rest := [.int (nI z25)]) F (N_MS_next l g _ T q21.2 pl hO hU r28 x36 x37 kr27 hx_36 hx_37 (by omega) (by omega)) (cwV 0 hts (wg_app (wg_c kw_1724 (wg_c kw_1638 (wg_c kw_1639 (wg_c kw_10 wg_n)))) kw_1640) rfl rfl rfl (by decide +kernel) ⟨by decide, by decide⟩) (pn_V (en_ok g) (ci := 9) (kn := 172) (fl := [(3, 173), (3, 174), (3, 175), (3, 176), (3, 177), (0, 0), (0, 0), (0, 0)]) hK hO kr27 rfl hP hD hS hA hEn [] rfl rfl rfl) rfl rfl hl.1 rfl (lv_room (Nat.le_of_ble_eq_true rfl)) dMH_expand_92 ⟨by omega, by omega⟩) (fun r29 u27 H locs hu27 hP hD hS => ?_)
                obtain ⟨q22, pl⟩ := u27
                obtain ⟨⟨eq27, rfl, hFc27, ⟨x41, hx_41, hb_41⟩, ⟨x39, hx_39, hb_39⟩, ⟨x40, hx_40, hb_40⟩, -⟩, hO⟩ := hu27
                have hO : okn g T q22.2 pl := hO
                have hP : va_P g.1 vcl ([] ++ pl) _ := hP
                have hD : va_D _ ([] ++ pl) := hD
                have hFc27 : frm (M_MS_next) q21.2 q22.2 := hFc27
                have hb_39 : x39 ≤ x37 := hb_39
                have hb_40 : x40 = x37 := hb_40
                have hb_41 : x41 < 256 := hb_41
                replace hR := bnd_step hR eq27
                replace hE := bndP_step hE eq27
                have hF := frm_tr hF hFc27 (fun k hk => by unfold M_MS_next at hk; unfold M_MH_expand_1; omega)
                have hf121 : q22.2.1 225 23 = nI 1 := fc_F hf113 hFc27 (by unfold M_MS_next; omega)
                have hf122 : q22.2.1 225 24 = nI 6 := fc_F hf114 hFc27 (by unfold M_MS_next; omega)
                have hf123 : q22.2.1 225 25 = nI 5 := fc_F hf115 hFc27 (by unfold M_MS_next; omega)
                have hf124 : q22.2.1 225 26 = nI 4 := fc_F hf116 hFc27 (by unfold M_MS_next; omega)
                have hf125 : q22.2.1 225 27 = nI 524288 := fc_F hf117 hFc27 (by unfold M_MS_next; omega)
                have hf126 : q22.2.1 225 28 = nI 261888 := fc_F hf118 hFc27 (by unfold M_MS_next; omega)
                have hf127 : q22.2.1 225 29 = nI 196 := fc_F hf119 hFc27 (by unfold M_MS_next; omega)
                have hf128 : q22.2.1 225 30 = nI 48 := fc_F hf120 hFc27 (by unfold M_MS_next; omega)
                obtain ⟨z26, ez26, hz31, hz32⟩ := cl_of (b := 2147483648) hx_41 (by omega) (by decide)
                replace hR := bnd_step hR ez26
                replace hE := bndP_step hE ez26
                refine mi_as hz31 ?_
                refine W.widen (k := 0) (n := 0) (by omega) (by omega) ?_
                refine lv_bipush (v := nI 8) hx hb dMH_expand_95 (by decide) ?_
                refine lv_ishl hx hb dMH_expand_97 ?_
                refine lv_iadd hx hb dMH_expand_98 ?_
                refine mi_eqv (fun z27 ez27 => ?_)
                replace hR := bnd_step hR ez27
                replace hE := bndP_step hE ez27
                refine lv_istore (lv' := [(5, .int z27), (4, .int (nI nn21)), (3, .int (nI i22)), (2, .int (nI i21)), (0, .ref h0), (1, .ref b)]) hx hb dMH_expand_99 hl (by decide) rfl (fun ls hl => ?_)
                refine lv_iload hx hb dMH_expand_101 (lv_at hl 0 rfl) ?_
                refine lv_aload_n hx hb dMH_expand_103 rfl (lv_at hl 4 rfl) ?_
                refine nw_get (C := "LatticeKeysModel$Hands") (TT := T_MH) (N := 31) hx hb hts (wg_ft i_MH) hown hK hO k_h0 (kn := 225) (ci := 12) (fl := [(3, 172), (3, 181), (3, 226), (3, 291), (3, 299), (3, 308), (3, 317), (3, 326), (3, 334), (3, 342), (3, 350), (3, 359), (3, 368), (3, 369), (3, 370), (3, 371), (3, 372), (3, 373), (3, 374), (3, 375), (3, 376), (3, 377), (3, 378), (0, 0), (0, 0), (0, 0), (0, 0), (0, 0), (0, 0), (0, 0), (0, 0)]) rfl hP rfl 0 (by decide) (hts _ (wg_t kw_1432)) (fun _ h9 => h9) (cd := (3, 172)) rfl dMH_expand_104 (fun v32 hv32 => ?_)
                obtain ⟨r30, rfl, kr28⟩ := (show ∃ r : Nat, v32 = .ref r ∧ T r = some 172 from hv32)
                refine mp_i (cx := []) (wr := []) hP hD hS hA [] [] rfl rfl rfl (by decide) (va_runV (As := []) (rest := [.int z27]) F (N_MS_next l g _ T q22.2 pl hO hU r30 x39 x40 kr28 hx_39 hx_40 (by omega) (by omega)) (cwV 0 hts (wg_app (wg_c kw_1724 (wg_c kw_1638 (wg_c kw_1639 (wg_c kw_10 wg_n)))) kw_1640) rfl rfl rfl (by decide +kernel) ⟨by decide, by decide⟩) (pn_V (en_ok g) (ci := 9) (kn := 172) (fl := [(3, 173), (3, 174), (3, 175), (3, 176), (3, 177), (0, 0), (0, 0), (0, 0)]) hK hO kr28 rfl hP hD hS hA hEn [] rfl rfl rfl) rfl rfl hl.1 rfl (lv_room (Nat.le_of_ble_eq_true rfl)) dMH_expand_107 ⟨by omega, by omega⟩) (fun r31 u28 H locs hu28 hP hD hS => ?_)
                obtain ⟨q23, pl⟩ := u28
                obtain ⟨⟨eq28, rfl, hFc28, ⟨x44, hx_44, hb_44⟩, ⟨x42, hx_42, hb_42⟩, ⟨x43, hx_43, hb_43⟩, -⟩, hO⟩ := hu28
                have hO : okn g T q23.2 pl := hO
                have hP : va_P g.1 vcl ([] ++ pl) _ := hP
                have hD : va_D _ ([] ++ pl) := hD
                have hFc28 : frm (M_MS_next) q22.2 q23.2 := hFc28
                have hb_42 : x42 ≤ x40 := hb_42
                have hb_43 : x43 = x40 := hb_43
                have hb_44 : x44 < 256 := hb_44
                replace hR := bnd_step hR eq28
                replace hE := bndP_step hE eq28
                have hF := frm_tr hF hFc28 (fun k hk => by unfold M_MS_next at hk; unfold M_MH_expand_1; omega)
                have hf129 : q23.2.1 225 23 = nI 1 := fc_F hf121 hFc28 (by unfold M_MS_next; omega)
                have hf130 : q23.2.1 225 24 = nI 6 := fc_F hf122 hFc28 (by unfold M_MS_next; omega)
                have hf131 : q23.2.1 225 25 = nI 5 := fc_F hf123 hFc28 (by unfold M_MS_next; omega)
                have hf132 : q23.2.1 225 26 = nI 4 := fc_F hf124 hFc28 (by unfold M_MS_next; omega)
                have hf133 : q23.2.1 225 27 = nI 524288 := fc_F hf125 hFc28 (by unfold M_MS_next; omega)
                have hf134 : q23.2.1 225 28 = nI 261888 := fc_F hf126 hFc28 (by unfold M_MS_next; omega)
                have hf135 : q23.2.1 225 29 = nI 196 := fc_F hf127 hFc28 (by unfold M_MS_next; omega)
                have hf136 : q23.2.1 225 30 = nI 48 := fc_F hf128 hFc28 (by unfold M_MS_next; omega)
                obtain ⟨z28, ez28, hz33, hz34⟩ := cl_of (b := 2147483648) hx_44 (by omega) (by decide)
                replace hR := bnd_step hR ez28
                replace hE := bndP_step hE ez28
                refine mi_as hz33 ?_
                refine W.widen (k := 0) (n := 0) (by omega) (by omega) ?_
                refine lv_bipush (v := nI 127) hx hb dMH_expand_110 (by decide) ?_
                refine lv_iand hx hb dMH_expand_112 ?_
                refine lv_bipush (v := nI 16) hx hb dMH_expand_113 (by decide) ?_
                refine lv_ishl hx hb dMH_expand_115 ?_
                refine lv_iadd hx hb dMH_expand_116 ?_
                refine mi_eqv (fun z29 ez29 => ?_)
                replace hR := bnd_step hR ez29
                replace hE := bndP_step hE ez29
                refine lv_istore (lv' := [(5, .int z29), (4, .int (nI nn21)), (3, .int (nI i22)), (2, .int (nI i21)), (0, .ref h0), (1, .ref b)]) hx hb dMH_expand_117 hl (by decide) rfl (fun ls hl => ?_)
                refine lv_iload hx hb dMH_expand_119 (lv_at hl 0 rfl) ?_
                refine lv_ldc (v := 8380417) hx hb hown (hts _ (wg_t kw_1429)) dMH_expand_121 ?_
                refine mi_as (show (8380417 : Int32) = nI 8380417 by decide) ?_
                refine lv_icmp_lt (tgt := 129) hx hb dMH_expand_123 (by decide) (fun h27 => ?_) (fun h27 => ?_)
                · replace hR := hR.trans (if_pos h27)
                  replace hE := iteP_pos h27 hE
                  refine lv_aload_n hx hb dMH_expand_129 rfl (lv_at hl 4 rfl) ?_
                  refine nw_get (C := "LatticeKeysModel$Hands") (TT := T_MH) (N := 31) hx hb hts (wg_ft i_MH) hown hK hO k_h0 (kn := 225) (ci := 12) (fl := [(3, 172), (3, 181), (3, 226), (3, 291), (3, 299), (3, 308), (3, 317), (3, 326), (3, 334), (3, 342), (3, 350), (3, 359), (3, 368), (3, 369), (3, 370), (3, 371), (3, 372), (3, 373), (3, 374), (3, 375), (3, 376), (3, 377), (3, 378), (0, 0), (0, 0), (0, 0), (0, 0), (0, 0), (0, 0), (0, 0), (0, 0)]) rfl hP rfl 2 (by decide) (hts _ (wg_t kw_1434)) (fun _ h9 => h9) (cd := (3, 226)) rfl dMH_expand_130 (fun v33 hv33 => ?_)
                  obtain ⟨r32, rfl, kr29⟩ := (show ∃ r : Nat, v33 = .ref r ∧ T r = some 226 from hv33)
                  refine lv_bipush (v := nI 8) hx hb dMH_expand_133 (by decide) ?_
                  refine lv_iload_n hx hb dMH_expand_135 rfl (lv_at hl 3 rfl) ?_
                  refine mi_imul hx hb dMH_expand_136 ?_
                  refine lv_iload_n hx hb dMH_expand_137 rfl (lv_at hl 2 rfl) ?_
                  refine mi_iadd hx hb dMH_expand_138 ?_
                  refine nw_aald3 hx hb hK hO kr29 (k := 226) (b := 227) rfl hP (by omega) (by omega) dMH_expand_139 (fun r33 kr30 => ?_)
                  have hn21 : nsp (227 + ((8 * i21) + i22)) = (0, 256, []) := rows_ok 227 64 (by decide) _ (by omega)
                  refine lv_iload hx hb dMH_expand_140 (lv_at hl 1 rfl) ?_
                  refine lv_iload hx hb dMH_expand_142 (lv_at hl 0 rfl) ?_
                  refine nw_iast hx hb hK hO hU kr30 (k := (227 + ((8 * i21) + i22))) hn21 hP hD hS (by omega) (by omega) dMH_expand_144 (fun s29 pl H locs es21 hO hP hD hS => ?_)
                  replace hR := bnd_step hR es21
                  replace hE := bndP_step hE es21
                  have hF := frm_sI hF es21 (by unfold M_MH_expand_1; omega)
                  have hf137 : s29.1 225 23 = nI 1 := fc_ne hf129 es21 (by omega)
                  have hf138 : s29.1 225 24 = nI 6 := fc_ne hf130 es21 (by omega)
                  have hf139 : s29.1 225 25 = nI 5 := fc_ne hf131 es21 (by omega)
                  have hf140 : s29.1 225 26 = nI 4 := fc_ne hf132 es21 (by omega)
                  have hf141 : s29.1 225 27 = nI 524288 := fc_ne hf133 es21 (by omega)
                  have hf142 : s29.1 225 28 = nI 261888 := fc_ne hf134 es21 (by omega)
                  have hf143 : s29.1 225 29 = nI 196 := fc_ne hf135 es21 (by omega)
                  have hf144 : s29.1 225 30 = nI 48 := fc_ne hf136 es21 (by omega)
                  have hf145 : s29.1 172 6 = nI x42 := fc_ne hx_42 es21 (by omega)
                  have hf146 : s29.1 172 5 = nI x43 := fc_ne hx_43 es21 (by omega)
                  refine mi_iinc (k := 1) (x := nn21) (d := 1) (y := nn21 + 1) (lv' := [(4, .int (nI (nn21 + 1))), (5, .int z29), (3, .int (nI i22)), (2, .int (nI i21)), (0, .ref h0), (1, .ref b)]) hx hb dMH_expand_145 hl rfl (by decide) rfl (by decide) rfl (fun ls hl => ?_)
                  refine lv_goto (tgt := 69) hx hb dMH_expand_148 (by decide) ?_
                  exact ih23 (nn21 + 1) s29 x42 pl ls H locs (by omega) (by omega) (by omega) hF hf137 hf138 hf139 hf140 hf141 hf142 hf143 hf144 hf145 (by have h9 := hf146; rw [show x43 = x34 by omega] at h9; exact h9) hE hR (lv_sub hl [0, 2, 3, 4, 5] rfl) hO hP hD hS
                · replace hR := hR.trans (if_neg h27)
                  replace hE := iteP_neg h27 hE
                  refine lv_goto (tgt := 69) hx hb dMH_expand_126 (by decide) ?_
                  exact ih23 nn21 q23.2 x42 pl ls H locs (by omega) (by omega) (by omega) hF hf129 hf130 hf131 hf132 hf133 hf134 hf135 hf136 hx_42 (by have h9 := hx_43; rw [show x43 = x34 by omega] at h9; exact h9) hE hR (lv_sub hl [1, 2, 3, 4, 5] rfl) hO hP hD hS
          exact lp23 1000000 0 s27 x33 pl ls _ _ (by omega) (by omega) (by omega) hF hf85 hf86 hf87 hf88 hf89 hf90 hf91 hf92 hx_33 hx_34 hE hR (lv_sub hl [0, 1, 2, 3, 4] rfl) hO hP hD hS
      exact lp22 5 0 s21 pl ls _ _ (by omega) hF hf29 hf30 hf31 hf32 hf33 hf34 hf35 hf36 hE hR (lv_sub hl [0, 1, 2, 3] rfl) hO hP hD hS
  exact lp21 6 0 s pl ls _ _ (by omega) hF e_c0 e_c1 e_c2 e_c3 e_c4 e_c5 e_c6 e_c7 hE hR (lv_sub hl [0, 1, 2] rfl) hO hP hD hS
def M_MH_expand_2 (k : Nat) : Prop := (227 ≤ k ∧ k < 291) ∨ k = 172 ∨ (0 : Nat) = 1
noncomputable def F_MH_expand_2_L2 (i21 : Nat) (i22 : Nat) (kk : Nat → Sto → Sto) : Nat → Nat → Sto → Sto
  | 0, nn21, s28 => kk (i22 + 1) s28
  | n23 + 1, nn21, s28 => if 256 ≤ nn21 then kk (i22 + 1) s28 else bnd (F_MS_next  s28) fun q21 => bnd (q21.1.toNatClampNeg) fun z25 => bnd (F_MS_next  q21.2) fun q22 => bnd (q22.1.toNatClampNeg) fun z26 => bnd (((nI z25) + ((nI z26) <<< ((nI 8) &&& 31)))) fun z27 => bnd (F_MS_next  q22.2) fun q23 => bnd (q23.1.toNatClampNeg) fun z28 => bnd ((z27 + (((nI z28) &&& (nI 127)) <<< ((nI 16) &&& 31)))) fun z29 => if z29 < (nI 8380417) then bnd (sI q23.2 ((227 + ((8 * i21) + i22))) nn21 z29) fun s29 => F_MH_expand_2_L2 i21 i22 kk n23 (nn21 + 1) s29 else F_MH_expand_2_L2 i21 i22 kk n23 nn21 q23.2
noncomputable def E_MH_expand_2_L2 (i21 : Nat) (i22 : Nat) (ke : Nat → Sto → Prop) : Nat → Nat → Sto → Prop
  | 0, nn21, s28 => (256 ≤ nn21) ∧ (ke (i22 + 1) s28)
  | n23 + 1, nn21, s28 => if 256 ≤ nn21 then ke (i22 + 1) s28 else bnd (F_MS_next  s28) fun q21 => bnd (q21.1.toNatClampNeg) fun z25 => bnd (F_MS_next  q21.2) fun q22 => bnd (q22.1.toNatClampNeg) fun z26 => bnd (((nI z25) + ((nI z26) <<< ((nI 8) &&& 31)))) fun z27 => bnd (F_MS_next  q22.2) fun q23 => bnd (q23.1.toNatClampNeg) fun z28 => bnd ((z27 + (((nI z28) &&& (nI 127)) <<< ((nI 16) &&& 31)))) fun z29 => if z29 < (nI 8380417) then bnd (sI q23.2 ((227 + ((8 * i21) + i22))) nn21 z29) fun s29 => E_MH_expand_2_L2 i21 i22 ke n23 (nn21 + 1) s29 else E_MH_expand_2_L2 i21 i22 ke n23 nn21 q23.2
noncomputable def F_MH_expand_2_L1 (pb : Nat) (n : Nat) (i21 : Nat) (kk : Nat → Sto → Sto) : Nat → Nat → Sto → Sto
  | 0, i22, s22 => bnd ((s22.1 225 25).toNatClampNeg) fun z23 => kk (i21 + 1) s22
  | n22 + 1, i22, s22 => bnd ((s22.1 225 25).toNatClampNeg) fun z24 => bnd (F_MS_begin 168 (nI 31) s22) fun s23 => bnd (F_MS_puts pb n 0 32 s23) fun s24 => bnd (F_MS_put (nI i22) s24) fun s25 => bnd (F_MS_put (nI i21) s25) fun s26 => bnd (F_MS_end  s26) fun s27 => F_MH_expand_2_L2 i21 i22 (F_MH_expand_2_L1 pb n i21 kk n22) 1000000 0 s27
noncomputable def E_MH_expand_2_L1 (pb : Nat) (n : Nat) (i21 : Nat) (ke : Nat → Sto → Prop) : Nat → Nat → Sto → Prop
  | 0, i22, s22 => bnd ((s22.1 225 25).toNatClampNeg) fun z23 => ke (i21 + 1) s22
  | n22 + 1, i22, s22 => bnd ((s22.1 225 25).toNatClampNeg) fun z24 => bnd (F_MS_begin 168 (nI 31) s22) fun s23 => bnd (F_MS_puts pb n 0 32 s23) fun s24 => bnd (F_MS_put (nI i22) s24) fun s25 => bnd (F_MS_put (nI i21) s25) fun s26 => bnd (F_MS_end  s26) fun s27 => E_MH_expand_2_L2 i21 i22 (E_MH_expand_2_L1 pb n i21 ke n22) 1000000 0 s27
noncomputable def F_MH_expand_2_L0 (pb : Nat) (n : Nat) : Nat → Nat → Sto → Sto
  | 0, i21, s21 => bnd ((s21.1 225 24).toNatClampNeg) fun z21 => s21
  | n21 + 1, i21, s21 => bnd ((s21.1 225 24).toNatClampNeg) fun z22 => F_MH_expand_2_L1 pb n i21 (F_MH_expand_2_L0 pb n n21) 7 0 s21
noncomputable def E_MH_expand_2_L0 (pb : Nat) (n : Nat) : Nat → Nat → Sto → Prop
  | 0, i21, s21 => bnd ((s21.1 225 24).toNatClampNeg) fun z21 => True
  | n21 + 1, i21, s21 => bnd ((s21.1 225 24).toNatClampNeg) fun z22 => E_MH_expand_2_L1 pb n i21 (E_MH_expand_2_L0 pb n n21) 7 0 s21
noncomputable def F_MH_expand_2 (pb : Nat) (n : Nat) (s : Sto) : Sto := F_MH_expand_2_L0 pb n 8 0 s
noncomputable def E_MH_expand_2 (pb : Nat) (n : Nat) (s : Sto) : Prop := E_MH_expand_2_L0 pb n 8 0 s
set_option maxHeartbeats 8000000 in
set_option maxRecDepth 100000 in
theorem N_MH_expand_2 (l : Launch) (g : Gd) (sz : Nat) (T : TyN) (s : Sto) (pl : va_W) (hO : okn g T s pl) (hU : inj T) (h0 b : Nat) (pb : Nat) (n : Nat) (k_h0 : T h0 = some 225) (k_b : T b = some pb) (n_b : nsp pb = (1, n, [])) (e_c0 : s.1 225 23 = nI 2) (e_c1 : s.1 225 24 = nI 8) (e_c2 : s.1 225 25 = nI 7) (e_c3 : s.1 225 26 = nI 2) (e_c4 : s.1 225 27 = nI 524288) (e_c5 : s.1 225 28 = nI 261888) (e_c6 : s.1 225 29 = nI 120) (e_c7 : s.1 225 30 = nI 64) (h1 : 32 ≤ n) (h2 : n < 65536) (hE : E_MH_expand_2 pb n s)  : Met l y_MH_expand w_MH_expand ({ frames := 4, cells := 0, slots := 0, locals := 90 } : Room) (va_Pc [.ref h0, .ref b] (pr (en g) g.1 vcl sz ([] ++ pl))) (va_Qv (fun (u : (Sto) × va_W) => (u.1 = F_MH_expand_2 pb n s ∧ frm (M_MH_expand_2) s u.1 ∧ True) ∧ okn g T u.1 u.2) (po g.1 vcl (va_A ([] ++ pl) sz) (fun (u : (Sto) × va_W) => [] ++ u.2)) (va_A ([] ++ pl) sz)) 0 0 (va_A ([] ++ pl) sz) := by
  refine mc_entry (cc := c_MH_expand) (maxL := 6) (ret := none) (by decide) rfl (Nat.le_of_ble_eq_true rfl) ?_
  intro p e s0 m args below meth c ls F hr hlk hnm hsz hP hD hEn hA hl
  obtain ⟨hx, hb, hml, hown, hts⟩ := id F
  have hK := hEn.1
  generalize va_A ([] ++ pl) sz = A at hD hEn hA ⊢
  have hS : va_S A s0.heap s0.heap [] := va_S.rf
  have hl : lv_has ls 6 [(0, .ref h0), (1, .ref b)] := hl
  have hR : F_MH_expand_2 pb n s = F_MH_expand_2 pb n s := rfl
  have hF : frm (M_MH_expand_2) s s := frm_rf
  have ne_172_pb : 172 ≠ pb := nsp_ne (p := 172) rfl n_b (show (5 : Nat) ≠ 1 by decide)
  have ne_225_pb : 225 ≠ pb := nsp_ne (p := 225) rfl n_b (show (5 : Nat) ≠ 1 by decide)
  refine lv_iconst (v := nI 0) hx hb dMH_expand_0 (by decide) ?_
  refine lv_istore_n (lv' := [(2, .int (nI 0)), (0, .ref h0), (1, .ref b)]) hx hb dMH_expand_1 rfl hl (by decide) rfl (fun ls hl => ?_)
  have lp21 : ∀ (n21 : Nat) (i21 : Nat) (s21 : Sto) (pl : va_W) (ls : Array Slot) (H : Heap) (locs : List Loc), n21 + i21 = 8 → frm (M_MH_expand_2) s s21 → s21.1 225 23 = nI 2 → s21.1 225 24 = nI 8 → s21.1 225 25 = nI 7 → s21.1 225 26 = nI 2 → s21.1 225 27 = nI 524288 → s21.1 225 28 = nI 261888 → s21.1 225 29 = nI 120 → s21.1 225 30 = nI 64 → E_MH_expand_2_L0 pb n n21 i21 s21 → F_MH_expand_2 pb n s = F_MH_expand_2_L0 pb n n21 i21 s21 → lv_has ls 6 [(2, .int (nI i21)), (0, .ref h0), (1, .ref b)] → okn g T s21 pl → va_P g.1 vcl ([] ++ pl) H → va_D A ([] ++ pl) → va_S A s0.heap H locs → W p l e ({ frames := 4, cells := 0, slots := 0, locals := 90 } : Room) s0 m args below meth c H locs 0 0 (MQ below (va_Qv (fun (u : (Sto) × va_W) => (u.1 = F_MH_expand_2 pb n s ∧ frm (M_MH_expand_2) s u.1 ∧ True) ∧ okn g T u.1 u.2) (po g.1 vcl A (fun (u : (Sto) × va_W) => [] ++ u.2)) A) args s0 0 0 A) (F0 m 2 ls []) := by
    intro n21
    induction n21 with
    | zero =>
      intro i21 s21 pl ls H locs hm21 hF hf21 hf22 hf23 hf24 hf25 hf26 hf27 hf28 hE hR hl hO hP hD hS
      refine lv_iload_n hx hb dMH_expand_2 rfl (lv_at hl 0 rfl) ?_
      refine lv_aload_n hx hb dMH_expand_3 rfl (lv_at hl 1 rfl) ?_
      refine nw_get (C := "LatticeKeysModel$Hands") (TT := T_MH) (N := 31) hx hb hts (wg_ft i_MH) hown hK hO k_h0 (kn := 225) (ci := 12) (fl := [(3, 172), (3, 181), (3, 226), (3, 291), (3, 299), (3, 308), (3, 317), (3, 326), (3, 334), (3, 342), (3, 350), (3, 359), (3, 368), (3, 369), (3, 370), (3, 371), (3, 372), (3, 373), (3, 374), (3, 375), (3, 376), (3, 377), (3, 378), (0, 0), (0, 0), (0, 0), (0, 0), (0, 0), (0, 0), (0, 0), (0, 0)]) rfl hP rfl 24 (by decide) (hts _ (wg_t kw_1456)) (fun _ h9 => h9) (cd := (0, 0)) rfl dMH_expand_4 (fun v21 hv21 => ?_)
      obtain rfl := (show v21 = .int (s21.1 225 24) from hv21)
      obtain ⟨z21, ez21, hz21, hz22⟩ := cl_of (b := 2147483648) hf22 (by omega) (by decide)
      replace hR := bnd_step hR ez21
      replace hE := bndP_step hE ez21
      refine mi_as hz21 ?_
      subst hz22
      refine mi_ge (tgt := 163) hx hb dMH_expand_7 (by decide) (by omega) (by omega) (fun h21 => ?_) (fun h21 => absurd h21 (by omega))
      exact mp_vret hx hb hr hlk hP hD hS (s21, pl) ⟨⟨hR.symm, hF, trivial⟩, hO⟩ [] rfl rfl rfl (by omega) (by omega) dMH_expand_163
    | succ n21 ih21 =>
      intro i21 s21 pl ls H locs hm21 hF hf29 hf30 hf31 hf32 hf33 hf34 hf35 hf36 hE hR hl hO hP hD hS
      refine lv_iload_n hx hb dMH_expand_2 rfl (lv_at hl 0 rfl) ?_
      refine lv_aload_n hx hb dMH_expand_3 rfl (lv_at hl 1 rfl) ?_
      refine nw_get (C := "LatticeKeysModel$Hands") (TT := T_MH) (N := 31) hx hb hts (wg_ft i_MH) hown hK hO k_h0 (kn := 225) (ci := 12) (fl := [(3, 172), (3, 181), (3, 226), (3, 291), (3, 299), (3, 308), (3, 317), (3, 326), (3, 334), (3, 342), (3, 350), (3, 359), (3, 368), (3, 369), (3, 370), (3, 371), (3, 372), (3, 373), (3, 374), (3, 375), (3, 376), (3, 377), (3, 378), (0, 0), (0, 0), (0, 0), (0, 0), (0, 0), (0, 0), (0, 0), (0, 0)]) rfl hP rfl 24 (by decide) (hts _ (wg_t kw_1456)) (fun _ h9 => h9) (cd := (0, 0)) rfl dMH_expand_4 (fun v22 hv22 => ?_)
      obtain rfl := (show v22 = .int (s21.1 225 24) from hv22)
      obtain ⟨z22, ez22, hz23, hz24⟩ := cl_of (b := 2147483648) hf30 (by omega) (by decide)
      replace hR := bnd_step hR ez22
      replace hE := bndP_step hE ez22
      refine mi_as hz23 ?_
      subst hz24
      refine mi_ge (tgt := 163) hx hb dMH_expand_7 (by decide) (by omega) (by omega) (fun h22 => absurd h22 (by omega)) (fun h22 => ?_)
      refine lv_iconst (v := nI 0) hx hb dMH_expand_10 (by decide) ?_
      refine lv_istore_n (lv' := [(3, .int (nI 0)), (2, .int (nI i21)), (0, .ref h0), (1, .ref b)]) hx hb dMH_expand_11 rfl hl (by decide) rfl (fun ls hl => ?_)
      have lp22 : ∀ (n22 : Nat) (i22 : Nat) (s22 : Sto) (pl : va_W) (ls : Array Slot) (H : Heap) (locs : List Loc), n22 + i22 = 7 → frm (M_MH_expand_2) s s22 → s22.1 225 23 = nI 2 → s22.1 225 24 = nI 8 → s22.1 225 25 = nI 7 → s22.1 225 26 = nI 2 → s22.1 225 27 = nI 524288 → s22.1 225 28 = nI 261888 → s22.1 225 29 = nI 120 → s22.1 225 30 = nI 64 → E_MH_expand_2_L1 pb n i21 (E_MH_expand_2_L0 pb n n21) n22 i22 s22 → F_MH_expand_2 pb n s = F_MH_expand_2_L1 pb n i21 (F_MH_expand_2_L0 pb n n21) n22 i22 s22 → lv_has ls 6 [(3, .int (nI i22)), (2, .int (nI i21)), (0, .ref h0), (1, .ref b)] → okn g T s22 pl → va_P g.1 vcl ([] ++ pl) H → va_D A ([] ++ pl) → va_S A s0.heap H locs → W p l e ({ frames := 4, cells := 0, slots := 0, locals := 90 } : Room) s0 m args below meth c H locs 0 0 (MQ below (va_Qv (fun (u : (Sto) × va_W) => (u.1 = F_MH_expand_2 pb n s ∧ frm (M_MH_expand_2) s u.1 ∧ True) ∧ okn g T u.1 u.2) (po g.1 vcl A (fun (u : (Sto) × va_W) => [] ++ u.2)) A) args s0 0 0 A) (F0 m 12 ls []) := by
        intro n22
        induction n22 with
        | zero =>
          intro i22 s22 pl ls H locs hm22 hF hf37 hf38 hf39 hf40 hf41 hf42 hf43 hf44 hE hR hl hO hP hD hS
          refine lv_iload_n hx hb dMH_expand_12 rfl (lv_at hl 0 rfl) ?_
          refine lv_aload_n hx hb dMH_expand_13 rfl (lv_at hl 2 rfl) ?_
          refine nw_get (C := "LatticeKeysModel$Hands") (TT := T_MH) (N := 31) hx hb hts (wg_ft i_MH) hown hK hO k_h0 (kn := 225) (ci := 12) (fl := [(3, 172), (3, 181), (3, 226), (3, 291), (3, 299), (3, 308), (3, 317), (3, 326), (3, 334), (3, 342), (3, 350), (3, 359), (3, 368), (3, 369), (3, 370), (3, 371), (3, 372), (3, 373), (3, 374), (3, 375), (3, 376), (3, 377), (3, 378), (0, 0), (0, 0), (0, 0), (0, 0), (0, 0), (0, 0), (0, 0), (0, 0)]) rfl hP rfl 25 (by decide) (hts _ (wg_t kw_1457)) (fun _ h9 => h9) (cd := (0, 0)) rfl dMH_expand_14 (fun v23 hv23 => ?_)
          obtain rfl := (show v23 = .int (s22.1 225 25) from hv23)
          obtain ⟨z23, ez23, hz25, hz26⟩ := cl_of (b := 2147483648) hf39 (by omega) (by decide)
          replace hR := bnd_step hR ez23
          replace hE := bndP_step hE ez23
          refine mi_as hz25 ?_
          subst hz26
          refine mi_ge (tgt := 157) hx hb dMH_expand_17 (by decide) (by omega) (by omega) (fun h23 => ?_) (fun h23 => absurd h23 (by omega))
          refine mi_iinc (k := 1) (x := i21) (d := 1) (y := i21 + 1) (lv' := [(2, .int (nI (i21 + 1))), (3, .int (nI i22)), (0, .ref h0), (1, .ref b)]) hx hb dMH_expand_157 hl rfl (by decide) rfl (by decide) rfl (fun ls hl => ?_)
          refine lv_goto (tgt := 2) hx hb dMH_expand_160 (by decide) ?_
          exact ih21 (i21 + 1) s22 pl ls H locs (by omega) hF hf37 hf38 hf39 hf40 hf41 hf42 hf43 hf44 hE hR (lv_sub hl [0, 2, 3] rfl) hO hP hD hS
        | succ n22 ih22 =>
          intro i22 s22 pl ls H locs hm22 hF hf45 hf46 hf47 hf48 hf49 hf50 hf51 hf52 hE hR hl hO hP hD hS
          refine lv_iload_n hx hb dMH_expand_12 rfl (lv_at hl 0 rfl) ?_
          refine lv_aload_n hx hb dMH_expand_13 rfl (lv_at hl 2 rfl) ?_
          refine nw_get (C := "LatticeKeysModel$Hands") (TT := T_MH) (N := 31) hx hb hts (wg_ft i_MH) hown hK hO k_h0 (kn := 225) (ci := 12) (fl := [(3, 172), (3, 181), (3, 226), (3, 291), (3, 299), (3, 308), (3, 317), (3, 326), (3, 334), (3, 342), (3, 350), (3, 359), (3, 368), (3, 369), (3, 370), (3, 371), (3, 372), (3, 373), (3, 374), (3, 375), (3, 376), (3, 377), (3, 378), (0, 0), (0, 0), (0, 0), (0, 0), (0, 0), (0, 0), (0, 0), (0, 0)]) rfl hP rfl 25 (by decide) (hts _ (wg_t kw_1457)) (fun _ h9 => h9) (cd := (0, 0)) rfl dMH_expand_14 (fun v24 hv24 => ?_)
          obtain rfl := (show v24 = .int (s22.1 225 25) from hv24)
          obtain ⟨z24, ez24, hz27, hz28⟩ := cl_of (b := 2147483648) hf47 (by omega) (by decide)
          replace hR := bnd_step hR ez24
          replace hE := bndP_step hE ez24
          refine mi_as hz27 ?_
          subst hz28
          refine mi_ge (tgt := 157) hx hb dMH_expand_17 (by decide) (by omega) (by omega) (fun h24 => absurd h24 (by omega)) (fun h24 => ?_)
          refine lv_aload_n hx hb dMH_expand_20 rfl (lv_at hl 2 rfl) ?_
          refine nw_get (C := "LatticeKeysModel$Hands") (TT := T_MH) (N := 31) hx hb hts (wg_ft i_MH) hown hK hO k_h0 (kn := 225) (ci := 12) (fl := [(3, 172), (3, 181), (3, 226), (3, 291), (3, 299), (3, 308), (3, 317), (3, 326), (3, 334), (3, 342), (3, 350), (3, 359), (3, 368), (3, 369), (3, 370), (3, 371), (3, 372), (3, 373), (3, 374), (3, 375), (3, 376), (3, 377), (3, 378), (0, 0), (0, 0), (0, 0), (0, 0), (0, 0), (0, 0), (0, 0), (0, 0)]) rfl hP rfl 0 (by decide) (hts _ (wg_t kw_1432)) (fun _ h9 => h9) (cd := (3, 172)) rfl dMH_expand_21 (fun v25 hv25 => ?_)
          obtain ⟨r21, rfl, kr21⟩ := (show ∃ r : Nat, v25 = .ref r ∧ T r = some 172 from hv25)
          refine lv_sipush (v := nI 168) hx hb dMH_expand_24 (by decide) ?_
          refine lv_bipush (v := nI 31) hx hb dMH_expand_27 (by decide) ?_
          refine mp_v (cx := []) (wr := []) hP hD hS hA [] [] rfl rfl rfl (by decide) (va_runV (As := [.int (nI 168), .int (nI 31)]) (rest := []) F (N_MS_begin l g _ T s22 pl hO hU r21 168 (nI 31) kr21 (by omega)) (cwV 2 hts (wg_app (wg_c kw_1723 (wg_c kw_1604 (wg_c kw_1605 (wg_c kw_10 wg_n)))) kw_1606) rfl rfl rfl (by decide +kernel) ⟨by decide, by decide⟩) (pn_V (en_ok g) (ci := 9) (kn := 172) (fl := [(3, 173), (3, 174), (3, 175), (3, 176), (3, 177), (0, 0), (0, 0), (0, 0)]) hK hO kr21 rfl hP hD hS hA hEn [] rfl rfl rfl) rfl rfl hl.1 rfl (lv_room (Nat.le_of_ble_eq_true rfl)) dMH_expand_29 ⟨by omega, by omega⟩) (fun  u21 H locs hu21 hP hD hS => ?_)
          obtain ⟨s23, pl⟩ := u21
          obtain ⟨⟨eq21, hFc21, ⟨x21, hx_21, hb_21⟩, ⟨x22, hx_22, hb_22⟩, -⟩, hO⟩ := hu21
          have hO : okn g T s23 pl := hO
          have hP : va_P g.1 vcl ([] ++ pl) _ := hP
          have hD : va_D _ ([] ++ pl) := hD
          have hFc21 : frm (M_MS_begin) s22 s23 := hFc21
          have hb_21 : x21 = 0 := hb_21
          have hb_22 : x22 = 168 := hb_22
          replace hR := bnd_step hR eq21
          replace hE := bndP_step hE eq21
          have hF := frm_tr hF hFc21 (fun k hk => by unfold M_MS_begin at hk; unfold M_MH_expand_2; omega)
          have hf53 : s23.1 225 23 = nI 2 := fc_F hf45 hFc21 (by unfold M_MS_begin; omega)
          have hf54 : s23.1 225 24 = nI 8 := fc_F hf46 hFc21 (by unfold M_MS_begin; omega)
          have hf55 : s23.1 225 25 = nI 7 := fc_F hf47 hFc21 (by unfold M_MS_begin; omega)
          have hf56 : s23.1 225 26 = nI 2 := fc_F hf48 hFc21 (by unfold M_MS_begin; omega)
          have hf57 : s23.1 225 27 = nI 524288 := fc_F hf49 hFc21 (by unfold M_MS_begin; omega)
          have hf58 : s23.1 225 28 = nI 261888 := fc_F hf50 hFc21 (by unfold M_MS_begin; omega)
          have hf59 : s23.1 225 29 = nI 120 := fc_F hf51 hFc21 (by unfold M_MS_begin; omega)
          have hf60 : s23.1 225 30 = nI 64 := fc_F hf52 hFc21 (by unfold M_MS_begin; omega)
          refine W.widen (k := 0) (n := 0) (by omega) (by omega) ?_
          refine lv_aload_n hx hb dMH_expand_32 rfl (lv_at hl 2 rfl) ?_
          refine nw_get (C := "LatticeKeysModel$Hands") (TT := T_MH) (N := 31) hx hb hts (wg_ft i_MH) hown hK hO k_h0 (kn := 225) (ci := 12) (fl := [(3, 172), (3, 181), (3, 226), (3, 291), (3, 299), (3, 308), (3, 317), (3, 326), (3, 334), (3, 342), (3, 350), (3, 359), (3, 368), (3, 369), (3, 370), (3, 371), (3, 372), (3, 373), (3, 374), (3, 375), (3, 376), (3, 377), (3, 378), (0, 0), (0, 0), (0, 0), (0, 0), (0, 0), (0, 0), (0, 0), (0, 0)]) rfl hP rfl 0 (by decide) (hts _ (wg_t kw_1432)) (fun _ h9 => h9) (cd := (3, 172)) rfl dMH_expand_33 (fun v26 hv26 => ?_)
          obtain ⟨r22, rfl, kr22⟩ := (show ∃ r : Nat, v26 = .ref r ∧ T r = some 172 from hv26)
          refine lv_aload_n hx hb dMH_expand_36 rfl (lv_at hl 3 rfl) ?_
          refine lv_iconst (v := nI 0) hx hb dMH_expand_37 (by decide) ?_
          refine lv_bipush (v := nI 32) hx hb dMH_expand_38 (by decide) ?_
          refine mp_v (cx := []) (wr := []) hP hD hS hA [] [] rfl rfl rfl (by decide) (va_runV (As := [.ref b, .int (nI 0), .int (nI 32)]) (rest := []) F (N_MS_puts l g _ T s23 pl hO hU r22 b pb n 0 32 x21 x22 kr22 k_b n_b hx_21 hx_22 (by omega) (by omega) (by omega) (by omega)) (cwV 3 hts (wg_app (wg_c kw_1715 (wg_c kw_1608 (wg_c kw_1609 (wg_c kw_10 wg_n)))) kw_1610) rfl rfl rfl (by decide +kernel) ⟨by decide, by decide⟩) (pn_V (en_ok g) (ci := 9) (kn := 172) (fl := [(3, 173), (3, 174), (3, 175), (3, 176), (3, 177), (0, 0), (0, 0), (0, 0)]) hK hO kr22 rfl hP hD hS hA hEn [] rfl rfl rfl) rfl rfl hl.1 rfl (lv_room (Nat.le_of_ble_eq_true rfl)) dMH_expand_40 ⟨by omega, by omega⟩) (fun  u22 H locs hu22 hP hD hS => ?_)
          obtain ⟨s24, pl⟩ := u22
          obtain ⟨⟨eq22, hFc22, ⟨x24, hx_24, hb_24⟩, ⟨x25, hx_25, hb_25⟩, -⟩, hO⟩ := hu22
          have hO : okn g T s24 pl := hO
          have hP : va_P g.1 vcl ([] ++ pl) _ := hP
          have hD : va_D _ ([] ++ pl) := hD
          have hFc22 : frm (M_MS_puts) s23 s24 := hFc22
          have hb_24 : x24 < x22 := hb_24
          have hb_25 : x25 = x22 := hb_25
          replace hR := bnd_step hR eq22
          replace hE := bndP_step hE eq22
          have hF := frm_tr hF hFc22 (fun k hk => by unfold M_MS_puts at hk; unfold M_MH_expand_2; omega)
          have hf61 : s24.1 225 23 = nI 2 := fc_F hf53 hFc22 (by unfold M_MS_puts; omega)
          have hf62 : s24.1 225 24 = nI 8 := fc_F hf54 hFc22 (by unfold M_MS_puts; omega)
          have hf63 : s24.1 225 25 = nI 7 := fc_F hf55 hFc22 (by unfold M_MS_puts; omega)
          have hf64 : s24.1 225 26 = nI 2 := fc_F hf56 hFc22 (by unfold M_MS_puts; omega)
          have hf65 : s24.1 225 27 = nI 524288 := fc_F hf57 hFc22 (by unfold M_MS_puts; omega)
          have hf66 : s24.1 225 28 = nI 261888 := fc_F hf58 hFc22 (by unfold M_MS_puts; omega)
          have hf67 : s24.1 225 29 = nI 120 := fc_F hf59 hFc22 (by unfold M_MS_puts; omega)
          have hf68 : s24.1 225 30 = nI 64 := fc_F hf60 hFc22 (by unfold M_MS_puts; omega)
          refine W.widen (k := 0) (n := 0) (by omega) (by omega) ?_
          refine lv_aload_n hx hb dMH_expand_43 rfl (lv_at hl 2 rfl) ?_
          refine nw_get (C := "LatticeKeysModel$Hands") (TT := T_MH) (N := 31) hx hb hts (wg_ft i_MH) hown hK hO k_h0 (kn := 225) (ci := 12) (fl := [(3, 172), (3, 181), (3, 226), (3, 291), (3, 299), (3, 308), (3, 317), (3, 326), (3, 334), (3, 342), (3, 350), (3, 359), (3, 368), (3, 369), (3, 370), (3, 371), (3, 372), (3, 373), (3, 374), (3, 375), (3, 376), (3, 377), (3, 378), (0, 0), (0, 0), (0, 0), (0, 0), (0, 0), (0, 0), (0, 0), (0, 0)]) rfl hP rfl 0 (by decide) (hts _ (wg_t kw_1432)) (fun _ h9 => h9) (cd := (3, 172)) rfl dMH_expand_44 (fun v27 hv27 => ?_)
          obtain ⟨r23, rfl, kr23⟩ := (show ∃ r : Nat, v27 = .ref r ∧ T r = some 172 from hv27)
          refine lv_iload_n hx hb dMH_expand_47 rfl (lv_at hl 0 rfl) ?_
          refine mp_v (cx := []) (wr := []) hP hD hS hA [] [] rfl rfl rfl (by decide) (va_runV (As := [.int (nI i22)]) (rest := []) F (N_MS_put l g _ T s24 pl hO hU r23 (nI i22) x24 x25 kr23 hx_24 hx_25 (by omega) (by omega)) (cwV 1 hts (wg_app (wg_c kw_1716 (wg_c kw_1612 (wg_c kw_1613 (wg_c kw_10 wg_n)))) kw_1614) rfl rfl rfl (by decide +kernel) ⟨by decide, by decide⟩) (pn_V (en_ok g) (ci := 9) (kn := 172) (fl := [(3, 173), (3, 174), (3, 175), (3, 176), (3, 177), (0, 0), (0, 0), (0, 0)]) hK hO kr23 rfl hP hD hS hA hEn [] rfl rfl rfl) rfl rfl hl.1 rfl (lv_room (Nat.le_of_ble_eq_true rfl)) dMH_expand_48 ⟨by omega, by omega⟩) (fun  u23 H locs hu23 hP hD hS => ?_)
          obtain ⟨s25, pl⟩ := u23
          obtain ⟨⟨eq23, hFc23, ⟨x27, hx_27, hb_27⟩, ⟨x28, hx_28, hb_28⟩, -⟩, hO⟩ := hu23
          have hO : okn g T s25 pl := hO
          have hP : va_P g.1 vcl ([] ++ pl) _ := hP
          have hD : va_D _ ([] ++ pl) := hD
          have hFc23 : frm (M_MS_put) s24 s25 := hFc23
          have hb_27 : x27 < x25 := hb_27
          have hb_28 : x28 = x25 := hb_28
          replace hR := bnd_step hR eq23
          replace hE := bndP_step hE eq23
          have hF := frm_tr hF hFc23 (fun k hk => by unfold M_MS_put at hk; unfold M_MH_expand_2; omega)
          have hf69 : s25.1 225 23 = nI 2 := fc_F hf61 hFc23 (by unfold M_MS_put; omega)
          have hf70 : s25.1 225 24 = nI 8 := fc_F hf62 hFc23 (by unfold M_MS_put; omega)
          have hf71 : s25.1 225 25 = nI 7 := fc_F hf63 hFc23 (by unfold M_MS_put; omega)
          have hf72 : s25.1 225 26 = nI 2 := fc_F hf64 hFc23 (by unfold M_MS_put; omega)
          have hf73 : s25.1 225 27 = nI 524288 := fc_F hf65 hFc23 (by unfold M_MS_put; omega)
          have hf74 : s25.1 225 28 = nI 261888 := fc_F hf66 hFc23 (by unfold M_MS_put; omega)
          have hf75 : s25.1 225 29 = nI 120 := fc_F hf67 hFc23 (by unfold M_MS_put; omega)
          have hf76 : s25.1 225 30 = nI 64 := fc_F hf68 hFc23 (by unfold M_MS_put; omega)
          refine W.widen (k := 0) (n := 0) (by omega) (by omega) ?_
          refine lv_aload_n hx hb dMH_expand_51 rfl (lv_at hl 2 rfl) ?_
          refine nw_get (C := "LatticeKeysModel$Hands") (TT := T_MH) (N := 31) hx hb hts (wg_ft i_MH) hown hK hO k_h0 (kn := 225) (ci := 12) (fl := [(3, 172), (3, 181), (3, 226), (3, 291), (3, 299), (3, 308), (3, 317), (3, 326), (3, 334), (3, 342), (3, 350), (3, 359), (3, 368), (3, 369), (3, 370), (3, 371), (3, 372), (3, 373), (3, 374), (3, 375), (3, 376), (3, 377), (3, 378), (0, 0), (0, 0), (0, 0), (0, 0), (0, 0), (0, 0), (0, 0), (0, 0)]) rfl hP rfl 0 (by decide) (hts _ (wg_t kw_1432)) (fun _ h9 => h9) (cd := (3, 172)) rfl dMH_expand_52 (fun v28 hv28 => ?_)
          obtain ⟨r24, rfl, kr24⟩ := (show ∃ r : Nat, v28 = .ref r ∧ T r = some 172 from hv28)
          refine lv_iload_n hx hb dMH_expand_55 rfl (lv_at hl 1 rfl) ?_
          refine mp_v (cx := []) (wr := []) hP hD hS hA [] [] rfl rfl rfl (by decide) (va_runV (As := [.int (nI i21)]) (rest := []) F (N_MS_put l g _ T s25 pl hO hU r24 (nI i21) x27 x28 kr24 hx_27 hx_28 (by omega) (by omega)) (cwV 1 hts (wg_app (wg_c kw_1716 (wg_c kw_1612 (wg_c kw_1613 (wg_c kw_10 wg_n)))) kw_1614) rfl rfl rfl (by decide +kernel) ⟨by decide, by decide⟩) (pn_V (en_ok g) (ci := 9) (kn := 172) (fl := [(3, 173), (3, 174), (3, 175), (3, 176), (3, 177), (0, 0), (0, 0), (0, 0)]) hK hO kr24 rfl hP hD hS hA hEn [] rfl rfl rfl) rfl rfl hl.1 rfl (lv_room (Nat.le_of_ble_eq_true rfl)) dMH_expand_56 ⟨by omega, by omega⟩) (fun  u24 H locs hu24 hP hD hS => ?_)
          obtain ⟨s26, pl⟩ := u24
          obtain ⟨⟨eq24, hFc24, ⟨x30, hx_30, hb_30⟩, ⟨x31, hx_31, hb_31⟩, -⟩, hO⟩ := hu24
          have hO : okn g T s26 pl := hO
          have hP : va_P g.1 vcl ([] ++ pl) _ := hP
          have hD : va_D _ ([] ++ pl) := hD
          have hFc24 : frm (M_MS_put) s25 s26 := hFc24
          have hb_30 : x30 < x28 := hb_30
          have hb_31 : x31 = x28 := hb_31
          replace hR := bnd_step hR eq24
          replace hE := bndP_step hE eq24
          have hF := frm_tr hF hFc24 (fun k hk => by unfold M_MS_put at hk; unfold M_MH_expand_2; omega)
          have hf77 : s26.1 225 23 = nI 2 := fc_F hf69 hFc24 (by unfold M_MS_put; omega)
          have hf78 : s26.1 225 24 = nI 8 := fc_F hf70 hFc24 (by unfold M_MS_put; omega)
          have hf79 : s26.1 225 25 = nI 7 := fc_F hf71 hFc24 (by unfold M_MS_put; omega)
          have hf80 : s26.1 225 26 = nI 2 := fc_F hf72 hFc24 (by unfold M_MS_put; omega)
          have hf81 : s26.1 225 27 = nI 524288 := fc_F hf73 hFc24 (by unfold M_MS_put; omega)
          have hf82 : s26.1 225 28 = nI 261888 := fc_F hf74 hFc24 (by unfold M_MS_put; omega)
          have hf83 : s26.1 225 29 = nI 120 := fc_F hf75 hFc24 (by unfold M_MS_put; omega)
          have hf84 : s26.1 225 30 = nI 64 := fc_F hf76 hFc24 (by unfold M_MS_put; omega)
          refine W.widen (k := 0) (n := 0) (by omega) (by omega) ?_
          refine lv_aload_n hx hb dMH_expand_59 rfl (lv_at hl 2 rfl) ?_
          refine nw_get (C := "LatticeKeysModel$Hands") (TT := T_MH) (N := 31) hx hb hts (wg_ft i_MH) hown hK hO k_h0 (kn := 225) (ci := 12) (fl := [(3, 172), (3, 181), (3, 226), (3, 291), (3, 299), (3, 308), (3, 317), (3, 326), (3, 334), (3, 342), (3, 350), (3, 359), (3, 368), (3, 369), (3, 370), (3, 371), (3, 372), (3, 373), (3, 374), (3, 375), (3, 376), (3, 377), (3, 378), (0, 0), (0, 0), (0, 0), (0, 0), (0, 0), (0, 0), (0, 0), (0, 0)]) rfl hP rfl 0 (by decide) (hts _ (wg_t kw_1432)) (fun _ h9 => h9) (cd := (3, 172)) rfl dMH_expand_60 (fun v29 hv29 => ?_)
          obtain ⟨r25, rfl, kr25⟩ := (show ∃ r : Nat, v29 = .ref r ∧ T r = some 172 from hv29)
          refine mp_v (cx := []) (wr := []) hP hD hS hA [] [] rfl rfl rfl (by decide) (va_runV (As := []) (rest := []) F (N_MS_end l g _ T s26 pl hO hU r25 x30 x31 kr25 hx_30 hx_31 (by omega) (by omega)) (cwV 0 hts (wg_app (wg_c kw_1717 (wg_c kw_1630 (wg_c kw_1631 (wg_c kw_10 wg_n)))) kw_1632) rfl rfl rfl (by decide +kernel) ⟨by decide, by decide⟩) (pn_V (en_ok g) (ci := 9) (kn := 172) (fl := [(3, 173), (3, 174), (3, 175), (3, 176), (3, 177), (0, 0), (0, 0), (0, 0)]) hK hO kr25 rfl hP hD hS hA hEn [] rfl rfl rfl) rfl rfl hl.1 rfl (lv_room (Nat.le_of_ble_eq_true rfl)) dMH_expand_63 ⟨by omega, by omega⟩) (fun  u25 H locs hu25 hP hD hS => ?_)
          obtain ⟨s27, pl⟩ := u25
          obtain ⟨⟨eq25, hFc25, ⟨x33, hx_33, hb_33⟩, ⟨x34, hx_34, hb_34⟩, -⟩, hO⟩ := hu25
          have hO : okn g T s27 pl := hO
          have hP : va_P g.1 vcl ([] ++ pl) _ := hP
          have hD : va_D _ ([] ++ pl) := hD
          have hFc25 : frm (M_MS_end) s26 s27 := hFc25
          have hb_33 : x33 = 0 := hb_33
          have hb_34 : x34 = x31 := hb_34
          replace hR := bnd_step hR eq25
          replace hE := bndP_step hE eq25
          have hF := frm_tr hF hFc25 (fun k hk => by unfold M_MS_end at hk; unfold M_MH_expand_2; omega)
          have hf85 : s27.1 225 23 = nI 2 := fc_F hf77 hFc25 (by unfold M_MS_end; omega)
          have hf86 : s27.1 225 24 = nI 8 := fc_F hf78 hFc25 (by unfold M_MS_end; omega)
          have hf87 : s27.1 225 25 = nI 7 := fc_F hf79 hFc25 (by unfold M_MS_end; omega)
          have hf88 : s27.1 225 26 = nI 2 := fc_F hf80 hFc25 (by unfold M_MS_end; omega)
          have hf89 : s27.1 225 27 = nI 524288 := fc_F hf81 hFc25 (by unfold M_MS_end; omega)
          have hf90 : s27.1 225 28 = nI 261888 := fc_F hf82 hFc25 (by unfold M_MS_end; omega)
          have hf91 : s27.1 225 29 = nI 120 := fc_F hf83 hFc25 (by unfold M_MS_end; omega)
          have hf92 : s27.1 225 30 = nI 64 := fc_F hf84 hFc25 (by unfold M_MS_end; omega)
          refine W.widen (k := 0) (n := 0) (by omega) (by omega) ?_
          refine lv_iconst (v := nI 0) hx hb dMH_expand_66 (by decide) ?_
          refine lv_istore (lv' := [(4, .int (nI 0)), (3, .int (nI i22)), (2, .int (nI i21)), (0, .ref h0), (1, .ref b)]) hx hb dMH_expand_67 hl (by decide) rfl (fun ls hl => ?_)
          have lp23 : ∀ (n23 : Nat) (nn21 : Nat) (s28 : Sto) (ps21 : Nat) (pl : va_W) (ls : Array Slot) (H : Heap) (locs : List Loc), 0 = 0 → (nn21 ≤ 256) → (ps21 ≤ 168) → frm (M_MH_expand_2) s s28 → s28.1 225 23 = nI 2 → s28.1 225 24 = nI 8 → s28.1 225 25 = nI 7 → s28.1 225 26 = nI 2 → s28.1 225 27 = nI 524288 → s28.1 225 28 = nI 261888 → s28.1 225 29 = nI 120 → s28.1 225 30 = nI 64 → s28.1 172 6 = nI ps21 → s28.1 172 5 = nI x34 → E_MH_expand_2_L2 i21 i22 (E_MH_expand_2_L1 pb n i21 (E_MH_expand_2_L0 pb n n21) n22) n23 nn21 s28 → F_MH_expand_2 pb n s = F_MH_expand_2_L2 i21 i22 (F_MH_expand_2_L1 pb n i21 (F_MH_expand_2_L0 pb n n21) n22) n23 nn21 s28 → lv_has ls 6 [(4, .int (nI nn21)), (3, .int (nI i22)), (2, .int (nI i21)), (0, .ref h0), (1, .ref b)] → okn g T s28 pl → va_P g.1 vcl ([] ++ pl) H → va_D A ([] ++ pl) → va_S A s0.heap H locs → W p l e ({ frames := 4, cells := 0, slots := 0, locals := 90 } : Room) s0 m args below meth c H locs 0 0 (MQ below (va_Qv (fun (u : (Sto) × va_W) => (u.1 = F_MH_expand_2 pb n s ∧ frm (M_MH_expand_2) s u.1 ∧ True) ∧ okn g T u.1 u.2) (po g.1 vcl A (fun (u : (Sto) × va_W) => [] ++ u.2)) A) args s0 0 0 A) (F0 m 69 ls []) := by
            intro n23
            induction n23 with
            | zero =>
              intro nn21 s28 ps21 pl ls H locs hm23 hi21 hi22 hF hf93 hf94 hf95 hf96 hf97 hf98 hf99 hf100 hf101 hf102 hE hR hl hO hP hD hS
              refine lv_iload hx hb dMH_expand_69 (lv_at hl 0 rfl) ?_
              refine lv_sipush (v := nI 256) hx hb dMH_expand_71 (by decide) ?_
              refine mi_ge (tgt := 151) hx hb dMH_expand_74 (by decide) (by omega) (by omega) (fun h25 => ?_) (fun h25 => absurd h25 (by have h9 : 256 ≤ nn21 := hE.1; omega))
              replace hE := hE.2
              refine mi_iinc (k := 1) (x := i22) (d := 1) (y := i22 + 1) (lv' := [(3, .int (nI (i22 + 1))), (4, .int (nI nn21)), (2, .int (nI i21)), (0, .ref h0), (1, .ref b)]) hx hb dMH_expand_151 hl rfl (by decide) rfl (by decide) rfl (fun ls hl => ?_)
              refine lv_goto (tgt := 12) hx hb dMH_expand_154 (by decide) ?_
              exact ih22 (i22 + 1) s28 pl ls H locs (by omega) hF hf93 hf94 hf95 hf96 hf97 hf98 hf99 hf100 hE hR (lv_sub hl [0, 2, 3, 4] rfl) hO hP hD hS
            | succ n23 ih23 =>
              intro nn21 s28 ps21 pl ls H locs hm23 hi21 hi22 hF hf103 hf104 hf105 hf106 hf107 hf108 hf109 hf110 hf111 hf112 hE hR hl hO hP hD hS
              refine lv_iload hx hb dMH_expand_69 (lv_at hl 0 rfl) ?_
              refine lv_sipush (v := nI 256) hx hb dMH_expand_71 (by decide) ?_
              refine mi_ge (tgt := 151) hx hb dMH_expand_74 (by decide) (by omega) (by omega) (fun h26 => ?_) (fun h26 => ?_)
              · replace hR := hR.trans (if_pos h26)
                replace hE := iteP_pos h26 hE
                refine mi_iinc (k := 1) (x := i22) (d := 1) (y := i22 + 1) (lv' := [(3, .int (nI (i22 + 1))), (4, .int (nI nn21)), (2, .int (nI i21)), (0, .ref h0), (1, .ref b)]) hx hb dMH_expand_151 hl rfl (by decide) rfl (by decide) rfl (fun ls hl => ?_)
                refine lv_goto (tgt := 12) hx hb dMH_expand_154 (by decide) ?_
                exact ih22 (i22 + 1) s28 pl ls H locs (by omega) hF hf103 hf104 hf105 hf106 hf107 hf108 hf109 hf110 hE hR (lv_sub hl [0, 2, 3, 4] rfl) hO hP hD hS
              · replace hR := hR.trans (if_neg (Nat.not_le.mpr h26))
                replace hE := iteP_neg (Nat.not_le.mpr h26) hE
                refine lv_aload_n hx hb dMH_expand_77 rfl (lv_at hl 3 rfl) ?_
                refine nw_get (C := "LatticeKeysModel$Hands") (TT := T_MH) (N := 31) hx hb hts (wg_ft i_MH) hown hK hO k_h0 (kn := 225) (ci := 12) (fl := [(3, 172), (3, 181), (3, 226), (3, 291), (3, 299), (3, 308), (3, 317), (3, 326), (3, 334), (3, 342), (3, 350), (3, 359), (3, 368), (3, 369), (3, 370), (3, 371), (3, 372), (3, 373), (3, 374), (3, 375), (3, 376), (3, 377), (3, 378), (0, 0), (0, 0), (0, 0), (0, 0), (0, 0), (0, 0), (0, 0), (0, 0)]) rfl hP rfl 0 (by decide) (hts _ (wg_t kw_1432)) (fun _ h9 => h9) (cd := (3, 172)) rfl dMH_expand_78 (fun v30 hv30 => ?_)
                obtain ⟨r26, rfl, kr26⟩ := (show ∃ r : Nat, v30 = .ref r ∧ T r = some 172 from hv30)
                refine mp_i (cx := []) (wr := []) hP hD hS hA [] [] rfl rfl rfl (by decide) (va_runV (As := []) (rest := []) F (N_MS_next l g _ T s28 pl hO hU r26 ps21 x34 kr26 hf111 hf112 (by omega) (by omega)) (cwV 0 hts (wg_app (wg_c kw_1724 (wg_c kw_1638 (wg_c kw_1639 (wg_c kw_10 wg_n)))) kw_1640) rfl rfl rfl (by decide +kernel) ⟨by decide, by decide⟩) (pn_V (en_ok g) (ci := 9) (kn := 172) (fl := [(3, 173), (3, 174), (3, 175), (3, 176), (3, 177), (0, 0), (0, 0), (0, 0)]) hK hO kr26 rfl hP hD hS hA hEn [] rfl rfl rfl) rfl rfl hl.1 rfl (lv_room (Nat.le_of_ble_eq_true rfl)) dMH_expand_81 ⟨by omega, by omega⟩) (fun r27 u26 H locs hu26 hP hD hS => ?_)
                obtain ⟨q21, pl⟩ := u26
                obtain ⟨⟨eq26, rfl, hFc26, ⟨x38, hx_38, hb_38⟩, ⟨x36, hx_36, hb_36⟩, ⟨x37, hx_37, hb_37⟩, -⟩, hO⟩ := hu26
                have hO : okn g T q21.2 pl := hO
                have hP : va_P g.1 vcl ([] ++ pl) _ := hP
                have hD : va_D _ ([] ++ pl) := hD
                have hFc26 : frm (M_MS_next) s28 q21.2 := hFc26
                have hb_36 : x36 ≤ x34 := hb_36
                have hb_37 : x37 = x34 := hb_37
                have hb_38 : x38 < 256 := hb_38
                replace hR := bnd_step hR eq26
                replace hE := bndP_step hE eq26
                have hF := frm_tr hF hFc26 (fun k hk => by unfold M_MS_next at hk; unfold M_MH_expand_2; omega)
                have hf113 : q21.2.1 225 23 = nI 2 := fc_F hf103 hFc26 (by unfold M_MS_next; omega)
                have hf114 : q21.2.1 225 24 = nI 8 := fc_F hf104 hFc26 (by unfold M_MS_next; omega)
                have hf115 : q21.2.1 225 25 = nI 7 := fc_F hf105 hFc26 (by unfold M_MS_next; omega)
                have hf116 : q21.2.1 225 26 = nI 2 := fc_F hf106 hFc26 (by unfold M_MS_next; omega)
                have hf117 : q21.2.1 225 27 = nI 524288 := fc_F hf107 hFc26 (by unfold M_MS_next; omega)
                have hf118 : q21.2.1 225 28 = nI 261888 := fc_F hf108 hFc26 (by unfold M_MS_next; omega)
                have hf119 : q21.2.1 225 29 = nI 120 := fc_F hf109 hFc26 (by unfold M_MS_next; omega)
                have hf120 : q21.2.1 225 30 = nI 64 := fc_F hf110 hFc26 (by unfold M_MS_next; omega)
                obtain ⟨z25, ez25, hz29, hz30⟩ := cl_of (b := 2147483648) hx_38 (by omega) (by decide)
                replace hR := bnd_step hR ez25
                replace hE := bndP_step hE ez25
                refine mi_as hz29 ?_
                refine W.widen (k := 0) (n := 0) (by omega) (by omega) ?_
                refine lv_istore (lv' := [(5, .int (nI z25)), (4, .int (nI nn21)), (3, .int (nI i22)), (2, .int (nI i21)), (0, .ref h0), (1, .ref b)]) hx hb dMH_expand_84 hl (by decide) rfl (fun ls hl => ?_)
                refine lv_iload hx hb dMH_expand_86 (lv_at hl 0 rfl) ?_
                refine lv_aload_n hx hb dMH_expand_88 rfl (lv_at hl 4 rfl) ?_
                refine nw_get (C := "LatticeKeysModel$Hands") (TT := T_MH) (N := 31) hx hb hts (wg_ft i_MH) hown hK hO k_h0 (kn := 225) (ci := 12) (fl := [(3, 172), (3, 181), (3, 226), (3, 291), (3, 299), (3, 308), (3, 317), (3, 326), (3, 334), (3, 342), (3, 350), (3, 359), (3, 368), (3, 369), (3, 370), (3, 371), (3, 372), (3, 373), (3, 374), (3, 375), (3, 376), (3, 377), (3, 378), (0, 0), (0, 0), (0, 0), (0, 0), (0, 0), (0, 0), (0, 0), (0, 0)]) rfl hP rfl 0 (by decide) (hts _ (wg_t kw_1432)) (fun _ h9 => h9) (cd := (3, 172)) rfl dMH_expand_89 (fun v31 hv31 => ?_)
                obtain ⟨r28, rfl, kr27⟩ := (show ∃ r : Nat, v31 = .ref r ∧ T r = some 172 from hv31)
                refine mp_i (cx := []) (wr := []) hP hD hS hA [] [] rfl rfl rfl (by decide) (va_runV (As := []) (rest := [.int (nI z25)]) F (N_MS_next l g _ T q21.2 pl hO hU r28 x36 x37 kr27 hx_36 hx_37 (by omega) (by omega)) (cwV 0 hts (wg_app (wg_c kw_1724 (wg_c kw_1638 (wg_c kw_1639 (wg_c kw_10 wg_n)))) kw_1640) rfl rfl rfl (by decide +kernel) ⟨by decide, by decide⟩) (pn_V (en_ok g) (ci := 9) (kn := 172) (fl := [(3, 173), (3, 174), (3, 175), (3, 176), (3, 177), (0, 0), (0, 0), (0, 0)]) hK hO kr27 rfl hP hD hS hA hEn [] rfl rfl rfl) rfl rfl hl.1 rfl (lv_room (Nat.le_of_ble_eq_true rfl)) dMH_expand_92 ⟨by omega, by omega⟩) (fun r29 u27 H locs hu27 hP hD hS => ?_)
                obtain ⟨q22, pl⟩ := u27
                obtain ⟨⟨eq27, rfl, hFc27, ⟨x41, hx_41, hb_41⟩, ⟨x39, hx_39, hb_39⟩, ⟨x40, hx_40, hb_40⟩, -⟩, hO⟩ := hu27
                have hO : okn g T q22.2 pl := hO
                have hP : va_P g.1 vcl ([] ++ pl) _ := hP
                have hD : va_D _ ([] ++ pl) := hD
                have hFc27 : frm (M_MS_next) q21.2 q22.2 := hFc27
                have hb_39 : x39 ≤ x37 := hb_39
                have hb_40 : x40 = x37 := hb_40
                have hb_41 : x41 < 256 := hb_41
                replace hR := bnd_step hR eq27
                replace hE := bndP_step hE eq27
                have hF := frm_tr hF hFc27 (fun k hk => by unfold M_MS_next at hk; unfold M_MH_expand_2; omega)
                have hf121 : q22.2.1 225 23 = nI 2 := fc_F hf113 hFc27 (by unfold M_MS_next; omega)
                have hf122 : q22.2.1 225 24 = nI 8 := fc_F hf114 hFc27 (by unfold M_MS_next; omega)
                have hf123 : q22.2.1 225 25 = nI 7 := fc_F hf115 hFc27 (by unfold M_MS_next; omega)
                have hf124 : q22.2.1 225 26 = nI 2 := fc_F hf116 hFc27 (by unfold M_MS_next; omega)
                have hf125 : q22.2.1 225 27 = nI 524288 := fc_F hf117 hFc27 (by unfold M_MS_next; omega)
                have hf126 : q22.2.1 225 28 = nI 261888 := fc_F hf118 hFc27 (by unfold M_MS_next; omega)
                have hf127 : q22.2.1 225 29 = nI 120 := fc_F hf119 hFc27 (by unfold M_MS_next; omega)
                have hf128 : q22.2.1 225 30 = nI 64 := fc_F hf120 hFc27 (by unfold M_MS_next; omega)
                obtain ⟨z26, ez26, hz31, hz32⟩ := cl_of (b := 2147483648) hx_41 (by omega) (by decide)
                replace hR := bnd_step hR ez26
                replace hE := bndP_step hE ez26
                refine mi_as hz31 ?_
                refine W.widen (k := 0) (n := 0) (by omega) (by omega) ?_
                refine lv_bipush (v := nI 8) hx hb dMH_expand_95 (by decide) ?_
                refine lv_ishl hx hb dMH_expand_97 ?_
                refine lv_iadd hx hb dMH_expand_98 ?_
                refine mi_eqv (fun z27 ez27 => ?_)
                replace hR := bnd_step hR ez27
                replace hE := bndP_step hE ez27
                refine lv_istore (lv' := [(5, .int z27), (4, .int (nI nn21)), (3, .int (nI i22)), (2, .int (nI i21)), (0, .ref h0), (1, .ref b)]) hx hb dMH_expand_99 hl (by decide) rfl (fun ls hl => ?_)
                refine lv_iload hx hb dMH_expand_101 (lv_at hl 0 rfl) ?_
                refine lv_aload_n hx hb dMH_expand_103 rfl (lv_at hl 4 rfl) ?_
                refine nw_get (C := "LatticeKeysModel$Hands") (TT := T_MH) (N := 31) hx hb hts (wg_ft i_MH) hown hK hO k_h0 (kn := 225) (ci := 12) (fl := [(3, 172), (3, 181), (3, 226), (3, 291), (3, 299), (3, 308), (3, 317), (3, 326), (3, 334), (3, 342), (3, 350), (3, 359), (3, 368), (3, 369), (3, 370), (3, 371), (3, 372), (3, 373), (3, 374), (3, 375), (3, 376), (3, 377), (3, 378), (0, 0), (0, 0), (0, 0), (0, 0), (0, 0), (0, 0), (0, 0), (0, 0)]) rfl hP rfl 0 (by decide) (hts _ (wg_t kw_1432)) (fun _ h9 => h9) (cd := (3, 172)) rfl dMH_expand_104 (fun v32 hv32 => ?_)
                obtain ⟨r30, rfl, kr28⟩ := (show ∃ r : Nat, v32 = .ref r ∧ T r = some 172 from hv32)
                refine mp_i (cx := []) (wr := []) hP hD hS hA [] [] rfl rfl rfl (by decide) (va_runV (As := []) (rest := [.int z27]) F (N_MS_next l g _ T q22.2 pl hO hU r30 x39 x40 kr28 hx_39 hx_40 (by omega) (by omega)) (cwV 0 hts (wg_app (wg_c kw_1724 (wg_c kw_1638 (wg_c kw_1639 (wg_c kw_10 wg_n)))) kw_1640) rfl rfl rfl (by decide +kernel) ⟨by decide, by decide⟩) (pn_V (en_ok g) (ci := 9) (kn := 172) (fl := [(3, 173), (3, 174), (3, 175), (3, 176), (3, 177), (0, 0), (0, 0), (0, 0)]) hK hO kr28 rfl hP hD hS hA hEn [] rfl rfl rfl) rfl rfl hl.1 rfl (lv_room (Nat.le_of_ble_eq_true rfl)) dMH_expand_107 ⟨by omega, by omega⟩) (fun r31 u28 H locs hu28 hP hD hS => ?_)
                obtain ⟨q23, pl⟩ := u28
                obtain ⟨⟨eq28, rfl, hFc28, ⟨x44, hx_44, hb_44⟩, ⟨x42, hx_42, hb_42⟩, ⟨x43, hx_43, hb_43⟩, -⟩, hO⟩ := hu28
                have hO : okn g T q23.2 pl := hO
                have hP : va_P g.1 vcl ([] ++ pl) _ := hP
                have hD : va_D _ ([] ++ pl) := hD
                have hFc28 : frm (M_MS_next) q22.2 q23.2 := hFc28
                have hb_42 : x42 ≤ x40 := hb_42
                have hb_43 : x43 = x40 := hb_43
                have hb_44 : x44 < 256 := hb_44
                replace hR := bnd_step hR eq28
                replace hE := bndP_step hE eq28
                have hF := frm_tr hF hFc28 (fun k hk => by unfold M_MS_next at hk; unfold M_MH_expand_2; omega)
                have hf129 : q23.2.1 225 23 = nI 2 := fc_F hf121 hFc28 (by unfold M_MS_next; omega)
                have hf130 : q23.2.1 225 24 = nI 8 := fc_F hf122 hFc28 (by unfold M_MS_next; omega)
                have hf131 : q23.2.1 225 25 = nI 7 := fc_F hf123 hFc28 (by unfold M_MS_next; omega)
                have hf132 : q23.2.1 225 26 = nI 2 := fc_F hf124 hFc28 (by unfold M_MS_next; omega)
                have hf133 : q23.2.1 225 27 = nI 524288 := fc_F hf125 hFc28 (by unfold M_MS_next; omega)
                have hf134 : q23.2.1 225 28 = nI 261888 := fc_F hf126 hFc28 (by unfold M_MS_next; omega)
                have hf135 : q23.2.1 225 29 = nI 120 := fc_F hf127 hFc28 (by unfold M_MS_next; omega)
                have hf136 : q23.2.1 225 30 = nI 64 := fc_F hf128 hFc28 (by unfold M_MS_next; omega)
                obtain ⟨z28, ez28, hz33, hz34⟩ := cl_of (b := 2147483648) hx_44 (by omega) (by decide)
                replace hR := bnd_step hR ez28
                replace hE := bndP_step hE ez28
                refine mi_as hz33 ?_
                refine W.widen (k := 0) (n := 0) (by omega) (by omega) ?_
                refine lv_bipush (v := nI 127) hx hb dMH_expand_110 (by decide) ?_
                refine lv_iand hx hb dMH_expand_112 ?_
                refine lv_bipush (v := nI 16) hx hb dMH_expand_113 (by decide) ?_
                refine lv_ishl hx hb dMH_expand_115 ?_
                refine lv_iadd hx hb dMH_expand_116 ?_
                refine mi_eqv (fun z29 ez29 => ?_)
                replace hR := bnd_step hR ez29
                replace hE := bndP_step hE ez29
                refine lv_istore (lv' := [(5, .int z29), (4, .int (nI nn21)), (3, .int (nI i22)), (2, .int (nI i21)), (0, .ref h0), (1, .ref b)]) hx hb dMH_expand_117 hl (by decide) rfl (fun ls hl => ?_)
                refine lv_iload hx hb dMH_expand_119 (lv_at hl 0 rfl) ?_
                refine lv_ldc (v := 8380417) hx hb hown (hts _ (wg_t kw_1429)) dMH_expand_121 ?_
                refine mi_as (show (8380417 : Int32) = nI 8380417 by decide) ?_
                refine lv_icmp_lt (tgt := 129) hx hb dMH_expand_123 (by decide) (fun h27 => ?_) (fun h27 => ?_)
                · replace hR := hR.trans (if_pos h27)
                  replace hE := iteP_pos h27 hE
                  refine lv_aload_n hx hb dMH_expand_129 rfl (lv_at hl 4 rfl) ?_
                  refine nw_get (C := "LatticeKeysModel$Hands") (TT := T_MH) (N := 31) hx hb hts (wg_ft i_MH) hown hK hO k_h0 (kn := 225) (ci := 12) (fl := [(3, 172), (3, 181), (3, 226), (3, 291), (3, 299), (3, 308), (3, 317), (3, 326), (3, 334), (3, 342), (3, 350), (3, 359), (3, 368), (3, 369), (3, 370), (3, 371), (3, 372), (3, 373), (3, 374), (3, 375), (3, 376), (3, 377), (3, 378), (0, 0), (0, 0), (0, 0), (0, 0), (0, 0), (0, 0), (0, 0), (0, 0)]) rfl hP rfl 2 (by decide) (hts _ (wg_t kw_1434)) (fun _ h9 => h9) (cd := (3, 226)) rfl dMH_expand_130 (fun v33 hv33 => ?_)
                  obtain ⟨r32, rfl, kr29⟩ := (show ∃ r : Nat, v33 = .ref r ∧ T r = some 226 from hv33)
                  refine lv_bipush (v := nI 8) hx hb dMH_expand_133 (by decide) ?_
                  refine lv_iload_n hx hb dMH_expand_135 rfl (lv_at hl 3 rfl) ?_
                  refine mi_imul hx hb dMH_expand_136 ?_
                  refine lv_iload_n hx hb dMH_expand_137 rfl (lv_at hl 2 rfl) ?_
                  refine mi_iadd hx hb dMH_expand_138 ?_
                  refine nw_aald3 hx hb hK hO kr29 (k := 226) (b := 227) rfl hP (by omega) (by omega) dMH_expand_139 (fun r33 kr30 => ?_)
                  have hn21 : nsp (227 + ((8 * i21) + i22)) = (0, 256, []) := rows_ok 227 64 (by decide) _ (by omega)
                  refine lv_iload hx hb dMH_expand_140 (lv_at hl 1 rfl) ?_
                  refine lv_iload hx hb dMH_expand_142 (lv_at hl 0 rfl) ?_
                  refine nw_iast hx hb hK hO hU kr30 (k := (227 + ((8 * i21) + i22))) hn21 hP hD hS (by omega) (by omega) dMH_expand_144 (fun s29 pl H locs es21 hO hP hD hS => ?_)
                  replace hR := bnd_step hR es21
                  replace hE := bndP_step hE es21
                  have hF := frm_sI hF es21 (by unfold M_MH_expand_2; omega)
                  have hf137 : s29.1 225 23 = nI 2 := fc_ne hf129 es21 (by omega)
                  have hf138 : s29.1 225 24 = nI 8 := fc_ne hf130 es21 (by omega)
                  have hf139 : s29.1 225 25 = nI 7 := fc_ne hf131 es21 (by omega)
                  have hf140 : s29.1 225 26 = nI 2 := fc_ne hf132 es21 (by omega)
                  have hf141 : s29.1 225 27 = nI 524288 := fc_ne hf133 es21 (by omega)
                  have hf142 : s29.1 225 28 = nI 261888 := fc_ne hf134 es21 (by omega)
                  have hf143 : s29.1 225 29 = nI 120 := fc_ne hf135 es21 (by omega)
                  have hf144 : s29.1 225 30 = nI 64 := fc_ne hf136 es21 (by omega)
                  have hf145 : s29.1 172 6 = nI x42 := fc_ne hx_42 es21 (by omega)
                  have hf146 : s29.1 172 5 = nI x43 := fc_ne hx_43 es21 (by omega)
                  refine mi_iinc (k := 1) (x := nn21) (d := 1) (y := nn21 + 1) (lv' := [(4, .int (nI (nn21 + 1))), (5, .int z29), (3, .int (nI i22)), (2, .int (nI i21)), (0, .ref h0), (1, .ref b)]) hx hb dMH_expand_145 hl rfl (by decide) rfl (by decide) rfl (fun ls hl => ?_)
                  refine lv_goto (tgt := 69) hx hb dMH_expand_148 (by decide) ?_
                  exact ih23 (nn21 + 1) s29 x42 pl ls H locs (by omega) (by omega) (by omega) hF hf137 hf138 hf139 hf140 hf141 hf142 hf143 hf144 hf145 (by have h9 := hf146; rw [show x43 = x34 by omega] at h9; exact h9) hE hR (lv_sub hl [0, 2, 3, 4, 5] rfl) hO hP hD hS
                · replace hR := hR.trans (if_neg h27)
                  replace hE := iteP_neg h27 hE
                  refine lv_goto (tgt := 69) hx hb dMH_expand_126 (by decide) ?_
                  exact ih23 nn21 q23.2 x42 pl ls H locs (by omega) (by omega) (by omega) hF hf129 hf130 hf131 hf132 hf133 hf134 hf135 hf136 hx_42 (by have h9 := hx_43; rw [show x43 = x34 by omega] at h9; exact h9) hE hR (lv_sub hl [1, 2, 3, 4, 5] rfl) hO hP hD hS
          exact lp23 1000000 0 s27 x33 pl ls _ _ (by omega) (by omega) (by omega) hF hf85 hf86 hf87 hf88 hf89 hf90 hf91 hf92 hx_33 hx_34 hE hR (lv_sub hl [0, 1, 2, 3, 4] rfl) hO hP hD hS
      exact lp22 7 0 s21 pl ls _ _ (by omega) hF hf29 hf30 hf31 hf32 hf33 hf34 hf35 hf36 hE hR (lv_sub hl [0, 1, 2, 3] rfl) hO hP hD hS
  exact lp21 8 0 s pl ls _ _ (by omega) hF e_c0 e_c1 e_c2 e_c3 e_c4 e_c5 e_c6 e_c7 hE hR (lv_sub hl [0, 1, 2] rfl) hO hP hD hS
def M_MH_small_0 (pf : Nat) (k : Nat) : Prop := k = 172 ∨ k = pf ∨ (0 : Nat) = 1
noncomputable def F_MH_small_0_L0 (pf : Nat) : Nat → Nat → Sto → Sto
  | 0, nn21, s26 => s26
  | n21 + 1, nn21, s26 => if 256 ≤ nn21 then s26 else bnd (F_MS_next  s26) fun q21 => bnd (q21.1.toNatClampNeg) fun z21 => if 256 ≤ nn21 then F_MH_small_0_L0 pf n21 nn21 q21.2 else bnd ((q21.2.1 225 26).toNatClampNeg) fun z22 => if z21 % 16 ≤ 14 then bnd ((q21.2.1 225 26).toNatClampNeg) fun z23 => bnd (((nI 2) - (nI ((z21 % 16) % 5)))) fun z24 => if 0 ≤ z24 then bnd (sI q21.2 pf nn21 z24) fun s27 => if 256 ≤ nn21 + 1 then F_MH_small_0_L0 pf n21 (nn21 + 1) s27 else bnd ((s27.1 225 26).toNatClampNeg) fun z25 => if z21 / 16 ≤ 14 then bnd ((s27.1 225 26).toNatClampNeg) fun z26 => bnd (((nI 2) - (nI ((z21 / 16) % 5)))) fun z27 => if 0 ≤ z27 then bnd (sI s27 pf (nn21 + 1) z27) fun s28 => F_MH_small_0_L0 pf n21 (nn21 + 1 + 1) s28 else bnd (sI s27 pf (nn21 + 1) (z27 + (nI 8380417))) fun s29 => F_MH_small_0_L0 pf n21 (nn21 + 1 + 1) s29 else F_MH_small_0_L0 pf n21 (nn21 + 1) s27 else bnd (sI q21.2 pf nn21 (z24 + (nI 8380417))) fun s30 => if 256 ≤ nn21 + 1 then F_MH_small_0_L0 pf n21 (nn21 + 1) s30 else bnd ((s30.1 225 26).toNatClampNeg) fun z28 => if z21 / 16 ≤ 14 then bnd ((s30.1 225 26).toNatClampNeg) fun z29 => bnd (((nI 2) - (nI ((z21 / 16) % 5)))) fun z30 => if 0 ≤ z30 then bnd (sI s30 pf (nn21 + 1) z30) fun s31 => F_MH_small_0_L0 pf n21 (nn21 + 1 + 1) s31 else bnd (sI s30 pf (nn21 + 1) (z30 + (nI 8380417))) fun s32 => F_MH_small_0_L0 pf n21 (nn21 + 1 + 1) s32 else F_MH_small_0_L0 pf n21 (nn21 + 1) s30 else if 256 ≤ nn21 then F_MH_small_0_L0 pf n21 nn21 q21.2 else bnd ((q21.2.1 225 26).toNatClampNeg) fun z31 => if z21 / 16 ≤ 14 then bnd ((q21.2.1 225 26).toNatClampNeg) fun z32 => bnd (((nI 2) - (nI ((z21 / 16) % 5)))) fun z33 => if 0 ≤ z33 then bnd (sI q21.2 pf nn21 z33) fun s33 => F_MH_small_0_L0 pf n21 (nn21 + 1) s33 else bnd (sI q21.2 pf nn21 (z33 + (nI 8380417))) fun s34 => F_MH_small_0_L0 pf n21 (nn21 + 1) s34 else F_MH_small_0_L0 pf n21 nn21 q21.2
noncomputable def E_MH_small_0_L0 (pf : Nat) : Nat → Nat → Sto → Prop
  | 0, nn21, s26 => (256 ≤ nn21) ∧ (True)
  | n21 + 1, nn21, s26 => if 256 ≤ nn21 then True else bnd (F_MS_next  s26) fun q21 => bnd (q21.1.toNatClampNeg) fun z21 => if 256 ≤ nn21 then E_MH_small_0_L0 pf n21 nn21 q21.2 else bnd ((q21.2.1 225 26).toNatClampNeg) fun z22 => if z21 % 16 ≤ 14 then bnd ((q21.2.1 225 26).toNatClampNeg) fun z23 => bnd (((nI 2) - (nI ((z21 % 16) % 5)))) fun z24 => if 0 ≤ z24 then bnd (sI q21.2 pf nn21 z24) fun s27 => if 256 ≤ nn21 + 1 then E_MH_small_0_L0 pf n21 (nn21 + 1) s27 else bnd ((s27.1 225 26).toNatClampNeg) fun z25 => if z21 / 16 ≤ 14 then bnd ((s27.1 225 26).toNatClampNeg) fun z26 => bnd (((nI 2) - (nI ((z21 / 16) % 5)))) fun z27 => if 0 ≤ z27 then bnd (sI s27 pf (nn21 + 1) z27) fun s28 => E_MH_small_0_L0 pf n21 (nn21 + 1 + 1) s28 else bnd (sI s27 pf (nn21 + 1) (z27 + (nI 8380417))) fun s29 => E_MH_small_0_L0 pf n21 (nn21 + 1 + 1) s29 else E_MH_small_0_L0 pf n21 (nn21 + 1) s27 else bnd (sI q21.2 pf nn21 (z24 + (nI 8380417))) fun s30 => if 256 ≤ nn21 + 1 then E_MH_small_0_L0 pf n21 (nn21 + 1) s30 else bnd ((s30.1 225 26).toNatClampNeg) fun z28 => if z21 / 16 ≤ 14 then bnd ((s30.1 225 26).toNatClampNeg) fun z29 => bnd (((nI 2) - (nI ((z21 / 16) % 5)))) fun z30 => if 0 ≤ z30 then bnd (sI s30 pf (nn21 + 1) z30) fun s31 => E_MH_small_0_L0 pf n21 (nn21 + 1 + 1) s31 else bnd (sI s30 pf (nn21 + 1) (z30 + (nI 8380417))) fun s32 => E_MH_small_0_L0 pf n21 (nn21 + 1 + 1) s32 else E_MH_small_0_L0 pf n21 (nn21 + 1) s30 else if 256 ≤ nn21 then E_MH_small_0_L0 pf n21 nn21 q21.2 else bnd ((q21.2.1 225 26).toNatClampNeg) fun z31 => if z21 / 16 ≤ 14 then bnd ((q21.2.1 225 26).toNatClampNeg) fun z32 => bnd (((nI 2) - (nI ((z21 / 16) % 5)))) fun z33 => if 0 ≤ z33 then bnd (sI q21.2 pf nn21 z33) fun s33 => E_MH_small_0_L0 pf n21 (nn21 + 1) s33 else bnd (sI q21.2 pf nn21 (z33 + (nI 8380417))) fun s34 => E_MH_small_0_L0 pf n21 (nn21 + 1) s34 else E_MH_small_0_L0 pf n21 nn21 q21.2
noncomputable def F_MH_small_0 (pf : Nat) (pb : Nat) (n : Nat) (at_ : Nat) (wh : Int32) (s : Sto) : Sto := bnd (F_MS_shake  s) fun s21 => bnd (F_MS_puts pb n at_ 64 s21) fun s22 => bnd (F_MS_put wh s22) fun s23 => bnd (F_MS_put (wh >>> ((nI 8) &&& 31)) s23) fun s24 => bnd (F_MS_end  s24) fun s25 => F_MH_small_0_L0 pf 1000000 0 s25
noncomputable def E_MH_small_0 (pf : Nat) (pb : Nat) (n : Nat) (at_ : Nat) (wh : Int32) (s : Sto) : Prop := bnd (F_MS_shake  s) fun s21 => bnd (F_MS_puts pb n at_ 64 s21) fun s22 => bnd (F_MS_put wh s22) fun s23 => bnd (F_MS_put (wh >>> ((nI 8) &&& 31)) s23) fun s24 => bnd (F_MS_end  s24) fun s25 => E_MH_small_0_L0 pf 1000000 0 s25
set_option maxHeartbeats 8000000 in
set_option maxRecDepth 100000 in
theorem N_MH_small_0 (l : Launch) (g : Gd) (sz : Nat) (T : TyN) (s : Sto) (pl : va_W) (hO : okn g T s pl) (hU : inj T) (h0 f b : Nat) (pf : Nat) (pb : Nat) (n : Nat) (at_ : Nat) (wh : Int32) (k_h0 : T h0 = some 225) (k_f : T f = some pf) (n_f : nsp pf = (0, 256, [])) (k_b : T b = some pb) (n_b : nsp pb = (1, n, [])) (e_c0 : s.1 225 23 = nI 0) (e_c1 : s.1 225 24 = nI 4) (e_c2 : s.1 225 25 = nI 4) (e_c3 : s.1 225 26 = nI 2) (e_c4 : s.1 225 27 = nI 131072) (e_c5 : s.1 225 28 = nI 95232) (e_c6 : s.1 225 29 = nI 78) (e_c7 : s.1 225 30 = nI 32) (h1 : at_ + 64 ≤ n) (h2 : n < 65536) (hE : E_MH_small_0 pf pb n at_ wh s)  : Met l y_MH_small w_MH_small ({ frames := 4, cells := 0, slots := 0, locals := 90 } : Room) (va_Pc [.ref h0, .ref f, .ref b, .int (nI at_), .int wh] (pr (en g) g.1 vcl sz ([] ++ pl))) (va_Qv (fun (u : (Sto) × va_W) => (u.1 = F_MH_small_0 pf pb n at_ wh s ∧ frm (M_MH_small_0 pf) s u.1 ∧ True) ∧ okn g T u.1 u.2) (po g.1 vcl (va_A ([] ++ pl) sz) (fun (u : (Sto) × va_W) => [] ++ u.2)) (va_A ([] ++ pl) sz)) 0 0 (va_A ([] ++ pl) sz) := by
  refine mc_entry (cc := c_MH_small) (maxL := 9) (ret := none) (by decide) rfl (Nat.le_of_ble_eq_true rfl) ?_
  intro p e s0 m args below meth c ls F hr hlk hnm hsz hP hD hEn hA hl
  obtain ⟨hx, hb, hml, hown, hts⟩ := id F
  have hK := hEn.1
  generalize va_A ([] ++ pl) sz = A at hD hEn hA ⊢
  have hS : va_S A s0.heap s0.heap [] := va_S.rf
  have hl : lv_has ls 9 [(0, .ref h0), (1, .ref f), (2, .ref b), (3, .int (nI at_)), (4, .int wh)] := hl
  have hR : F_MH_small_0 pf pb n at_ wh s = F_MH_small_0 pf pb n at_ wh s := rfl
  have hF : frm (M_MH_small_0 pf) s s := frm_rf
  have ne_172_pf : 172 ≠ pf := nsp_ne (p := 172) rfl n_f (show (5 : Nat) ≠ 0 by decide)
  have ne_172_pb : 172 ≠ pb := nsp_ne (p := 172) rfl n_b (show (5 : Nat) ≠ 1 by decide)
  have ne_225_pf : 225 ≠ pf := nsp_ne (p := 225) rfl n_f (show (5 : Nat) ≠ 0 by decide)
  have ne_225_pb : 225 ≠ pb := nsp_ne (p := 225) rfl n_b (show (5 : Nat) ≠ 1 by decide)
  refine lv_aload_n hx hb dMH_small_0 rfl (lv_at hl 0 rfl) ?_
  refine nw_get (C := "LatticeKeysModel$Hands") (TT := T_MH) (N := 31) hx hb hts (wg_ft i_MH) hown hK hO k_h0 (kn := 225) (ci := 12) (fl := [(3, 172), (3, 181), (3, 226), (3, 291), (3, 299), (3, 308), (3, 317), (3, 326), (3, 334), (3, 342), (3, 350), (3, 359), (3, 368), (3, 369), (3, 370), (3, 371), (3, 372), (3, 373), (3, 374), (3, 375), (3, 376), (3, 377), (3, 378), (0, 0), (0, 0), (0, 0), (0, 0), (0, 0), (0, 0), (0, 0), (0, 0)]) rfl hP rfl 0 (by decide) (hts _ (wg_t kw_1432)) (fun _ h9 => h9) (cd := (3, 172)) rfl dMH_small_1 (fun v21 hv21 => ?_)
  obtain ⟨r21, rfl, kr21⟩ := (show ∃ r : Nat, v21 = .ref r ∧ T r = some 172 from hv21)
  refine mp_v (cx := []) (wr := []) hP hD hS hA [] [] rfl rfl rfl (by decide) (va_runV (As := []) (rest := []) F (N_MS_shake l g _ T s pl hO hU r21 kr21) (cwV 0 hts (wg_app (wg_c kw_1714 (wg_c kw_1657 (wg_c kw_1658 (wg_c kw_10 wg_n)))) kw_1659) rfl rfl rfl (by decide +kernel) ⟨by decide, by decide⟩) (pn_V (en_ok g) (ci := 9) (kn := 172) (fl := [(3, 173), (3, 174), (3, 175), (3, 176), (3, 177), (0, 0), (0, 0), (0, 0)]) hK hO kr21 rfl hP hD hS hA hEn [] rfl rfl rfl) rfl rfl hl.1 rfl (lv_room (Nat.le_of_ble_eq_true rfl)) dMH_small_4 ⟨by omega, by omega⟩) (fun  u21 H locs hu21 hP hD hS => ?_)
  obtain ⟨s21, pl⟩ := u21
  obtain ⟨⟨eq21, hFc21, ⟨x21, hx_21, hb_21⟩, ⟨x22, hx_22, hb_22⟩, -⟩, hO⟩ := hu21
  have hO : okn g T s21 pl := hO
  have hP : va_P g.1 vcl ([] ++ pl) _ := hP
  have hD : va_D _ ([] ++ pl) := hD
  have hFc21 : frm (M_MS_shake) s s21 := hFc21
  have hb_21 : x21 = 0 := hb_21
  have hb_22 : x22 = 136 := hb_22
  replace hR := bnd_step hR eq21
  replace hE := bndP_step hE eq21
  have hF := frm_tr hF hFc21 (fun k hk => by unfold M_MS_shake at hk; unfold M_MH_small_0; omega)
  have hf21 : s21.1 225 23 = nI 0 := fc_F e_c0 hFc21 (by unfold M_MS_shake; omega)
  have hf22 : s21.1 225 24 = nI 4 := fc_F e_c1 hFc21 (by unfold M_MS_shake; omega)
  have hf23 : s21.1 225 25 = nI 4 := fc_F e_c2 hFc21 (by unfold M_MS_shake; omega)
  have hf24 : s21.1 225 26 = nI 2 := fc_F e_c3 hFc21 (by unfold M_MS_shake; omega)
  have hf25 : s21.1 225 27 = nI 131072 := fc_F e_c4 hFc21 (by unfold M_MS_shake; omega)
  have hf26 : s21.1 225 28 = nI 95232 := fc_F e_c5 hFc21 (by unfold M_MS_shake; omega)
  have hf27 : s21.1 225 29 = nI 78 := fc_F e_c6 hFc21 (by unfold M_MS_shake; omega)
  have hf28 : s21.1 225 30 = nI 32 := fc_F e_c7 hFc21 (by unfold M_MS_shake; omega)
  refine W.widen (k := 0) (n := 0) (by omega) (by omega) ?_
  refine lv_aload_n hx hb dMH_small_7 rfl (lv_at hl 0 rfl) ?_
  refine nw_get (C := "LatticeKeysModel$Hands") (TT := T_MH) (N := 31) hx hb hts (wg_ft i_MH) hown hK hO k_h0 (kn := 225) (ci := 12) (fl := [(3, 172), (3, 181), (3, 226), (3, 291), (3, 299), (3, 308), (3, 317), (3, 326), (3, 334), (3, 342), (3, 350), (3, 359), (3, 368), (3, 369), (3, 370), (3, 371), (3, 372), (3, 373), (3, 374), (3, 375), (3, 376), (3, 377), (3, 378), (0, 0), (0, 0), (0, 0), (0, 0), (0, 0), (0, 0), (0, 0), (0, 0)]) rfl hP rfl 0 (by decide) (hts _ (wg_t kw_1432)) (fun _ h9 => h9) (cd := (3, 172)) rfl dMH_small_8 (fun v22 hv22 => ?_)
  obtain ⟨r22, rfl, kr22⟩ := (show ∃ r : Nat, v22 = .ref r ∧ T r = some 172 from hv22)
  refine lv_aload_n hx hb dMH_small_11 rfl (lv_at hl 2 rfl) ?_
  refine lv_iload_n hx hb dMH_small_12 rfl (lv_at hl 3 rfl) ?_
  refine lv_bipush (v := nI 64) hx hb dMH_small_13 (by decide) ?_
  refine mp_v (cx := []) (wr := []) hP hD hS hA [] [] rfl rfl rfl (by decide) (va_runV (As := [.ref b, .int (nI at_), .int (nI 64)]) (rest := []) F (N_MS_puts l g _ T s21 pl hO hU r22 b pb n at_ 64 x21 x22 kr22 k_b n_b hx_21 hx_22 (by omega) (by omega) (by omega) (by omega)) (cwV 3 hts (wg_app (wg_c kw_1715 (wg_c kw_1608 (wg_c kw_1609 (wg_c kw_10 wg_n)))) kw_1610) rfl rfl rfl (by decide +kernel) ⟨by decide, by decide⟩) (pn_V (en_ok g) (ci := 9) (kn := 172) (fl := [(3, 173), (3, 174), (3, 175), (3, 176), (3, 177), (0, 0), (0, 0), (0, 0)]) hK hO kr22 rfl hP hD hS hA hEn [] rfl rfl rfl) rfl rfl hl.1 rfl (lv_room (Nat.le_of_ble_eq_true rfl)) dMH_small_15 ⟨by omega, by omega⟩) (fun  u22 H locs hu22 hP hD hS => ?_)
  obtain ⟨s22, pl⟩ := u22
  obtain ⟨⟨eq22, hFc22, ⟨x24, hx_24, hb_24⟩, ⟨x25, hx_25, hb_25⟩, -⟩, hO⟩ := hu22
  have hO : okn g T s22 pl := hO
  have hP : va_P g.1 vcl ([] ++ pl) _ := hP
  have hD : va_D _ ([] ++ pl) := hD
  have hFc22 : frm (M_MS_puts) s21 s22 := hFc22
  have hb_24 : x24 < x22 := hb_24
  have hb_25 : x25 = x22 := hb_25
  replace hR := bnd_step hR eq22
  replace hE := bndP_step hE eq22
  have hF := frm_tr hF hFc22 (fun k hk => by unfold M_MS_puts at hk; unfold M_MH_small_0; omega)
  have hf29 : s22.1 225 23 = nI 0 := fc_F hf21 hFc22 (by unfold M_MS_puts; omega)
  have hf30 : s22.1 225 24 = nI 4 := fc_F hf22 hFc22 (by unfold M_MS_puts; omega)
  have hf31 : s22.1 225 25 = nI 4 := fc_F hf23 hFc22 (by unfold M_MS_puts; omega)
  have hf32 : s22.1 225 26 = nI 2 := fc_F hf24 hFc22 (by unfold M_MS_puts; omega)
  have hf33 : s22.1 225 27 = nI 131072 := fc_F hf25 hFc22 (by unfold M_MS_puts; omega)
  have hf34 : s22.1 225 28 = nI 95232 := fc_F hf26 hFc22 (by unfold M_MS_puts; omega)
  have hf35 : s22.1 225 29 = nI 78 := fc_F hf27 hFc22 (by unfold M_MS_puts; omega)
  have hf36 : s22.1 225 30 = nI 32 := fc_F hf28 hFc22 (by unfold M_MS_puts; omega)
  refine W.widen (k := 0) (n := 0) (by omega) (by omega) ?_
  refine lv_aload_n hx hb dMH_small_18 rfl (lv_at hl 0 rfl) ?_
  refine nw_get (C := "LatticeKeysModel$Hands") (TT := T_MH) (N := 31) hx hb hts (wg_ft i_MH) hown hK hO k_h0 (kn := 225) (ci := 12) (fl := [(3, 172), (3, 181), (3, 226), (3, 291), (3, 299), (3, 308), (3, 317), (3, 326), (3, 334), (3, 342), (3, 350), (3, 359), (3, 368), (3, 369), (3, 370), (3, 371), (3, 372), (3, 373), (3, 374), (3, 375), (3, 376), (3, 377), (3, 378), (0, 0), (0, 0), (0, 0), (0, 0), (0, 0), (0, 0), (0, 0), (0, 0)]) rfl hP rfl 0 (by decide) (hts _ (wg_t kw_1432)) (fun _ h9 => h9) (cd := (3, 172)) rfl dMH_small_19 (fun v23 hv23 => ?_)
  obtain ⟨r23, rfl, kr23⟩ := (show ∃ r : Nat, v23 = .ref r ∧ T r = some 172 from hv23)
  refine lv_iload hx hb dMH_small_22 (lv_at hl 4 rfl) ?_
  refine mp_v (cx := []) (wr := []) hP hD hS hA [] [] rfl rfl rfl (by decide) (va_runV (As := [.int wh]) (rest := []) F (N_MS_put l g _ T s22 pl hO hU r23 wh x24 x25 kr23 hx_24 hx_25 (by omega) (by omega)) (cwV 1 hts (wg_app (wg_c kw_1716 (wg_c kw_1612 (wg_c kw_1613 (wg_c kw_10 wg_n)))) kw_1614) rfl rfl rfl (by decide +kernel) ⟨by decide, by decide⟩) (pn_V (en_ok g) (ci := 9) (kn := 172) (fl := [(3, 173), (3, 174), (3, 175), (3, 176), (3, 177), (0, 0), (0, 0), (0, 0)]) hK hO kr23 rfl hP hD hS hA hEn [] rfl rfl rfl) rfl rfl hl.1 rfl (lv_room (Nat.le_of_ble_eq_true rfl)) dMH_small_24 ⟨by omega, by omega⟩) (fun  u23 H locs hu23 hP hD hS => ?_)
  obtain ⟨s23, pl⟩ := u23
  obtain ⟨⟨eq23, hFc23, ⟨x27, hx_27, hb_27⟩, ⟨x28, hx_28, hb_28⟩, -⟩, hO⟩ := hu23
  have hO : okn g T s23 pl := hO
  have hP : va_P g.1 vcl ([] ++ pl) _ := hP
  have hD : va_D _ ([] ++ pl) := hD
  have hFc23 : frm (M_MS_put) s22 s23 := hFc23
  have hb_27 : x27 < x25 := hb_27
  have hb_28 : x28 = x25 := hb_28
  replace hR := bnd_step hR eq23
  replace hE := bndP_step hE eq23
  have hF := frm_tr hF hFc23 (fun k hk => by unfold M_MS_put at hk; unfold M_MH_small_0; omega)
  have hf37 : s23.1 225 23 = nI 0 := fc_F hf29 hFc23 (by unfold M_MS_put; omega)
  have hf38 : s23.1 225 24 = nI 4 := fc_F hf30 hFc23 (by unfold M_MS_put; omega)
  have hf39 : s23.1 225 25 = nI 4 := fc_F hf31 hFc23 (by unfold M_MS_put; omega)
  have hf40 : s23.1 225 26 = nI 2 := fc_F hf32 hFc23 (by unfold M_MS_put; omega)
  have hf41 : s23.1 225 27 = nI 131072 := fc_F hf33 hFc23 (by unfold M_MS_put; omega)
  have hf42 : s23.1 225 28 = nI 95232 := fc_F hf34 hFc23 (by unfold M_MS_put; omega)
  have hf43 : s23.1 225 29 = nI 78 := fc_F hf35 hFc23 (by unfold M_MS_put; omega)
  have hf44 : s23.1 225 30 = nI 32 := fc_F hf36 hFc23 (by unfold M_MS_put; omega)
  refine W.widen (k := 0) (n := 0) (by omega) (by omega) ?_
  refine lv_aload_n hx hb dMH_small_27 rfl (lv_at hl 0 rfl) ?_
  refine nw_get (C := "LatticeKeysModel$Hands") (TT := T_MH) (N := 31) hx hb hts (wg_ft i_MH) hown hK hO k_h0 (kn := 225) (ci := 12) (fl := [(3, 172), (3, 181), (3, 226), (3, 291), (3, 299), (3, 308), (3, 317), (3, 326), (3, 334), (3, 342), (3, 350), (3, 359), (3, 368), (3, 369), (3, 370), (3, 371), (3, 372), (3, 373), (3, 374), (3, 375), (3, 376), (3, 377), (3, 378), (0, 0), (0, 0), (0, 0), (0, 0), (0, 0), (0, 0), (0, 0), (0, 0)]) rfl hP rfl 0 (by decide) (hts _ (wg_t kw_1432)) (fun _ h9 => h9) (cd := (3, 172)) rfl dMH_small_28 (fun v24 hv24 => ?_)
  obtain ⟨r24, rfl, kr24⟩ := (show ∃ r : Nat, v24 = .ref r ∧ T r = some 172 from hv24)
  refine lv_iload hx hb dMH_small_31 (lv_at hl 4 rfl) ?_
  refine lv_bipush (v := nI 8) hx hb dMH_small_33 (by decide) ?_
  refine lv_ishr hx hb dMH_small_35 ?_
  refine mp_v (cx := []) (wr := []) hP hD hS hA [] [] rfl rfl rfl (by decide) (va_runV (As := [.int ((wh >>> ((nI 8) &&& 31)))]) (rest := []) F (N_MS_put l g _ T s23 pl hO hU r24 (wh >>> ((nI 8) &&& 31)) x27 x28 kr24 hx_27 hx_28 (by omega) (by omega)) (cwV 1 hts (wg_app (wg_c kw_1716 (wg_c kw_1612 (wg_c kw_1613 (wg_c kw_10 wg_n)))) kw_1614) rfl rfl rfl (by decide +kernel) ⟨by decide, by decide⟩) (pn_V (en_ok g) (ci := 9) (kn := 172) (fl := [(3, 173), (3, 174), (3, 175), (3, 176), (3, 177), (0, 0), (0, 0), (0, 0)]) hK hO kr24 rfl hP hD hS hA hEn [] rfl rfl rfl) rfl rfl hl.1 rfl (lv_room (Nat.le_of_ble_eq_true rfl)) dMH_small_36 ⟨by omega, by omega⟩) (fun  u24 H locs hu24 hP hD hS => ?_)
  obtain ⟨s24, pl⟩ := u24
  obtain ⟨⟨eq24, hFc24, ⟨x30, hx_30, hb_30⟩, ⟨x31, hx_31, hb_31⟩, -⟩, hO⟩ := hu24
  have hO : okn g T s24 pl := hO
  have hP : va_P g.1 vcl ([] ++ pl) _ := hP
  have hD : va_D _ ([] ++ pl) := hD
  have hFc24 : frm (M_MS_put) s23 s24 := hFc24
  have hb_30 : x30 < x28 := hb_30
  have hb_31 : x31 = x28 := hb_31
  replace hR := bnd_step hR eq24
  replace hE := bndP_step hE eq24
  have hF := frm_tr hF hFc24 (fun k hk => by unfold M_MS_put at hk; unfold M_MH_small_0; omega)
  have hf45 : s24.1 225 23 = nI 0 := fc_F hf37 hFc24 (by unfold M_MS_put; omega)
  have hf46 : s24.1 225 24 = nI 4 := fc_F hf38 hFc24 (by unfold M_MS_put; omega)
  have hf47 : s24.1 225 25 = nI 4 := fc_F hf39 hFc24 (by unfold M_MS_put; omega)
  have hf48 : s24.1 225 26 = nI 2 := fc_F hf40 hFc24 (by unfold M_MS_put; omega)
  have hf49 : s24.1 225 27 = nI 131072 := fc_F hf41 hFc24 (by unfold M_MS_put; omega)
  have hf50 : s24.1 225 28 = nI 95232 := fc_F hf42 hFc24 (by unfold M_MS_put; omega)
  have hf51 : s24.1 225 29 = nI 78 := fc_F hf43 hFc24 (by unfold M_MS_put; omega)
  have hf52 : s24.1 225 30 = nI 32 := fc_F hf44 hFc24 (by unfold M_MS_put; omega)
  refine W.widen (k := 0) (n := 0) (by omega) (by omega) ?_
  refine lv_aload_n hx hb dMH_small_39 rfl (lv_at hl 0 rfl) ?_
  refine nw_get (C := "LatticeKeysModel$Hands") (TT := T_MH) (N := 31) hx hb hts (wg_ft i_MH) hown hK hO k_h0 (kn := 225) (ci := 12) (fl := [(3, 172), (3, 181), (3, 226), (3, 291), (3, 299), (3, 308), (3, 317), (3, 326), (3, 334), (3, 342), (3, 350), (3, 359), (3, 368), (3, 369), (3, 370), (3, 371), (3, 372), (3, 373), (3, 374), (3, 375), (3, 376), (3, 377), (3, 378), (0, 0), (0, 0), (0, 0), (0, 0), (0, 0), (0, 0), (0, 0), (0, 0)]) rfl hP rfl 0 (by decide) (hts _ (wg_t kw_1432)) (fun _ h9 => h9) (cd := (3, 172)) rfl dMH_small_40 (fun v25 hv25 => ?_)
  obtain ⟨r25, rfl, kr25⟩ := (show ∃ r : Nat, v25 = .ref r ∧ T r = some 172 from hv25)
  refine mp_v (cx := []) (wr := []) hP hD hS hA [] [] rfl rfl rfl (by decide) (va_runV (As := []) (rest := []) F (N_MS_end l g _ T s24 pl hO hU r25 x30 x31 kr25 hx_30 hx_31 (by omega) (by omega)) (cwV 0 hts (wg_app (wg_c kw_1717 (wg_c kw_1630 (wg_c kw_1631 (wg_c kw_10 wg_n)))) kw_1632) rfl rfl rfl (by decide +kernel) ⟨by decide, by decide⟩) (pn_V (en_ok g) (ci := 9) (kn := 172) (fl := [(3, 173), (3, 174), (3, 175), (3, 176), (3, 177), (0, 0), (0, 0), (0, 0)]) hK hO kr25 rfl hP hD hS hA hEn [] rfl rfl rfl) rfl rfl hl.1 rfl (lv_room (Nat.le_of_ble_eq_true rfl)) dMH_small_43 ⟨by omega, by omega⟩) (fun  u25 H locs hu25 hP hD hS => ?_)
  obtain ⟨s25, pl⟩ := u25
  obtain ⟨⟨eq25, hFc25, ⟨x33, hx_33, hb_33⟩, ⟨x34, hx_34, hb_34⟩, -⟩, hO⟩ := hu25
  have hO : okn g T s25 pl := hO
  have hP : va_P g.1 vcl ([] ++ pl) _ := hP
  have hD : va_D _ ([] ++ pl) := hD
  have hFc25 : frm (M_MS_end) s24 s25 := hFc25
  have hb_33 : x33 = 0 := hb_33
  have hb_34 : x34 = x31 := hb_34
  replace hR := bnd_step hR eq25
  replace hE := bndP_step hE eq25
  have hF := frm_tr hF hFc25 (fun k hk => by unfold M_MS_end at hk; unfold M_MH_small_0; omega)
  have hf53 : s25.1 225 23 = nI 0 := fc_F hf45 hFc25 (by unfold M_MS_end; omega)
  have hf54 : s25.1 225 24 = nI 4 := fc_F hf46 hFc25 (by unfold M_MS_end; omega)
  have hf55 : s25.1 225 25 = nI 4 := fc_F hf47 hFc25 (by unfold M_MS_end; omega)
  have hf56 : s25.1 225 26 = nI 2 := fc_F hf48 hFc25 (by unfold M_MS_end; omega)
  have hf57 : s25.1 225 27 = nI 131072 := fc_F hf49 hFc25 (by unfold M_MS_end; omega)
  have hf58 : s25.1 225 28 = nI 95232 := fc_F hf50 hFc25 (by unfold M_MS_end; omega)
  have hf59 : s25.1 225 29 = nI 78 := fc_F hf51 hFc25 (by unfold M_MS_end; omega)
  have hf60 : s25.1 225 30 = nI 32 := fc_F hf52 hFc25 (by unfold M_MS_end; omega)
  refine W.widen (k := 0) (n := 0) (by omega) (by omega) ?_
  refine lv_iconst (v := nI 0) hx hb dMH_small_46 (by decide) ?_
  refine lv_istore (lv' := [(5, .int (nI 0)), (0, .ref h0), (1, .ref f), (2, .ref b), (3, .int (nI at_)), (4, .int wh)]) hx hb dMH_small_47 hl (by decide) rfl (fun ls hl => ?_)
  have lp21 : ∀ (n21 : Nat) (nn21 : Nat) (s26 : Sto) (ps21 : Nat) (pl : va_W) (ls : Array Slot) (H : Heap) (locs : List Loc), 0 = 0 → (nn21 ≤ 256) → (ps21 ≤ 136) → frm (M_MH_small_0 pf) s s26 → s26.1 225 23 = nI 0 → s26.1 225 24 = nI 4 → s26.1 225 25 = nI 4 → s26.1 225 26 = nI 2 → s26.1 225 27 = nI 131072 → s26.1 225 28 = nI 95232 → s26.1 225 29 = nI 78 → s26.1 225 30 = nI 32 → s26.1 172 6 = nI ps21 → s26.1 172 5 = nI x34 → E_MH_small_0_L0 pf n21 nn21 s26 → F_MH_small_0 pf pb n at_ wh s = F_MH_small_0_L0 pf n21 nn21 s26 → lv_has ls 9 [(5, .int (nI nn21)), (0, .ref h0), (1, .ref f)] → okn g T s26 pl → va_P g.1 vcl ([] ++ pl) H → va_D A ([] ++ pl) → va_S A s0.heap H locs → W p l e ({ frames := 4, cells := 0, slots := 0, locals := 90 } : Room) s0 m args below meth c H locs 0 0 (MQ below (va_Qv (fun (u : (Sto) × va_W) => (u.1 = F_MH_small_0 pf pb n at_ wh s ∧ frm (M_MH_small_0 pf) s u.1 ∧ True) ∧ okn g T u.1 u.2) (po g.1 vcl A (fun (u : (Sto) × va_W) => [] ++ u.2)) A) args s0 0 0 A) (F0 m 49 ls []) := by
    intro n21
    induction n21 with
    | zero =>
      intro nn21 s26 ps21 pl ls H locs hm21 hi21 hi22 hF hf61 hf62 hf63 hf64 hf65 hf66 hf67 hf68 hf69 hf70 hE hR hl hO hP hD hS
      refine lv_iload hx hb dMH_small_49 (lv_at hl 0 rfl) ?_
      refine lv_sipush (v := nI 256) hx hb dMH_small_51 (by decide) ?_
      refine mi_ge (tgt := 185) hx hb dMH_small_54 (by decide) (by omega) (by omega) (fun h21 => ?_) (fun h21 => absurd h21 (by have h9 : 256 ≤ nn21 := hE.1; omega))
      replace hE := hE.2
      exact mp_vret hx hb hr hlk hP hD hS (s26, pl) ⟨⟨hR.symm, hF, trivial⟩, hO⟩ [] rfl rfl rfl (by omega) (by omega) dMH_small_185
    | succ n21 ih21 =>
      intro nn21 s26 ps21 pl ls H locs hm21 hi21 hi22 hF hf71 hf72 hf73 hf74 hf75 hf76 hf77 hf78 hf79 hf80 hE hR hl hO hP hD hS
      refine lv_iload hx hb dMH_small_49 (lv_at hl 0 rfl) ?_
      refine lv_sipush (v := nI 256) hx hb dMH_small_51 (by decide) ?_
      refine mi_ge (tgt := 185) hx hb dMH_small_54 (by decide) (by omega) (by omega) (fun h22 => ?_) (fun h22 => ?_)
      · replace hR := hR.trans (if_pos h22)
        replace hE := iteP_pos h22 hE
        exact mp_vret hx hb hr hlk hP hD hS (s26, pl) ⟨⟨hR.symm, hF, trivial⟩, hO⟩ [] rfl rfl rfl (by omega) (by omega) dMH_small_185
      · replace hR := hR.trans (if_neg (Nat.not_le.mpr h22))
        replace hE := iteP_neg (Nat.not_le.mpr h22) hE
        refine lv_aload_n hx hb dMH_small_57 rfl (lv_at hl 1 rfl) ?_
        refine nw_get (C := "LatticeKeysModel$Hands") (TT := T_MH) (N := 31) hx hb hts (wg_ft i_MH) hown hK hO k_h0 (kn := 225) (ci := 12) (fl := [(3, 172), (3, 181), (3, 226), (3, 291), (3, 299), (3, 308), (3, 317), (3, 326), (3, 334), (3, 342), (3, 350), (3, 359), (3, 368), (3, 369), (3, 370), (3, 371), (3, 372), (3, 373), (3, 374), (3, 375), (3, 376), (3, 377), (3, 378), (0, 0), (0, 0), (0, 0), (0, 0), (0, 0), (0, 0), (0, 0), (0, 0)]) rfl hP rfl 0 (by decide) (hts _ (wg_t kw_1432)) (fun _ h9 => h9) (cd := (3, 172)) rfl dMH_small_58 (fun v26 hv26 => ?_)
        obtain ⟨r26, rfl, kr26⟩ := (show ∃ r : Nat, v26 = .ref r ∧ T r = some 172 from hv26)
        refine mp_i (cx := []) (wr := []) hP hD hS hA [] [] rfl rfl rfl (by decide) (va_runV (As := []) (rest := []) F (N_MS_next l g _ T s26 pl hO hU r26 ps21 x34 kr26 hf79 hf80 (by omega) (by omega)) (cwV 0 hts (wg_app (wg_c kw_1724 (wg_c kw_1638 (wg_c kw_1639 (wg_c kw_10 wg_n)))) kw_1640) rfl rfl rfl (by decide +kernel) ⟨by decide, by decide⟩) (pn_V (en_ok g) (ci := 9) (kn := 172) (fl := [(3, 173), (3, 174), (3, 175), (3, 176), (3, 177), (0, 0), (0, 0), (0, 0)]) hK hO kr26 rfl hP hD hS hA hEn [] rfl rfl rfl) rfl rfl hl.1 rfl (lv_room (Nat.le_of_ble_eq_true rfl)) dMH_small_61 ⟨by omega, by omega⟩) (fun r27 u26 H locs hu26 hP hD hS => ?_)
        obtain ⟨q21, pl⟩ := u26
        obtain ⟨⟨eq26, rfl, hFc26, ⟨x38, hx_38, hb_38⟩, ⟨x36, hx_36, hb_36⟩, ⟨x37, hx_37, hb_37⟩, -⟩, hO⟩ := hu26
        have hO : okn g T q21.2 pl := hO
        have hP : va_P g.1 vcl ([] ++ pl) _ := hP
        have hD : va_D _ ([] ++ pl) := hD
        have hFc26 : frm (M_MS_next) s26 q21.2 := hFc26
        have hb_36 : x36 ≤ x34 := hb_36
        have hb_37 : x37 = x34 := hb_37
        have hb_38 : x38 < 256 := hb_38
        replace hR := bnd_step hR eq26
        replace hE := bndP_step hE eq26
        have hF := frm_tr hF hFc26 (fun k hk => by unfold M_MS_next at hk; unfold M_MH_small_0; omega)
        have hf81 : q21.2.1 225 23 = nI 0 := fc_F hf71 hFc26 (by unfold M_MS_next; omega)
        have hf82 : q21.2.1 225 24 = nI 4 := fc_F hf72 hFc26 (by unfold M_MS_next; omega)
        have hf83 : q21.2.1 225 25 = nI 4 := fc_F hf73 hFc26 (by unfold M_MS_next; omega)
        have hf84 : q21.2.1 225 26 = nI 2 := fc_F hf74 hFc26 (by unfold M_MS_next; omega)
        have hf85 : q21.2.1 225 27 = nI 131072 := fc_F hf75 hFc26 (by unfold M_MS_next; omega)
        have hf86 : q21.2.1 225 28 = nI 95232 := fc_F hf76 hFc26 (by unfold M_MS_next; omega)
        have hf87 : q21.2.1 225 29 = nI 78 := fc_F hf77 hFc26 (by unfold M_MS_next; omega)
        have hf88 : q21.2.1 225 30 = nI 32 := fc_F hf78 hFc26 (by unfold M_MS_next; omega)
        obtain ⟨z21, ez21, hz21, hz22⟩ := cl_of (b := 2147483648) hx_38 (by omega) (by decide)
        replace hR := bnd_step hR ez21
        replace hE := bndP_step hE ez21
        refine mi_as hz21 ?_
        refine W.widen (k := 0) (n := 0) (by omega) (by omega) ?_
        refine lv_istore (lv' := [(6, .int (nI z21)), (5, .int (nI nn21)), (0, .ref h0), (1, .ref f)]) hx hb dMH_small_64 hl (by decide) rfl (fun ls hl => ?_)
        refine lv_iconst (v := nI 0) hx hb dMH_small_66 (by decide) ?_
        refine lv_istore (lv' := [(7, .int (nI 0)), (6, .int (nI z21)), (5, .int (nI nn21)), (0, .ref h0), (1, .ref f)]) hx hb dMH_small_67 hl (by decide) rfl (fun ls hl => ?_)
        refine lv_iload hx hb dMH_small_69 (lv_at hl 0 rfl) ?_
        refine lv_iconst (v := nI 2) hx hb dMH_small_71 (by decide) ?_
        refine mi_ge (tgt := 182) hx hb dMH_small_72 (by decide) (by omega) (by omega) (fun h23 => absurd h23 (by omega)) (fun h23 => ?_)
        refine lv_iload hx hb dMH_small_75 (lv_at hl 2 rfl) ?_
        refine lv_sipush (v := nI 256) hx hb dMH_small_77 (by decide) ?_
        refine mi_ge (tgt := 182) hx hb dMH_small_80 (by decide) (by omega) (by omega) (fun h24 => ?_) (fun h24 => ?_)
        · replace hR := hR.trans (if_pos h24)
          replace hE := iteP_pos h24 hE
          refine lv_goto (tgt := 49) hx hb dMH_small_182 (by decide) ?_
          exact ih21 nn21 q21.2 x36 pl ls H locs (by omega) (by omega) (by omega) hF hf81 hf82 hf83 hf84 hf85 hf86 hf87 hf88 hx_36 (by have h9 := hx_37; rw [show x37 = x34 by omega] at h9; exact h9) hE hR (lv_sub hl [2, 3, 4] rfl) hO hP hD hS
        · replace hR := hR.trans (if_neg (Nat.not_le.mpr h24))
          replace hE := iteP_neg (Nat.not_le.mpr h24) hE
          refine lv_iload hx hb dMH_small_83 (lv_at hl 0 rfl) ?_
          refine lv_if_ne (tgt := 96) hx hb dMH_small_85 (by decide) (fun h25 => absurd h25 (by decide)) (fun h25 => ?_)
          refine lv_iload hx hb dMH_small_88 (lv_at hl 1 rfl) ?_
          refine lv_bipush (v := nI 16) hx hb dMH_small_90 (by decide) ?_
          refine mi_irem hx hb dMH_small_92 (by omega) (by omega) (by omega) ?_
          refine lv_goto (tgt := 101) hx hb dMH_small_93 (by decide) ?_
          refine lv_istore (lv' := [(8, .int (nI (z21 % 16))), (7, .int (nI 0)), (6, .int (nI z21)), (5, .int (nI nn21)), (0, .ref h0), (1, .ref f)]) hx hb dMH_small_101 hl (by decide) rfl (fun ls hl => ?_)
          refine lv_aload_n hx hb dMH_small_103 rfl (lv_at hl 4 rfl) ?_
          refine nw_get (C := "LatticeKeysModel$Hands") (TT := T_MH) (N := 31) hx hb hts (wg_ft i_MH) hown hK hO k_h0 (kn := 225) (ci := 12) (fl := [(3, 172), (3, 181), (3, 226), (3, 291), (3, 299), (3, 308), (3, 317), (3, 326), (3, 334), (3, 342), (3, 350), (3, 359), (3, 368), (3, 369), (3, 370), (3, 371), (3, 372), (3, 373), (3, 374), (3, 375), (3, 376), (3, 377), (3, 378), (0, 0), (0, 0), (0, 0), (0, 0), (0, 0), (0, 0), (0, 0), (0, 0)]) rfl hP rfl 26 (by decide) (hts _ (wg_t kw_1458)) (fun _ h9 => h9) (cd := (0, 0)) rfl dMH_small_104 (fun v27 hv27 => ?_)
          obtain rfl := (show v27 = .int (q21.2.1 225 26) from hv27)
          obtain ⟨z22, ez22, hz23, hz24⟩ := cl_of (b := 2147483648) hf84 (by omega) (by decide)
          replace hR := bnd_step hR ez22
          replace hE := bndP_step hE ez22
          refine mi_as hz23 ?_
          subst hz24
          refine lv_iconst (v := nI 2) hx hb dMH_small_107 (by decide) ?_
          refine mi_ne (tgt := 121) hx hb dMH_small_108 (by decide) (by omega) (by omega) (fun h26 => absurd h26 (by omega)) (fun h26 => ?_)
          refine lv_iload hx hb dMH_small_111 (lv_at hl 0 rfl) ?_
          refine lv_bipush (v := nI 14) hx hb dMH_small_113 (by decide) ?_
          refine mi_le (tgt := 131) hx hb dMH_small_115 (by decide) (by omega) (by omega) (fun h27 => ?_) (fun h27 => ?_)
          · replace hR := hR.trans (if_pos h27)
            replace hE := iteP_pos h27 hE
            refine lv_aload_n hx hb dMH_small_131 rfl (lv_at hl 4 rfl) ?_
            refine nw_get (C := "LatticeKeysModel$Hands") (TT := T_MH) (N := 31) hx hb hts (wg_ft i_MH) hown hK hO k_h0 (kn := 225) (ci := 12) (fl := [(3, 172), (3, 181), (3, 226), (3, 291), (3, 299), (3, 308), (3, 317), (3, 326), (3, 334), (3, 342), (3, 350), (3, 359), (3, 368), (3, 369), (3, 370), (3, 371), (3, 372), (3, 373), (3, 374), (3, 375), (3, 376), (3, 377), (3, 378), (0, 0), (0, 0), (0, 0), (0, 0), (0, 0), (0, 0), (0, 0), (0, 0)]) rfl hP rfl 26 (by decide) (hts _ (wg_t kw_1458)) (fun _ h9 => h9) (cd := (0, 0)) rfl dMH_small_132 (fun v28 hv28 => ?_)
            obtain rfl := (show v28 = .int (q21.2.1 225 26) from hv28)
            obtain ⟨z23, ez23, hz25, hz26⟩ := cl_of (b := 2147483648) hf84 (by omega) (by decide)
            replace hR := bnd_step hR ez23
            replace hE := bndP_step hE ez23
            refine mi_as hz25 ?_
            subst hz26
            refine lv_iconst (v := nI 2) hx hb dMH_small_135 (by decide) ?_
            refine mi_ne (tgt := 148) hx hb dMH_small_136 (by decide) (by omega) (by omega) (fun h28 => absurd h28 (by omega)) (fun h28 => ?_)
            refine lv_iconst (v := nI 2) hx hb dMH_small_139 (by decide) ?_
            refine lv_iload hx hb dMH_small_140 (lv_at hl 0 rfl) ?_
            refine lv_iconst (v := nI 5) hx hb dMH_small_142 (by decide) ?_
            refine mi_irem hx hb dMH_small_143 (by omega) (by omega) (by omega) ?_
            refine lv_isub hx hb dMH_small_144 ?_
            refine lv_goto (tgt := 152) hx hb dMH_small_145 (by decide) ?_
            refine mi_eqv (fun z24 ez24 => ?_)
            replace hR := bnd_step hR ez24
            replace hE := bndP_step hE ez24
            refine lv_istore (lv' := [(8, .int z24), (7, .int (nI 0)), (6, .int (nI z21)), (5, .int (nI nn21)), (0, .ref h0), (1, .ref f)]) hx hb dMH_small_152 hl (by decide) rfl (fun ls hl => ?_)
            refine lv_aload_n hx hb dMH_small_154 rfl (lv_at hl 5 rfl) ?_
            refine lv_iload hx hb dMH_small_155 (lv_at hl 3 rfl) ?_
            refine lv_iload hx hb dMH_small_157 (lv_at hl 0 rfl) ?_
            refine lv_if_ge (tgt := 170) hx hb dMH_small_159 (by decide) (fun h29 => ?_) (fun h29 => ?_)
            · replace hR := hR.trans (if_pos h29)
              replace hE := iteP_pos h29 hE
              refine lv_iload hx hb dMH_small_170 (lv_at hl 0 rfl) ?_
              refine nw_iast hx hb hK hO hU k_f (k := pf) n_f hP hD hS (by omega) (by omega) dMH_small_172 (fun s27 pl H locs es21 hO hP hD hS => ?_)
              replace hR := bnd_step hR es21
              replace hE := bndP_step hE es21
              have hF := frm_sI hF es21 (by unfold M_MH_small_0; omega)
              have hf89 : s27.1 225 23 = nI 0 := fc_ne hf81 es21 (by omega)
              have hf90 : s27.1 225 24 = nI 4 := fc_ne hf82 es21 (by omega)
              have hf91 : s27.1 225 25 = nI 4 := fc_ne hf83 es21 (by omega)
              have hf92 : s27.1 225 26 = nI 2 := fc_ne hf84 es21 (by omega)
              have hf93 : s27.1 225 27 = nI 131072 := fc_ne hf85 es21 (by omega)
              have hf94 : s27.1 225 28 = nI 95232 := fc_ne hf86 es21 (by omega)
              have hf95 : s27.1 225 29 = nI 78 := fc_ne hf87 es21 (by omega)
              have hf96 : s27.1 225 30 = nI 32 := fc_ne hf88 es21 (by omega)
              have hf97 : s27.1 172 6 = nI x36 := fc_ne hx_36 es21 (by omega)
              have hf98 : s27.1 172 5 = nI x37 := fc_ne hx_37 es21 (by omega)
              refine mi_iinc (k := 3) (x := nn21) (d := 1) (y := nn21 + 1) (lv' := [(5, .int (nI (nn21 + 1))), (8, .int z24), (7, .int (nI 0)), (6, .int (nI z21)), (0, .ref h0), (1, .ref f)]) hx hb dMH_small_173 hl rfl (by decide) rfl (by decide) rfl (fun ls hl => ?_)
              refine mi_iinc (k := 2) (x := 0) (d := 1) (y := 1) (lv' := [(7, .int (nI 1)), (5, .int (nI (nn21 + 1))), (8, .int z24), (6, .int (nI z21)), (0, .ref h0), (1, .ref f)]) hx hb dMH_small_176 hl rfl (by decide) rfl (by decide) rfl (fun ls hl => ?_)
              refine lv_goto (tgt := 69) hx hb dMH_small_179 (by decide) ?_
              refine lv_iload hx hb dMH_small_69 (lv_at hl 0 rfl) ?_
              refine lv_iconst (v := nI 2) hx hb dMH_small_71 (by decide) ?_
              refine mi_ge (tgt := 182) hx hb dMH_small_72 (by decide) (by omega) (by omega) (fun h30 => absurd h30 (by omega)) (fun h30 => ?_)
              refine lv_iload hx hb dMH_small_75 (lv_at hl 1 rfl) ?_
              refine lv_sipush (v := nI 256) hx hb dMH_small_77 (by decide) ?_
              refine mi_ge (tgt := 182) hx hb dMH_small_80 (by decide) (by omega) (by omega) (fun h31 => ?_) (fun h31 => ?_)
              · replace hR := hR.trans (if_pos h31)
                replace hE := iteP_pos h31 hE
                refine lv_goto (tgt := 49) hx hb dMH_small_182 (by decide) ?_
                exact ih21 (nn21 + 1) s27 x36 pl ls H locs (by omega) (by omega) (by omega) hF hf89 hf90 hf91 hf92 hf93 hf94 hf95 hf96 hf97 (by have h9 := hf98; rw [show x37 = x34 by omega] at h9; exact h9) hE hR (lv_sub hl [1, 4, 5] rfl) hO hP hD hS
              · replace hR := hR.trans (if_neg (Nat.not_le.mpr h31))
                replace hE := iteP_neg (Nat.not_le.mpr h31) hE
                refine lv_iload hx hb dMH_small_83 (lv_at hl 0 rfl) ?_
                refine lv_if_ne (tgt := 96) hx hb dMH_small_85 (by decide) (fun h32 => ?_) (fun h32 => absurd h32 (by decide))
                refine lv_iload hx hb dMH_small_96 (lv_at hl 3 rfl) ?_
                refine lv_bipush (v := nI 16) hx hb dMH_small_98 (by decide) ?_
                refine mi_idiv hx hb dMH_small_100 (by omega) (by omega) (by omega) ?_
                refine lv_istore (lv' := [(8, .int (nI (z21 / 16))), (7, .int (nI 1)), (5, .int (nI (nn21 + 1))), (6, .int (nI z21)), (0, .ref h0), (1, .ref f)]) hx hb dMH_small_101 hl (by decide) rfl (fun ls hl => ?_)
                refine lv_aload_n hx hb dMH_small_103 rfl (lv_at hl 4 rfl) ?_
                refine nw_get (C := "LatticeKeysModel$Hands") (TT := T_MH) (N := 31) hx hb hts (wg_ft i_MH) hown hK hO k_h0 (kn := 225) (ci := 12) (fl := [(3, 172), (3, 181), (3, 226), (3, 291), (3, 299), (3, 308), (3, 317), (3, 326), (3, 334), (3, 342), (3, 350), (3, 359), (3, 368), (3, 369), (3, 370), (3, 371), (3, 372), (3, 373), (3, 374), (3, 375), (3, 376), (3, 377), (3, 378), (0, 0), (0, 0), (0, 0), (0, 0), (0, 0), (0, 0), (0, 0), (0, 0)]) rfl hP rfl 26 (by decide) (hts _ (wg_t kw_1458)) (fun _ h9 => h9) (cd := (0, 0)) rfl dMH_small_104 (fun v29 hv29 => ?_)
                obtain rfl := (show v29 = .int (s27.1 225 26) from hv29)
                obtain ⟨z25, ez25, hz27, hz28⟩ := cl_of (b := 2147483648) hf92 (by omega) (by decide)
                replace hR := bnd_step hR ez25
                replace hE := bndP_step hE ez25
                refine mi_as hz27 ?_
                subst hz28
                refine lv_iconst (v := nI 2) hx hb dMH_small_107 (by decide) ?_
                refine mi_ne (tgt := 121) hx hb dMH_small_108 (by decide) (by omega) (by omega) (fun h33 => absurd h33 (by omega)) (fun h33 => ?_)
                refine lv_iload hx hb dMH_small_111 (lv_at hl 0 rfl) ?_
                refine lv_bipush (v := nI 14) hx hb dMH_small_113 (by decide) ?_
                refine mi_le (tgt := 131) hx hb dMH_small_115 (by decide) (by omega) (by omega) (fun h34 => ?_) (fun h34 => ?_)
                · replace hR := hR.trans (if_pos h34)
                  replace hE := iteP_pos h34 hE
                  refine lv_aload_n hx hb dMH_small_131 rfl (lv_at hl 4 rfl) ?_
                  refine nw_get (C := "LatticeKeysModel$Hands") (TT := T_MH) (N := 31) hx hb hts (wg_ft i_MH) hown hK hO k_h0 (kn := 225) (ci := 12) (fl := [(3, 172), (3, 181), (3, 226), (3, 291), (3, 299), (3, 308), (3, 317), (3, 326), (3, 334), (3, 342), (3, 350), (3, 359), (3, 368), (3, 369), (3, 370), (3, 371), (3, 372), (3, 373), (3, 374), (3, 375), (3, 376), (3, 377), (3, 378), (0, 0), (0, 0), (0, 0), (0, 0), (0, 0), (0, 0), (0, 0), (0, 0)]) rfl hP rfl 26 (by decide) (hts _ (wg_t kw_1458)) (fun _ h9 => h9) (cd := (0, 0)) rfl dMH_small_132 (fun v30 hv30 => ?_)
                  obtain rfl := (show v30 = .int (s27.1 225 26) from hv30)
                  obtain ⟨z26, ez26, hz29, hz30⟩ := cl_of (b := 2147483648) hf92 (by omega) (by decide)
                  replace hR := bnd_step hR ez26
                  replace hE := bndP_step hE ez26
                  refine mi_as hz29 ?_
                  subst hz30
                  refine lv_iconst (v := nI 2) hx hb dMH_small_135 (by decide) ?_
                  refine mi_ne (tgt := 148) hx hb dMH_small_136 (by decide) (by omega) (by omega) (fun h35 => absurd h35 (by omega)) (fun h35 => ?_)
                  refine lv_iconst (v := nI 2) hx hb dMH_small_139 (by decide) ?_
                  refine lv_iload hx hb dMH_small_140 (lv_at hl 0 rfl) ?_
                  refine lv_iconst (v := nI 5) hx hb dMH_small_142 (by decide) ?_
                  refine mi_irem hx hb dMH_small_143 (by omega) (by omega) (by omega) ?_
                  refine lv_isub hx hb dMH_small_144 ?_
                  refine lv_goto (tgt := 152) hx hb dMH_small_145 (by decide) ?_
                  refine mi_eqv (fun z27 ez27 => ?_)
                  replace hR := bnd_step hR ez27
                  replace hE := bndP_step hE ez27
                  refine lv_istore (lv' := [(8, .int z27), (7, .int (nI 1)), (5, .int (nI (nn21 + 1))), (6, .int (nI z21)), (0, .ref h0), (1, .ref f)]) hx hb dMH_small_152 hl (by decide) rfl (fun ls hl => ?_)
                  refine lv_aload_n hx hb dMH_small_154 rfl (lv_at hl 5 rfl) ?_
                  refine lv_iload hx hb dMH_small_155 (lv_at hl 2 rfl) ?_
                  refine lv_iload hx hb dMH_small_157 (lv_at hl 0 rfl) ?_
                  refine lv_if_ge (tgt := 170) hx hb dMH_small_159 (by decide) (fun h36 => ?_) (fun h36 => ?_)
                  · replace hR := hR.trans (if_pos h36)
                    replace hE := iteP_pos h36 hE
                    refine lv_iload hx hb dMH_small_170 (lv_at hl 0 rfl) ?_
                    refine nw_iast hx hb hK hO hU k_f (k := pf) n_f hP hD hS (by omega) (by omega) dMH_small_172 (fun s28 pl H locs es22 hO hP hD hS => ?_)
                    replace hR := bnd_step hR es22
                    replace hE := bndP_step hE es22
                    have hF := frm_sI hF es22 (by unfold M_MH_small_0; omega)
                    have hf99 : s28.1 225 23 = nI 0 := fc_ne hf89 es22 (by omega)
                    have hf100 : s28.1 225 24 = nI 4 := fc_ne hf90 es22 (by omega)
                    have hf101 : s28.1 225 25 = nI 4 := fc_ne hf91 es22 (by omega)
                    have hf102 : s28.1 225 26 = nI 2 := fc_ne hf92 es22 (by omega)
                    have hf103 : s28.1 225 27 = nI 131072 := fc_ne hf93 es22 (by omega)
                    have hf104 : s28.1 225 28 = nI 95232 := fc_ne hf94 es22 (by omega)
                    have hf105 : s28.1 225 29 = nI 78 := fc_ne hf95 es22 (by omega)
                    have hf106 : s28.1 225 30 = nI 32 := fc_ne hf96 es22 (by omega)
                    have hf107 : s28.1 172 6 = nI x36 := fc_ne hf97 es22 (by omega)
                    have hf108 : s28.1 172 5 = nI x37 := fc_ne hf98 es22 (by omega)
                    refine mi_iinc (k := 2) (x := nn21 + 1) (d := 1) (y := nn21 + 1 + 1) (lv' := [(5, .int (nI (nn21 + 1 + 1))), (8, .int z27), (7, .int (nI 1)), (6, .int (nI z21)), (0, .ref h0), (1, .ref f)]) hx hb dMH_small_173 hl rfl (by decide) rfl (by decide) rfl (fun ls hl => ?_)
                    refine mi_iinc (k := 2) (x := 1) (d := 1) (y := 2) (lv' := [(7, .int (nI 2)), (5, .int (nI (nn21 + 1 + 1))), (8, .int z27), (6, .int (nI z21)), (0, .ref h0), (1, .ref f)]) hx hb dMH_small_176 hl rfl (by decide) rfl (by decide) rfl (fun ls hl => ?_)
                    refine lv_goto (tgt := 69) hx hb dMH_small_179 (by decide) ?_
                    refine lv_iload hx hb dMH_small_69 (lv_at hl 0 rfl) ?_
                    refine lv_iconst (v := nI 2) hx hb dMH_small_71 (by decide) ?_
                    refine mi_ge (tgt := 182) hx hb dMH_small_72 (by decide) (by omega) (by omega) (fun h37 => ?_) (fun h37 => absurd h37 (by omega))
                    refine lv_goto (tgt := 49) hx hb dMH_small_182 (by decide) ?_
                    exact ih21 (nn21 + 1 + 1) s28 x36 pl ls H locs (by omega) (by omega) (by omega) hF hf99 hf100 hf101 hf102 hf103 hf104 hf105 hf106 hf107 (by have h9 := hf108; rw [show x37 = x34 by omega] at h9; exact h9) hE hR (lv_sub hl [1, 4, 5] rfl) hO hP hD hS
                  · replace hR := hR.trans (if_neg h36)
                    replace hE := iteP_neg h36 hE
                    refine lv_iload hx hb dMH_small_162 (lv_at hl 0 rfl) ?_
                    refine lv_ldc (v := 8380417) hx hb hown (hts _ (wg_t kw_1429)) dMH_small_164 ?_
                    refine mi_as (show (8380417 : Int32) = nI 8380417 by decide) ?_
                    refine lv_iadd hx hb dMH_small_166 ?_
                    refine lv_goto (tgt := 172) hx hb dMH_small_167 (by decide) ?_
                    refine nw_iast hx hb hK hO hU k_f (k := pf) n_f hP hD hS (by omega) (by omega) dMH_small_172 (fun s29 pl H locs es23 hO hP hD hS => ?_)
                    replace hR := bnd_step hR es23
                    replace hE := bndP_step hE es23
                    have hF := frm_sI hF es23 (by unfold M_MH_small_0; omega)
                    have hf109 : s29.1 225 23 = nI 0 := fc_ne hf89 es23 (by omega)
                    have hf110 : s29.1 225 24 = nI 4 := fc_ne hf90 es23 (by omega)
                    have hf111 : s29.1 225 25 = nI 4 := fc_ne hf91 es23 (by omega)
                    have hf112 : s29.1 225 26 = nI 2 := fc_ne hf92 es23 (by omega)
                    have hf113 : s29.1 225 27 = nI 131072 := fc_ne hf93 es23 (by omega)
                    have hf114 : s29.1 225 28 = nI 95232 := fc_ne hf94 es23 (by omega)
                    have hf115 : s29.1 225 29 = nI 78 := fc_ne hf95 es23 (by omega)
                    have hf116 : s29.1 225 30 = nI 32 := fc_ne hf96 es23 (by omega)
                    have hf117 : s29.1 172 6 = nI x36 := fc_ne hf97 es23 (by omega)
                    have hf118 : s29.1 172 5 = nI x37 := fc_ne hf98 es23 (by omega)
                    refine mi_iinc (k := 2) (x := nn21 + 1) (d := 1) (y := nn21 + 1 + 1) (lv' := [(5, .int (nI (nn21 + 1 + 1))), (8, .int z27), (7, .int (nI 1)), (6, .int (nI z21)), (0, .ref h0), (1, .ref f)]) hx hb dMH_small_173 hl rfl (by decide) rfl (by decide) rfl (fun ls hl => ?_)
                    refine mi_iinc (k := 2) (x := 1) (d := 1) (y := 2) (lv' := [(7, .int (nI 2)), (5, .int (nI (nn21 + 1 + 1))), (8, .int z27), (6, .int (nI z21)), (0, .ref h0), (1, .ref f)]) hx hb dMH_small_176 hl rfl (by decide) rfl (by decide) rfl (fun ls hl => ?_)
                    refine lv_goto (tgt := 69) hx hb dMH_small_179 (by decide) ?_
                    refine lv_iload hx hb dMH_small_69 (lv_at hl 0 rfl) ?_
                    refine lv_iconst (v := nI 2) hx hb dMH_small_71 (by decide) ?_
                    refine mi_ge (tgt := 182) hx hb dMH_small_72 (by decide) (by omega) (by omega) (fun h38 => ?_) (fun h38 => absurd h38 (by omega))
                    refine lv_goto (tgt := 49) hx hb dMH_small_182 (by decide) ?_
                    exact ih21 (nn21 + 1 + 1) s29 x36 pl ls H locs (by omega) (by omega) (by omega) hF hf109 hf110 hf111 hf112 hf113 hf114 hf115 hf116 hf117 (by have h9 := hf118; rw [show x37 = x34 by omega] at h9; exact h9) hE hR (lv_sub hl [1, 4, 5] rfl) hO hP hD hS
                · replace hR := hR.trans (if_neg (Nat.not_le.mpr h34))
                  replace hE := iteP_neg (Nat.not_le.mpr h34) hE
                  refine lv_goto (tgt := 176) hx hb dMH_small_118 (by decide) ?_
                  refine mi_iinc (k := 1) (x := 1) (d := 1) (y := 2) (lv' := [(7, .int (nI 2)), (8, .int (nI (z21 / 16))), (5, .int (nI (nn21 + 1))), (6, .int (nI z21)), (0, .ref h0), (1, .ref f)]) hx hb dMH_small_176 hl rfl (by decide) rfl (by decide) rfl (fun ls hl => ?_)
                  refine lv_goto (tgt := 69) hx hb dMH_small_179 (by decide) ?_
                  refine lv_iload hx hb dMH_small_69 (lv_at hl 0 rfl) ?_
                  refine lv_iconst (v := nI 2) hx hb dMH_small_71 (by decide) ?_
                  refine mi_ge (tgt := 182) hx hb dMH_small_72 (by decide) (by omega) (by omega) (fun h39 => ?_) (fun h39 => absurd h39 (by omega))
                  refine lv_goto (tgt := 49) hx hb dMH_small_182 (by decide) ?_
                  exact ih21 (nn21 + 1) s27 x36 pl ls H locs (by omega) (by omega) (by omega) hF hf89 hf90 hf91 hf92 hf93 hf94 hf95 hf96 hf97 (by have h9 := hf98; rw [show x37 = x34 by omega] at h9; exact h9) hE hR (lv_sub hl [2, 4, 5] rfl) hO hP hD hS
            · replace hR := hR.trans (if_neg h29)
              replace hE := iteP_neg h29 hE
              refine lv_iload hx hb dMH_small_162 (lv_at hl 0 rfl) ?_
              refine lv_ldc (v := 8380417) hx hb hown (hts _ (wg_t kw_1429)) dMH_small_164 ?_
              refine mi_as (show (8380417 : Int32) = nI 8380417 by decide) ?_
              refine lv_iadd hx hb dMH_small_166 ?_
              refine lv_goto (tgt := 172) hx hb dMH_small_167 (by decide) ?_
              refine nw_iast hx hb hK hO hU k_f (k := pf) n_f hP hD hS (by omega) (by omega) dMH_small_172 (fun s30 pl H locs es24 hO hP hD hS => ?_)
              replace hR := bnd_step hR es24
              replace hE := bndP_step hE es24
              have hF := frm_sI hF es24 (by unfold M_MH_small_0; omega)
              have hf119 : s30.1 225 23 = nI 0 := fc_ne hf81 es24 (by omega)
              have hf120 : s30.1 225 24 = nI 4 := fc_ne hf82 es24 (by omega)
              have hf121 : s30.1 225 25 = nI 4 := fc_ne hf83 es24 (by omega)
              have hf122 : s30.1 225 26 = nI 2 := fc_ne hf84 es24 (by omega)
              have hf123 : s30.1 225 27 = nI 131072 := fc_ne hf85 es24 (by omega)
              have hf124 : s30.1 225 28 = nI 95232 := fc_ne hf86 es24 (by omega)
              have hf125 : s30.1 225 29 = nI 78 := fc_ne hf87 es24 (by omega)
              have hf126 : s30.1 225 30 = nI 32 := fc_ne hf88 es24 (by omega)
              have hf127 : s30.1 172 6 = nI x36 := fc_ne hx_36 es24 (by omega)
              have hf128 : s30.1 172 5 = nI x37 := fc_ne hx_37 es24 (by omega)
              refine mi_iinc (k := 3) (x := nn21) (d := 1) (y := nn21 + 1) (lv' := [(5, .int (nI (nn21 + 1))), (8, .int z24), (7, .int (nI 0)), (6, .int (nI z21)), (0, .ref h0), (1, .ref f)]) hx hb dMH_small_173 hl rfl (by decide) rfl (by decide) rfl (fun ls hl => ?_)
              refine mi_iinc (k := 2) (x := 0) (d := 1) (y := 1) (lv' := [(7, .int (nI 1)), (5, .int (nI (nn21 + 1))), (8, .int z24), (6, .int (nI z21)), (0, .ref h0), (1, .ref f)]) hx hb dMH_small_176 hl rfl (by decide) rfl (by decide) rfl (fun ls hl => ?_)
              refine lv_goto (tgt := 69) hx hb dMH_small_179 (by decide) ?_
              refine lv_iload hx hb dMH_small_69 (lv_at hl 0 rfl) ?_
              refine lv_iconst (v := nI 2) hx hb dMH_small_71 (by decide) ?_
              refine mi_ge (tgt := 182) hx hb dMH_small_72 (by decide) (by omega) (by omega) (fun h40 => absurd h40 (by omega)) (fun h40 => ?_)
              refine lv_iload hx hb dMH_small_75 (lv_at hl 1 rfl) ?_
              refine lv_sipush (v := nI 256) hx hb dMH_small_77 (by decide) ?_
              refine mi_ge (tgt := 182) hx hb dMH_small_80 (by decide) (by omega) (by omega) (fun h41 => ?_) (fun h41 => ?_)
              · replace hR := hR.trans (if_pos h41)
                replace hE := iteP_pos h41 hE
                refine lv_goto (tgt := 49) hx hb dMH_small_182 (by decide) ?_
                exact ih21 (nn21 + 1) s30 x36 pl ls H locs (by omega) (by omega) (by omega) hF hf119 hf120 hf121 hf122 hf123 hf124 hf125 hf126 hf127 (by have h9 := hf128; rw [show x37 = x34 by omega] at h9; exact h9) hE hR (lv_sub hl [1, 4, 5] rfl) hO hP hD hS
              · replace hR := hR.trans (if_neg (Nat.not_le.mpr h41))
                replace hE := iteP_neg (Nat.not_le.mpr h41) hE
                refine lv_iload hx hb dMH_small_83 (lv_at hl 0 rfl) ?_
                refine lv_if_ne (tgt := 96) hx hb dMH_small_85 (by decide) (fun h42 => ?_) (fun h42 => absurd h42 (by decide))
                refine lv_iload hx hb dMH_small_96 (lv_at hl 3 rfl) ?_
                refine lv_bipush (v := nI 16) hx hb dMH_small_98 (by decide) ?_
                refine mi_idiv hx hb dMH_small_100 (by omega) (by omega) (by omega) ?_
                refine lv_istore (lv' := [(8, .int (nI (z21 / 16))), (7, .int (nI 1)), (5, .int (nI (nn21 + 1))), (6, .int (nI z21)), (0, .ref h0), (1, .ref f)]) hx hb dMH_small_101 hl (by decide) rfl (fun ls hl => ?_)
                refine lv_aload_n hx hb dMH_small_103 rfl (lv_at hl 4 rfl) ?_
                refine nw_get (C := "LatticeKeysModel$Hands") (TT := T_MH) (N := 31) hx hb hts (wg_ft i_MH) hown hK hO k_h0 (kn := 225) (ci := 12) (fl := [(3, 172), (3, 181), (3, 226), (3, 291), (3, 299), (3, 308), (3, 317), (3, 326), (3, 334), (3, 342), (3, 350), (3, 359), (3, 368), (3, 369), (3, 370), (3, 371), (3, 372), (3, 373), (3, 374), (3, 375), (3, 376), (3, 377), (3, 378), (0, 0), (0, 0), (0, 0), (0, 0), (0, 0), (0, 0), (0, 0), (0, 0)]) rfl hP rfl 26 (by decide) (hts _ (wg_t kw_1458)) (fun _ h9 => h9) (cd := (0, 0)) rfl dMH_small_104 (fun v31 hv31 => ?_)
                obtain rfl := (show v31 = .int (s30.1 225 26) from hv31)
                obtain ⟨z28, ez28, hz31, hz32⟩ := cl_of (b := 2147483648) hf122 (by omega) (by decide)
                replace hR := bnd_step hR ez28
                replace hE := bndP_step hE ez28
                refine mi_as hz31 ?_
                subst hz32
                refine lv_iconst (v := nI 2) hx hb dMH_small_107 (by decide) ?_
                refine mi_ne (tgt := 121) hx hb dMH_small_108 (by decide) (by omega) (by omega) (fun h43 => absurd h43 (by omega)) (fun h43 => ?_)
                refine lv_iload hx hb dMH_small_111 (lv_at hl 0 rfl) ?_
                refine lv_bipush (v := nI 14) hx hb dMH_small_113 (by decide) ?_
                refine mi_le (tgt := 131) hx hb dMH_small_115 (by decide) (by omega) (by omega) (fun h44 => ?_) (fun h44 => ?_)
                · replace hR := hR.trans (if_pos h44)
                  replace hE := iteP_pos h44 hE
                  refine lv_aload_n hx hb dMH_small_131 rfl (lv_at hl 4 rfl) ?_
                  refine nw_get (C := "LatticeKeysModel$Hands") (TT := T_MH) (N := 31) hx hb hts (wg_ft i_MH) hown hK hO k_h0 (kn := 225) (ci := 12) (fl := [(3, 172), (3, 181), (3, 226), (3, 291), (3, 299), (3, 308), (3, 317), (3, 326), (3, 334), (3, 342), (3, 350), (3, 359), (3, 368), (3, 369), (3, 370), (3, 371), (3, 372), (3, 373), (3, 374), (3, 375), (3, 376), (3, 377), (3, 378), (0, 0), (0, 0), (0, 0), (0, 0), (0, 0), (0, 0), (0, 0), (0, 0)]) rfl hP rfl 26 (by decide) (hts _ (wg_t kw_1458)) (fun _ h9 => h9) (cd := (0, 0)) rfl dMH_small_132 (fun v32 hv32 => ?_)
                  obtain rfl := (show v32 = .int (s30.1 225 26) from hv32)
                  obtain ⟨z29, ez29, hz33, hz34⟩ := cl_of (b := 2147483648) hf122 (by omega) (by decide)
                  replace hR := bnd_step hR ez29
                  replace hE := bndP_step hE ez29
                  refine mi_as hz33 ?_
                  subst hz34
                  refine lv_iconst (v := nI 2) hx hb dMH_small_135 (by decide) ?_
                  refine mi_ne (tgt := 148) hx hb dMH_small_136 (by decide) (by omega) (by omega) (fun h45 => absurd h45 (by omega)) (fun h45 => ?_)
                  refine lv_iconst (v := nI 2) hx hb dMH_small_139 (by decide) ?_
                  refine lv_iload hx hb dMH_small_140 (lv_at hl 0 rfl) ?_
                  refine lv_iconst (v := nI 5) hx hb dMH_small_142 (by decide) ?_
                  refine mi_irem hx hb dMH_small_143 (by omega) (by omega) (by omega) ?_
                  refine lv_isub hx hb dMH_small_144 ?_
                  refine lv_goto (tgt := 152) hx hb dMH_small_145 (by decide) ?_
                  refine mi_eqv (fun z30 ez30 => ?_)
                  replace hR := bnd_step hR ez30
                  replace hE := bndP_step hE ez30
                  refine lv_istore (lv' := [(8, .int z30), (7, .int (nI 1)), (5, .int (nI (nn21 + 1))), (6, .int (nI z21)), (0, .ref h0), (1, .ref f)]) hx hb dMH_small_152 hl (by decide) rfl (fun ls hl => ?_)
                  refine lv_aload_n hx hb dMH_small_154 rfl (lv_at hl 5 rfl) ?_
                  refine lv_iload hx hb dMH_small_155 (lv_at hl 2 rfl) ?_
                  refine lv_iload hx hb dMH_small_157 (lv_at hl 0 rfl) ?_
                  refine lv_if_ge (tgt := 170) hx hb dMH_small_159 (by decide) (fun h46 => ?_) (fun h46 => ?_)
                  · replace hR := hR.trans (if_pos h46)
                    replace hE := iteP_pos h46 hE
                    refine lv_iload hx hb dMH_small_170 (lv_at hl 0 rfl) ?_
                    refine nw_iast hx hb hK hO hU k_f (k := pf) n_f hP hD hS (by omega) (by omega) dMH_small_172 (fun s31 pl H locs es25 hO hP hD hS => ?_)
                    replace hR := bnd_step hR es25
                    replace hE := bndP_step hE es25
                    have hF := frm_sI hF es25 (by unfold M_MH_small_0; omega)
                    have hf129 : s31.1 225 23 = nI 0 := fc_ne hf119 es25 (by omega)
                    have hf130 : s31.1 225 24 = nI 4 := fc_ne hf120 es25 (by omega)
                    have hf131 : s31.1 225 25 = nI 4 := fc_ne hf121 es25 (by omega)
                    have hf132 : s31.1 225 26 = nI 2 := fc_ne hf122 es25 (by omega)
                    have hf133 : s31.1 225 27 = nI 131072 := fc_ne hf123 es25 (by omega)
                    have hf134 : s31.1 225 28 = nI 95232 := fc_ne hf124 es25 (by omega)
                    have hf135 : s31.1 225 29 = nI 78 := fc_ne hf125 es25 (by omega)
                    have hf136 : s31.1 225 30 = nI 32 := fc_ne hf126 es25 (by omega)
                    have hf137 : s31.1 172 6 = nI x36 := fc_ne hf127 es25 (by omega)
                    have hf138 : s31.1 172 5 = nI x37 := fc_ne hf128 es25 (by omega)
                    refine mi_iinc (k := 2) (x := nn21 + 1) (d := 1) (y := nn21 + 1 + 1) (lv' := [(5, .int (nI (nn21 + 1 + 1))), (8, .int z30), (7, .int (nI 1)), (6, .int (nI z21)), (0, .ref h0), (1, .ref f)]) hx hb dMH_small_173 hl rfl (by decide) rfl (by decide) rfl (fun ls hl => ?_)
                    refine mi_iinc (k := 2) (x := 1) (d := 1) (y := 2) (lv' := [(7, .int (nI 2)), (5, .int (nI (nn21 + 1 + 1))), (8, .int z30), (6, .int (nI z21)), (0, .ref h0), (1, .ref f)]) hx hb dMH_small_176 hl rfl (by decide) rfl (by decide) rfl (fun ls hl => ?_)
                    refine lv_goto (tgt := 69) hx hb dMH_small_179 (by decide) ?_
                    refine lv_iload hx hb dMH_small_69 (lv_at hl 0 rfl) ?_
                    refine lv_iconst (v := nI 2) hx hb dMH_small_71 (by decide) ?_
                    refine mi_ge (tgt := 182) hx hb dMH_small_72 (by decide) (by omega) (by omega) (fun h47 => ?_) (fun h47 => absurd h47 (by omega))
                    refine lv_goto (tgt := 49) hx hb dMH_small_182 (by decide) ?_
                    exact ih21 (nn21 + 1 + 1) s31 x36 pl ls H locs (by omega) (by omega) (by omega) hF hf129 hf130 hf131 hf132 hf133 hf134 hf135 hf136 hf137 (by have h9 := hf138; rw [show x37 = x34 by omega] at h9; exact h9) hE hR (lv_sub hl [1, 4, 5] rfl) hO hP hD hS
                  · replace hR := hR.trans (if_neg h46)
                    replace hE := iteP_neg h46 hE
                    refine lv_iload hx hb dMH_small_162 (lv_at hl 0 rfl) ?_
                    refine lv_ldc (v := 8380417) hx hb hown (hts _ (wg_t kw_1429)) dMH_small_164 ?_
                    refine mi_as (show (8380417 : Int32) = nI 8380417 by decide) ?_
                    refine lv_iadd hx hb dMH_small_166 ?_
                    refine lv_goto (tgt := 172) hx hb dMH_small_167 (by decide) ?_
                    refine nw_iast hx hb hK hO hU k_f (k := pf) n_f hP hD hS (by omega) (by omega) dMH_small_172 (fun s32 pl H locs es26 hO hP hD hS => ?_)
                    replace hR := bnd_step hR es26
                    replace hE := bndP_step hE es26
                    have hF := frm_sI hF es26 (by unfold M_MH_small_0; omega)
                    have hf139 : s32.1 225 23 = nI 0 := fc_ne hf119 es26 (by omega)
                    have hf140 : s32.1 225 24 = nI 4 := fc_ne hf120 es26 (by omega)
                    have hf141 : s32.1 225 25 = nI 4 := fc_ne hf121 es26 (by omega)
                    have hf142 : s32.1 225 26 = nI 2 := fc_ne hf122 es26 (by omega)
                    have hf143 : s32.1 225 27 = nI 131072 := fc_ne hf123 es26 (by omega)
                    have hf144 : s32.1 225 28 = nI 95232 := fc_ne hf124 es26 (by omega)
                    have hf145 : s32.1 225 29 = nI 78 := fc_ne hf125 es26 (by omega)
                    have hf146 : s32.1 225 30 = nI 32 := fc_ne hf126 es26 (by omega)
                    have hf147 : s32.1 172 6 = nI x36 := fc_ne hf127 es26 (by omega)
                    have hf148 : s32.1 172 5 = nI x37 := fc_ne hf128 es26 (by omega)
                    refine mi_iinc (k := 2) (x := nn21 + 1) (d := 1) (y := nn21 + 1 + 1) (lv' := [(5, .int (nI (nn21 + 1 + 1))), (8, .int z30), (7, .int (nI 1)), (6, .int (nI z21)), (0, .ref h0), (1, .ref f)]) hx hb dMH_small_173 hl rfl (by decide) rfl (by decide) rfl (fun ls hl => ?_)
                    refine mi_iinc (k := 2) (x := 1) (d := 1) (y := 2) (lv' := [(7, .int (nI 2)), (5, .int (nI (nn21 + 1 + 1))), (8, .int z30), (6, .int (nI z21)), (0, .ref h0), (1, .ref f)]) hx hb dMH_small_176 hl rfl (by decide) rfl (by decide) rfl (fun ls hl => ?_)
                    refine lv_goto (tgt := 69) hx hb dMH_small_179 (by decide) ?_
                    refine lv_iload hx hb dMH_small_69 (lv_at hl 0 rfl) ?_
                    refine lv_iconst (v := nI 2) hx hb dMH_small_71 (by decide) ?_
                    refine mi_ge (tgt := 182) hx hb dMH_small_72 (by decide) (by omega) (by omega) (fun h48 => ?_) (fun h48 => absurd h48 (by omega))
                    refine lv_goto (tgt := 49) hx hb dMH_small_182 (by decide) ?_
                    exact ih21 (nn21 + 1 + 1) s32 x36 pl ls H locs (by omega) (by omega) (by omega) hF hf139 hf140 hf141 hf142 hf143 hf144 hf145 hf146 hf147 (by have h9 := hf148; rw [show x37 = x34 by omega] at h9; exact h9) hE hR (lv_sub hl [1, 4, 5] rfl) hO hP hD hS
                · replace hR := hR.trans (if_neg (Nat.not_le.mpr h44))
                  replace hE := iteP_neg (Nat.not_le.mpr h44) hE
                  refine lv_goto (tgt := 176) hx hb dMH_small_118 (by decide) ?_
                  refine mi_iinc (k := 1) (x := 1) (d := 1) (y := 2) (lv' := [(7, .int (nI 2)), (8, .int (nI (z21 / 16))), (5, .int (nI (nn21 + 1))), (6, .int (nI z21)), (0, .ref h0), (1, .ref f)]) hx hb dMH_small_176 hl rfl (by decide) rfl (by decide) rfl (fun ls hl => ?_)
                  refine lv_goto (tgt := 69) hx hb dMH_small_179 (by decide) ?_
                  refine lv_iload hx hb dMH_small_69 (lv_at hl 0 rfl) ?_
                  refine lv_iconst (v := nI 2) hx hb dMH_small_71 (by decide) ?_
                  refine mi_ge (tgt := 182) hx hb dMH_small_72 (by decide) (by omega) (by omega) (fun h49 => ?_) (fun h49 => absurd h49 (by omega))
                  refine lv_goto (tgt := 49) hx hb dMH_small_182 (by decide) ?_
                  exact ih21 (nn21 + 1) s30 x36 pl ls H locs (by omega) (by omega) (by omega) hF hf119 hf120 hf121 hf122 hf123 hf124 hf125 hf126 hf127 (by have h9 := hf128; rw [show x37 = x34 by omega] at h9; exact h9) hE hR (lv_sub hl [2, 4, 5] rfl) hO hP hD hS
          · replace hR := hR.trans (if_neg (Nat.not_le.mpr h27))
            replace hE := iteP_neg (Nat.not_le.mpr h27) hE
            refine lv_goto (tgt := 176) hx hb dMH_small_118 (by decide) ?_
            refine mi_iinc (k := 1) (x := 0) (d := 1) (y := 1) (lv' := [(7, .int (nI 1)), (8, .int (nI (z21 % 16))), (6, .int (nI z21)), (5, .int (nI nn21)), (0, .ref h0), (1, .ref f)]) hx hb dMH_small_176 hl rfl (by decide) rfl (by decide) rfl (fun ls hl => ?_)
            refine lv_goto (tgt := 69) hx hb dMH_small_179 (by decide) ?_
            refine lv_iload hx hb dMH_small_69 (lv_at hl 0 rfl) ?_
            refine lv_iconst (v := nI 2) hx hb dMH_small_71 (by decide) ?_
            refine mi_ge (tgt := 182) hx hb dMH_small_72 (by decide) (by omega) (by omega) (fun h50 => absurd h50 (by omega)) (fun h50 => ?_)
            refine lv_iload hx hb dMH_small_75 (lv_at hl 3 rfl) ?_
            refine lv_sipush (v := nI 256) hx hb dMH_small_77 (by decide) ?_
            refine mi_ge (tgt := 182) hx hb dMH_small_80 (by decide) (by omega) (by omega) (fun h51 => ?_) (fun h51 => ?_)
            · replace hR := hR.trans (if_pos h51)
              replace hE := iteP_pos h51 hE
              refine lv_goto (tgt := 49) hx hb dMH_small_182 (by decide) ?_
              exact ih21 nn21 q21.2 x36 pl ls H locs (by omega) (by omega) (by omega) hF hf81 hf82 hf83 hf84 hf85 hf86 hf87 hf88 hx_36 (by have h9 := hx_37; rw [show x37 = x34 by omega] at h9; exact h9) hE hR (lv_sub hl [3, 4, 5] rfl) hO hP hD hS
            · replace hR := hR.trans (if_neg (Nat.not_le.mpr h51))
              replace hE := iteP_neg (Nat.not_le.mpr h51) hE
              refine lv_iload hx hb dMH_small_83 (lv_at hl 0 rfl) ?_
              refine lv_if_ne (tgt := 96) hx hb dMH_small_85 (by decide) (fun h52 => ?_) (fun h52 => absurd h52 (by decide))
              refine lv_iload hx hb dMH_small_96 (lv_at hl 2 rfl) ?_
              refine lv_bipush (v := nI 16) hx hb dMH_small_98 (by decide) ?_
              refine mi_idiv hx hb dMH_small_100 (by omega) (by omega) (by omega) ?_
              refine lv_istore (lv' := [(8, .int (nI (z21 / 16))), (7, .int (nI 1)), (6, .int (nI z21)), (5, .int (nI nn21)), (0, .ref h0), (1, .ref f)]) hx hb dMH_small_101 hl (by decide) rfl (fun ls hl => ?_)
              refine lv_aload_n hx hb dMH_small_103 rfl (lv_at hl 4 rfl) ?_
              refine nw_get (C := "LatticeKeysModel$Hands") (TT := T_MH) (N := 31) hx hb hts (wg_ft i_MH) hown hK hO k_h0 (kn := 225) (ci := 12) (fl := [(3, 172), (3, 181), (3, 226), (3, 291), (3, 299), (3, 308), (3, 317), (3, 326), (3, 334), (3, 342), (3, 350), (3, 359), (3, 368), (3, 369), (3, 370), (3, 371), (3, 372), (3, 373), (3, 374), (3, 375), (3, 376), (3, 377), (3, 378), (0, 0), (0, 0), (0, 0), (0, 0), (0, 0), (0, 0), (0, 0), (0, 0)]) rfl hP rfl 26 (by decide) (hts _ (wg_t kw_1458)) (fun _ h9 => h9) (cd := (0, 0)) rfl dMH_small_104 (fun v33 hv33 => ?_)
              obtain rfl := (show v33 = .int (q21.2.1 225 26) from hv33)
              obtain ⟨z31, ez31, hz35, hz36⟩ := cl_of (b := 2147483648) hf84 (by omega) (by decide)
              replace hR := bnd_step hR ez31
              replace hE := bndP_step hE ez31
              refine mi_as hz35 ?_
              subst hz36
              refine lv_iconst (v := nI 2) hx hb dMH_small_107 (by decide) ?_
              refine mi_ne (tgt := 121) hx hb dMH_small_108 (by decide) (by omega) (by omega) (fun h53 => absurd h53 (by omega)) (fun h53 => ?_)
              refine lv_iload hx hb dMH_small_111 (lv_at hl 0 rfl) ?_
              refine lv_bipush (v := nI 14) hx hb dMH_small_113 (by decide) ?_
              refine mi_le (tgt := 131) hx hb dMH_small_115 (by decide) (by omega) (by omega) (fun h54 => ?_) (fun h54 => ?_)
              · replace hR := hR.trans (if_pos h54)
                replace hE := iteP_pos h54 hE
                refine lv_aload_n hx hb dMH_small_131 rfl (lv_at hl 4 rfl) ?_
                refine nw_get (C := "LatticeKeysModel$Hands") (TT := T_MH) (N := 31) hx hb hts (wg_ft i_MH) hown hK hO k_h0 (kn := 225) (ci := 12) (fl := [(3, 172), (3, 181), (3, 226), (3, 291), (3, 299), (3, 308), (3, 317), (3, 326), (3, 334), (3, 342), (3, 350), (3, 359), (3, 368), (3, 369), (3, 370), (3, 371), (3, 372), (3, 373), (3, 374), (3, 375), (3, 376), (3, 377), (3, 378), (0, 0), (0, 0), (0, 0), (0, 0), (0, 0), (0, 0), (0, 0), (0, 0)]) rfl hP rfl 26 (by decide) (hts _ (wg_t kw_1458)) (fun _ h9 => h9) (cd := (0, 0)) rfl dMH_small_132 (fun v34 hv34 => ?_)
                obtain rfl := (show v34 = .int (q21.2.1 225 26) from hv34)
                obtain ⟨z32, ez32, hz37, hz38⟩ := cl_of (b := 2147483648) hf84 (by omega) (by decide)
                replace hR := bnd_step hR ez32
                replace hE := bndP_step hE ez32
                refine mi_as hz37 ?_
                subst hz38
                refine lv_iconst (v := nI 2) hx hb dMH_small_135 (by decide) ?_
                refine mi_ne (tgt := 148) hx hb dMH_small_136 (by decide) (by omega) (by omega) (fun h55 => absurd h55 (by omega)) (fun h55 => ?_)
                refine lv_iconst (v := nI 2) hx hb dMH_small_139 (by decide) ?_
                refine lv_iload hx hb dMH_small_140 (lv_at hl 0 rfl) ?_
                refine lv_iconst (v := nI 5) hx hb dMH_small_142 (by decide) ?_
                refine mi_irem hx hb dMH_small_143 (by omega) (by omega) (by omega) ?_
                refine lv_isub hx hb dMH_small_144 ?_
                refine lv_goto (tgt := 152) hx hb dMH_small_145 (by decide) ?_
                refine mi_eqv (fun z33 ez33 => ?_)
                replace hR := bnd_step hR ez33
                replace hE := bndP_step hE ez33
                refine lv_istore (lv' := [(8, .int z33), (7, .int (nI 1)), (6, .int (nI z21)), (5, .int (nI nn21)), (0, .ref h0), (1, .ref f)]) hx hb dMH_small_152 hl (by decide) rfl (fun ls hl => ?_)
                refine lv_aload_n hx hb dMH_small_154 rfl (lv_at hl 5 rfl) ?_
                refine lv_iload hx hb dMH_small_155 (lv_at hl 3 rfl) ?_
                refine lv_iload hx hb dMH_small_157 (lv_at hl 0 rfl) ?_
                refine lv_if_ge (tgt := 170) hx hb dMH_small_159 (by decide) (fun h56 => ?_) (fun h56 => ?_)
                · replace hR := hR.trans (if_pos h56)
                  replace hE := iteP_pos h56 hE
                  refine lv_iload hx hb dMH_small_170 (lv_at hl 0 rfl) ?_
                  refine nw_iast hx hb hK hO hU k_f (k := pf) n_f hP hD hS (by omega) (by omega) dMH_small_172 (fun s33 pl H locs es27 hO hP hD hS => ?_)
                  replace hR := bnd_step hR es27
                  replace hE := bndP_step hE es27
                  have hF := frm_sI hF es27 (by unfold M_MH_small_0; omega)
                  have hf149 : s33.1 225 23 = nI 0 := fc_ne hf81 es27 (by omega)
                  have hf150 : s33.1 225 24 = nI 4 := fc_ne hf82 es27 (by omega)
                  have hf151 : s33.1 225 25 = nI 4 := fc_ne hf83 es27 (by omega)
                  have hf152 : s33.1 225 26 = nI 2 := fc_ne hf84 es27 (by omega)
                  have hf153 : s33.1 225 27 = nI 131072 := fc_ne hf85 es27 (by omega)
                  have hf154 : s33.1 225 28 = nI 95232 := fc_ne hf86 es27 (by omega)
                  have hf155 : s33.1 225 29 = nI 78 := fc_ne hf87 es27 (by omega)
                  have hf156 : s33.1 225 30 = nI 32 := fc_ne hf88 es27 (by omega)
                  have hf157 : s33.1 172 6 = nI x36 := fc_ne hx_36 es27 (by omega)
                  have hf158 : s33.1 172 5 = nI x37 := fc_ne hx_37 es27 (by omega)
                  refine mi_iinc (k := 3) (x := nn21) (d := 1) (y := nn21 + 1) (lv' := [(5, .int (nI (nn21 + 1))), (8, .int z33), (7, .int (nI 1)), (6, .int (nI z21)), (0, .ref h0), (1, .ref f)]) hx hb dMH_small_173 hl rfl (by decide) rfl (by decide) rfl (fun ls hl => ?_)
                  refine mi_iinc (k := 2) (x := 1) (d := 1) (y := 2) (lv' := [(7, .int (nI 2)), (5, .int (nI (nn21 + 1))), (8, .int z33), (6, .int (nI z21)), (0, .ref h0), (1, .ref f)]) hx hb dMH_small_176 hl rfl (by decide) rfl (by decide) rfl (fun ls hl => ?_)
                  refine lv_goto (tgt := 69) hx hb dMH_small_179 (by decide) ?_
                  refine lv_iload hx hb dMH_small_69 (lv_at hl 0 rfl) ?_
                  refine lv_iconst (v := nI 2) hx hb dMH_small_71 (by decide) ?_
                  refine mi_ge (tgt := 182) hx hb dMH_small_72 (by decide) (by omega) (by omega) (fun h57 => ?_) (fun h57 => absurd h57 (by omega))
                  refine lv_goto (tgt := 49) hx hb dMH_small_182 (by decide) ?_
                  exact ih21 (nn21 + 1) s33 x36 pl ls H locs (by omega) (by omega) (by omega) hF hf149 hf150 hf151 hf152 hf153 hf154 hf155 hf156 hf157 (by have h9 := hf158; rw [show x37 = x34 by omega] at h9; exact h9) hE hR (lv_sub hl [1, 4, 5] rfl) hO hP hD hS
                · replace hR := hR.trans (if_neg h56)
                  replace hE := iteP_neg h56 hE
                  refine lv_iload hx hb dMH_small_162 (lv_at hl 0 rfl) ?_
                  refine lv_ldc (v := 8380417) hx hb hown (hts _ (wg_t kw_1429)) dMH_small_164 ?_
                  refine mi_as (show (8380417 : Int32) = nI 8380417 by decide) ?_
                  refine lv_iadd hx hb dMH_small_166 ?_
                  refine lv_goto (tgt := 172) hx hb dMH_small_167 (by decide) ?_
                  refine nw_iast hx hb hK hO hU k_f (k := pf) n_f hP hD hS (by omega) (by omega) dMH_small_172 (fun s34 pl H locs es28 hO hP hD hS => ?_)
                  replace hR := bnd_step hR es28
                  replace hE := bndP_step hE es28
                  have hF := frm_sI hF es28 (by unfold M_MH_small_0; omega)
                  have hf159 : s34.1 225 23 = nI 0 := fc_ne hf81 es28 (by omega)
                  have hf160 : s34.1 225 24 = nI 4 := fc_ne hf82 es28 (by omega)
                  have hf161 : s34.1 225 25 = nI 4 := fc_ne hf83 es28 (by omega)
                  have hf162 : s34.1 225 26 = nI 2 := fc_ne hf84 es28 (by omega)
                  have hf163 : s34.1 225 27 = nI 131072 := fc_ne hf85 es28 (by omega)
                  have hf164 : s34.1 225 28 = nI 95232 := fc_ne hf86 es28 (by omega)
                  have hf165 : s34.1 225 29 = nI 78 := fc_ne hf87 es28 (by omega)
                  have hf166 : s34.1 225 30 = nI 32 := fc_ne hf88 es28 (by omega)
                  have hf167 : s34.1 172 6 = nI x36 := fc_ne hx_36 es28 (by omega)
                  have hf168 : s34.1 172 5 = nI x37 := fc_ne hx_37 es28 (by omega)
                  refine mi_iinc (k := 3) (x := nn21) (d := 1) (y := nn21 + 1) (lv' := [(5, .int (nI (nn21 + 1))), (8, .int z33), (7, .int (nI 1)), (6, .int (nI z21)), (0, .ref h0), (1, .ref f)]) hx hb dMH_small_173 hl rfl (by decide) rfl (by decide) rfl (fun ls hl => ?_)
                  refine mi_iinc (k := 2) (x := 1) (d := 1) (y := 2) (lv' := [(7, .int (nI 2)), (5, .int (nI (nn21 + 1))), (8, .int z33), (6, .int (nI z21)), (0, .ref h0), (1, .ref f)]) hx hb dMH_small_176 hl rfl (by decide) rfl (by decide) rfl (fun ls hl => ?_)
                  refine lv_goto (tgt := 69) hx hb dMH_small_179 (by decide) ?_
                  refine lv_iload hx hb dMH_small_69 (lv_at hl 0 rfl) ?_
                  refine lv_iconst (v := nI 2) hx hb dMH_small_71 (by decide) ?_
                  refine mi_ge (tgt := 182) hx hb dMH_small_72 (by decide) (by omega) (by omega) (fun h58 => ?_) (fun h58 => absurd h58 (by omega))
                  refine lv_goto (tgt := 49) hx hb dMH_small_182 (by decide) ?_
                  exact ih21 (nn21 + 1) s34 x36 pl ls H locs (by omega) (by omega) (by omega) hF hf159 hf160 hf161 hf162 hf163 hf164 hf165 hf166 hf167 (by have h9 := hf168; rw [show x37 = x34 by omega] at h9; exact h9) hE hR (lv_sub hl [1, 4, 5] rfl) hO hP hD hS
              · replace hR := hR.trans (if_neg (Nat.not_le.mpr h54))
                replace hE := iteP_neg (Nat.not_le.mpr h54) hE
                refine lv_goto (tgt := 176) hx hb dMH_small_118 (by decide) ?_
                refine mi_iinc (k := 1) (x := 1) (d := 1) (y := 2) (lv' := [(7, .int (nI 2)), (8, .int (nI (z21 / 16))), (6, .int (nI z21)), (5, .int (nI nn21)), (0, .ref h0), (1, .ref f)]) hx hb dMH_small_176 hl rfl (by decide) rfl (by decide) rfl (fun ls hl => ?_)
                refine lv_goto (tgt := 69) hx hb dMH_small_179 (by decide) ?_
                refine lv_iload hx hb dMH_small_69 (lv_at hl 0 rfl) ?_
                refine lv_iconst (v := nI 2) hx hb dMH_small_71 (by decide) ?_
                refine mi_ge (tgt := 182) hx hb dMH_small_72 (by decide) (by omega) (by omega) (fun h59 => ?_) (fun h59 => absurd h59 (by omega))
                refine lv_goto (tgt := 49) hx hb dMH_small_182 (by decide) ?_
                exact ih21 nn21 q21.2 x36 pl ls H locs (by omega) (by omega) (by omega) hF hf81 hf82 hf83 hf84 hf85 hf86 hf87 hf88 hx_36 (by have h9 := hx_37; rw [show x37 = x34 by omega] at h9; exact h9) hE hR (lv_sub hl [3, 4, 5] rfl) hO hP hD hS
  exact lp21 1000000 0 s25 x33 pl ls _ _ (by omega) (by omega) (by omega) hF hf53 hf54 hf55 hf56 hf57 hf58 hf59 hf60 hx_33 hx_34 hE hR (lv_sub hl [0, 1, 2] rfl) hO hP hD hS
def M_MH_small_1 (pf : Nat) (k : Nat) : Prop := k = 172 ∨ k = pf ∨ (0 : Nat) = 1
noncomputable def F_MH_small_1_L0 (pf : Nat) : Nat → Nat → Sto → Sto
  | 0, nn21, s26 => s26
  | n21 + 1, nn21, s26 => if 256 ≤ nn21 then s26 else bnd (F_MS_next  s26) fun q21 => bnd (q21.1.toNatClampNeg) fun z21 => if 256 ≤ nn21 then F_MH_small_1_L0 pf n21 nn21 q21.2 else bnd ((q21.2.1 225 26).toNatClampNeg) fun z22 => if z21 % 16 ≤ 8 then bnd ((q21.2.1 225 26).toNatClampNeg) fun z23 => bnd (((nI 4) - (nI (z21 % 16)))) fun z24 => if 0 ≤ z24 then bnd (sI q21.2 pf nn21 z24) fun s27 => if 256 ≤ nn21 + 1 then F_MH_small_1_L0 pf n21 (nn21 + 1) s27 else bnd ((s27.1 225 26).toNatClampNeg) fun z25 => if z21 / 16 ≤ 8 then bnd ((s27.1 225 26).toNatClampNeg) fun z26 => bnd (((nI 4) - (nI (z21 / 16)))) fun z27 => if 0 ≤ z27 then bnd (sI s27 pf (nn21 + 1) z27) fun s28 => F_MH_small_1_L0 pf n21 (nn21 + 1 + 1) s28 else bnd (sI s27 pf (nn21 + 1) (z27 + (nI 8380417))) fun s29 => F_MH_small_1_L0 pf n21 (nn21 + 1 + 1) s29 else F_MH_small_1_L0 pf n21 (nn21 + 1) s27 else bnd (sI q21.2 pf nn21 (z24 + (nI 8380417))) fun s30 => if 256 ≤ nn21 + 1 then F_MH_small_1_L0 pf n21 (nn21 + 1) s30 else bnd ((s30.1 225 26).toNatClampNeg) fun z28 => if z21 / 16 ≤ 8 then bnd ((s30.1 225 26).toNatClampNeg) fun z29 => bnd (((nI 4) - (nI (z21 / 16)))) fun z30 => if 0 ≤ z30 then bnd (sI s30 pf (nn21 + 1) z30) fun s31 => F_MH_small_1_L0 pf n21 (nn21 + 1 + 1) s31 else bnd (sI s30 pf (nn21 + 1) (z30 + (nI 8380417))) fun s32 => F_MH_small_1_L0 pf n21 (nn21 + 1 + 1) s32 else F_MH_small_1_L0 pf n21 (nn21 + 1) s30 else if 256 ≤ nn21 then F_MH_small_1_L0 pf n21 nn21 q21.2 else bnd ((q21.2.1 225 26).toNatClampNeg) fun z31 => if z21 / 16 ≤ 8 then bnd ((q21.2.1 225 26).toNatClampNeg) fun z32 => bnd (((nI 4) - (nI (z21 / 16)))) fun z33 => if 0 ≤ z33 then bnd (sI q21.2 pf nn21 z33) fun s33 => F_MH_small_1_L0 pf n21 (nn21 + 1) s33 else bnd (sI q21.2 pf nn21 (z33 + (nI 8380417))) fun s34 => F_MH_small_1_L0 pf n21 (nn21 + 1) s34 else F_MH_small_1_L0 pf n21 nn21 q21.2
noncomputable def E_MH_small_1_L0 (pf : Nat) : Nat → Nat → Sto → Prop
  | 0, nn21, s26 => (256 ≤ nn21) ∧ (True)
  | n21 + 1, nn21, s26 => if 256 ≤ nn21 then True else bnd (F_MS_next  s26) fun q21 => bnd (q21.1.toNatClampNeg) fun z21 => if 256 ≤ nn21 then E_MH_small_1_L0 pf n21 nn21 q21.2 else bnd ((q21.2.1 225 26).toNatClampNeg) fun z22 => if z21 % 16 ≤ 8 then bnd ((q21.2.1 225 26).toNatClampNeg) fun z23 => bnd (((nI 4) - (nI (z21 % 16)))) fun z24 => if 0 ≤ z24 then bnd (sI q21.2 pf nn21 z24) fun s27 => if 256 ≤ nn21 + 1 then E_MH_small_1_L0 pf n21 (nn21 + 1) s27 else bnd ((s27.1 225 26).toNatClampNeg) fun z25 => if z21 / 16 ≤ 8 then bnd ((s27.1 225 26).toNatClampNeg) fun z26 => bnd (((nI 4) - (nI (z21 / 16)))) fun z27 => if 0 ≤ z27 then bnd (sI s27 pf (nn21 + 1) z27) fun s28 => E_MH_small_1_L0 pf n21 (nn21 + 1 + 1) s28 else bnd (sI s27 pf (nn21 + 1) (z27 + (nI 8380417))) fun s29 => E_MH_small_1_L0 pf n21 (nn21 + 1 + 1) s29 else E_MH_small_1_L0 pf n21 (nn21 + 1) s27 else bnd (sI q21.2 pf nn21 (z24 + (nI 8380417))) fun s30 => if 256 ≤ nn21 + 1 then E_MH_small_1_L0 pf n21 (nn21 + 1) s30 else bnd ((s30.1 225 26).toNatClampNeg) fun z28 => if z21 / 16 ≤ 8 then bnd ((s30.1 225 26).toNatClampNeg) fun z29 => bnd (((nI 4) - (nI (z21 / 16)))) fun z30 => if 0 ≤ z30 then bnd (sI s30 pf (nn21 + 1) z30) fun s31 => E_MH_small_1_L0 pf n21 (nn21 + 1 + 1) s31 else bnd (sI s30 pf (nn21 + 1) (z30 + (nI 8380417))) fun s32 => E_MH_small_1_L0 pf n21 (nn21 + 1 + 1) s32 else E_MH_small_1_L0 pf n21 (nn21 + 1) s30 else if 256 ≤ nn21 then E_MH_small_1_L0 pf n21 nn21 q21.2 else bnd ((q21.2.1 225 26).toNatClampNeg) fun z31 => if z21 / 16 ≤ 8 then bnd ((q21.2.1 225 26).toNatClampNeg) fun z32 => bnd (((nI 4) - (nI (z21 / 16)))) fun z33 => if 0 ≤ z33 then bnd (sI q21.2 pf nn21 z33) fun s33 => E_MH_small_1_L0 pf n21 (nn21 + 1) s33 else bnd (sI q21.2 pf nn21 (z33 + (nI 8380417))) fun s34 => E_MH_small_1_L0 pf n21 (nn21 + 1) s34 else E_MH_small_1_L0 pf n21 nn21 q21.2
noncomputable def F_MH_small_1 (pf : Nat) (pb : Nat) (n : Nat) (at_ : Nat) (wh : Int32) (s : Sto) : Sto := bnd (F_MS_shake  s) fun s21 => bnd (F_MS_puts pb n at_ 64 s21) fun s22 => bnd (F_MS_put wh s22) fun s23 => bnd (F_MS_put (wh >>> ((nI 8) &&& 31)) s23) fun s24 => bnd (F_MS_end  s24) fun s25 => F_MH_small_1_L0 pf 1000000 0 s25
noncomputable def E_MH_small_1 (pf : Nat) (pb : Nat) (n : Nat) (at_ : Nat) (wh : Int32) (s : Sto) : Prop := bnd (F_MS_shake  s) fun s21 => bnd (F_MS_puts pb n at_ 64 s21) fun s22 => bnd (F_MS_put wh s22) fun s23 => bnd (F_MS_put (wh >>> ((nI 8) &&& 31)) s23) fun s24 => bnd (F_MS_end  s24) fun s25 => E_MH_small_1_L0 pf 1000000 0 s25
set_option maxHeartbeats 8000000 in
set_option maxRecDepth 100000 in
theorem N_MH_small_1 (l : Launch) (g : Gd) (sz : Nat) (T : TyN) (s : Sto) (pl : va_W) (hO : okn g T s pl) (hU : inj T) (h0 f b : Nat) (pf : Nat) (pb : Nat) (n : Nat) (at_ : Nat) (wh : Int32) (k_h0 : T h0 = some 225) (k_f : T f = some pf) (n_f : nsp pf = (0, 256, [])) (k_b : T b = some pb) (n_b : nsp pb = (1, n, [])) (e_c0 : s.1 225 23 = nI 1) (e_c1 : s.1 225 24 = nI 6) (e_c2 : s.1 225 25 = nI 5) (e_c3 : s.1 225 26 = nI 4) (e_c4 : s.1 225 27 = nI 524288) (e_c5 : s.1 225 28 = nI 261888) (e_c6 : s.1 225 29 = nI 196) (e_c7 : s.1 225 30 = nI 48) (h1 : at_ + 64 ≤ n) (h2 : n < 65536) (hE : E_MH_small_1 pf pb n at_ wh s)  : Met l y_MH_small w_MH_small ({ frames := 4, cells := 0, slots := 0, locals := 90 } : Room) (va_Pc [.ref h0, .ref f, .ref b, .int (nI at_), .int wh] (pr (en g) g.1 vcl sz ([] ++ pl))) (va_Qv (fun (u : (Sto) × va_W) => (u.1 = F_MH_small_1 pf pb n at_ wh s ∧ frm (M_MH_small_1 pf) s u.1 ∧ True) ∧ okn g T u.1 u.2) (po g.1 vcl (va_A ([] ++ pl) sz) (fun (u : (Sto) × va_W) => [] ++ u.2)) (va_A ([] ++ pl) sz)) 0 0 (va_A ([] ++ pl) sz) := by
  refine mc_entry (cc := c_MH_small) (maxL := 9) (ret := none) (by decide) rfl (Nat.le_of_ble_eq_true rfl) ?_
  intro p e s0 m args below meth c ls F hr hlk hnm hsz hP hD hEn hA hl
  obtain ⟨hx, hb, hml, hown, hts⟩ := id F
  have hK := hEn.1
  generalize va_A ([] ++ pl) sz = A at hD hEn hA ⊢
  have hS : va_S A s0.heap s0.heap [] := va_S.rf
  have hl : lv_has ls 9 [(0, .ref h0), (1, .ref f), (2, .ref b), (3, .int (nI at_)), (4, .int wh)] := hl
  have hR : F_MH_small_1 pf pb n at_ wh s = F_MH_small_1 pf pb n at_ wh s := rfl
  have hF : frm (M_MH_small_1 pf) s s := frm_rf
  have ne_172_pf : 172 ≠ pf := nsp_ne (p := 172) rfl n_f (show (5 : Nat) ≠ 0 by decide)
  have ne_172_pb : 172 ≠ pb := nsp_ne (p := 172) rfl n_b (show (5 : Nat) ≠ 1 by decide)
  have ne_225_pf : 225 ≠ pf := nsp_ne (p := 225) rfl n_f (show (5 : Nat) ≠ 0 by decide)
  have ne_225_pb : 225 ≠ pb := nsp_ne (p := 225) rfl n_b (show (5 : Nat) ≠ 1 by decide)
  refine lv_aload_n hx hb dMH_small_0 rfl (lv_at hl 0 rfl) ?_
  refine nw_get (C := "LatticeKeysModel$Hands") (TT := T_MH) (N := 31) hx hb hts (wg_ft i_MH) hown hK hO k_h0 (kn := 225) (ci := 12) (fl := [(3, 172), (3, 181), (3, 226), (3, 291), (3, 299), (3, 308), (3, 317), (3, 326), (3, 334), (3, 342), (3, 350), (3, 359), (3, 368), (3, 369), (3, 370), (3, 371), (3, 372), (3, 373), (3, 374), (3, 375), (3, 376), (3, 377), (3, 378), (0, 0), (0, 0), (0, 0), (0, 0), (0, 0), (0, 0), (0, 0), (0, 0)]) rfl hP rfl 0 (by decide) (hts _ (wg_t kw_1432)) (fun _ h9 => h9) (cd := (3, 172)) rfl dMH_small_1 (fun v21 hv21 => ?_)
  obtain ⟨r21, rfl, kr21⟩ := (show ∃ r : Nat, v21 = .ref r ∧ T r = some 172 from hv21)
  refine mp_v (cx := []) (wr := []) hP hD hS hA [] [] rfl rfl rfl (by decide) (va_runV (As := []) (rest := []) F (N_MS_shake l g _ T s pl hO hU r21 kr21) (cwV 0 hts (wg_app (wg_c kw_1714 (wg_c kw_1657 (wg_c kw_1658 (wg_c kw_10 wg_n)))) kw_1659) rfl rfl rfl (by decide +kernel) ⟨by decide, by decide⟩) (pn_V (en_ok g) (ci := 9) (kn := 172) (fl := [(3, 173), (3, 174), (3, 175), (3, 176), (3, 177), (0, 0), (0, 0), (0, 0)]) hK hO kr21 rfl hP hD hS hA hEn [] rfl rfl rfl) rfl rfl hl.1 rfl (lv_room (Nat.le_of_ble_eq_true rfl)) dMH_small_4 ⟨by omega, by omega⟩) (fun  u21 H locs hu21 hP hD hS => ?_)
  obtain ⟨s21, pl⟩ := u21
  obtain ⟨⟨eq21, hFc21, ⟨x21, hx_21, hb_21⟩, ⟨x22, hx_22, hb_22⟩, -⟩, hO⟩ := hu21
  have hO : okn g T s21 pl := hO
  have hP : va_P g.1 vcl ([] ++ pl) _ := hP
  have hD : va_D _ ([] ++ pl) := hD
  have hFc21 : frm (M_MS_shake) s s21 := hFc21
  have hb_21 : x21 = 0 := hb_21
  have hb_22 : x22 = 136 := hb_22
  replace hR := bnd_step hR eq21
  replace hE := bndP_step hE eq21
  have hF := frm_tr hF hFc21 (fun k hk => by unfold M_MS_shake at hk; unfold M_MH_small_1; omega)
  have hf21 : s21.1 225 23 = nI 1 := fc_F e_c0 hFc21 (by unfold M_MS_shake; omega)
  have hf22 : s21.1 225 24 = nI 6 := fc_F e_c1 hFc21 (by unfold M_MS_shake; omega)
  have hf23 : s21.1 225 25 = nI 5 := fc_F e_c2 hFc21 (by unfold M_MS_shake; omega)
  have hf24 : s21.1 225 26 = nI 4 := fc_F e_c3 hFc21 (by unfold M_MS_shake; omega)
  have hf25 : s21.1 225 27 = nI 524288 := fc_F e_c4 hFc21 (by unfold M_MS_shake; omega)
  have hf26 : s21.1 225 28 = nI 261888 := fc_F e_c5 hFc21 (by unfold M_MS_shake; omega)
  have hf27 : s21.1 225 29 = nI 196 := fc_F e_c6 hFc21 (by unfold M_MS_shake; omega)
  have hf28 : s21.1 225 30 = nI 48 := fc_F e_c7 hFc21 (by unfold M_MS_shake; omega)
  refine W.widen (k := 0) (n := 0) (by omega) (by omega) ?_
  refine lv_aload_n hx hb dMH_small_7 rfl (lv_at hl 0 rfl) ?_
  refine nw_get (C := "LatticeKeysModel$Hands") (TT := T_MH) (N := 31) hx hb hts (wg_ft i_MH) hown hK hO k_h0 (kn := 225) (ci := 12) (fl := [(3, 172), (3, 181), (3, 226), (3, 291), (3, 299), (3, 308), (3, 317), (3, 326), (3, 334), (3, 342), (3, 350), (3, 359), (3, 368), (3, 369), (3, 370), (3, 371), (3, 372), (3, 373), (3, 374), (3, 375), (3, 376), (3, 377), (3, 378), (0, 0), (0, 0), (0, 0), (0, 0), (0, 0), (0, 0), (0, 0), (0, 0)]) rfl hP rfl 0 (by decide) (hts _ (wg_t kw_1432)) (fun _ h9 => h9) (cd := (3, 172)) rfl dMH_small_8 (fun v22 hv22 => ?_)
  obtain ⟨r22, rfl, kr22⟩ := (show ∃ r : Nat, v22 = .ref r ∧ T r = some 172 from hv22)
  refine lv_aload_n hx hb dMH_small_11 rfl (lv_at hl 2 rfl) ?_
  refine lv_iload_n hx hb dMH_small_12 rfl (lv_at hl 3 rfl) ?_
  refine lv_bipush (v := nI 64) hx hb dMH_small_13 (by decide) ?_
  refine mp_v (cx := []) (wr := []) hP hD hS hA [] [] rfl rfl rfl (by decide) (va_runV (As := [.ref b, .int (nI at_), .int (nI 64)]) (rest := []) F (N_MS_puts l g _ T s21 pl hO hU r22 b pb n at_ 64 x21 x22 kr22 k_b n_b hx_21 hx_22 (by omega) (by omega) (by omega) (by omega)) (cwV 3 hts (wg_app (wg_c kw_1715 (wg_c kw_1608 (wg_c kw_1609 (wg_c kw_10 wg_n)))) kw_1610) rfl rfl rfl (by decide +kernel) ⟨by decide, by decide⟩) (pn_V (en_ok g) (ci := 9) (kn := 172) (fl := [(3, 173), (3, 174), (3, 175), (3, 176), (3, 177), (0, 0), (0, 0), (0, 0)]) hK hO kr22 rfl hP hD hS hA hEn [] rfl rfl rfl) rfl rfl hl.1 rfl (lv_room (Nat.le_of_ble_eq_true rfl)) dMH_small_15 ⟨by omega, by omega⟩) (fun  u22 H locs hu22 hP hD hS => ?_)
  obtain ⟨s22, pl⟩ := u22
  obtain ⟨⟨eq22, hFc22, ⟨x24, hx_24, hb_24⟩, ⟨x25, hx_25, hb_25⟩, -⟩, hO⟩ := hu22
  have hO : okn g T s22 pl := hO
  have hP : va_P g.1 vcl ([] ++ pl) _ := hP
  have hD : va_D _ ([] ++ pl) := hD
  have hFc22 : frm (M_MS_puts) s21 s22 := hFc22
  have hb_24 : x24 < x22 := hb_24
  have hb_25 : x25 = x22 := hb_25
  replace hR := bnd_step hR eq22
  replace hE := bndP_step hE eq22
  have hF := frm_tr hF hFc22 (fun k hk => by unfold M_MS_puts at hk; unfold M_MH_small_1; omega)
  have hf29 : s22.1 225 23 = nI 1 := fc_F hf21 hFc22 (by unfold M_MS_puts; omega)
  have hf30 : s22.1 225 24 = nI 6 := fc_F hf22 hFc22 (by unfold M_MS_puts; omega)
  have hf31 : s22.1 225 25 = nI 5 := fc_F hf23 hFc22 (by unfold M_MS_puts; omega)
  have hf32 : s22.1 225 26 = nI 4 := fc_F hf24 hFc22 (by unfold M_MS_puts; omega)
  have hf33 : s22.1 225 27 = nI 524288 := fc_F hf25 hFc22 (by unfold M_MS_puts; omega)
  have hf34 : s22.1 225 28 = nI 261888 := fc_F hf26 hFc22 (by unfold M_MS_puts; omega)
  have hf35 : s22.1 225 29 = nI 196 := fc_F hf27 hFc22 (by unfold M_MS_puts; omega)
  have hf36 : s22.1 225 30 = nI 48 := fc_F hf28 hFc22 (by unfold M_MS_puts; omega)
  refine W.widen (k := 0) (n := 0) (by omega) (by omega) ?_
  refine lv_aload_n hx hb dMH_small_18 rfl (lv_at hl 0 rfl) ?_
  refine nw_get (C := "LatticeKeysModel$Hands") (TT := T_MH) (N := 31) hx hb hts (wg_ft i_MH) hown hK hO k_h0 (kn := 225) (ci := 12) (fl := [(3, 172), (3, 181), (3, 226), (3, 291), (3, 299), (3, 308), (3, 317), (3, 326), (3, 334), (3, 342), (3, 350), (3, 359), (3, 368), (3, 369), (3, 370), (3, 371), (3, 372), (3, 373), (3, 374), (3, 375), (3, 376), (3, 377), (3, 378), (0, 0), (0, 0), (0, 0), (0, 0), (0, 0), (0, 0), (0, 0), (0, 0)]) rfl hP rfl 0 (by decide) (hts _ (wg_t kw_1432)) (fun _ h9 => h9) (cd := (3, 172)) rfl dMH_small_19 (fun v23 hv23 => ?_)
  obtain ⟨r23, rfl, kr23⟩ := (show ∃ r : Nat, v23 = .ref r ∧ T r = some 172 from hv23)
  refine lv_iload hx hb dMH_small_22 (lv_at hl 4 rfl) ?_
  refine mp_v (cx := []) (wr := []) hP hD hS hA [] [] rfl rfl rfl (by decide) (va_runV (As := [.int wh]) (rest := []) F (N_MS_put l g _ T s22 pl hO hU r23 wh x24 x25 kr23 hx_24 hx_25 (by omega) (by omega)) (cwV 1 hts (wg_app (wg_c kw_1716 (wg_c kw_1612 (wg_c kw_1613 (wg_c kw_10 wg_n)))) kw_1614) rfl rfl rfl (by decide +kernel) ⟨by decide, by decide⟩) (pn_V (en_ok g) (ci := 9) (kn := 172) (fl := [(3, 173), (3, 174), (3, 175), (3, 176), (3, 177), (0, 0), (0, 0), (0, 0)]) hK hO kr23 rfl hP hD hS hA hEn [] rfl rfl rfl) rfl rfl hl.1 rfl (lv_room (Nat.le_of_ble_eq_true rfl)) dMH_small_24 ⟨by omega, by omega⟩) (fun  u23 H locs hu23 hP hD hS => ?_)
  obtain ⟨s23, pl⟩ := u23
  obtain ⟨⟨eq23, hFc23, ⟨x27, hx_27, hb_27⟩, ⟨x28, hx_28, hb_28⟩, -⟩, hO⟩ := hu23
  have hO : okn g T s23 pl := hO
  have hP : va_P g.1 vcl ([] ++ pl) _ := hP
  have hD : va_D _ ([] ++ pl) := hD
  have hFc23 : frm (M_MS_put) s22 s23 := hFc23
  have hb_27 : x27 < x25 := hb_27
  have hb_28 : x28 = x25 := hb_28
  replace hR := bnd_step hR eq23
  replace hE := bndP_step hE eq23
  have hF := frm_tr hF hFc23 (fun k hk => by unfold M_MS_put at hk; unfold M_MH_small_1; omega)
  have hf37 : s23.1 225 23 = nI 1 := fc_F hf29 hFc23 (by unfold M_MS_put; omega)
  have hf38 : s23.1 225 24 = nI 6 := fc_F hf30 hFc23 (by unfold M_MS_put; omega)
  have hf39 : s23.1 225 25 = nI 5 := fc_F hf31 hFc23 (by unfold M_MS_put; omega)
  have hf40 : s23.1 225 26 = nI 4 := fc_F hf32 hFc23 (by unfold M_MS_put; omega)
  have hf41 : s23.1 225 27 = nI 524288 := fc_F hf33 hFc23 (by unfold M_MS_put; omega)
  have hf42 : s23.1 225 28 = nI 261888 := fc_F hf34 hFc23 (by unfold M_MS_put; omega)
  have hf43 : s23.1 225 29 = nI 196 := fc_F hf35 hFc23 (by unfold M_MS_put; omega)
  have hf44 : s23.1 225 30 = nI 48 := fc_F hf36 hFc23 (by unfold M_MS_put; omega)
  refine W.widen (k := 0) (n := 0) (by omega) (by omega) ?_
  refine lv_aload_n hx hb dMH_small_27 rfl (lv_at hl 0 rfl) ?_
  refine nw_get (C := "LatticeKeysModel$Hands") (TT := T_MH) (N := 31) hx hb hts (wg_ft i_MH) hown hK hO k_h0 (kn := 225) (ci := 12) (fl := [(3, 172), (3, 181), (3, 226), (3, 291), (3, 299), (3, 308), (3, 317), (3, 326), (3, 334), (3, 342), (3, 350), (3, 359), (3, 368), (3, 369), (3, 370), (3, 371), (3, 372), (3, 373), (3, 374), (3, 375), (3, 376), (3, 377), (3, 378), (0, 0), (0, 0), (0, 0), (0, 0), (0, 0), (0, 0), (0, 0), (0, 0)]) rfl hP rfl 0 (by decide) (hts _ (wg_t kw_1432)) (fun _ h9 => h9) (cd := (3, 172)) rfl dMH_small_28 (fun v24 hv24 => ?_)
  obtain ⟨r24, rfl, kr24⟩ := (show ∃ r : Nat, v24 = .ref r ∧ T r = some 172 from hv24)
  refine lv_iload hx hb dMH_small_31 (lv_at hl 4 rfl) ?_
  refine lv_bipush (v := nI 8) hx hb dMH_small_33 (by decide) ?_
  refine lv_ishr hx hb dMH_small_35 ?_
  refine mp_v (cx := []) (wr := []) hP hD hS hA [] [] rfl rfl rfl (by decide) (va_runV (As := [.int ((wh >>> ((nI 8) &&& 31)))]) (rest := []) F (N_MS_put l g _ T s23 pl hO hU r24 (wh >>> ((nI 8) &&& 31)) x27 x28 kr24 hx_27 hx_28 (by omega) (by omega)) (cwV 1 hts (wg_app (wg_c kw_1716 (wg_c kw_1612 (wg_c kw_1613 (wg_c kw_10 wg_n)))) kw_1614) rfl rfl rfl (by decide +kernel) ⟨by decide, by decide⟩) (pn_V (en_ok g) (ci := 9) (kn := 172) (fl := [(3, 173), (3, 174), (3, 175), (3, 176), (3, 177), (0, 0), (0, 0), (0, 0)]) hK hO kr24 rfl hP hD hS hA hEn [] rfl rfl rfl) rfl rfl hl.1 rfl (lv_room (Nat.le_of_ble_eq_true rfl)) dMH_small_36 ⟨by omega, by omega⟩) (fun  u24 H locs hu24 hP hD hS => ?_)
  obtain ⟨s24, pl⟩ := u24
  obtain ⟨⟨eq24, hFc24, ⟨x30, hx_30, hb_30⟩, ⟨x31, hx_31, hb_31⟩, -⟩, hO⟩ := hu24
  have hO : okn g T s24 pl := hO
  have hP : va_P g.1 vcl ([] ++ pl) _ := hP
  have hD : va_D _ ([] ++ pl) := hD
  have hFc24 : frm (M_MS_put) s23 s24 := hFc24
  have hb_30 : x30 < x28 := hb_30
  have hb_31 : x31 = x28 := hb_31
  replace hR := bnd_step hR eq24
  replace hE := bndP_step hE eq24
  have hF := frm_tr hF hFc24 (fun k hk => by unfold M_MS_put at hk; unfold M_MH_small_1; omega)
  have hf45 : s24.1 225 23 = nI 1 := fc_F hf37 hFc24 (by unfold M_MS_put; omega)
  have hf46 : s24.1 225 24 = nI 6 := fc_F hf38 hFc24 (by unfold M_MS_put; omega)
  have hf47 : s24.1 225 25 = nI 5 := fc_F hf39 hFc24 (by unfold M_MS_put; omega)
  have hf48 : s24.1 225 26 = nI 4 := fc_F hf40 hFc24 (by unfold M_MS_put; omega)
  have hf49 : s24.1 225 27 = nI 524288 := fc_F hf41 hFc24 (by unfold M_MS_put; omega)
  have hf50 : s24.1 225 28 = nI 261888 := fc_F hf42 hFc24 (by unfold M_MS_put; omega)
  have hf51 : s24.1 225 29 = nI 196 := fc_F hf43 hFc24 (by unfold M_MS_put; omega)
  have hf52 : s24.1 225 30 = nI 48 := fc_F hf44 hFc24 (by unfold M_MS_put; omega)
  refine W.widen (k := 0) (n := 0) (by omega) (by omega) ?_
  refine lv_aload_n hx hb dMH_small_39 rfl (lv_at hl 0 rfl) ?_
  refine nw_get (C := "LatticeKeysModel$Hands") (TT := T_MH) (N := 31) hx hb hts (wg_ft i_MH) hown hK hO k_h0 (kn := 225) (ci := 12) (fl := [(3, 172), (3, 181), (3, 226), (3, 291), (3, 299), (3, 308), (3, 317), (3, 326), (3, 334), (3, 342), (3, 350), (3, 359), (3, 368), (3, 369), (3, 370), (3, 371), (3, 372), (3, 373), (3, 374), (3, 375), (3, 376), (3, 377), (3, 378), (0, 0), (0, 0), (0, 0), (0, 0), (0, 0), (0, 0), (0, 0), (0, 0)]) rfl hP rfl 0 (by decide) (hts _ (wg_t kw_1432)) (fun _ h9 => h9) (cd := (3, 172)) rfl dMH_small_40 (fun v25 hv25 => ?_)
  obtain ⟨r25, rfl, kr25⟩ := (show ∃ r : Nat, v25 = .ref r ∧ T r = some 172 from hv25)
  refine mp_v (cx := []) (wr := []) hP hD hS hA [] [] rfl rfl rfl (by decide) (va_runV (As := []) (rest := []) F (N_MS_end l g _ T s24 pl hO hU r25 x30 x31 kr25 hx_30 hx_31 (by omega) (by omega)) (cwV 0 hts (wg_app (wg_c kw_1717 (wg_c kw_1630 (wg_c kw_1631 (wg_c kw_10 wg_n)))) kw_1632) rfl rfl rfl (by decide +kernel) ⟨by decide, by decide⟩) (pn_V (en_ok g) (ci := 9) (kn := 172) (fl := [(3, 173), (3, 174), (3, 175), (3, 176), (3, 177), (0, 0), (0, 0), (0, 0)]) hK hO kr25 rfl hP hD hS hA hEn [] rfl rfl rfl) rfl rfl hl.1 rfl (lv_room (Nat.le_of_ble_eq_true rfl)) dMH_small_43 ⟨by omega, by omega⟩) (fun  u25 H locs hu25 hP hD hS => ?_)
  obtain ⟨s25, pl⟩ := u25
  obtain ⟨⟨eq25, hFc25, ⟨x33, hx_33, hb_33⟩, ⟨x34, hx_34, hb_34⟩, -⟩, hO⟩ := hu25
  have hO : okn g T s25 pl := hO
  have hP : va_P g.1 vcl ([] ++ pl) _ := hP
  have hD : va_D _ ([] ++ pl) := hD
  have hFc25 : frm (M_MS_end) s24 s25 := hFc25
  have hb_33 : x33 = 0 := hb_33
  have hb_34 : x34 = x31 := hb_34
  replace hR := bnd_step hR eq25
  replace hE := bndP_step hE eq25
  have hF := frm_tr hF hFc25 (fun k hk => by unfold M_MS_end at hk; unfold M_MH_small_1; omega)
  have hf53 : s25.1 225 23 = nI 1 := fc_F hf45 hFc25 (by unfold M_MS_end; omega)
  have hf54 : s25.1 225 24 = nI 6 := fc_F hf46 hFc25 (by unfold M_MS_end; omega)
  have hf55 : s25.1 225 25 = nI 5 := fc_F hf47 hFc25 (by unfold M_MS_end; omega)
  have hf56 : s25.1 225 26 = nI 4 := fc_F hf48 hFc25 (by unfold M_MS_end; omega)
  have hf57 : s25.1 225 27 = nI 524288 := fc_F hf49 hFc25 (by unfold M_MS_end; omega)
  have hf58 : s25.1 225 28 = nI 261888 := fc_F hf50 hFc25 (by unfold M_MS_end; omega)
  have hf59 : s25.1 225 29 = nI 196 := fc_F hf51 hFc25 (by unfold M_MS_end; omega)
  have hf60 : s25.1 225 30 = nI 48 := fc_F hf52 hFc25 (by unfold M_MS_end; omega)
  refine W.widen (k := 0) (n := 0) (by omega) (by omega) ?_
  refine lv_iconst (v := nI 0) hx hb dMH_small_46 (by decide) ?_
  refine lv_istore (lv' := [(5, .int (nI 0)), (0, .ref h0), (1, .ref f), (2, .ref b), (3, .int (nI at_)), (4, .int wh)]) hx hb dMH_small_47 hl (by decide) rfl (fun ls hl => ?_)
  have lp21 : ∀ (n21 : Nat) (nn21 : Nat) (s26 : Sto) (ps21 : Nat) (pl : va_W) (ls : Array Slot) (H : Heap) (locs : List Loc), 0 = 0 → (nn21 ≤ 256) → (ps21 ≤ 136) → frm (M_MH_small_1 pf) s s26 → s26.1 225 23 = nI 1 → s26.1 225 24 = nI 6 → s26.1 225 25 = nI 5 → s26.1 225 26 = nI 4 → s26.1 225 27 = nI 524288 → s26.1 225 28 = nI 261888 → s26.1 225 29 = nI 196 → s26.1 225 30 = nI 48 → s26.1 172 6 = nI ps21 → s26.1 172 5 = nI x34 → E_MH_small_1_L0 pf n21 nn21 s26 → F_MH_small_1 pf pb n at_ wh s = F_MH_small_1_L0 pf n21 nn21 s26 → lv_has ls 9 [(5, .int (nI nn21)), (0, .ref h0), (1, .ref f)] → okn g T s26 pl → va_P g.1 vcl ([] ++ pl) H → va_D A ([] ++ pl) → va_S A s0.heap H locs → W p l e ({ frames := 4, cells := 0, slots := 0, locals := 90 } : Room) s0 m args below meth c H locs 0 0 (MQ below (va_Qv (fun (u : (Sto) × va_W) => (u.1 = F_MH_small_1 pf pb n at_ wh s ∧ frm (M_MH_small_1 pf) s u.1 ∧ True) ∧ okn g T u.1 u.2) (po g.1 vcl A (fun (u : (Sto) × va_W) => [] ++ u.2)) A) args s0 0 0 A) (F0 m 49 ls []) := by
    intro n21
    induction n21 with
    | zero =>
      intro nn21 s26 ps21 pl ls H locs hm21 hi21 hi22 hF hf61 hf62 hf63 hf64 hf65 hf66 hf67 hf68 hf69 hf70 hE hR hl hO hP hD hS
      refine lv_iload hx hb dMH_small_49 (lv_at hl 0 rfl) ?_
      refine lv_sipush (v := nI 256) hx hb dMH_small_51 (by decide) ?_
      refine mi_ge (tgt := 185) hx hb dMH_small_54 (by decide) (by omega) (by omega) (fun h21 => ?_) (fun h21 => absurd h21 (by have h9 : 256 ≤ nn21 := hE.1; omega))
      replace hE := hE.2
      exact mp_vret hx hb hr hlk hP hD hS (s26, pl) ⟨⟨hR.symm, hF, trivial⟩, hO⟩ [] rfl rfl rfl (by omega) (by omega) dMH_small_185
    | succ n21 ih21 =>
      intro nn21 s26 ps21 pl ls H locs hm21 hi21 hi22 hF hf71 hf72 hf73 hf74 hf75 hf76 hf77 hf78 hf79 hf80 hE hR hl hO hP hD hS
      refine lv_iload hx hb dMH_small_49 (lv_at hl 0 rfl) ?_
      refine lv_sipush (v := nI 256) hx hb dMH_small_51 (by decide) ?_
      refine mi_ge (tgt := 185) hx hb dMH_small_54 (by decide) (by omega) (by omega) (fun h22 => ?_) (fun h22 => ?_)
      · replace hR := hR.trans (if_pos h22)
        replace hE := iteP_pos h22 hE
        exact mp_vret hx hb hr hlk hP hD hS (s26, pl) ⟨⟨hR.symm, hF, trivial⟩, hO⟩ [] rfl rfl rfl (by omega) (by omega) dMH_small_185
      · replace hR := hR.trans (if_neg (Nat.not_le.mpr h22))
        replace hE := iteP_neg (Nat.not_le.mpr h22) hE
        refine lv_aload_n hx hb dMH_small_57 rfl (lv_at hl 1 rfl) ?_
        refine nw_get (C := "LatticeKeysModel$Hands") (TT := T_MH) (N := 31) hx hb hts (wg_ft i_MH) hown hK hO k_h0 (kn := 225) (ci := 12) (fl := [(3, 172), (3, 181), (3, 226), (3, 291), (3, 299), (3, 308), (3, 317), (3, 326), (3, 334), (3, 342), (3, 350), (3, 359), (3, 368), (3, 369), (3, 370), (3, 371), (3, 372), (3, 373), (3, 374), (3, 375), (3, 376), (3, 377), (3, 378), (0, 0), (0, 0), (0, 0), (0, 0), (0, 0), (0, 0), (0, 0), (0, 0)]) rfl hP rfl 0 (by decide) (hts _ (wg_t kw_1432)) (fun _ h9 => h9) (cd := (3, 172)) rfl dMH_small_58 (fun v26 hv26 => ?_)
        obtain ⟨r26, rfl, kr26⟩ := (show ∃ r : Nat, v26 = .ref r ∧ T r = some 172 from hv26)
        refine mp_i (cx := []) (wr := []) hP hD hS hA [] [] rfl rfl rfl (by decide) (va_runV (As := []) (rest := []) F (N_MS_next l g _ T s26 pl hO hU r26 ps21 x34 kr26 hf79 hf80 (by omega) (by omega)) (cwV 0 hts (wg_app (wg_c kw_1724 (wg_c kw_1638 (wg_c kw_1639 (wg_c kw_10 wg_n)))) kw_1640) rfl rfl rfl (by decide +kernel) ⟨by decide, by decide⟩) (pn_V (en_ok g) (ci := 9) (kn := 172) (fl := [(3, 173), (3, 174), (3, 175), (3, 176), (3, 177), (0, 0), (0, 0), (0, 0)]) hK hO kr26 rfl hP hD hS hA hEn [] rfl rfl rfl) rfl rfl hl.1 rfl (lv_room (Nat.le_of_ble_eq_true rfl)) dMH_small_61 ⟨by omega, by omega⟩) (fun r27 u26 H locs hu26 hP hD hS => ?_)
        obtain ⟨q21, pl⟩ := u26
        obtain ⟨⟨eq26, rfl, hFc26, ⟨x38, hx_38, hb_38⟩, ⟨x36, hx_36, hb_36⟩, ⟨x37, hx_37, hb_37⟩, -⟩, hO⟩ := hu26
        have hO : okn g T q21.2 pl := hO
        have hP : va_P g.1 vcl ([] ++ pl) _ := hP
        have hD : va_D _ ([] ++ pl) := hD
        have hFc26 : frm (M_MS_next) s26 q21.2 := hFc26
        have hb_36 : x36 ≤ x34 := hb_36
        have hb_37 : x37 = x34 := hb_37
        have hb_38 : x38 < 256 := hb_38
        replace hR := bnd_step hR eq26
        replace hE := bndP_step hE eq26
        have hF := frm_tr hF hFc26 (fun k hk => by unfold M_MS_next at hk; unfold M_MH_small_1; omega)
        have hf81 : q21.2.1 225 23 = nI 1 := fc_F hf71 hFc26 (by unfold M_MS_next; omega)
        have hf82 : q21.2.1 225 24 = nI 6 := fc_F hf72 hFc26 (by unfold M_MS_next; omega)
        have hf83 : q21.2.1 225 25 = nI 5 := fc_F hf73 hFc26 (by unfold M_MS_next; omega)
        have hf84 : q21.2.1 225 26 = nI 4 := fc_F hf74 hFc26 (by unfold M_MS_next; omega)
        have hf85 : q21.2.1 225 27 = nI 524288 := fc_F hf75 hFc26 (by unfold M_MS_next; omega)
        have hf86 : q21.2.1 225 28 = nI 261888 := fc_F hf76 hFc26 (by unfold M_MS_next; omega)
        have hf87 : q21.2.1 225 29 = nI 196 := fc_F hf77 hFc26 (by unfold M_MS_next; omega)
        have hf88 : q21.2.1 225 30 = nI 48 := fc_F hf78 hFc26 (by unfold M_MS_next; omega)
        obtain ⟨z21, ez21, hz21, hz22⟩ := cl_of (b := 2147483648) hx_38 (by omega) (by decide)
        replace hR := bnd_step hR ez21
        replace hE := bndP_step hE ez21
        refine mi_as hz21 ?_
        refine W.widen (k := 0) (n := 0) (by omega) (by omega) ?_
        refine lv_istore (lv' := [(6, .int (nI z21)), (5, .int (nI nn21)), (0, .ref h0), (1, .ref f)]) hx hb dMH_small_64 hl (by decide) rfl (fun ls hl => ?_)
        refine lv_iconst (v := nI 0) hx hb dMH_small_66 (by decide) ?_
        refine lv_istore (lv' := [(7, .int (nI 0)), (6, .int (nI z21)), (5, .int (nI nn21)), (0, .ref h0), (1, .ref f)]) hx hb dMH_small_67 hl (by decide) rfl (fun ls hl => ?_)
        refine lv_iload hx hb dMH_small_69 (lv_at hl 0 rfl) ?_
        refine lv_iconst (v := nI 2) hx hb dMH_small_71 (by decide) ?_
        refine mi_ge (tgt := 182) hx hb dMH_small_72 (by decide) (by omega) (by omega) (fun h23 => absurd h23 (by omega)) (fun h23 => ?_)
        refine lv_iload hx hb dMH_small_75 (lv_at hl 2 rfl) ?_
        refine lv_sipush (v := nI 256) hx hb dMH_small_77 (by decide) ?_
        refine mi_ge (tgt := 182) hx hb dMH_small_80 (by decide) (by omega) (by omega) (fun h24 => ?_) (fun h24 => ?_)
        · replace hR := hR.trans (if_pos h24)
          replace hE := iteP_pos h24 hE
          refine lv_goto (tgt := 49) hx hb dMH_small_182 (by decide) ?_
          exact ih21 nn21 q21.2 x36 pl ls H locs (by omega) (by omega) (by omega) hF hf81 hf82 hf83 hf84 hf85 hf86 hf87 hf88 hx_36 (by have h9 := hx_37; rw [show x37 = x34 by omega] at h9; exact h9) hE hR (lv_sub hl [2, 3, 4] rfl) hO hP hD hS
        · replace hR := hR.trans (if_neg (Nat.not_le.mpr h24))
          replace hE := iteP_neg (Nat.not_le.mpr h24) hE
          refine lv_iload hx hb dMH_small_83 (lv_at hl 0 rfl) ?_
          refine lv_if_ne (tgt := 96) hx hb dMH_small_85 (by decide) (fun h25 => absurd h25 (by decide)) (fun h25 => ?_)
          refine lv_iload hx hb dMH_small_88 (lv_at hl 1 rfl) ?_
          refine lv_bipush (v := nI 16) hx hb dMH_small_90 (by decide) ?_
          refine mi_irem hx hb dMH_small_92 (by omega) (by omega) (by omega) ?_
          refine lv_goto (tgt := 101) hx hb dMH_small_93 (by decide) ?_
          refine lv_istore (lv' := [(8, .int (nI (z21 % 16))), (7, .int (nI 0)), (6, .int (nI z21)), (5, .int (nI nn21)), (0, .ref h0), (1, .ref f)]) hx hb dMH_small_101 hl (by decide) rfl (fun ls hl => ?_)
          refine lv_aload_n hx hb dMH_small_103 rfl (lv_at hl 4 rfl) ?_
          refine nw_get (C := "LatticeKeysModel$Hands") (TT := T_MH) (N := 31) hx hb hts (wg_ft i_MH) hown hK hO k_h0 (kn := 225) (ci := 12) (fl := [(3, 172), (3, 181), (3, 226), (3, 291), (3, 299), (3, 308), (3, 317), (3, 326), (3, 334), (3, 342), (3, 350), (3, 359), (3, 368), (3, 369), (3, 370), (3, 371), (3, 372), (3, 373), (3, 374), (3, 375), (3, 376), (3, 377), (3, 378), (0, 0), (0, 0), (0, 0), (0, 0), (0, 0), (0, 0), (0, 0), (0, 0)]) rfl hP rfl 26 (by decide) (hts _ (wg_t kw_1458)) (fun _ h9 => h9) (cd := (0, 0)) rfl dMH_small_104 (fun v27 hv27 => ?_)
          obtain rfl := (show v27 = .int (q21.2.1 225 26) from hv27)
          obtain ⟨z22, ez22, hz23, hz24⟩ := cl_of (b := 2147483648) hf84 (by omega) (by decide)
          replace hR := bnd_step hR ez22
          replace hE := bndP_step hE ez22
          refine mi_as hz23 ?_
          subst hz24
          refine lv_iconst (v := nI 2) hx hb dMH_small_107 (by decide) ?_
          refine mi_ne (tgt := 121) hx hb dMH_small_108 (by decide) (by omega) (by omega) (fun h26 => ?_) (fun h26 => absurd h26 (by omega))
          refine lv_iload hx hb dMH_small_121 (lv_at hl 0 rfl) ?_
          refine lv_bipush (v := nI 8) hx hb dMH_small_123 (by decide) ?_
          refine mi_le (tgt := 131) hx hb dMH_small_125 (by decide) (by omega) (by omega) (fun h27 => ?_) (fun h27 => ?_)
          · replace hR := hR.trans (if_pos h27)
            replace hE := iteP_pos h27 hE
            refine lv_aload_n hx hb dMH_small_131 rfl (lv_at hl 4 rfl) ?_
            refine nw_get (C := "LatticeKeysModel$Hands") (TT := T_MH) (N := 31) hx hb hts (wg_ft i_MH) hown hK hO k_h0 (kn := 225) (ci := 12) (fl := [(3, 172), (3, 181), (3, 226), (3, 291), (3, 299), (3, 308), (3, 317), (3, 326), (3, 334), (3, 342), (3, 350), (3, 359), (3, 368), (3, 369), (3, 370), (3, 371), (3, 372), (3, 373), (3, 374), (3, 375), (3, 376), (3, 377), (3, 378), (0, 0), (0, 0), (0, 0), (0, 0), (0, 0), (0, 0), (0, 0), (0, 0)]) rfl hP rfl 26 (by decide) (hts _ (wg_t kw_1458)) (fun _ h9 => h9) (cd := (0, 0)) rfl dMH_small_132 (fun v28 hv28 => ?_)
            obtain rfl := (show v28 = .int (q21.2.1 225 26) from hv28)
            obtain ⟨z23, ez23, hz25, hz26⟩ := cl_of (b := 2147483648) hf84 (by omega) (by decide)
            replace hR := bnd_step hR ez23
            replace hE := bndP_step hE ez23
            refine mi_as hz25 ?_
            subst hz26
            refine lv_iconst (v := nI 2) hx hb dMH_small_135 (by decide) ?_
            refine mi_ne (tgt := 148) hx hb dMH_small_136 (by decide) (by omega) (by omega) (fun h28 => ?_) (fun h28 => absurd h28 (by omega))
            refine lv_iconst (v := nI 4) hx hb dMH_small_148 (by decide) ?_
            refine lv_iload hx hb dMH_small_149 (lv_at hl 0 rfl) ?_
            refine lv_isub hx hb dMH_small_151 ?_
            refine mi_eqv (fun z24 ez24 => ?_)
            replace hR := bnd_step hR ez24
            replace hE := bndP_step hE ez24
            refine lv_istore (lv' := [(8, .int z24), (7, .int (nI 0)), (6, .int (nI z21)), (5, .int (nI nn21)), (0, .ref h0), (1, .ref f)]) hx hb dMH_small_152 hl (by decide) rfl (fun ls hl => ?_)
            refine lv_aload_n hx hb dMH_small_154 rfl (lv_at hl 5 rfl) ?_
            refine lv_iload hx hb dMH_small_155 (lv_at hl 3 rfl) ?_
            refine lv_iload hx hb dMH_small_157 (lv_at hl 0 rfl) ?_
            refine lv_if_ge (tgt := 170) hx hb dMH_small_159 (by decide) (fun h29 => ?_) (fun h29 => ?_)
            · replace hR := hR.trans (if_pos h29)
              replace hE := iteP_pos h29 hE
              refine lv_iload hx hb dMH_small_170 (lv_at hl 0 rfl) ?_
              refine nw_iast hx hb hK hO hU k_f (k := pf) n_f hP hD hS (by omega) (by omega) dMH_small_172 (fun s27 pl H locs es21 hO hP hD hS => ?_)
              replace hR := bnd_step hR es21
              replace hE := bndP_step hE es21
              have hF := frm_sI hF es21 (by unfold M_MH_small_1; omega)
              have hf89 : s27.1 225 23 = nI 1 := fc_ne hf81 es21 (by omega)
              have hf90 : s27.1 225 24 = nI 6 := fc_ne hf82 es21 (by omega)
              have hf91 : s27.1 225 25 = nI 5 := fc_ne hf83 es21 (by omega)
              have hf92 : s27.1 225 26 = nI 4 := fc_ne hf84 es21 (by omega)
              have hf93 : s27.1 225 27 = nI 524288 := fc_ne hf85 es21 (by omega)
              have hf94 : s27.1 225 28 = nI 261888 := fc_ne hf86 es21 (by omega)
              have hf95 : s27.1 225 29 = nI 196 := fc_ne hf87 es21 (by omega)
              have hf96 : s27.1 225 30 = nI 48 := fc_ne hf88 es21 (by omega)
              have hf97 : s27.1 172 6 = nI x36 := fc_ne hx_36 es21 (by omega)
              have hf98 : s27.1 172 5 = nI x37 := fc_ne hx_37 es21 (by omega)
              refine mi_iinc (k := 3) (x := nn21) (d := 1) (y := nn21 + 1) (lv' := [(5, .int (nI (nn21 + 1))), (8, .int z24), (7, .int (nI 0)), (6, .int (nI z21)), (0, .ref h0), (1, .ref f)]) hx hb dMH_small_173 hl rfl (by decide) rfl (by decide) rfl (fun ls hl => ?_)
              refine mi_iinc (k := 2) (x := 0) (d := 1) (y := 1) (lv' := [(7, .int (nI 1)), (5, .int (nI (nn21 + 1))), (8, .int z24), (6, .int (nI z21)), (0, .ref h0), (1, .ref f)]) hx hb dMH_small_176 hl rfl (by decide) rfl (by decide) rfl (fun ls hl => ?_)
              refine lv_goto (tgt := 69) hx hb dMH_small_179 (by decide) ?_
              refine lv_iload hx hb dMH_small_69 (lv_at hl 0 rfl) ?_
              refine lv_iconst (v := nI 2) hx hb dMH_small_71 (by decide) ?_
              refine mi_ge (tgt := 182) hx hb dMH_small_72 (by decide) (by omega) (by omega) (fun h30 => absurd h30 (by omega)) (fun h30 => ?_)
              refine lv_iload hx hb dMH_small_75 (lv_at hl 1 rfl) ?_
              refine lv_sipush (v := nI 256) hx hb dMH_small_77 (by decide) ?_
              refine mi_ge (tgt := 182) hx hb dMH_small_80 (by decide) (by omega) (by omega) (fun h31 => ?_) (fun h31 => ?_)
              · replace hR := hR.trans (if_pos h31)
                replace hE := iteP_pos h31 hE
                refine lv_goto (tgt := 49) hx hb dMH_small_182 (by decide) ?_
                exact ih21 (nn21 + 1) s27 x36 pl ls H locs (by omega) (by omega) (by omega) hF hf89 hf90 hf91 hf92 hf93 hf94 hf95 hf96 hf97 (by have h9 := hf98; rw [show x37 = x34 by omega] at h9; exact h9) hE hR (lv_sub hl [1, 4, 5] rfl) hO hP hD hS
              · replace hR := hR.trans (if_neg (Nat.not_le.mpr h31))
                replace hE := iteP_neg (Nat.not_le.mpr h31) hE
                refine lv_iload hx hb dMH_small_83 (lv_at hl 0 rfl) ?_
                refine lv_if_ne (tgt := 96) hx hb dMH_small_85 (by decide) (fun h32 => ?_) (fun h32 => absurd h32 (by decide))
                refine lv_iload hx hb dMH_small_96 (lv_at hl 3 rfl) ?_
                refine lv_bipush (v := nI 16) hx hb dMH_small_98 (by decide) ?_
                refine mi_idiv hx hb dMH_small_100 (by omega) (by omega) (by omega) ?_
                refine lv_istore (lv' := [(8, .int (nI (z21 / 16))), (7, .int (nI 1)), (5, .int (nI (nn21 + 1))), (6, .int (nI z21)), (0, .ref h0), (1, .ref f)]) hx hb dMH_small_101 hl (by decide) rfl (fun ls hl => ?_)
                refine lv_aload_n hx hb dMH_small_103 rfl (lv_at hl 4 rfl) ?_
                refine nw_get (C := "LatticeKeysModel$Hands") (TT := T_MH) (N := 31) hx hb hts (wg_ft i_MH) hown hK hO k_h0 (kn := 225) (ci := 12) (fl := [(3, 172), (3, 181), (3, 226), (3, 291), (3, 299), (3, 308), (3, 317), (3, 326), (3, 334), (3, 342), (3, 350), (3, 359), (3, 368), (3, 369), (3, 370), (3, 371), (3, 372), (3, 373), (3, 374), (3, 375), (3, 376), (3, 377), (3, 378), (0, 0), (0, 0), (0, 0), (0, 0), (0, 0), (0, 0), (0, 0), (0, 0)]) rfl hP rfl 26 (by decide) (hts _ (wg_t kw_1458)) (fun _ h9 => h9) (cd := (0, 0)) rfl dMH_small_104 (fun v29 hv29 => ?_)
                obtain rfl := (show v29 = .int (s27.1 225 26) from hv29)
                obtain ⟨z25, ez25, hz27, hz28⟩ := cl_of (b := 2147483648) hf92 (by omega) (by decide)
                replace hR := bnd_step hR ez25
                replace hE := bndP_step hE ez25
                refine mi_as hz27 ?_
                subst hz28
                refine lv_iconst (v := nI 2) hx hb dMH_small_107 (by decide) ?_
                refine mi_ne (tgt := 121) hx hb dMH_small_108 (by decide) (by omega) (by omega) (fun h33 => ?_) (fun h33 => absurd h33 (by omega))
                refine lv_iload hx hb dMH_small_121 (lv_at hl 0 rfl) ?_
                refine lv_bipush (v := nI 8) hx hb dMH_small_123 (by decide) ?_
                refine mi_le (tgt := 131) hx hb dMH_small_125 (by decide) (by omega) (by omega) (fun h34 => ?_) (fun h34 => ?_)
                · replace hR := hR.trans (if_pos h34)
                  replace hE := iteP_pos h34 hE
                  refine lv_aload_n hx hb dMH_small_131 rfl (lv_at hl 4 rfl) ?_
                  refine nw_get (C := "LatticeKeysModel$Hands") (TT := T_MH) (N := 31) hx hb hts (wg_ft i_MH) hown hK hO k_h0 (kn := 225) (ci := 12) (fl := [(3, 172), (3, 181), (3, 226), (3, 291), (3, 299), (3, 308), (3, 317), (3, 326), (3, 334), (3, 342), (3, 350), (3, 359), (3, 368), (3, 369), (3, 370), (3, 371), (3, 372), (3, 373), (3, 374), (3, 375), (3, 376), (3, 377), (3, 378), (0, 0), (0, 0), (0, 0), (0, 0), (0, 0), (0, 0), (0, 0), (0, 0)]) rfl hP rfl 26 (by decide) (hts _ (wg_t kw_1458)) (fun _ h9 => h9) (cd := (0, 0)) rfl dMH_small_132 (fun v30 hv30 => ?_)
                  obtain rfl := (show v30 = .int (s27.1 225 26) from hv30)
                  obtain ⟨z26, ez26, hz29, hz30⟩ := cl_of (b := 2147483648) hf92 (by omega) (by decide)
                  replace hR := bnd_step hR ez26
                  replace hE := bndP_step hE ez26
                  refine mi_as hz29 ?_
                  subst hz30
                  refine lv_iconst (v := nI 2) hx hb dMH_small_135 (by decide) ?_
                  refine mi_ne (tgt := 148) hx hb dMH_small_136 (by decide) (by omega) (by omega) (fun h35 => ?_) (fun h35 => absurd h35 (by omega))
                  refine lv_iconst (v := nI 4) hx hb dMH_small_148 (by decide) ?_
                  refine lv_iload hx hb dMH_small_149 (lv_at hl 0 rfl) ?_
                  refine lv_isub hx hb dMH_small_151 ?_
                  refine mi_eqv (fun z27 ez27 => ?_)
                  replace hR := bnd_step hR ez27
                  replace hE := bndP_step hE ez27
                  refine lv_istore (lv' := [(8, .int z27), (7, .int (nI 1)), (5, .int (nI (nn21 + 1))), (6, .int (nI z21)), (0, .ref h0), (1, .ref f)]) hx hb dMH_small_152 hl (by decide) rfl (fun ls hl => ?_)
                  refine lv_aload_n hx hb dMH_small_154 rfl (lv_at hl 5 rfl) ?_
                  refine lv_iload hx hb dMH_small_155 (lv_at hl 2 rfl) ?_
                  refine lv_iload hx hb dMH_small_157 (lv_at hl 0 rfl) ?_
                  refine lv_if_ge (tgt := 170) hx hb dMH_small_159 (by decide) (fun h36 => ?_) (fun h36 => ?_)
                  · replace hR := hR.trans (if_pos h36)
                    replace hE := iteP_pos h36 hE
                    refine lv_iload hx hb dMH_small_170 (lv_at hl 0 rfl) ?_
                    refine nw_iast hx hb hK hO hU k_f (k := pf) n_f hP hD hS (by omega) (by omega) dMH_small_172 (fun s28 pl H locs es22 hO hP hD hS => ?_)
                    replace hR := bnd_step hR es22
                    replace hE := bndP_step hE es22
                    have hF := frm_sI hF es22 (by unfold M_MH_small_1; omega)
                    have hf99 : s28.1 225 23 = nI 1 := fc_ne hf89 es22 (by omega)
                    have hf100 : s28.1 225 24 = nI 6 := fc_ne hf90 es22 (by omega)
                    have hf101 : s28.1 225 25 = nI 5 := fc_ne hf91 es22 (by omega)
                    have hf102 : s28.1 225 26 = nI 4 := fc_ne hf92 es22 (by omega)
                    have hf103 : s28.1 225 27 = nI 524288 := fc_ne hf93 es22 (by omega)
                    have hf104 : s28.1 225 28 = nI 261888 := fc_ne hf94 es22 (by omega)
                    have hf105 : s28.1 225 29 = nI 196 := fc_ne hf95 es22 (by omega)
                    have hf106 : s28.1 225 30 = nI 48 := fc_ne hf96 es22 (by omega)
                    have hf107 : s28.1 172 6 = nI x36 := fc_ne hf97 es22 (by omega)
                    have hf108 : s28.1 172 5 = nI x37 := fc_ne hf98 es22 (by omega)
                    refine mi_iinc (k := 2) (x := nn21 + 1) (d := 1) (y := nn21 + 1 + 1) (lv' := [(5, .int (nI (nn21 + 1 + 1))), (8, .int z27), (7, .int (nI 1)), (6, .int (nI z21)), (0, .ref h0), (1, .ref f)]) hx hb dMH_small_173 hl rfl (by decide) rfl (by decide) rfl (fun ls hl => ?_)
                    refine mi_iinc (k := 2) (x := 1) (d := 1) (y := 2) (lv' := [(7, .int (nI 2)), (5, .int (nI (nn21 + 1 + 1))), (8, .int z27), (6, .int (nI z21)), (0, .ref h0), (1, .ref f)]) hx hb dMH_small_176 hl rfl (by decide) rfl (by decide) rfl (fun ls hl => ?_)
                    refine lv_goto (tgt := 69) hx hb dMH_small_179 (by decide) ?_
                    refine lv_iload hx hb dMH_small_69 (lv_at hl 0 rfl) ?_
                    refine lv_iconst (v := nI 2) hx hb dMH_small_71 (by decide) ?_
                    refine mi_ge (tgt := 182) hx hb dMH_small_72 (by decide) (by omega) (by omega) (fun h37 => ?_) (fun h37 => absurd h37 (by omega))
                    refine lv_goto (tgt := 49) hx hb dMH_small_182 (by decide) ?_
                    exact ih21 (nn21 + 1 + 1) s28 x36 pl ls H locs (by omega) (by omega) (by omega) hF hf99 hf100 hf101 hf102 hf103 hf104 hf105 hf106 hf107 (by have h9 := hf108; rw [show x37 = x34 by omega] at h9; exact h9) hE hR (lv_sub hl [1, 4, 5] rfl) hO hP hD hS
                  · replace hR := hR.trans (if_neg h36)
                    replace hE := iteP_neg h36 hE
                    refine lv_iload hx hb dMH_small_162 (lv_at hl 0 rfl) ?_
                    refine lv_ldc (v := 8380417) hx hb hown (hts _ (wg_t kw_1429)) dMH_small_164 ?_
                    refine mi_as (show (8380417 : Int32) = nI 8380417 by decide) ?_
                    refine lv_iadd hx hb dMH_small_166 ?_
                    refine lv_goto (tgt := 172) hx hb dMH_small_167 (by decide) ?_
                    refine nw_iast hx hb hK hO hU k_f (k := pf) n_f hP hD hS (by omega) (by omega) dMH_small_172 (fun s29 pl H locs es23 hO hP hD hS => ?_)
                    replace hR := bnd_step hR es23
                    replace hE := bndP_step hE es23
                    have hF := frm_sI hF es23 (by unfold M_MH_small_1; omega)
                    have hf109 : s29.1 225 23 = nI 1 := fc_ne hf89 es23 (by omega)
                    have hf110 : s29.1 225 24 = nI 6 := fc_ne hf90 es23 (by omega)
                    have hf111 : s29.1 225 25 = nI 5 := fc_ne hf91 es23 (by omega)
                    have hf112 : s29.1 225 26 = nI 4 := fc_ne hf92 es23 (by omega)
                    have hf113 : s29.1 225 27 = nI 524288 := fc_ne hf93 es23 (by omega)
                    have hf114 : s29.1 225 28 = nI 261888 := fc_ne hf94 es23 (by omega)
                    have hf115 : s29.1 225 29 = nI 196 := fc_ne hf95 es23 (by omega)
                    have hf116 : s29.1 225 30 = nI 48 := fc_ne hf96 es23 (by omega)
                    have hf117 : s29.1 172 6 = nI x36 := fc_ne hf97 es23 (by omega)
                    have hf118 : s29.1 172 5 = nI x37 := fc_ne hf98 es23 (by omega)
                    refine mi_iinc (k := 2) (x := nn21 + 1) (d := 1) (y := nn21 + 1 + 1) (lv' := [(5, .int (nI (nn21 + 1 + 1))), (8, .int z27), (7, .int (nI 1)), (6, .int (nI z21)), (0, .ref h0), (1, .ref f)]) hx hb dMH_small_173 hl rfl (by decide) rfl (by decide) rfl (fun ls hl => ?_)
                    refine mi_iinc (k := 2) (x := 1) (d := 1) (y := 2) (lv' := [(7, .int (nI 2)), (5, .int (nI (nn21 + 1 + 1))), (8, .int z27), (6, .int (nI z21)), (0, .ref h0), (1, .ref f)]) hx hb dMH_small_176 hl rfl (by decide) rfl (by decide) rfl (fun ls hl => ?_)
                    refine lv_goto (tgt := 69) hx hb dMH_small_179 (by decide) ?_
                    refine lv_iload hx hb dMH_small_69 (lv_at hl 0 rfl) ?_
                    refine lv_iconst (v := nI 2) hx hb dMH_small_71 (by decide) ?_
                    refine mi_ge (tgt := 182) hx hb dMH_small_72 (by decide) (by omega) (by omega) (fun h38 => ?_) (fun h38 => absurd h38 (by omega))
                    refine lv_goto (tgt := 49) hx hb dMH_small_182 (by decide) ?_
                    exact ih21 (nn21 + 1 + 1) s29 x36 pl ls H locs (by omega) (by omega) (by omega) hF hf109 hf110 hf111 hf112 hf113 hf114 hf115 hf116 hf117 (by have h9 := hf118; rw [show x37 = x34 by omega] at h9; exact h9) hE hR (lv_sub hl [1, 4, 5] rfl) hO hP hD hS
                · replace hR := hR.trans (if_neg (Nat.not_le.mpr h34))
                  replace hE := iteP_neg (Nat.not_le.mpr h34) hE
                  refine lv_goto (tgt := 176) hx hb dMH_small_128 (by decide) ?_
                  refine mi_iinc (k := 1) (x := 1) (d := 1) (y := 2) (lv' := [(7, .int (nI 2)), (8, .int (nI (z21 / 16))), (5, .int (nI (nn21 + 1))), (6, .int (nI z21)), (0, .ref h0), (1, .ref f)]) hx hb dMH_small_176 hl rfl (by decide) rfl (by decide) rfl (fun ls hl => ?_)
                  refine lv_goto (tgt := 69) hx hb dMH_small_179 (by decide) ?_
                  refine lv_iload hx hb dMH_small_69 (lv_at hl 0 rfl) ?_
                  refine lv_iconst (v := nI 2) hx hb dMH_small_71 (by decide) ?_
                  refine mi_ge (tgt := 182) hx hb dMH_small_72 (by decide) (by omega) (by omega) (fun h39 => ?_) (fun h39 => absurd h39 (by omega))
                  refine lv_goto (tgt := 49) hx hb dMH_small_182 (by decide) ?_
                  exact ih21 (nn21 + 1) s27 x36 pl ls H locs (by omega) (by omega) (by omega) hF hf89 hf90 hf91 hf92 hf93 hf94 hf95 hf96 hf97 (by have h9 := hf98; rw [show x37 = x34 by omega] at h9; exact h9) hE hR (lv_sub hl [2, 4, 5] rfl) hO hP hD hS
            · replace hR := hR.trans (if_neg h29)
              replace hE := iteP_neg h29 hE
              refine lv_iload hx hb dMH_small_162 (lv_at hl 0 rfl) ?_
              refine lv_ldc (v := 8380417) hx hb hown (hts _ (wg_t kw_1429)) dMH_small_164 ?_
              refine mi_as (show (8380417 : Int32) = nI 8380417 by decide) ?_
              refine lv_iadd hx hb dMH_small_166 ?_
              refine lv_goto (tgt := 172) hx hb dMH_small_167 (by decide) ?_
              refine nw_iast hx hb hK hO hU k_f (k := pf) n_f hP hD hS (by omega) (by omega) dMH_small_172 (fun s30 pl H locs es24 hO hP hD hS => ?_)
              replace hR := bnd_step hR es24
              replace hE := bndP_step hE es24
              have hF := frm_sI hF es24 (by unfold M_MH_small_1; omega)
              have hf119 : s30.1 225 23 = nI 1 := fc_ne hf81 es24 (by omega)
              have hf120 : s30.1 225 24 = nI 6 := fc_ne hf82 es24 (by omega)
              have hf121 : s30.1 225 25 = nI 5 := fc_ne hf83 es24 (by omega)
              have hf122 : s30.1 225 26 = nI 4 := fc_ne hf84 es24 (by omega)
              have hf123 : s30.1 225 27 = nI 524288 := fc_ne hf85 es24 (by omega)
              have hf124 : s30.1 225 28 = nI 261888 := fc_ne hf86 es24 (by omega)
              have hf125 : s30.1 225 29 = nI 196 := fc_ne hf87 es24 (by omega)
              have hf126 : s30.1 225 30 = nI 48 := fc_ne hf88 es24 (by omega)
              have hf127 : s30.1 172 6 = nI x36 := fc_ne hx_36 es24 (by omega)
              have hf128 : s30.1 172 5 = nI x37 := fc_ne hx_37 es24 (by omega)
              refine mi_iinc (k := 3) (x := nn21) (d := 1) (y := nn21 + 1) (lv' := [(5, .int (nI (nn21 + 1))), (8, .int z24), (7, .int (nI 0)), (6, .int (nI z21)), (0, .ref h0), (1, .ref f)]) hx hb dMH_small_173 hl rfl (by decide) rfl (by decide) rfl (fun ls hl => ?_)
              refine mi_iinc (k := 2) (x := 0) (d := 1) (y := 1) (lv' := [(7, .int (nI 1)), (5, .int (nI (nn21 + 1))), (8, .int z24), (6, .int (nI z21)), (0, .ref h0), (1, .ref f)]) hx hb dMH_small_176 hl rfl (by decide) rfl (by decide) rfl (fun ls hl => ?_)
              refine lv_goto (tgt := 69) hx hb dMH_small_179 (by decide) ?_
              refine lv_iload hx hb dMH_small_69 (lv_at hl 0 rfl) ?_
              refine lv_iconst (v := nI 2) hx hb dMH_small_71 (by decide) ?_
              refine mi_ge (tgt := 182) hx hb dMH_small_72 (by decide) (by omega) (by omega) (fun h40 => absurd h40 (by omega)) (fun h40 => ?_)
              refine lv_iload hx hb dMH_small_75 (lv_at hl 1 rfl) ?_
              refine lv_sipush (v := nI 256) hx hb dMH_small_77 (by decide) ?_
              refine mi_ge (tgt := 182) hx hb dMH_small_80 (by decide) (by omega) (by omega) (fun h41 => ?_) (fun h41 => ?_)
              · replace hR := hR.trans (if_pos h41)
                replace hE := iteP_pos h41 hE
                refine lv_goto (tgt := 49) hx hb dMH_small_182 (by decide) ?_
                exact ih21 (nn21 + 1) s30 x36 pl ls H locs (by omega) (by omega) (by omega) hF hf119 hf120 hf121 hf122 hf123 hf124 hf125 hf126 hf127 (by have h9 := hf128; rw [show x37 = x34 by omega] at h9; exact h9) hE hR (lv_sub hl [1, 4, 5] rfl) hO hP hD hS
              · replace hR := hR.trans (if_neg (Nat.not_le.mpr h41))
                replace hE := iteP_neg (Nat.not_le.mpr h41) hE
                refine lv_iload hx hb dMH_small_83 (lv_at hl 0 rfl) ?_
                refine lv_if_ne (tgt := 96) hx hb dMH_small_85 (by decide) (fun h42 => ?_) (fun h42 => absurd h42 (by decide))
                refine lv_iload hx hb dMH_small_96 (lv_at hl 3 rfl) ?_
                refine lv_bipush (v := nI 16) hx hb dMH_small_98 (by decide) ?_
                refine mi_idiv hx hb dMH_small_100 (by omega) (by omega) (by omega) ?_
                refine lv_istore (lv' := [(8, .int (nI (z21 / 16))), (7, .int (nI 1)), (5, .int (nI (nn21 + 1))), (6, .int (nI z21)), (0, .ref h0), (1, .ref f)]) hx hb dMH_small_101 hl (by decide) rfl (fun ls hl => ?_)
                refine lv_aload_n hx hb dMH_small_103 rfl (lv_at hl 4 rfl) ?_
                refine nw_get (C := "LatticeKeysModel$Hands") (TT := T_MH) (N := 31) hx hb hts (wg_ft i_MH) hown hK hO k_h0 (kn := 225) (ci := 12) (fl := [(3, 172), (3, 181), (3, 226), (3, 291), (3, 299), (3, 308), (3, 317), (3, 326), (3, 334), (3, 342), (3, 350), (3, 359), (3, 368), (3, 369), (3, 370), (3, 371), (3, 372), (3, 373), (3, 374), (3, 375), (3, 376), (3, 377), (3, 378), (0, 0), (0, 0), (0, 0), (0, 0), (0, 0), (0, 0), (0, 0), (0, 0)]) rfl hP rfl 26 (by decide) (hts _ (wg_t kw_1458)) (fun _ h9 => h9) (cd := (0, 0)) rfl dMH_small_104 (fun v31 hv31 => ?_)
                obtain rfl := (show v31 = .int (s30.1 225 26) from hv31)
                obtain ⟨z28, ez28, hz31, hz32⟩ := cl_of (b := 2147483648) hf122 (by omega) (by decide)
                replace hR := bnd_step hR ez28
                replace hE := bndP_step hE ez28
                refine mi_as hz31 ?_
                subst hz32
                refine lv_iconst (v := nI 2) hx hb dMH_small_107 (by decide) ?_
                refine mi_ne (tgt := 121) hx hb dMH_small_108 (by decide) (by omega) (by omega) (fun h43 => ?_) (fun h43 => absurd h43 (by omega))
                refine lv_iload hx hb dMH_small_121 (lv_at hl 0 rfl) ?_
                refine lv_bipush (v := nI 8) hx hb dMH_small_123 (by decide) ?_
                refine mi_le (tgt := 131) hx hb dMH_small_125 (by decide) (by omega) (by omega) (fun h44 => ?_) (fun h44 => ?_)
                · replace hR := hR.trans (if_pos h44)
                  replace hE := iteP_pos h44 hE
                  refine lv_aload_n hx hb dMH_small_131 rfl (lv_at hl 4 rfl) ?_
                  refine nw_get (C := "LatticeKeysModel$Hands") (TT := T_MH) (N := 31) hx hb hts (wg_ft i_MH) hown hK hO k_h0 (kn := 225) (ci := 12) (fl := [(3, 172), (3, 181), (3, 226), (3, 291), (3, 299), (3, 308), (3, 317), (3, 326), (3, 334), (3, 342), (3, 350), (3, 359), (3, 368), (3, 369), (3, 370), (3, 371), (3, 372), (3, 373), (3, 374), (3, 375), (3, 376), (3, 377), (3, 378), (0, 0), (0, 0), (0, 0), (0, 0), (0, 0), (0, 0), (0, 0), (0, 0)]) rfl hP rfl 26 (by decide) (hts _ (wg_t kw_1458)) (fun _ h9 => h9) (cd := (0, 0)) rfl dMH_small_132 (fun v32 hv32 => ?_)
                  obtain rfl := (show v32 = .int (s30.1 225 26) from hv32)
                  obtain ⟨z29, ez29, hz33, hz34⟩ := cl_of (b := 2147483648) hf122 (by omega) (by decide)
                  replace hR := bnd_step hR ez29
                  replace hE := bndP_step hE ez29
                  refine mi_as hz33 ?_
                  subst hz34
                  refine lv_iconst (v := nI 2) hx hb dMH_small_135 (by decide) ?_
                  refine mi_ne (tgt := 148) hx hb dMH_small_136 (by decide) (by omega) (by omega) (fun h45 => ?_) (fun h45 => absurd h45 (by omega))
                  refine lv_iconst (v := nI 4) hx hb dMH_small_148 (by decide) ?_
                  refine lv_iload hx hb dMH_small_149 (lv_at hl 0 rfl) ?_
                  refine lv_isub hx hb dMH_small_151 ?_
                  refine mi_eqv (fun z30 ez30 => ?_)
                  replace hR := bnd_step hR ez30
                  replace hE := bndP_step hE ez30
                  refine lv_istore (lv' := [(8, .int z30), (7, .int (nI 1)), (5, .int (nI (nn21 + 1))), (6, .int (nI z21)), (0, .ref h0), (1, .ref f)]) hx hb dMH_small_152 hl (by decide) rfl (fun ls hl => ?_)
                  refine lv_aload_n hx hb dMH_small_154 rfl (lv_at hl 5 rfl) ?_
                  refine lv_iload hx hb dMH_small_155 (lv_at hl 2 rfl) ?_
                  refine lv_iload hx hb dMH_small_157 (lv_at hl 0 rfl) ?_
                  refine lv_if_ge (tgt := 170) hx hb dMH_small_159 (by decide) (fun h46 => ?_) (fun h46 => ?_)
                  · replace hR := hR.trans (if_pos h46)
                    replace hE := iteP_pos h46 hE
                    refine lv_iload hx hb dMH_small_170 (lv_at hl 0 rfl) ?_
                    refine nw_iast hx hb hK hO hU k_f (k := pf) n_f hP hD hS (by omega) (by omega) dMH_small_172 (fun s31 pl H locs es25 hO hP hD hS => ?_)
                    replace hR := bnd_step hR es25
                    replace hE := bndP_step hE es25
                    have hF := frm_sI hF es25 (by unfold M_MH_small_1; omega)
                    have hf129 : s31.1 225 23 = nI 1 := fc_ne hf119 es25 (by omega)
                    have hf130 : s31.1 225 24 = nI 6 := fc_ne hf120 es25 (by omega)
                    have hf131 : s31.1 225 25 = nI 5 := fc_ne hf121 es25 (by omega)
                    have hf132 : s31.1 225 26 = nI 4 := fc_ne hf122 es25 (by omega)
                    have hf133 : s31.1 225 27 = nI 524288 := fc_ne hf123 es25 (by omega)
                    have hf134 : s31.1 225 28 = nI 261888 := fc_ne hf124 es25 (by omega)
                    have hf135 : s31.1 225 29 = nI 196 := fc_ne hf125 es25 (by omega)
                    have hf136 : s31.1 225 30 = nI 48 := fc_ne hf126 es25 (by omega)
                    have hf137 : s31.1 172 6 = nI x36 := fc_ne hf127 es25 (by omega)
                    have hf138 : s31.1 172 5 = nI x37 := fc_ne hf128 es25 (by omega)
                    refine mi_iinc (k := 2) (x := nn21 + 1) (d := 1) (y := nn21 + 1 + 1) (lv' := [(5, .int (nI (nn21 + 1 + 1))), (8, .int z30), (7, .int (nI 1)), (6, .int (nI z21)), (0, .ref h0), (1, .ref f)]) hx hb dMH_small_173 hl rfl (by decide) rfl (by decide) rfl (fun ls hl => ?_)
                    refine mi_iinc (k := 2) (x := 1) (d := 1) (y := 2) (lv' := [(7, .int (nI 2)), (5, .int (nI (nn21 + 1 + 1))), (8, .int z30), (6, .int (nI z21)), (0, .ref h0), (1, .ref f)]) hx hb dMH_small_176 hl rfl (by decide) rfl (by decide) rfl (fun ls hl => ?_)
                    refine lv_goto (tgt := 69) hx hb dMH_small_179 (by decide) ?_
                    refine lv_iload hx hb dMH_small_69 (lv_at hl 0 rfl) ?_
                    refine lv_iconst (v := nI 2) hx hb dMH_small_71 (by decide) ?_
                    refine mi_ge (tgt := 182) hx hb dMH_small_72 (by decide) (by omega) (by omega) (fun h47 => ?_) (fun h47 => absurd h47 (by omega))
                    refine lv_goto (tgt := 49) hx hb dMH_small_182 (by decide) ?_
                    exact ih21 (nn21 + 1 + 1) s31 x36 pl ls H locs (by omega) (by omega) (by omega) hF hf129 hf130 hf131 hf132 hf133 hf134 hf135 hf136 hf137 (by have h9 := hf138; rw [show x37 = x34 by omega] at h9; exact h9) hE hR (lv_sub hl [1, 4, 5] rfl) hO hP hD hS
                  · replace hR := hR.trans (if_neg h46)
                    replace hE := iteP_neg h46 hE
                    refine lv_iload hx hb dMH_small_162 (lv_at hl 0 rfl) ?_
                    refine lv_ldc (v := 8380417) hx hb hown (hts _ (wg_t kw_1429)) dMH_small_164 ?_
                    refine mi_as (show (8380417 : Int32) = nI 8380417 by decide) ?_
                    refine lv_iadd hx hb dMH_small_166 ?_
                    refine lv_goto (tgt := 172) hx hb dMH_small_167 (by decide) ?_
                    refine nw_iast hx hb hK hO hU k_f (k := pf) n_f hP hD hS (by omega) (by omega) dMH_small_172 (fun s32 pl H locs es26 hO hP hD hS => ?_)
                    replace hR := bnd_step hR es26
                    replace hE := bndP_step hE es26
                    have hF := frm_sI hF es26 (by unfold M_MH_small_1; omega)
                    have hf139 : s32.1 225 23 = nI 1 := fc_ne hf119 es26 (by omega)
                    have hf140 : s32.1 225 24 = nI 6 := fc_ne hf120 es26 (by omega)
                    have hf141 : s32.1 225 25 = nI 5 := fc_ne hf121 es26 (by omega)
                    have hf142 : s32.1 225 26 = nI 4 := fc_ne hf122 es26 (by omega)
                    have hf143 : s32.1 225 27 = nI 524288 := fc_ne hf123 es26 (by omega)
                    have hf144 : s32.1 225 28 = nI 261888 := fc_ne hf124 es26 (by omega)
                    have hf145 : s32.1 225 29 = nI 196 := fc_ne hf125 es26 (by omega)
                    have hf146 : s32.1 225 30 = nI 48 := fc_ne hf126 es26 (by omega)
                    have hf147 : s32.1 172 6 = nI x36 := fc_ne hf127 es26 (by omega)
                    have hf148 : s32.1 172 5 = nI x37 := fc_ne hf128 es26 (by omega)
                    refine mi_iinc (k := 2) (x := nn21 + 1) (d := 1) (y := nn21 + 1 + 1) (lv' := [(5, .int (nI (nn21 + 1 + 1))), (8, .int z30), (7, .int (nI 1)), (6, .int (nI z21)), (0, .ref h0), (1, .ref f)]) hx hb dMH_small_173 hl rfl (by decide) rfl (by decide) rfl (fun ls hl => ?_)
                    refine mi_iinc (k := 2) (x := 1) (d := 1) (y := 2) (lv' := [(7, .int (nI 2)), (5, .int (nI (nn21 + 1 + 1))), (8, .int z30), (6, .int (nI z21)), (0, .ref h0), (1, .ref f)]) hx hb dMH_small_176 hl rfl (by decide) rfl (by decide) rfl (fun ls hl => ?_)
                    refine lv_goto (tgt := 69) hx hb dMH_small_179 (by decide) ?_
                    refine lv_iload hx hb dMH_small_69 (lv_at hl 0 rfl) ?_
                    refine lv_iconst (v := nI 2) hx hb dMH_small_71 (by decide) ?_
                    refine mi_ge (tgt := 182) hx hb dMH_small_72 (by decide) (by omega) (by omega) (fun h48 => ?_) (fun h48 => absurd h48 (by omega))
                    refine lv_goto (tgt := 49) hx hb dMH_small_182 (by decide) ?_
                    exact ih21 (nn21 + 1 + 1) s32 x36 pl ls H locs (by omega) (by omega) (by omega) hF hf139 hf140 hf141 hf142 hf143 hf144 hf145 hf146 hf147 (by have h9 := hf148; rw [show x37 = x34 by omega] at h9; exact h9) hE hR (lv_sub hl [1, 4, 5] rfl) hO hP hD hS
                · replace hR := hR.trans (if_neg (Nat.not_le.mpr h44))
                  replace hE := iteP_neg (Nat.not_le.mpr h44) hE
                  refine lv_goto (tgt := 176) hx hb dMH_small_128 (by decide) ?_
                  refine mi_iinc (k := 1) (x := 1) (d := 1) (y := 2) (lv' := [(7, .int (nI 2)), (8, .int (nI (z21 / 16))), (5, .int (nI (nn21 + 1))), (6, .int (nI z21)), (0, .ref h0), (1, .ref f)]) hx hb dMH_small_176 hl rfl (by decide) rfl (by decide) rfl (fun ls hl => ?_)
                  refine lv_goto (tgt := 69) hx hb dMH_small_179 (by decide) ?_
                  refine lv_iload hx hb dMH_small_69 (lv_at hl 0 rfl) ?_
                  refine lv_iconst (v := nI 2) hx hb dMH_small_71 (by decide) ?_
                  refine mi_ge (tgt := 182) hx hb dMH_small_72 (by decide) (by omega) (by omega) (fun h49 => ?_) (fun h49 => absurd h49 (by omega))
                  refine lv_goto (tgt := 49) hx hb dMH_small_182 (by decide) ?_
                  exact ih21 (nn21 + 1) s30 x36 pl ls H locs (by omega) (by omega) (by omega) hF hf119 hf120 hf121 hf122 hf123 hf124 hf125 hf126 hf127 (by have h9 := hf128; rw [show x37 = x34 by omega] at h9; exact h9) hE hR (lv_sub hl [2, 4, 5] rfl) hO hP hD hS
          · replace hR := hR.trans (if_neg (Nat.not_le.mpr h27))
            replace hE := iteP_neg (Nat.not_le.mpr h27) hE
            refine lv_goto (tgt := 176) hx hb dMH_small_128 (by decide) ?_
            refine mi_iinc (k := 1) (x := 0) (d := 1) (y := 1) (lv' := [(7, .int (nI 1)), (8, .int (nI (z21 % 16))), (6, .int (nI z21)), (5, .int (nI nn21)), (0, .ref h0), (1, .ref f)]) hx hb dMH_small_176 hl rfl (by decide) rfl (by decide) rfl (fun ls hl => ?_)
            refine lv_goto (tgt := 69) hx hb dMH_small_179 (by decide) ?_
            refine lv_iload hx hb dMH_small_69 (lv_at hl 0 rfl) ?_
            refine lv_iconst (v := nI 2) hx hb dMH_small_71 (by decide) ?_
            refine mi_ge (tgt := 182) hx hb dMH_small_72 (by decide) (by omega) (by omega) (fun h50 => absurd h50 (by omega)) (fun h50 => ?_)
            refine lv_iload hx hb dMH_small_75 (lv_at hl 3 rfl) ?_
            refine lv_sipush (v := nI 256) hx hb dMH_small_77 (by decide) ?_
            refine mi_ge (tgt := 182) hx hb dMH_small_80 (by decide) (by omega) (by omega) (fun h51 => ?_) (fun h51 => ?_)
            · replace hR := hR.trans (if_pos h51)
              replace hE := iteP_pos h51 hE
              refine lv_goto (tgt := 49) hx hb dMH_small_182 (by decide) ?_
              exact ih21 nn21 q21.2 x36 pl ls H locs (by omega) (by omega) (by omega) hF hf81 hf82 hf83 hf84 hf85 hf86 hf87 hf88 hx_36 (by have h9 := hx_37; rw [show x37 = x34 by omega] at h9; exact h9) hE hR (lv_sub hl [3, 4, 5] rfl) hO hP hD hS
            · replace hR := hR.trans (if_neg (Nat.not_le.mpr h51))
              replace hE := iteP_neg (Nat.not_le.mpr h51) hE
              refine lv_iload hx hb dMH_small_83 (lv_at hl 0 rfl) ?_
              refine lv_if_ne (tgt := 96) hx hb dMH_small_85 (by decide) (fun h52 => ?_) (fun h52 => absurd h52 (by decide))
              refine lv_iload hx hb dMH_small_96 (lv_at hl 2 rfl) ?_
              refine lv_bipush (v := nI 16) hx hb dMH_small_98 (by decide) ?_
              refine mi_idiv hx hb dMH_small_100 (by omega) (by omega) (by omega) ?_
              refine lv_istore (lv' := [(8, .int (nI (z21 / 16))), (7, .int (nI 1)), (6, .int (nI z21)), (5, .int (nI nn21)), (0, .ref h0), (1, .ref f)]) hx hb dMH_small_101 hl (by decide) rfl (fun ls hl => ?_)
              refine lv_aload_n hx hb dMH_small_103 rfl (lv_at hl 4 rfl) ?_
              refine nw_get (C := "LatticeKeysModel$Hands") (TT := T_MH) (N := 31) hx hb hts (wg_ft i_MH) hown hK hO k_h0 (kn := 225) (ci := 12) (fl := [(3, 172), (3, 181), (3, 226), (3, 291), (3, 299), (3, 308), (3, 317), (3, 326), (3, 334), (3, 342), (3, 350), (3, 359), (3, 368), (3, 369), (3, 370), (3, 371), (3, 372), (3, 373), (3, 374), (3, 375), (3, 376), (3, 377), (3, 378), (0, 0), (0, 0), (0, 0), (0, 0), (0, 0), (0, 0), (0, 0), (0, 0)]) rfl hP rfl 26 (by decide) (hts _ (wg_t kw_1458)) (fun _ h9 => h9) (cd := (0, 0)) rfl dMH_small_104 (fun v33 hv33 => ?_)
              obtain rfl := (show v33 = .int (q21.2.1 225 26) from hv33)
              obtain ⟨z31, ez31, hz35, hz36⟩ := cl_of (b := 2147483648) hf84 (by omega) (by decide)
              replace hR := bnd_step hR ez31
              replace hE := bndP_step hE ez31
              refine mi_as hz35 ?_
              subst hz36
              refine lv_iconst (v := nI 2) hx hb dMH_small_107 (by decide) ?_
              refine mi_ne (tgt := 121) hx hb dMH_small_108 (by decide) (by omega) (by omega) (fun h53 => ?_) (fun h53 => absurd h53 (by omega))
              refine lv_iload hx hb dMH_small_121 (lv_at hl 0 rfl) ?_
              refine lv_bipush (v := nI 8) hx hb dMH_small_123 (by decide) ?_
              refine mi_le (tgt := 131) hx hb dMH_small_125 (by decide) (by omega) (by omega) (fun h54 => ?_) (fun h54 => ?_)
              · replace hR := hR.trans (if_pos h54)
                replace hE := iteP_pos h54 hE
                refine lv_aload_n hx hb dMH_small_131 rfl (lv_at hl 4 rfl) ?_
                refine nw_get (C := "LatticeKeysModel$Hands") (TT := T_MH) (N := 31) hx hb hts (wg_ft i_MH) hown hK hO k_h0 (kn := 225) (ci := 12) (fl := [(3, 172), (3, 181), (3, 226), (3, 291), (3, 299), (3, 308), (3, 317), (3, 326), (3, 334), (3, 342), (3, 350), (3, 359), (3, 368), (3, 369), (3, 370), (3, 371), (3, 372), (3, 373), (3, 374), (3, 375), (3, 376), (3, 377), (3, 378), (0, 0), (0, 0), (0, 0), (0, 0), (0, 0), (0, 0), (0, 0), (0, 0)]) rfl hP rfl 26 (by decide) (hts _ (wg_t kw_1458)) (fun _ h9 => h9) (cd := (0, 0)) rfl dMH_small_132 (fun v34 hv34 => ?_)
                obtain rfl := (show v34 = .int (q21.2.1 225 26) from hv34)
                obtain ⟨z32, ez32, hz37, hz38⟩ := cl_of (b := 2147483648) hf84 (by omega) (by decide)
                replace hR := bnd_step hR ez32
                replace hE := bndP_step hE ez32
                refine mi_as hz37 ?_
                subst hz38
                refine lv_iconst (v := nI 2) hx hb dMH_small_135 (by decide) ?_
                refine mi_ne (tgt := 148) hx hb dMH_small_136 (by decide) (by omega) (by omega) (fun h55 => ?_) (fun h55 => absurd h55 (by omega))
                refine lv_iconst (v := nI 4) hx hb dMH_small_148 (by decide) ?_
                refine lv_iload hx hb dMH_small_149 (lv_at hl 0 rfl) ?_
                refine lv_isub hx hb dMH_small_151 ?_
                refine mi_eqv (fun z33 ez33 => ?_)
                replace hR := bnd_step hR ez33
                replace hE := bndP_step hE ez33
                refine lv_istore (lv' := [(8, .int z33), (7, .int (nI 1)), (6, .int (nI z21)), (5, .int (nI nn21)), (0, .ref h0), (1, .ref f)]) hx hb dMH_small_152 hl (by decide) rfl (fun ls hl => ?_)
                refine lv_aload_n hx hb dMH_small_154 rfl (lv_at hl 5 rfl) ?_
                refine lv_iload hx hb dMH_small_155 (lv_at hl 3 rfl) ?_
                refine lv_iload hx hb dMH_small_157 (lv_at hl 0 rfl) ?_
                refine lv_if_ge (tgt := 170) hx hb dMH_small_159 (by decide) (fun h56 => ?_) (fun h56 => ?_)
                · replace hR := hR.trans (if_pos h56)
                  replace hE := iteP_pos h56 hE
                  refine lv_iload hx hb dMH_small_170 (lv_at hl 0 rfl) ?_
                  refine nw_iast hx hb hK hO hU k_f (k := pf) n_f hP hD hS (by omega) (by omega) dMH_small_172 (fun s33 pl H locs es27 hO hP hD hS => ?_)
                  replace hR := bnd_step hR es27
                  replace hE := bndP_step hE es27
                  have hF := frm_sI hF es27 (by unfold M_MH_small_1; omega)
                  have hf149 : s33.1 225 23 = nI 1 := fc_ne hf81 es27 (by omega)
                  have hf150 : s33.1 225 24 = nI 6 := fc_ne hf82 es27 (by omega)
                  have hf151 : s33.1 225 25 = nI 5 := fc_ne hf83 es27 (by omega)
                  have hf152 : s33.1 225 26 = nI 4 := fc_ne hf84 es27 (by omega)
                  have hf153 : s33.1 225 27 = nI 524288 := fc_ne hf85 es27 (by omega)
                  have hf154 : s33.1 225 28 = nI 261888 := fc_ne hf86 es27 (by omega)
                  have hf155 : s33.1 225 29 = nI 196 := fc_ne hf87 es27 (by omega)
                  have hf156 : s33.1 225 30 = nI 48 := fc_ne hf88 es27 (by omega)
                  have hf157 : s33.1 172 6 = nI x36 := fc_ne hx_36 es27 (by omega)
                  have hf158 : s33.1 172 5 = nI x37 := fc_ne hx_37 es27 (by omega)
                  refine mi_iinc (k := 3) (x := nn21) (d := 1) (y := nn21 + 1) (lv' := [(5, .int (nI (nn21 + 1))), (8, .int z33), (7, .int (nI 1)), (6, .int (nI z21)), (0, .ref h0), (1, .ref f)]) hx hb dMH_small_173 hl rfl (by decide) rfl (by decide) rfl (fun ls hl => ?_)
                  refine mi_iinc (k := 2) (x := 1) (d := 1) (y := 2) (lv' := [(7, .int (nI 2)), (5, .int (nI (nn21 + 1))), (8, .int z33), (6, .int (nI z21)), (0, .ref h0), (1, .ref f)]) hx hb dMH_small_176 hl rfl (by decide) rfl (by decide) rfl (fun ls hl => ?_)
                  refine lv_goto (tgt := 69) hx hb dMH_small_179 (by decide) ?_
                  refine lv_iload hx hb dMH_small_69 (lv_at hl 0 rfl) ?_
                  refine lv_iconst (v := nI 2) hx hb dMH_small_71 (by decide) ?_
                  refine mi_ge (tgt := 182) hx hb dMH_small_72 (by decide) (by omega) (by omega) (fun h57 => ?_) (fun h57 => absurd h57 (by omega))
                  refine lv_goto (tgt := 49) hx hb dMH_small_182 (by decide) ?_
                  exact ih21 (nn21 + 1) s33 x36 pl ls H locs (by omega) (by omega) (by omega) hF hf149 hf150 hf151 hf152 hf153 hf154 hf155 hf156 hf157 (by have h9 := hf158; rw [show x37 = x34 by omega] at h9; exact h9) hE hR (lv_sub hl [1, 4, 5] rfl) hO hP hD hS
                · replace hR := hR.trans (if_neg h56)
                  replace hE := iteP_neg h56 hE
                  refine lv_iload hx hb dMH_small_162 (lv_at hl 0 rfl) ?_
                  refine lv_ldc (v := 8380417) hx hb hown (hts _ (wg_t kw_1429)) dMH_small_164 ?_
                  refine mi_as (show (8380417 : Int32) = nI 8380417 by decide) ?_
                  refine lv_iadd hx hb dMH_small_166 ?_
                  refine lv_goto (tgt := 172) hx hb dMH_small_167 (by decide) ?_
                  refine nw_iast hx hb hK hO hU k_f (k := pf) n_f hP hD hS (by omega) (by omega) dMH_small_172 (fun s34 pl H locs es28 hO hP hD hS => ?_)
                  replace hR := bnd_step hR es28
                  replace hE := bndP_step hE es28
                  have hF := frm_sI hF es28 (by unfold M_MH_small_1; omega)
                  have hf159 : s34.1 225 23 = nI 1 := fc_ne hf81 es28 (by omega)
                  have hf160 : s34.1 225 24 = nI 6 := fc_ne hf82 es28 (by omega)
                  have hf161 : s34.1 225 25 = nI 5 := fc_ne hf83 es28 (by omega)
                  have hf162 : s34.1 225 26 = nI 4 := fc_ne hf84 es28 (by omega)
                  have hf163 : s34.1 225 27 = nI 524288 := fc_ne hf85 es28 (by omega)
                  have hf164 : s34.1 225 28 = nI 261888 := fc_ne hf86 es28 (by omega)
                  have hf165 : s34.1 225 29 = nI 196 := fc_ne hf87 es28 (by omega)
                  have hf166 : s34.1 225 30 = nI 48 := fc_ne hf88 es28 (by omega)
                  have hf167 : s34.1 172 6 = nI x36 := fc_ne hx_36 es28 (by omega)
                  have hf168 : s34.1 172 5 = nI x37 := fc_ne hx_37 es28 (by omega)
                  refine mi_iinc (k := 3) (x := nn21) (d := 1) (y := nn21 + 1) (lv' := [(5, .int (nI (nn21 + 1))), (8, .int z33), (7, .int (nI 1)), (6, .int (nI z21)), (0, .ref h0), (1, .ref f)]) hx hb dMH_small_173 hl rfl (by decide) rfl (by decide) rfl (fun ls hl => ?_)
                  refine mi_iinc (k := 2) (x := 1) (d := 1) (y := 2) (lv' := [(7, .int (nI 2)), (5, .int (nI (nn21 + 1))), (8, .int z33), (6, .int (nI z21)), (0, .ref h0), (1, .ref f)]) hx hb dMH_small_176 hl rfl (by decide) rfl (by decide) rfl (fun ls hl => ?_)
                  refine lv_goto (tgt := 69) hx hb dMH_small_179 (by decide) ?_
                  refine lv_iload hx hb dMH_small_69 (lv_at hl 0 rfl) ?_
                  refine lv_iconst (v := nI 2) hx hb dMH_small_71 (by decide) ?_
                  refine mi_ge (tgt := 182) hx hb dMH_small_72 (by decide) (by omega) (by omega) (fun h58 => ?_) (fun h58 => absurd h58 (by omega))
                  refine lv_goto (tgt := 49) hx hb dMH_small_182 (by decide) ?_
                  exact ih21 (nn21 + 1) s34 x36 pl ls H locs (by omega) (by omega) (by omega) hF hf159 hf160 hf161 hf162 hf163 hf164 hf165 hf166 hf167 (by have h9 := hf168; rw [show x37 = x34 by omega] at h9; exact h9) hE hR (lv_sub hl [1, 4, 5] rfl) hO hP hD hS
              · replace hR := hR.trans (if_neg (Nat.not_le.mpr h54))
                replace hE := iteP_neg (Nat.not_le.mpr h54) hE
                refine lv_goto (tgt := 176) hx hb dMH_small_128 (by decide) ?_
                refine mi_iinc (k := 1) (x := 1) (d := 1) (y := 2) (lv' := [(7, .int (nI 2)), (8, .int (nI (z21 / 16))), (6, .int (nI z21)), (5, .int (nI nn21)), (0, .ref h0), (1, .ref f)]) hx hb dMH_small_176 hl rfl (by decide) rfl (by decide) rfl (fun ls hl => ?_)
                refine lv_goto (tgt := 69) hx hb dMH_small_179 (by decide) ?_
                refine lv_iload hx hb dMH_small_69 (lv_at hl 0 rfl) ?_
                refine lv_iconst (v := nI 2) hx hb dMH_small_71 (by decide) ?_
                refine mi_ge (tgt := 182) hx hb dMH_small_72 (by decide) (by omega) (by omega) (fun h59 => ?_) (fun h59 => absurd h59 (by omega))
                refine lv_goto (tgt := 49) hx hb dMH_small_182 (by decide) ?_
                exact ih21 nn21 q21.2 x36 pl ls H locs (by omega) (by omega) (by omega) hF hf81 hf82 hf83 hf84 hf85 hf86 hf87 hf88 hx_36 (by have h9 := hx_37; rw [show x37 = x34 by omega] at h9; exact h9) hE hR (lv_sub hl [3, 4, 5] rfl) hO hP hD hS
  exact lp21 1000000 0 s25 x33 pl ls _ _ (by omega) (by omega) (by omega) hF hf53 hf54 hf55 hf56 hf57 hf58 hf59 hf60 hx_33 hx_34 hE hR (lv_sub hl [0, 1, 2] rfl) hO hP hD hS
def M_MH_small_2 (pf : Nat) (k : Nat) : Prop := k = 172 ∨ k = pf ∨ (0 : Nat) = 1
noncomputable def F_MH_small_2_L0 (pf : Nat) : Nat → Nat → Sto → Sto
  | 0, nn21, s26 => s26
  | n21 + 1, nn21, s26 => if 256 ≤ nn21 then s26 else bnd (F_MS_next  s26) fun q21 => bnd (q21.1.toNatClampNeg) fun z21 => if 256 ≤ nn21 then F_MH_small_2_L0 pf n21 nn21 q21.2 else bnd ((q21.2.1 225 26).toNatClampNeg) fun z22 => if z21 % 16 ≤ 14 then bnd ((q21.2.1 225 26).toNatClampNeg) fun z23 => bnd (((nI 2) - (nI ((z21 % 16) % 5)))) fun z24 => if 0 ≤ z24 then bnd (sI q21.2 pf nn21 z24) fun s27 => if 256 ≤ nn21 + 1 then F_MH_small_2_L0 pf n21 (nn21 + 1) s27 else bnd ((s27.1 225 26).toNatClampNeg) fun z25 => if z21 / 16 ≤ 14 then bnd ((s27.1 225 26).toNatClampNeg) fun z26 => bnd (((nI 2) - (nI ((z21 / 16) % 5)))) fun z27 => if 0 ≤ z27 then bnd (sI s27 pf (nn21 + 1) z27) fun s28 => F_MH_small_2_L0 pf n21 (nn21 + 1 + 1) s28 else bnd (sI s27 pf (nn21 + 1) (z27 + (nI 8380417))) fun s29 => F_MH_small_2_L0 pf n21 (nn21 + 1 + 1) s29 else F_MH_small_2_L0 pf n21 (nn21 + 1) s27 else bnd (sI q21.2 pf nn21 (z24 + (nI 8380417))) fun s30 => if 256 ≤ nn21 + 1 then F_MH_small_2_L0 pf n21 (nn21 + 1) s30 else bnd ((s30.1 225 26).toNatClampNeg) fun z28 => if z21 / 16 ≤ 14 then bnd ((s30.1 225 26).toNatClampNeg) fun z29 => bnd (((nI 2) - (nI ((z21 / 16) % 5)))) fun z30 => if 0 ≤ z30 then bnd (sI s30 pf (nn21 + 1) z30) fun s31 => F_MH_small_2_L0 pf n21 (nn21 + 1 + 1) s31 else bnd (sI s30 pf (nn21 + 1) (z30 + (nI 8380417))) fun s32 => F_MH_small_2_L0 pf n21 (nn21 + 1 + 1) s32 else F_MH_small_2_L0 pf n21 (nn21 + 1) s30 else if 256 ≤ nn21 then F_MH_small_2_L0 pf n21 nn21 q21.2 else bnd ((q21.2.1 225 26).toNatClampNeg) fun z31 => if z21 / 16 ≤ 14 then bnd ((q21.2.1 225 26).toNatClampNeg) fun z32 => bnd (((nI 2) - (nI ((z21 / 16) % 5)))) fun z33 => if 0 ≤ z33 then bnd (sI q21.2 pf nn21 z33) fun s33 => F_MH_small_2_L0 pf n21 (nn21 + 1) s33 else bnd (sI q21.2 pf nn21 (z33 + (nI 8380417))) fun s34 => F_MH_small_2_L0 pf n21 (nn21 + 1) s34 else F_MH_small_2_L0 pf n21 nn21 q21.2
noncomputable def E_MH_small_2_L0 (pf : Nat) : Nat → Nat → Sto → Prop
  | 0, nn21, s26 => (256 ≤ nn21) ∧ (True)
  | n21 + 1, nn21, s26 => if 256 ≤ nn21 then True else bnd (F_MS_next  s26) fun q21 => bnd (q21.1.toNatClampNeg) fun z21 => if 256 ≤ nn21 then E_MH_small_2_L0 pf n21 nn21 q21.2 else bnd ((q21.2.1 225 26).toNatClampNeg) fun z22 => if z21 % 16 ≤ 14 then bnd ((q21.2.1 225 26).toNatClampNeg) fun z23 => bnd (((nI 2) - (nI ((z21 % 16) % 5)))) fun z24 => if 0 ≤ z24 then bnd (sI q21.2 pf nn21 z24) fun s27 => if 256 ≤ nn21 + 1 then E_MH_small_2_L0 pf n21 (nn21 + 1) s27 else bnd ((s27.1 225 26).toNatClampNeg) fun z25 => if z21 / 16 ≤ 14 then bnd ((s27.1 225 26).toNatClampNeg) fun z26 => bnd (((nI 2) - (nI ((z21 / 16) % 5)))) fun z27 => if 0 ≤ z27 then bnd (sI s27 pf (nn21 + 1) z27) fun s28 => E_MH_small_2_L0 pf n21 (nn21 + 1 + 1) s28 else bnd (sI s27 pf (nn21 + 1) (z27 + (nI 8380417))) fun s29 => E_MH_small_2_L0 pf n21 (nn21 + 1 + 1) s29 else E_MH_small_2_L0 pf n21 (nn21 + 1) s27 else bnd (sI q21.2 pf nn21 (z24 + (nI 8380417))) fun s30 => if 256 ≤ nn21 + 1 then E_MH_small_2_L0 pf n21 (nn21 + 1) s30 else bnd ((s30.1 225 26).toNatClampNeg) fun z28 => if z21 / 16 ≤ 14 then bnd ((s30.1 225 26).toNatClampNeg) fun z29 => bnd (((nI 2) - (nI ((z21 / 16) % 5)))) fun z30 => if 0 ≤ z30 then bnd (sI s30 pf (nn21 + 1) z30) fun s31 => E_MH_small_2_L0 pf n21 (nn21 + 1 + 1) s31 else bnd (sI s30 pf (nn21 + 1) (z30 + (nI 8380417))) fun s32 => E_MH_small_2_L0 pf n21 (nn21 + 1 + 1) s32 else E_MH_small_2_L0 pf n21 (nn21 + 1) s30 else if 256 ≤ nn21 then E_MH_small_2_L0 pf n21 nn21 q21.2 else bnd ((q21.2.1 225 26).toNatClampNeg) fun z31 => if z21 / 16 ≤ 14 then bnd ((q21.2.1 225 26).toNatClampNeg) fun z32 => bnd (((nI 2) - (nI ((z21 / 16) % 5)))) fun z33 => if 0 ≤ z33 then bnd (sI q21.2 pf nn21 z33) fun s33 => E_MH_small_2_L0 pf n21 (nn21 + 1) s33 else bnd (sI q21.2 pf nn21 (z33 + (nI 8380417))) fun s34 => E_MH_small_2_L0 pf n21 (nn21 + 1) s34 else E_MH_small_2_L0 pf n21 nn21 q21.2
noncomputable def F_MH_small_2 (pf : Nat) (pb : Nat) (n : Nat) (at_ : Nat) (wh : Int32) (s : Sto) : Sto := bnd (F_MS_shake  s) fun s21 => bnd (F_MS_puts pb n at_ 64 s21) fun s22 => bnd (F_MS_put wh s22) fun s23 => bnd (F_MS_put (wh >>> ((nI 8) &&& 31)) s23) fun s24 => bnd (F_MS_end  s24) fun s25 => F_MH_small_2_L0 pf 1000000 0 s25
noncomputable def E_MH_small_2 (pf : Nat) (pb : Nat) (n : Nat) (at_ : Nat) (wh : Int32) (s : Sto) : Prop := bnd (F_MS_shake  s) fun s21 => bnd (F_MS_puts pb n at_ 64 s21) fun s22 => bnd (F_MS_put wh s22) fun s23 => bnd (F_MS_put (wh >>> ((nI 8) &&& 31)) s23) fun s24 => bnd (F_MS_end  s24) fun s25 => E_MH_small_2_L0 pf 1000000 0 s25
set_option maxHeartbeats 8000000 in
set_option maxRecDepth 100000 in
theorem N_MH_small_2 (l : Launch) (g : Gd) (sz : Nat) (T : TyN) (s : Sto) (pl : va_W) (hO : okn g T s pl) (hU : inj T) (h0 f b : Nat) (pf : Nat) (pb : Nat) (n : Nat) (at_ : Nat) (wh : Int32) (k_h0 : T h0 = some 225) (k_f : T f = some pf) (n_f : nsp pf = (0, 256, [])) (k_b : T b = some pb) (n_b : nsp pb = (1, n, [])) (e_c0 : s.1 225 23 = nI 2) (e_c1 : s.1 225 24 = nI 8) (e_c2 : s.1 225 25 = nI 7) (e_c3 : s.1 225 26 = nI 2) (e_c4 : s.1 225 27 = nI 524288) (e_c5 : s.1 225 28 = nI 261888) (e_c6 : s.1 225 29 = nI 120) (e_c7 : s.1 225 30 = nI 64) (h1 : at_ + 64 ≤ n) (h2 : n < 65536) (hE : E_MH_small_2 pf pb n at_ wh s)  : Met l y_MH_small w_MH_small ({ frames := 4, cells := 0, slots := 0, locals := 90 } : Room) (va_Pc [.ref h0, .ref f, .ref b, .int (nI at_), .int wh] (pr (en g) g.1 vcl sz ([] ++ pl))) (va_Qv (fun (u : (Sto) × va_W) => (u.1 = F_MH_small_2 pf pb n at_ wh s ∧ frm (M_MH_small_2 pf) s u.1 ∧ True) ∧ okn g T u.1 u.2) (po g.1 vcl (va_A ([] ++ pl) sz) (fun (u : (Sto) × va_W) => [] ++ u.2)) (va_A ([] ++ pl) sz)) 0 0 (va_A ([] ++ pl) sz) := by
  refine mc_entry (cc := c_MH_small) (maxL := 9) (ret := none) (by decide) rfl (Nat.le_of_ble_eq_true rfl) ?_
  intro p e s0 m args below meth c ls F hr hlk hnm hsz hP hD hEn hA hl
  obtain ⟨hx, hb, hml, hown, hts⟩ := id F
  have hK := hEn.1
  generalize va_A ([] ++ pl) sz = A at hD hEn hA ⊢
  have hS : va_S A s0.heap s0.heap [] := va_S.rf
  have hl : lv_has ls 9 [(0, .ref h0), (1, .ref f), (2, .ref b), (3, .int (nI at_)), (4, .int wh)] := hl
  have hR : F_MH_small_2 pf pb n at_ wh s = F_MH_small_2 pf pb n at_ wh s := rfl
  have hF : frm (M_MH_small_2 pf) s s := frm_rf
  have ne_172_pf : 172 ≠ pf := nsp_ne (p := 172) rfl n_f (show (5 : Nat) ≠ 0 by decide)
  have ne_172_pb : 172 ≠ pb := nsp_ne (p := 172) rfl n_b (show (5 : Nat) ≠ 1 by decide)
  have ne_225_pf : 225 ≠ pf := nsp_ne (p := 225) rfl n_f (show (5 : Nat) ≠ 0 by decide)
  have ne_225_pb : 225 ≠ pb := nsp_ne (p := 225) rfl n_b (show (5 : Nat) ≠ 1 by decide)
  refine lv_aload_n hx hb dMH_small_0 rfl (lv_at hl 0 rfl) ?_
  refine nw_get (C := "LatticeKeysModel$Hands") (TT := T_MH) (N := 31) hx hb hts (wg_ft i_MH) hown hK hO k_h0 (kn := 225) (ci := 12) (fl := [(3, 172), (3, 181), (3, 226), (3, 291), (3, 299), (3, 308), (3, 317), (3, 326), (3, 334), (3, 342), (3, 350), (3, 359), (3, 368), (3, 369), (3, 370), (3, 371), (3, 372), (3, 373), (3, 374), (3, 375), (3, 376), (3, 377), (3, 378), (0, 0), (0, 0), (0, 0), (0, 0), (0, 0), (0, 0), (0, 0), (0, 0)]) rfl hP rfl 0 (by decide) (hts _ (wg_t kw_1432)) (fun _ h9 => h9) (cd := (3, 172)) rfl dMH_small_1 (fun v21 hv21 => ?_)
  obtain ⟨r21, rfl, kr21⟩ := (show ∃ r : Nat, v21 = .ref r ∧ T r = some 172 from hv21)
  refine mp_v (cx := []) (wr := []) hP hD hS hA [] [] rfl rfl rfl (by decide) (va_runV (As := []) (rest := []) F (N_MS_shake l g _ T s pl hO hU r21 kr21) (cwV 0 hts (wg_app (wg_c kw_1714 (wg_c kw_1657 (wg_c kw_1658 (wg_c kw_10 wg_n)))) kw_1659) rfl rfl rfl (by decide +kernel) ⟨by decide, by decide⟩) (pn_V (en_ok g) (ci := 9) (kn := 172) (fl := [(3, 173), (3, 174), (3, 175), (3, 176), (3, 177), (0, 0), (0, 0), (0, 0)]) hK hO kr21 rfl hP hD hS hA hEn [] rfl rfl rfl) rfl rfl hl.1 rfl (lv_room (Nat.le_of_ble_eq_true rfl)) dMH_small_4 ⟨by omega, by omega⟩) (fun  u21 H locs hu21 hP hD hS => ?_)
  obtain ⟨s21, pl⟩ := u21
  obtain ⟨⟨eq21, hFc21, ⟨x21, hx_21, hb_21⟩, ⟨x22, hx_22, hb_22⟩, -⟩, hO⟩ := hu21
  have hO : okn g T s21 pl := hO
  have hP : va_P g.1 vcl ([] ++ pl) _ := hP
  have hD : va_D _ ([] ++ pl) := hD
  have hFc21 : frm (M_MS_shake) s s21 := hFc21
  have hb_21 : x21 = 0 := hb_21
  have hb_22 : x22 = 136 := hb_22
  replace hR := bnd_step hR eq21
  replace hE := bndP_step hE eq21
  have hF := frm_tr hF hFc21 (fun k hk => by unfold M_MS_shake at hk; unfold M_MH_small_2; omega)
  have hf21 : s21.1 225 23 = nI 2 := fc_F e_c0 hFc21 (by unfold M_MS_shake; omega)
  have hf22 : s21.1 225 24 = nI 8 := fc_F e_c1 hFc21 (by unfold M_MS_shake; omega)
  have hf23 : s21.1 225 25 = nI 7 := fc_F e_c2 hFc21 (by unfold M_MS_shake; omega)
  have hf24 : s21.1 225 26 = nI 2 := fc_F e_c3 hFc21 (by unfold M_MS_shake; omega)
  have hf25 : s21.1 225 27 = nI 524288 := fc_F e_c4 hFc21 (by unfold M_MS_shake; omega)
  have hf26 : s21.1 225 28 = nI 261888 := fc_F e_c5 hFc21 (by unfold M_MS_shake; omega)
  have hf27 : s21.1 225 29 = nI 120 := fc_F e_c6 hFc21 (by unfold M_MS_shake; omega)
  have hf28 : s21.1 225 30 = nI 64 := fc_F e_c7 hFc21 (by unfold M_MS_shake; omega)
  refine W.widen (k := 0) (n := 0) (by omega) (by omega) ?_
  refine lv_aload_n hx hb dMH_small_7 rfl (lv_at hl 0 rfl) ?_
  refine nw_get (C := "LatticeKeysModel$Hands") (TT := T_MH) (N := 31) hx hb hts (wg_ft i_MH) hown hK hO k_h0 (kn := 225) (ci := 12) (fl := [(3, 172), (3, 181), (3, 226), (3, 291), (3, 299), (3, 308), (3, 317), (3, 326), (3, 334), (3, 342), (3, 350), (3, 359), (3, 368), (3, 369), (3, 370), (3, 371), (3, 372), (3, 373), (3, 374), (3, 375), (3, 376), (3, 377), (3, 378), (0, 0), (0, 0), (0, 0), (0, 0), (0, 0), (0, 0), (0, 0), (0, 0)]) rfl hP rfl 0 (by decide) (hts _ (wg_t kw_1432)) (fun _ h9 => h9) (cd := (3, 172)) rfl dMH_small_8 (fun v22 hv22 => ?_)
  obtain ⟨r22, rfl, kr22⟩ := (show ∃ r : Nat, v22 = .ref r ∧ T r = some 172 from hv22)
  refine lv_aload_n hx hb dMH_small_11 rfl (lv_at hl 2 rfl) ?_
  refine lv_iload_n hx hb dMH_small_12 rfl (lv_at hl 3 rfl) ?_
  refine lv_bipush (v := nI 64) hx hb dMH_small_13 (by decide) ?_
  refine mp_v (cx := []) (wr := []) hP hD hS hA [] [] rfl rfl rfl (by decide) (va_runV (As := [.ref b, .int (nI at_), .int (nI 64)]) (rest := []) F (N_MS_puts l g _ T s21 pl hO hU r22 b pb n at_ 64 x21 x22 kr22 k_b n_b hx_21 hx_22 (by omega) (by omega) (by omega) (by omega)) (cwV 3 hts (wg_app (wg_c kw_1715 (wg_c kw_1608 (wg_c kw_1609 (wg_c kw_10 wg_n)))) kw_1610) rfl rfl rfl (by decide +kernel) ⟨by decide, by decide⟩) (pn_V (en_ok g) (ci := 9) (kn := 172) (fl := [(3, 173), (3, 174), (3, 175), (3, 176), (3, 177), (0, 0), (0, 0), (0, 0)]) hK hO kr22 rfl hP hD hS hA hEn [] rfl rfl rfl) rfl rfl hl.1 rfl (lv_room (Nat.le_of_ble_eq_true rfl)) dMH_small_15 ⟨by omega, by omega⟩) (fun  u22 H locs hu22 hP hD hS => ?_)
  obtain ⟨s22, pl⟩ := u22
  obtain ⟨⟨eq22, hFc22, ⟨x24, hx_24, hb_24⟩, ⟨x25, hx_25, hb_25⟩, -⟩, hO⟩ := hu22
  have hO : okn g T s22 pl := hO
  have hP : va_P g.1 vcl ([] ++ pl) _ := hP
  have hD : va_D _ ([] ++ pl) := hD
  have hFc22 : frm (M_MS_puts) s21 s22 := hFc22
  have hb_24 : x24 < x22 := hb_24
  have hb_25 : x25 = x22 := hb_25
  replace hR := bnd_step hR eq22
  replace hE := bndP_step hE eq22
  have hF := frm_tr hF hFc22 (fun k hk => by unfold M_MS_puts at hk; unfold M_MH_small_2; omega)
  have hf29 : s22.1 225 23 = nI 2 := fc_F hf21 hFc22 (by unfold M_MS_puts; omega)
  have hf30 : s22.1 225 24 = nI 8 := fc_F hf22 hFc22 (by unfold M_MS_puts; omega)
  have hf31 : s22.1 225 25 = nI 7 := fc_F hf23 hFc22 (by unfold M_MS_puts; omega)
  have hf32 : s22.1 225 26 = nI 2 := fc_F hf24 hFc22 (by unfold M_MS_puts; omega)
  have hf33 : s22.1 225 27 = nI 524288 := fc_F hf25 hFc22 (by unfold M_MS_puts; omega)
  have hf34 : s22.1 225 28 = nI 261888 := fc_F hf26 hFc22 (by unfold M_MS_puts; omega)
  have hf35 : s22.1 225 29 = nI 120 := fc_F hf27 hFc22 (by unfold M_MS_puts; omega)
  have hf36 : s22.1 225 30 = nI 64 := fc_F hf28 hFc22 (by unfold M_MS_puts; omega)
  refine W.widen (k := 0) (n := 0) (by omega) (by omega) ?_
  refine lv_aload_n hx hb dMH_small_18 rfl (lv_at hl 0 rfl) ?_
  refine nw_get (C := "LatticeKeysModel$Hands") (TT := T_MH) (N := 31) hx hb hts (wg_ft i_MH) hown hK hO k_h0 (kn := 225) (ci := 12) (fl := [(3, 172), (3, 181), (3, 226), (3, 291), (3, 299), (3, 308), (3, 317), (3, 326), (3, 334), (3, 342), (3, 350), (3, 359), (3, 368), (3, 369), (3, 370), (3, 371), (3, 372), (3, 373), (3, 374), (3, 375), (3, 376), (3, 377), (3, 378), (0, 0), (0, 0), (0, 0), (0, 0), (0, 0), (0, 0), (0, 0), (0, 0)]) rfl hP rfl 0 (by decide) (hts _ (wg_t kw_1432)) (fun _ h9 => h9) (cd := (3, 172)) rfl dMH_small_19 (fun v23 hv23 => ?_)
  obtain ⟨r23, rfl, kr23⟩ := (show ∃ r : Nat, v23 = .ref r ∧ T r = some 172 from hv23)
  refine lv_iload hx hb dMH_small_22 (lv_at hl 4 rfl) ?_
  refine mp_v (cx := []) (wr := []) hP hD hS hA [] [] rfl rfl rfl (by decide) (va_runV (As := [.int wh]) (rest := []) F (N_MS_put l g _ T s22 pl hO hU r23 wh x24 x25 kr23 hx_24 hx_25 (by omega) (by omega)) (cwV 1 hts (wg_app (wg_c kw_1716 (wg_c kw_1612 (wg_c kw_1613 (wg_c kw_10 wg_n)))) kw_1614) rfl rfl rfl (by decide +kernel) ⟨by decide, by decide⟩) (pn_V (en_ok g) (ci := 9) (kn := 172) (fl := [(3, 173), (3, 174), (3, 175), (3, 176), (3, 177), (0, 0), (0, 0), (0, 0)]) hK hO kr23 rfl hP hD hS hA hEn [] rfl rfl rfl) rfl rfl hl.1 rfl (lv_room (Nat.le_of_ble_eq_true rfl)) dMH_small_24 ⟨by omega, by omega⟩) (fun  u23 H locs hu23 hP hD hS => ?_)
  obtain ⟨s23, pl⟩ := u23
  obtain ⟨⟨eq23, hFc23, ⟨x27, hx_27, hb_27⟩, ⟨x28, hx_28, hb_28⟩, -⟩, hO⟩ := hu23
  have hO : okn g T s23 pl := hO
  have hP : va_P g.1 vcl ([] ++ pl) _ := hP
  have hD : va_D _ ([] ++ pl) := hD
  have hFc23 : frm (M_MS_put) s22 s23 := hFc23
  have hb_27 : x27 < x25 := hb_27
  have hb_28 : x28 = x25 := hb_28
  replace hR := bnd_step hR eq23
  replace hE := bndP_step hE eq23
  have hF := frm_tr hF hFc23 (fun k hk => by unfold M_MS_put at hk; unfold M_MH_small_2; omega)
  have hf37 : s23.1 225 23 = nI 2 := fc_F hf29 hFc23 (by unfold M_MS_put; omega)
  have hf38 : s23.1 225 24 = nI 8 := fc_F hf30 hFc23 (by unfold M_MS_put; omega)
  have hf39 : s23.1 225 25 = nI 7 := fc_F hf31 hFc23 (by unfold M_MS_put; omega)
  have hf40 : s23.1 225 26 = nI 2 := fc_F hf32 hFc23 (by unfold M_MS_put; omega)
  have hf41 : s23.1 225 27 = nI 524288 := fc_F hf33 hFc23 (by unfold M_MS_put; omega)
  have hf42 : s23.1 225 28 = nI 261888 := fc_F hf34 hFc23 (by unfold M_MS_put; omega)
  have hf43 : s23.1 225 29 = nI 120 := fc_F hf35 hFc23 (by unfold M_MS_put; omega)
  have hf44 : s23.1 225 30 = nI 64 := fc_F hf36 hFc23 (by unfold M_MS_put; omega)
  refine W.widen (k := 0) (n := 0) (by omega) (by omega) ?_
  refine lv_aload_n hx hb dMH_small_27 rfl (lv_at hl 0 rfl) ?_
  refine nw_get (C := "LatticeKeysModel$Hands") (TT := T_MH) (N := 31) hx hb hts (wg_ft i_MH) hown hK hO k_h0 (kn := 225) (ci := 12) (fl := [(3, 172), (3, 181), (3, 226), (3, 291), (3, 299), (3, 308), (3, 317), (3, 326), (3, 334), (3, 342), (3, 350), (3, 359), (3, 368), (3, 369), (3, 370), (3, 371), (3, 372), (3, 373), (3, 374), (3, 375), (3, 376), (3, 377), (3, 378), (0, 0), (0, 0), (0, 0), (0, 0), (0, 0), (0, 0), (0, 0), (0, 0)]) rfl hP rfl 0 (by decide) (hts _ (wg_t kw_1432)) (fun _ h9 => h9) (cd := (3, 172)) rfl dMH_small_28 (fun v24 hv24 => ?_)
  obtain ⟨r24, rfl, kr24⟩ := (show ∃ r : Nat, v24 = .ref r ∧ T r = some 172 from hv24)
  refine lv_iload hx hb dMH_small_31 (lv_at hl 4 rfl) ?_
  refine lv_bipush (v := nI 8) hx hb dMH_small_33 (by decide) ?_
  refine lv_ishr hx hb dMH_small_35 ?_
  refine mp_v (cx := []) (wr := []) hP hD hS hA [] [] rfl rfl rfl (by decide) (va_runV (As := [.int ((wh >>> ((nI 8) &&& 31)))]) (rest := []) F (N_MS_put l g _ T s23 pl hO hU r24 (wh >>> ((nI 8) &&& 31)) x27 x28 kr24 hx_27 hx_28 (by omega) (by omega)) (cwV 1 hts (wg_app (wg_c kw_1716 (wg_c kw_1612 (wg_c kw_1613 (wg_c kw_10 wg_n)))) kw_1614) rfl rfl rfl (by decide +kernel) ⟨by decide, by decide⟩) (pn_V (en_ok g) (ci := 9) (kn := 172) (fl := [(3, 173), (3, 174), (3, 175), (3, 176), (3, 177), (0, 0), (0, 0), (0, 0)]) hK hO kr24 rfl hP hD hS hA hEn [] rfl rfl rfl) rfl rfl hl.1 rfl (lv_room (Nat.le_of_ble_eq_true rfl)) dMH_small_36 ⟨by omega, by omega⟩) (fun  u24 H locs hu24 hP hD hS => ?_)
  obtain ⟨s24, pl⟩ := u24
  obtain ⟨⟨eq24, hFc24, ⟨x30, hx_30, hb_30⟩, ⟨x31, hx_31, hb_31⟩, -⟩, hO⟩ := hu24
  have hO : okn g T s24 pl := hO
  have hP : va_P g.1 vcl ([] ++ pl) _ := hP
  have hD : va_D _ ([] ++ pl) := hD
  have hFc24 : frm (M_MS_put) s23 s24 := hFc24
  have hb_30 : x30 < x28 := hb_30
  have hb_31 : x31 = x28 := hb_31
  replace hR := bnd_step hR eq24
  replace hE := bndP_step hE eq24
  have hF := frm_tr hF hFc24 (fun k hk => by unfold M_MS_put at hk; unfold M_MH_small_2; omega)
  have hf45 : s24.1 225 23 = nI 2 := fc_F hf37 hFc24 (by unfold M_MS_put; omega)
  have hf46 : s24.1 225 24 = nI 8 := fc_F hf38 hFc24 (by unfold M_MS_put; omega)
  have hf47 : s24.1 225 25 = nI 7 := fc_F hf39 hFc24 (by unfold M_MS_put; omega)
  have hf48 : s24.1 225 26 = nI 2 := fc_F hf40 hFc24 (by unfold M_MS_put; omega)
  have hf49 : s24.1 225 27 = nI 524288 := fc_F hf41 hFc24 (by unfold M_MS_put; omega)
  have hf50 : s24.1 225 28 = nI 261888 := fc_F hf42 hFc24 (by unfold M_MS_put; omega)
  have hf51 : s24.1 225 29 = nI 120 := fc_F hf43 hFc24 (by unfold M_MS_put; omega)
  have hf52 : s24.1 225 30 = nI 64 := fc_F hf44 hFc24 (by unfold M_MS_put; omega)
  refine W.widen (k := 0) (n := 0) (by omega) (by omega) ?_
  refine lv_aload_n hx hb dMH_small_39 rfl (lv_at hl 0 rfl) ?_
  refine nw_get (C := "LatticeKeysModel$Hands") (TT := T_MH) (N := 31) hx hb hts (wg_ft i_MH) hown hK hO k_h0 (kn := 225) (ci := 12) (fl := [(3, 172), (3, 181), (3, 226), (3, 291), (3, 299), (3, 308), (3, 317), (3, 326), (3, 334), (3, 342), (3, 350), (3, 359), (3, 368), (3, 369), (3, 370), (3, 371), (3, 372), (3, 373), (3, 374), (3, 375), (3, 376), (3, 377), (3, 378), (0, 0), (0, 0), (0, 0), (0, 0), (0, 0), (0, 0), (0, 0), (0, 0)]) rfl hP rfl 0 (by decide) (hts _ (wg_t kw_1432)) (fun _ h9 => h9) (cd := (3, 172)) rfl dMH_small_40 (fun v25 hv25 => ?_)
  obtain ⟨r25, rfl, kr25⟩ := (show ∃ r : Nat, v25 = .ref r ∧ T r = some 172 from hv25)
  refine mp_v (cx := []) (wr := []) hP hD hS hA [] [] rfl rfl rfl (by decide) (va_runV (As := []) (rest := []) F (N_MS_end l g _ T s24 pl hO hU r25 x30 x31 kr25 hx_30 hx_31 (by omega) (by omega)) (cwV 0 hts (wg_app (wg_c kw_1717 (wg_c kw_1630 (wg_c kw_1631 (wg_c kw_10 wg_n)))) kw_1632) rfl rfl rfl (by decide +kernel) ⟨by decide, by decide⟩) (pn_V (en_ok g) (ci := 9) (kn := 172) (fl := [(3, 173), (3, 174), (3, 175), (3, 176), (3, 177), (0, 0), (0, 0), (0, 0)]) hK hO kr25 rfl hP hD hS hA hEn [] rfl rfl rfl) rfl rfl hl.1 rfl (lv_room (Nat.le_of_ble_eq_true rfl)) dMH_small_43 ⟨by omega, by omega⟩) (fun  u25 H locs hu25 hP hD hS => ?_)
  obtain ⟨s25, pl⟩ := u25
  obtain ⟨⟨eq25, hFc25, ⟨x33, hx_33, hb_33⟩, ⟨x34, hx_34, hb_34⟩, -⟩, hO⟩ := hu25
  have hO : okn g T s25 pl := hO
  have hP : va_P g.1 vcl ([] ++ pl) _ := hP
  have hD : va_D _ ([] ++ pl) := hD
  have hFc25 : frm (M_MS_end) s24 s25 := hFc25
  have hb_33 : x33 = 0 := hb_33
  have hb_34 : x34 = x31 := hb_34
  replace hR := bnd_step hR eq25
  replace hE := bndP_step hE eq25
  have hF := frm_tr hF hFc25 (fun k hk => by unfold M_MS_end at hk; unfold M_MH_small_2; omega)
  have hf53 : s25.1 225 23 = nI 2 := fc_F hf45 hFc25 (by unfold M_MS_end; omega)
  have hf54 : s25.1 225 24 = nI 8 := fc_F hf46 hFc25 (by unfold M_MS_end; omega)
  have hf55 : s25.1 225 25 = nI 7 := fc_F hf47 hFc25 (by unfold M_MS_end; omega)
  have hf56 : s25.1 225 26 = nI 2 := fc_F hf48 hFc25 (by unfold M_MS_end; omega)
  have hf57 : s25.1 225 27 = nI 524288 := fc_F hf49 hFc25 (by unfold M_MS_end; omega)
  have hf58 : s25.1 225 28 = nI 261888 := fc_F hf50 hFc25 (by unfold M_MS_end; omega)
  have hf59 : s25.1 225 29 = nI 120 := fc_F hf51 hFc25 (by unfold M_MS_end; omega)
  have hf60 : s25.1 225 30 = nI 64 := fc_F hf52 hFc25 (by unfold M_MS_end; omega)
  refine W.widen (k := 0) (n := 0) (by omega) (by omega) ?_
  refine lv_iconst (v := nI 0) hx hb dMH_small_46 (by decide) ?_
  refine lv_istore (lv' := [(5, .int (nI 0)), (0, .ref h0), (1, .ref f), (2, .ref b), (3, .int (nI at_)), (4, .int wh)]) hx hb dMH_small_47 hl (by decide) rfl (fun ls hl => ?_)
  have lp21 : ∀ (n21 : Nat) (nn21 : Nat) (s26 : Sto) (ps21 : Nat) (pl : va_W) (ls : Array Slot) (H : Heap) (locs : List Loc), 0 = 0 → (nn21 ≤ 256) → (ps21 ≤ 136) → frm (M_MH_small_2 pf) s s26 → s26.1 225 23 = nI 2 → s26.1 225 24 = nI 8 → s26.1 225 25 = nI 7 → s26.1 225 26 = nI 2 → s26.1 225 27 = nI 524288 → s26.1 225 28 = nI 261888 → s26.1 225 29 = nI 120 → s26.1 225 30 = nI 64 → s26.1 172 6 = nI ps21 → s26.1 172 5 = nI x34 → E_MH_small_2_L0 pf n21 nn21 s26 → F_MH_small_2 pf pb n at_ wh s = F_MH_small_2_L0 pf n21 nn21 s26 → lv_has ls 9 [(5, .int (nI nn21)), (0, .ref h0), (1, .ref f)] → okn g T s26 pl → va_P g.1 vcl ([] ++ pl) H → va_D A ([] ++ pl) → va_S A s0.heap H locs → W p l e ({ frames := 4, cells := 0, slots := 0, locals := 90 } : Room) s0 m args below meth c H locs 0 0 (MQ below (va_Qv (fun (u : (Sto) × va_W) => (u.1 = F_MH_small_2 pf pb n at_ wh s ∧ frm (M_MH_small_2 pf) s u.1 ∧ True) ∧ okn g T u.1 u.2) (po g.1 vcl A (fun (u : (Sto) × va_W) => [] ++ u.2)) A) args s0 0 0 A) (F0 m 49 ls []) := by
    intro n21
    induction n21 with
    | zero =>
      intro nn21 s26 ps21 pl ls H locs hm21 hi21 hi22 hF hf61 hf62 hf63 hf64 hf65 hf66 hf67 hf68 hf69 hf70 hE hR hl hO hP hD hS
      refine lv_iload hx hb dMH_small_49 (lv_at hl 0 rfl) ?_
      refine lv_sipush (v := nI 256) hx hb dMH_small_51 (by decide) ?_
      refine mi_ge (tgt := 185) hx hb dMH_small_54 (by decide) (by omega) (by omega) (fun h21 => ?_) (fun h21 => absurd h21 (by have h9 : 256 ≤ nn21 := hE.1; omega))
      replace hE := hE.2
      exact mp_vret hx hb hr hlk hP hD hS (s26, pl) ⟨⟨hR.symm, hF, trivial⟩, hO⟩ [] rfl rfl rfl (by omega) (by omega) dMH_small_185
    | succ n21 ih21 =>
      intro nn21 s26 ps21 pl ls H locs hm21 hi21 hi22 hF hf71 hf72 hf73 hf74 hf75 hf76 hf77 hf78 hf79 hf80 hE hR hl hO hP hD hS
      refine lv_iload hx hb dMH_small_49 (lv_at hl 0 rfl) ?_
      refine lv_sipush (v := nI 256) hx hb dMH_small_51 (by decide) ?_
      refine mi_ge (tgt := 185) hx hb dMH_small_54 (by decide) (by omega) (by omega) (fun h22 => ?_) (fun h22 => ?_)
      · replace hR := hR.trans (if_pos h22)
        replace hE := iteP_pos h22 hE
        exact mp_vret hx hb hr hlk hP hD hS (s26, pl) ⟨⟨hR.symm, hF, trivial⟩, hO⟩ [] rfl rfl rfl (by omega) (by omega) dMH_small_185
      · replace hR := hR.trans (if_neg (Nat.not_le.mpr h22))
        replace hE := iteP_neg (Nat.not_le.mpr h22) hE
        refine lv_aload_n hx hb dMH_small_57 rfl (lv_at hl 1 rfl) ?_
        refine nw_get (C := "LatticeKeysModel$Hands") (TT := T_MH) (N := 31) hx hb hts (wg_ft i_MH) hown hK hO k_h0 (kn := 225) (ci := 12) (fl := [(3, 172), (3, 181), (3, 226), (3, 291), (3, 299), (3, 308), (3, 317), (3, 326), (3, 334), (3, 342), (3, 350), (3, 359), (3, 368), (3, 369), (3, 370), (3, 371), (3, 372), (3, 373), (3, 374), (3, 375), (3, 376), (3, 377), (3, 378), (0, 0), (0, 0), (0, 0), (0, 0), (0, 0), (0, 0), (0, 0), (0, 0)]) rfl hP rfl 0 (by decide) (hts _ (wg_t kw_1432)) (fun _ h9 => h9) (cd := (3, 172)) rfl dMH_small_58 (fun v26 hv26 => ?_)
        obtain ⟨r26, rfl, kr26⟩ := (show ∃ r : Nat, v26 = .ref r ∧ T r = some 172 from hv26)
        refine mp_i (cx := []) (wr := []) hP hD hS hA [] [] rfl rfl rfl (by decide) (va_runV (As := []) (rest := []) F (N_MS_next l g _ T s26 pl hO hU r26 ps21 x34 kr26 hf79 hf80 (by omega) (by omega)) (cwV 0 hts (wg_app (wg_c kw_1724 (wg_c kw_1638 (wg_c kw_1639 (wg_c kw_10 wg_n)))) kw_1640) rfl rfl rfl (by decide +kernel) ⟨by decide, by decide⟩) (pn_V (en_ok g) (ci := 9) (kn := 172) (fl := [(3, 173), (3, 174), (3, 175), (3, 176), (3, 177), (0, 0), (0, 0), (0, 0)]) hK hO kr26 rfl hP hD hS hA hEn [] rfl rfl rfl) rfl rfl hl.1 rfl (lv_room (Nat.le_of_ble_eq_true rfl)) dMH_small_61 ⟨by omega, by omega⟩) (fun r27 u26 H locs hu26 hP hD hS => ?_)
        obtain ⟨q21, pl⟩ := u26
        obtain ⟨⟨eq26, rfl, hFc26, ⟨x38, hx_38, hb_38⟩, ⟨x36, hx_36, hb_36⟩, ⟨x37, hx_37, hb_37⟩, -⟩, hO⟩ := hu26
        have hO : okn g T q21.2 pl := hO
        have hP : va_P g.1 vcl ([] ++ pl) _ := hP
        have hD : va_D _ ([] ++ pl) := hD
        have hFc26 : frm (M_MS_next) s26 q21.2 := hFc26
        have hb_36 : x36 ≤ x34 := hb_36
        have hb_37 : x37 = x34 := hb_37
        have hb_38 : x38 < 256 := hb_38
        replace hR := bnd_step hR eq26
        replace hE := bndP_step hE eq26
        have hF := frm_tr hF hFc26 (fun k hk => by unfold M_MS_next at hk; unfold M_MH_small_2; omega)
        have hf81 : q21.2.1 225 23 = nI 2 := fc_F hf71 hFc26 (by unfold M_MS_next; omega)
        have hf82 : q21.2.1 225 24 = nI 8 := fc_F hf72 hFc26 (by unfold M_MS_next; omega)
        have hf83 : q21.2.1 225 25 = nI 7 := fc_F hf73 hFc26 (by unfold M_MS_next; omega)
        have hf84 : q21.2.1 225 26 = nI 2 := fc_F hf74 hFc26 (by unfold M_MS_next; omega)
        have hf85 : q21.2.1 225 27 = nI 524288 := fc_F hf75 hFc26 (by unfold M_MS_next; omega)
        have hf86 : q21.2.1 225 28 = nI 261888 := fc_F hf76 hFc26 (by unfold M_MS_next; omega)
        have hf87 : q21.2.1 225 29 = nI 120 := fc_F hf77 hFc26 (by unfold M_MS_next; omega)
        have hf88 : q21.2.1 225 30 = nI 64 := fc_F hf78 hFc26 (by unfold M_MS_next; omega)
        obtain ⟨z21, ez21, hz21, hz22⟩ := cl_of (b := 2147483648) hx_38 (by omega) (by decide)
        replace hR := bnd_step hR ez21
        replace hE := bndP_step hE ez21
        refine mi_as hz21 ?_
        refine W.widen (k := 0) (n := 0) (by omega) (by omega) ?_
        refine lv_istore (lv' := [(6, .int (nI z21)), (5, .int (nI nn21)), (0, .ref h0), (1, .ref f)]) hx hb dMH_small_64 hl (by decide) rfl (fun ls hl => ?_)
        refine lv_iconst (v := nI 0) hx hb dMH_small_66 (by decide) ?_
        refine lv_istore (lv' := [(7, .int (nI 0)), (6, .int (nI z21)), (5, .int (nI nn21)), (0, .ref h0), (1, .ref f)]) hx hb dMH_small_67 hl (by decide) rfl (fun ls hl => ?_)
        refine lv_iload hx hb dMH_small_69 (lv_at hl 0 rfl) ?_
        refine lv_iconst (v := nI 2) hx hb dMH_small_71 (by decide) ?_
        refine mi_ge (tgt := 182) hx hb dMH_small_72 (by decide) (by omega) (by omega) (fun h23 => absurd h23 (by omega)) (fun h23 => ?_)
        refine lv_iload hx hb dMH_small_75 (lv_at hl 2 rfl) ?_
        refine lv_sipush (v := nI 256) hx hb dMH_small_77 (by decide) ?_
        refine mi_ge (tgt := 182) hx hb dMH_small_80 (by decide) (by omega) (by omega) (fun h24 => ?_) (fun h24 => ?_)
        · replace hR := hR.trans (if_pos h24)
          replace hE := iteP_pos h24 hE
          refine lv_goto (tgt := 49) hx hb dMH_small_182 (by decide) ?_
          exact ih21 nn21 q21.2 x36 pl ls H locs (by omega) (by omega) (by omega) hF hf81 hf82 hf83 hf84 hf85 hf86 hf87 hf88 hx_36 (by have h9 := hx_37; rw [show x37 = x34 by omega] at h9; exact h9) hE hR (lv_sub hl [2, 3, 4] rfl) hO hP hD hS
        · replace hR := hR.trans (if_neg (Nat.not_le.mpr h24))
          replace hE := iteP_neg (Nat.not_le.mpr h24) hE
          refine lv_iload hx hb dMH_small_83 (lv_at hl 0 rfl) ?_
          refine lv_if_ne (tgt := 96) hx hb dMH_small_85 (by decide) (fun h25 => absurd h25 (by decide)) (fun h25 => ?_)
          refine lv_iload hx hb dMH_small_88 (lv_at hl 1 rfl) ?_
          refine lv_bipush (v := nI 16) hx hb dMH_small_90 (by decide) ?_
          refine mi_irem hx hb dMH_small_92 (by omega) (by omega) (by omega) ?_
          refine lv_goto (tgt := 101) hx hb dMH_small_93 (by decide) ?_
          refine lv_istore (lv' := [(8, .int (nI (z21 % 16))), (7, .int (nI 0)), (6, .int (nI z21)), (5, .int (nI nn21)), (0, .ref h0), (1, .ref f)]) hx hb dMH_small_101 hl (by decide) rfl (fun ls hl => ?_)
          refine lv_aload_n hx hb dMH_small_103 rfl (lv_at hl 4 rfl) ?_
          refine nw_get (C := "LatticeKeysModel$Hands") (TT := T_MH) (N := 31) hx hb hts (wg_ft i_MH) hown hK hO k_h0 (kn := 225) (ci := 12) (fl := [(3, 172), (3, 181), (3, 226), (3, 291), (3, 299), (3, 308), (3, 317), (3, 326), (3, 334), (3, 342), (3, 350), (3, 359), (3, 368), (3, 369), (3, 370), (3, 371), (3, 372), (3, 373), (3, 374), (3, 375), (3, 376), (3, 377), (3, 378), (0, 0), (0, 0), (0, 0), (0, 0), (0, 0), (0, 0), (0, 0), (0, 0)]) rfl hP rfl 26 (by decide) (hts _ (wg_t kw_1458)) (fun _ h9 => h9) (cd := (0, 0)) rfl dMH_small_104 (fun v27 hv27 => ?_)
          obtain rfl := (show v27 = .int (q21.2.1 225 26) from hv27)
          obtain ⟨z22, ez22, hz23, hz24⟩ := cl_of (b := 2147483648) hf84 (by omega) (by decide)
          replace hR := bnd_step hR ez22
          replace hE := bndP_step hE ez22
          refine mi_as hz23 ?_
          subst hz24
          refine lv_iconst (v := nI 2) hx hb dMH_small_107 (by decide) ?_
          refine mi_ne (tgt := 121) hx hb dMH_small_108 (by decide) (by omega) (by omega) (fun h26 => absurd h26 (by omega)) (fun h26 => ?_)
          refine lv_iload hx hb dMH_small_111 (lv_at hl 0 rfl) ?_
          refine lv_bipush (v := nI 14) hx hb dMH_small_113 (by decide) ?_
          refine mi_le (tgt := 131) hx hb dMH_small_115 (by decide) (by omega) (by omega) (fun h27 => ?_) (fun h27 => ?_)
          · replace hR := hR.trans (if_pos h27)
            replace hE := iteP_pos h27 hE
            refine lv_aload_n hx hb dMH_small_131 rfl (lv_at hl 4 rfl) ?_
            refine nw_get (C := "LatticeKeysModel$Hands") (TT := T_MH) (N := 31) hx hb hts (wg_ft i_MH) hown hK hO k_h0 (kn := 225) (ci := 12) (fl := [(3, 172), (3, 181), (3, 226), (3, 291), (3, 299), (3, 308), (3, 317), (3, 326), (3, 334), (3, 342), (3, 350), (3, 359), (3, 368), (3, 369), (3, 370), (3, 371), (3, 372), (3, 373), (3, 374), (3, 375), (3, 376), (3, 377), (3, 378), (0, 0), (0, 0), (0, 0), (0, 0), (0, 0), (0, 0), (0, 0), (0, 0)]) rfl hP rfl 26 (by decide) (hts _ (wg_t kw_1458)) (fun _ h9 => h9) (cd := (0, 0)) rfl dMH_small_132 (fun v28 hv28 => ?_)
            obtain rfl := (show v28 = .int (q21.2.1 225 26) from hv28)
            obtain ⟨z23, ez23, hz25, hz26⟩ := cl_of (b := 2147483648) hf84 (by omega) (by decide)
            replace hR := bnd_step hR ez23
            replace hE := bndP_step hE ez23
            refine mi_as hz25 ?_
            subst hz26
            refine lv_iconst (v := nI 2) hx hb dMH_small_135 (by decide) ?_
            refine mi_ne (tgt := 148) hx hb dMH_small_136 (by decide) (by omega) (by omega) (fun h28 => absurd h28 (by omega)) (fun h28 => ?_)
            refine lv_iconst (v := nI 2) hx hb dMH_small_139 (by decide) ?_
            refine lv_iload hx hb dMH_small_140 (lv_at hl 0 rfl) ?_
            refine lv_iconst (v := nI 5) hx hb dMH_small_142 (by decide) ?_
            refine mi_irem hx hb dMH_small_143 (by omega) (by omega) (by omega) ?_
            refine lv_isub hx hb dMH_small_144 ?_
            refine lv_goto (tgt := 152) hx hb dMH_small_145 (by decide) ?_
            refine mi_eqv (fun z24 ez24 => ?_)
            replace hR := bnd_step hR ez24
            replace hE := bndP_step hE ez24
            refine lv_istore (lv' := [(8, .int z24), (7, .int (nI 0)), (6, .int (nI z21)), (5, .int (nI nn21)), (0, .ref h0), (1, .ref f)]) hx hb dMH_small_152 hl (by decide) rfl (fun ls hl => ?_)
            refine lv_aload_n hx hb dMH_small_154 rfl (lv_at hl 5 rfl) ?_
            refine lv_iload hx hb dMH_small_155 (lv_at hl 3 rfl) ?_
            refine lv_iload hx hb dMH_small_157 (lv_at hl 0 rfl) ?_
            refine lv_if_ge (tgt := 170) hx hb dMH_small_159 (by decide) (fun h29 => ?_) (fun h29 => ?_)
            · replace hR := hR.trans (if_pos h29)
              replace hE := iteP_pos h29 hE
              refine lv_iload hx hb dMH_small_170 (lv_at hl 0 rfl) ?_
              refine nw_iast hx hb hK hO hU k_f (k := pf) n_f hP hD hS (by omega) (by omega) dMH_small_172 (fun s27 pl H locs es21 hO hP hD hS => ?_)
              replace hR := bnd_step hR es21
              replace hE := bndP_step hE es21
              have hF := frm_sI hF es21 (by unfold M_MH_small_2; omega)
              have hf89 : s27.1 225 23 = nI 2 := fc_ne hf81 es21 (by omega)
              have hf90 : s27.1 225 24 = nI 8 := fc_ne hf82 es21 (by omega)
              have hf91 : s27.1 225 25 = nI 7 := fc_ne hf83 es21 (by omega)
              have hf92 : s27.1 225 26 = nI 2 := fc_ne hf84 es21 (by omega)
              have hf93 : s27.1 225 27 = nI 524288 := fc_ne hf85 es21 (by omega)
              have hf94 : s27.1 225 28 = nI 261888 := fc_ne hf86 es21 (by omega)
              have hf95 : s27.1 225 29 = nI 120 := fc_ne hf87 es21 (by omega)
              have hf96 : s27.1 225 30 = nI 64 := fc_ne hf88 es21 (by omega)
              have hf97 : s27.1 172 6 = nI x36 := fc_ne hx_36 es21 (by omega)
              have hf98 : s27.1 172 5 = nI x37 := fc_ne hx_37 es21 (by omega)
              refine mi_iinc (k := 3) (x := nn21) (d := 1) (y := nn21 + 1) (lv' := [(5, .int (nI (nn21 + 1))), (8, .int z24), (7, .int (nI 0)), (6, .int (nI z21)), (0, .ref h0), (1, .ref f)]) hx hb dMH_small_173 hl rfl (by decide) rfl (by decide) rfl (fun ls hl => ?_)
              refine mi_iinc (k := 2) (x := 0) (d := 1) (y := 1) (lv' := [(7, .int (nI 1)), (5, .int (nI (nn21 + 1))), (8, .int z24), (6, .int (nI z21)), (0, .ref h0), (1, .ref f)]) hx hb dMH_small_176 hl rfl (by decide) rfl (by decide) rfl (fun ls hl => ?_)
              refine lv_goto (tgt := 69) hx hb dMH_small_179 (by decide) ?_
              refine lv_iload hx hb dMH_small_69 (lv_at hl 0 rfl) ?_
              refine lv_iconst (v := nI 2) hx hb dMH_small_71 (by decide) ?_
              refine mi_ge (tgt := 182) hx hb dMH_small_72 (by decide) (by omega) (by omega) (fun h30 => absurd h30 (by omega)) (fun h30 => ?_)
              refine lv_iload hx hb dMH_small_75 (lv_at hl 1 rfl) ?_
              refine lv_sipush (v := nI 256) hx hb dMH_small_77 (by decide) ?_
              refine mi_ge (tgt := 182) hx hb dMH_small_80 (by decide) (by omega) (by omega) (fun h31 => ?_) (fun h31 => ?_)
              · replace hR := hR.trans (if_pos h31)
                replace hE := iteP_pos h31 hE
                refine lv_goto (tgt := 49) hx hb dMH_small_182 (by decide) ?_
                exact ih21 (nn21 + 1) s27 x36 pl ls H locs (by omega) (by omega) (by omega) hF hf89 hf90 hf91 hf92 hf93 hf94 hf95 hf96 hf97 (by have h9 := hf98; rw [show x37 = x34 by omega] at h9; exact h9) hE hR (lv_sub hl [1, 4, 5] rfl) hO hP hD hS
              · replace hR := hR.trans (if_neg (Nat.not_le.mpr h31))
                replace hE := iteP_neg (Nat.not_le.mpr h31) hE
                refine lv_iload hx hb dMH_small_83 (lv_at hl 0 rfl) ?_
                refine lv_if_ne (tgt := 96) hx hb dMH_small_85 (by decide) (fun h32 => ?_) (fun h32 => absurd h32 (by decide))
                refine lv_iload hx hb dMH_small_96 (lv_at hl 3 rfl) ?_
                refine lv_bipush (v := nI 16) hx hb dMH_small_98 (by decide) ?_
                refine mi_idiv hx hb dMH_small_100 (by omega) (by omega) (by omega) ?_
                refine lv_istore (lv' := [(8, .int (nI (z21 / 16))), (7, .int (nI 1)), (5, .int (nI (nn21 + 1))), (6, .int (nI z21)), (0, .ref h0), (1, .ref f)]) hx hb dMH_small_101 hl (by decide) rfl (fun ls hl => ?_)
                refine lv_aload_n hx hb dMH_small_103 rfl (lv_at hl 4 rfl) ?_
                refine nw_get (C := "LatticeKeysModel$Hands") (TT := T_MH) (N := 31) hx hb hts (wg_ft i_MH) hown hK hO k_h0 (kn := 225) (ci := 12) (fl := [(3, 172), (3, 181), (3, 226), (3, 291), (3, 299), (3, 308), (3, 317), (3, 326), (3, 334), (3, 342), (3, 350), (3, 359), (3, 368), (3, 369), (3, 370), (3, 371), (3, 372), (3, 373), (3, 374), (3, 375), (3, 376), (3, 377), (3, 378), (0, 0), (0, 0), (0, 0), (0, 0), (0, 0), (0, 0), (0, 0), (0, 0)]) rfl hP rfl 26 (by decide) (hts _ (wg_t kw_1458)) (fun _ h9 => h9) (cd := (0, 0)) rfl dMH_small_104 (fun v29 hv29 => ?_)
                obtain rfl := (show v29 = .int (s27.1 225 26) from hv29)
                obtain ⟨z25, ez25, hz27, hz28⟩ := cl_of (b := 2147483648) hf92 (by omega) (by decide)
                replace hR := bnd_step hR ez25
                replace hE := bndP_step hE ez25
                refine mi_as hz27 ?_
                subst hz28
                refine lv_iconst (v := nI 2) hx hb dMH_small_107 (by decide) ?_
                refine mi_ne (tgt := 121) hx hb dMH_small_108 (by decide) (by omega) (by omega) (fun h33 => absurd h33 (by omega)) (fun h33 => ?_)
                refine lv_iload hx hb dMH_small_111 (lv_at hl 0 rfl) ?_
                refine lv_bipush (v := nI 14) hx hb dMH_small_113 (by decide) ?_
                refine mi_le (tgt := 131) hx hb dMH_small_115 (by decide) (by omega) (by omega) (fun h34 => ?_) (fun h34 => ?_)
                · replace hR := hR.trans (if_pos h34)
                  replace hE := iteP_pos h34 hE
                  refine lv_aload_n hx hb dMH_small_131 rfl (lv_at hl 4 rfl) ?_
                  refine nw_get (C := "LatticeKeysModel$Hands") (TT := T_MH) (N := 31) hx hb hts (wg_ft i_MH) hown hK hO k_h0 (kn := 225) (ci := 12) (fl := [(3, 172), (3, 181), (3, 226), (3, 291), (3, 299), (3, 308), (3, 317), (3, 326), (3, 334), (3, 342), (3, 350), (3, 359), (3, 368), (3, 369), (3, 370), (3, 371), (3, 372), (3, 373), (3, 374), (3, 375), (3, 376), (3, 377), (3, 378), (0, 0), (0, 0), (0, 0), (0, 0), (0, 0), (0, 0), (0, 0), (0, 0)]) rfl hP rfl 26 (by decide) (hts _ (wg_t kw_1458)) (fun _ h9 => h9) (cd := (0, 0)) rfl dMH_small_132 (fun v30 hv30 => ?_)
                  obtain rfl := (show v30 = .int (s27.1 225 26) from hv30)
                  obtain ⟨z26, ez26, hz29, hz30⟩ := cl_of (b := 2147483648) hf92 (by omega) (by decide)
                  replace hR := bnd_step hR ez26
                  replace hE := bndP_step hE ez26
                  refine mi_as hz29 ?_
                  subst hz30
                  refine lv_iconst (v := nI 2) hx hb dMH_small_135 (by decide) ?_
                  refine mi_ne (tgt := 148) hx hb dMH_small_136 (by decide) (by omega) (by omega) (fun h35 => absurd h35 (by omega)) (fun h35 => ?_)
                  refine lv_iconst (v := nI 2) hx hb dMH_small_139 (by decide) ?_
                  refine lv_iload hx hb dMH_small_140 (lv_at hl 0 rfl) ?_
                  refine lv_iconst (v := nI 5) hx hb dMH_small_142 (by decide) ?_
                  refine mi_irem hx hb dMH_small_143 (by omega) (by omega) (by omega) ?_
                  refine lv_isub hx hb dMH_small_144 ?_
                  refine lv_goto (tgt := 152) hx hb dMH_small_145 (by decide) ?_
                  refine mi_eqv (fun z27 ez27 => ?_)
                  replace hR := bnd_step hR ez27
                  replace hE := bndP_step hE ez27
                  refine lv_istore (lv' := [(8, .int z27), (7, .int (nI 1)), (5, .int (nI (nn21 + 1))), (6, .int (nI z21)), (0, .ref h0), (1, .ref f)]) hx hb dMH_small_152 hl (by decide) rfl (fun ls hl => ?_)
                  refine lv_aload_n hx hb dMH_small_154 rfl (lv_at hl 5 rfl) ?_
                  refine lv_iload hx hb dMH_small_155 (lv_at hl 2 rfl) ?_
                  refine lv_iload hx hb dMH_small_157 (lv_at hl 0 rfl) ?_
                  refine lv_if_ge (tgt := 170) hx hb dMH_small_159 (by decide) (fun h36 => ?_) (fun h36 => ?_)
                  · replace hR := hR.trans (if_pos h36)
                    replace hE := iteP_pos h36 hE
                    refine lv_iload hx hb dMH_small_170 (lv_at hl 0 rfl) ?_
                    refine nw_iast hx hb hK hO hU k_f (k := pf) n_f hP hD hS (by omega) (by omega) dMH_small_172 (fun s28 pl H locs es22 hO hP hD hS => ?_)
                    replace hR := bnd_step hR es22
                    replace hE := bndP_step hE es22
                    have hF := frm_sI hF es22 (by unfold M_MH_small_2; omega)
                    have hf99 : s28.1 225 23 = nI 2 := fc_ne hf89 es22 (by omega)
                    have hf100 : s28.1 225 24 = nI 8 := fc_ne hf90 es22 (by omega)
                    have hf101 : s28.1 225 25 = nI 7 := fc_ne hf91 es22 (by omega)
                    have hf102 : s28.1 225 26 = nI 2 := fc_ne hf92 es22 (by omega)
                    have hf103 : s28.1 225 27 = nI 524288 := fc_ne hf93 es22 (by omega)
                    have hf104 : s28.1 225 28 = nI 261888 := fc_ne hf94 es22 (by omega)
                    have hf105 : s28.1 225 29 = nI 120 := fc_ne hf95 es22 (by omega)
                    have hf106 : s28.1 225 30 = nI 64 := fc_ne hf96 es22 (by omega)
                    have hf107 : s28.1 172 6 = nI x36 := fc_ne hf97 es22 (by omega)
                    have hf108 : s28.1 172 5 = nI x37 := fc_ne hf98 es22 (by omega)
                    refine mi_iinc (k := 2) (x := nn21 + 1) (d := 1) (y := nn21 + 1 + 1) (lv' := [(5, .int (nI (nn21 + 1 + 1))), (8, .int z27), (7, .int (nI 1)), (6, .int (nI z21)), (0, .ref h0), (1, .ref f)]) hx hb dMH_small_173 hl rfl (by decide) rfl (by decide) rfl (fun ls hl => ?_)
                    refine mi_iinc (k := 2) (x := 1) (d := 1) (y := 2) (lv' := [(7, .int (nI 2)), (5, .int (nI (nn21 + 1 + 1))), (8, .int z27), (6, .int (nI z21)), (0, .ref h0), (1, .ref f)]) hx hb dMH_small_176 hl rfl (by decide) rfl (by decide) rfl (fun ls hl => ?_)
                    refine lv_goto (tgt := 69) hx hb dMH_small_179 (by decide) ?_
                    refine lv_iload hx hb dMH_small_69 (lv_at hl 0 rfl) ?_
                    refine lv_iconst (v := nI 2) hx hb dMH_small_71 (by decide) ?_
                    refine mi_ge (tgt := 182) hx hb dMH_small_72 (by decide) (by omega) (by omega) (fun h37 => ?_) (fun h37 => absurd h37 (by omega))
                    refine lv_goto (tgt := 49) hx hb dMH_small_182 (by decide) ?_
                    exact ih21 (nn21 + 1 + 1) s28 x36 pl ls H locs (by omega) (by omega) (by omega) hF hf99 hf100 hf101 hf102 hf103 hf104 hf105 hf106 hf107 (by have h9 := hf108; rw [show x37 = x34 by omega] at h9; exact h9) hE hR (lv_sub hl [1, 4, 5] rfl) hO hP hD hS
                  · replace hR := hR.trans (if_neg h36)
                    replace hE := iteP_neg h36 hE
                    refine lv_iload hx hb dMH_small_162 (lv_at hl 0 rfl) ?_
                    refine lv_ldc (v := 8380417) hx hb hown (hts _ (wg_t kw_1429)) dMH_small_164 ?_
                    refine mi_as (show (8380417 : Int32) = nI 8380417 by decide) ?_
                    refine lv_iadd hx hb dMH_small_166 ?_
                    refine lv_goto (tgt := 172) hx hb dMH_small_167 (by decide) ?_
                    refine nw_iast hx hb hK hO hU k_f (k := pf) n_f hP hD hS (by omega) (by omega) dMH_small_172 (fun s29 pl H locs es23 hO hP hD hS => ?_)
                    replace hR := bnd_step hR es23
                    replace hE := bndP_step hE es23
                    have hF := frm_sI hF es23 (by unfold M_MH_small_2; omega)
                    have hf109 : s29.1 225 23 = nI 2 := fc_ne hf89 es23 (by omega)
                    have hf110 : s29.1 225 24 = nI 8 := fc_ne hf90 es23 (by omega)
                    have hf111 : s29.1 225 25 = nI 7 := fc_ne hf91 es23 (by omega)
                    have hf112 : s29.1 225 26 = nI 2 := fc_ne hf92 es23 (by omega)
                    have hf113 : s29.1 225 27 = nI 524288 := fc_ne hf93 es23 (by omega)
                    have hf114 : s29.1 225 28 = nI 261888 := fc_ne hf94 es23 (by omega)
                    have hf115 : s29.1 225 29 = nI 120 := fc_ne hf95 es23 (by omega)
                    have hf116 : s29.1 225 30 = nI 64 := fc_ne hf96 es23 (by omega)
                    have hf117 : s29.1 172 6 = nI x36 := fc_ne hf97 es23 (by omega)
                    have hf118 : s29.1 172 5 = nI x37 := fc_ne hf98 es23 (by omega)
                    refine mi_iinc (k := 2) (x := nn21 + 1) (d := 1) (y := nn21 + 1 + 1) (lv' := [(5, .int (nI (nn21 + 1 + 1))), (8, .int z27), (7, .int (nI 1)), (6, .int (nI z21)), (0, .ref h0), (1, .ref f)]) hx hb dMH_small_173 hl rfl (by decide) rfl (by decide) rfl (fun ls hl => ?_)
                    refine mi_iinc (k := 2) (x := 1) (d := 1) (y := 2) (lv' := [(7, .int (nI 2)), (5, .int (nI (nn21 + 1 + 1))), (8, .int z27), (6, .int (nI z21)), (0, .ref h0), (1, .ref f)]) hx hb dMH_small_176 hl rfl (by decide) rfl (by decide) rfl (fun ls hl => ?_)
                    refine lv_goto (tgt := 69) hx hb dMH_small_179 (by decide) ?_
                    refine lv_iload hx hb dMH_small_69 (lv_at hl 0 rfl) ?_
                    refine lv_iconst (v := nI 2) hx hb dMH_small_71 (by decide) ?_
                    refine mi_ge (tgt := 182) hx hb dMH_small_72 (by decide) (by omega) (by omega) (fun h38 => ?_) (fun h38 => absurd h38 (by omega))
                    refine lv_goto (tgt := 49) hx hb dMH_small_182 (by decide) ?_
                    exact ih21 (nn21 + 1 + 1) s29 x36 pl ls H locs (by omega) (by omega) (by omega) hF hf109 hf110 hf111 hf112 hf113 hf114 hf115 hf116 hf117 (by have h9 := hf118; rw [show x37 = x34 by omega] at h9; exact h9) hE hR (lv_sub hl [1, 4, 5] rfl) hO hP hD hS
                · replace hR := hR.trans (if_neg (Nat.not_le.mpr h34))
                  replace hE := iteP_neg (Nat.not_le.mpr h34) hE
                  refine lv_goto (tgt := 176) hx hb dMH_small_118 (by decide) ?_
                  refine mi_iinc (k := 1) (x := 1) (d := 1) (y := 2) (lv' := [(7, .int (nI 2)), (8, .int (nI (z21 / 16))), (5, .int (nI (nn21 + 1))), (6, .int (nI z21)), (0, .ref h0), (1, .ref f)]) hx hb dMH_small_176 hl rfl (by decide) rfl (by decide) rfl (fun ls hl => ?_)
                  refine lv_goto (tgt := 69) hx hb dMH_small_179 (by decide) ?_
                  refine lv_iload hx hb dMH_small_69 (lv_at hl 0 rfl) ?_
                  refine lv_iconst (v := nI 2) hx hb dMH_small_71 (by decide) ?_
                  refine mi_ge (tgt := 182) hx hb dMH_small_72 (by decide) (by omega) (by omega) (fun h39 => ?_) (fun h39 => absurd h39 (by omega))
                  refine lv_goto (tgt := 49) hx hb dMH_small_182 (by decide) ?_
                  exact ih21 (nn21 + 1) s27 x36 pl ls H locs (by omega) (by omega) (by omega) hF hf89 hf90 hf91 hf92 hf93 hf94 hf95 hf96 hf97 (by have h9 := hf98; rw [show x37 = x34 by omega] at h9; exact h9) hE hR (lv_sub hl [2, 4, 5] rfl) hO hP hD hS
            · replace hR := hR.trans (if_neg h29)
              replace hE := iteP_neg h29 hE
              refine lv_iload hx hb dMH_small_162 (lv_at hl 0 rfl) ?_
              refine lv_ldc (v := 8380417) hx hb hown (hts _ (wg_t kw_1429)) dMH_small_164 ?_
              refine mi_as (show (8380417 : Int32) = nI 8380417 by decide) ?_
              refine lv_iadd hx hb dMH_small_166 ?_
              refine lv_goto (tgt := 172) hx hb dMH_small_167 (by decide) ?_
              refine nw_iast hx hb hK hO hU k_f (k := pf) n_f hP hD hS (by omega) (by omega) dMH_small_172 (fun s30 pl H locs es24 hO hP hD hS => ?_)
              replace hR := bnd_step hR es24
              replace hE := bndP_step hE es24
              have hF := frm_sI hF es24 (by unfold M_MH_small_2; omega)
              have hf119 : s30.1 225 23 = nI 2 := fc_ne hf81 es24 (by omega)
              have hf120 : s30.1 225 24 = nI 8 := fc_ne hf82 es24 (by omega)
              have hf121 : s30.1 225 25 = nI 7 := fc_ne hf83 es24 (by omega)
              have hf122 : s30.1 225 26 = nI 2 := fc_ne hf84 es24 (by omega)
              have hf123 : s30.1 225 27 = nI 524288 := fc_ne hf85 es24 (by omega)
              have hf124 : s30.1 225 28 = nI 261888 := fc_ne hf86 es24 (by omega)
              have hf125 : s30.1 225 29 = nI 120 := fc_ne hf87 es24 (by omega)
              have hf126 : s30.1 225 30 = nI 64 := fc_ne hf88 es24 (by omega)
              have hf127 : s30.1 172 6 = nI x36 := fc_ne hx_36 es24 (by omega)
              have hf128 : s30.1 172 5 = nI x37 := fc_ne hx_37 es24 (by omega)
              refine mi_iinc (k := 3) (x := nn21) (d := 1) (y := nn21 + 1) (lv' := [(5, .int (nI (nn21 + 1))), (8, .int z24), (7, .int (nI 0)), (6, .int (nI z21)), (0, .ref h0), (1, .ref f)]) hx hb dMH_small_173 hl rfl (by decide) rfl (by decide) rfl (fun ls hl => ?_)
              refine mi_iinc (k := 2) (x := 0) (d := 1) (y := 1) (lv' := [(7, .int (nI 1)), (5, .int (nI (nn21 + 1))), (8, .int z24), (6, .int (nI z21)), (0, .ref h0), (1, .ref f)]) hx hb dMH_small_176 hl rfl (by decide) rfl (by decide) rfl (fun ls hl => ?_)
              refine lv_goto (tgt := 69) hx hb dMH_small_179 (by decide) ?_
              refine lv_iload hx hb dMH_small_69 (lv_at hl 0 rfl) ?_
              refine lv_iconst (v := nI 2) hx hb dMH_small_71 (by decide) ?_
              refine mi_ge (tgt := 182) hx hb dMH_small_72 (by decide) (by omega) (by omega) (fun h40 => absurd h40 (by omega)) (fun h40 => ?_)
              refine lv_iload hx hb dMH_small_75 (lv_at hl 1 rfl) ?_
              refine lv_sipush (v := nI 256) hx hb dMH_small_77 (by decide) ?_
              refine mi_ge (tgt := 182) hx hb dMH_small_80 (by decide) (by omega) (by omega) (fun h41 => ?_) (fun h41 => ?_)
              · replace hR := hR.trans (if_pos h41)
                replace hE := iteP_pos h41 hE
                refine lv_goto (tgt := 49) hx hb dMH_small_182 (by decide) ?_
                exact ih21 (nn21 + 1) s30 x36 pl ls H locs (by omega) (by omega) (by omega) hF hf119 hf120 hf121 hf122 hf123 hf124 hf125 hf126 hf127 (by have h9 := hf128; rw [show x37 = x34 by omega] at h9; exact h9) hE hR (lv_sub hl [1, 4, 5] rfl) hO hP hD hS
              · replace hR := hR.trans (if_neg (Nat.not_le.mpr h41))
                replace hE := iteP_neg (Nat.not_le.mpr h41) hE
                refine lv_iload hx hb dMH_small_83 (lv_at hl 0 rfl) ?_
                refine lv_if_ne (tgt := 96) hx hb dMH_small_85 (by decide) (fun h42 => ?_) (fun h42 => absurd h42 (by decide))
                refine lv_iload hx hb dMH_small_96 (lv_at hl 3 rfl) ?_
                refine lv_bipush (v := nI 16) hx hb dMH_small_98 (by decide) ?_
                refine mi_idiv hx hb dMH_small_100 (by omega) (by omega) (by omega) ?_
                refine lv_istore (lv' := [(8, .int (nI (z21 / 16))), (7, .int (nI 1)), (5, .int (nI (nn21 + 1))), (6, .int (nI z21)), (0, .ref h0), (1, .ref f)]) hx hb dMH_small_101 hl (by decide) rfl (fun ls hl => ?_)
                refine lv_aload_n hx hb dMH_small_103 rfl (lv_at hl 4 rfl) ?_
                refine nw_get (C := "LatticeKeysModel$Hands") (TT := T_MH) (N := 31) hx hb hts (wg_ft i_MH) hown hK hO k_h0 (kn := 225) (ci := 12) (fl := [(3, 172), (3, 181), (3, 226), (3, 291), (3, 299), (3, 308), (3, 317), (3, 326), (3, 334), (3, 342), (3, 350), (3, 359), (3, 368), (3, 369), (3, 370), (3, 371), (3, 372), (3, 373), (3, 374), (3, 375), (3, 376), (3, 377), (3, 378), (0, 0), (0, 0), (0, 0), (0, 0), (0, 0), (0, 0), (0, 0), (0, 0)]) rfl hP rfl 26 (by decide) (hts _ (wg_t kw_1458)) (fun _ h9 => h9) (cd := (0, 0)) rfl dMH_small_104 (fun v31 hv31 => ?_)
                obtain rfl := (show v31 = .int (s30.1 225 26) from hv31)
                obtain ⟨z28, ez28, hz31, hz32⟩ := cl_of (b := 2147483648) hf122 (by omega) (by decide)
                replace hR := bnd_step hR ez28
                replace hE := bndP_step hE ez28
                refine mi_as hz31 ?_
                subst hz32
                refine lv_iconst (v := nI 2) hx hb dMH_small_107 (by decide) ?_
                refine mi_ne (tgt := 121) hx hb dMH_small_108 (by decide) (by omega) (by omega) (fun h43 => absurd h43 (by omega)) (fun h43 => ?_)
                refine lv_iload hx hb dMH_small_111 (lv_at hl 0 rfl) ?_
                refine lv_bipush (v := nI 14) hx hb dMH_small_113 (by decide) ?_
                refine mi_le (tgt := 131) hx hb dMH_small_115 (by decide) (by omega) (by omega) (fun h44 => ?_) (fun h44 => ?_)
                · replace hR := hR.trans (if_pos h44)
                  replace hE := iteP_pos h44 hE
                  refine lv_aload_n hx hb dMH_small_131 rfl (lv_at hl 4 rfl) ?_
                  refine nw_get (C := "LatticeKeysModel$Hands") (TT := T_MH) (N := 31) hx hb hts (wg_ft i_MH) hown hK hO k_h0 (kn := 225) (ci := 12) (fl := [(3, 172), (3, 181), (3, 226), (3, 291), (3, 299), (3, 308), (3, 317), (3, 326), (3, 334), (3, 342), (3, 350), (3, 359), (3, 368), (3, 369), (3, 370), (3, 371), (3, 372), (3, 373), (3, 374), (3, 375), (3, 376), (3, 377), (3, 378), (0, 0), (0, 0), (0, 0), (0, 0), (0, 0), (0, 0), (0, 0), (0, 0)]) rfl hP rfl 26 (by decide) (hts _ (wg_t kw_1458)) (fun _ h9 => h9) (cd := (0, 0)) rfl dMH_small_132 (fun v32 hv32 => ?_)
                  obtain rfl := (show v32 = .int (s30.1 225 26) from hv32)
                  obtain ⟨z29, ez29, hz33, hz34⟩ := cl_of (b := 2147483648) hf122 (by omega) (by decide)
                  replace hR := bnd_step hR ez29
                  replace hE := bndP_step hE ez29
                  refine mi_as hz33 ?_
                  subst hz34
                  refine lv_iconst (v := nI 2) hx hb dMH_small_135 (by decide) ?_
                  refine mi_ne (tgt := 148) hx hb dMH_small_136 (by decide) (by omega) (by omega) (fun h45 => absurd h45 (by omega)) (fun h45 => ?_)
                  refine lv_iconst (v := nI 2) hx hb dMH_small_139 (by decide) ?_
                  refine lv_iload hx hb dMH_small_140 (lv_at hl 0 rfl) ?_
                  refine lv_iconst (v := nI 5) hx hb dMH_small_142 (by decide) ?_
                  refine mi_irem hx hb dMH_small_143 (by omega) (by omega) (by omega) ?_
                  refine lv_isub hx hb dMH_small_144 ?_
                  refine lv_goto (tgt := 152) hx hb dMH_small_145 (by decide) ?_
                  refine mi_eqv (fun z30 ez30 => ?_)
                  replace hR := bnd_step hR ez30
                  replace hE := bndP_step hE ez30
                  refine lv_istore (lv' := [(8, .int z30), (7, .int (nI 1)), (5, .int (nI (nn21 + 1))), (6, .int (nI z21)), (0, .ref h0), (1, .ref f)]) hx hb dMH_small_152 hl (by decide) rfl (fun ls hl => ?_)
                  refine lv_aload_n hx hb dMH_small_154 rfl (lv_at hl 5 rfl) ?_
                  refine lv_iload hx hb dMH_small_155 (lv_at hl 2 rfl) ?_
                  refine lv_iload hx hb dMH_small_157 (lv_at hl 0 rfl) ?_
                  refine lv_if_ge (tgt := 170) hx hb dMH_small_159 (by decide) (fun h46 => ?_) (fun h46 => ?_)
                  · replace hR := hR.trans (if_pos h46)
                    replace hE := iteP_pos h46 hE
                    refine lv_iload hx hb dMH_small_170 (lv_at hl 0 rfl) ?_
                    refine nw_iast hx hb hK hO hU k_f (k := pf) n_f hP hD hS (by omega) (by omega) dMH_small_172 (fun s31 pl H locs es25 hO hP hD hS => ?_)
                    replace hR := bnd_step hR es25
                    replace hE := bndP_step hE es25
                    have hF := frm_sI hF es25 (by unfold M_MH_small_2; omega)
                    have hf129 : s31.1 225 23 = nI 2 := fc_ne hf119 es25 (by omega)
                    have hf130 : s31.1 225 24 = nI 8 := fc_ne hf120 es25 (by omega)
                    have hf131 : s31.1 225 25 = nI 7 := fc_ne hf121 es25 (by omega)
                    have hf132 : s31.1 225 26 = nI 2 := fc_ne hf122 es25 (by omega)
                    have hf133 : s31.1 225 27 = nI 524288 := fc_ne hf123 es25 (by omega)
                    have hf134 : s31.1 225 28 = nI 261888 := fc_ne hf124 es25 (by omega)
                    have hf135 : s31.1 225 29 = nI 120 := fc_ne hf125 es25 (by omega)
                    have hf136 : s31.1 225 30 = nI 64 := fc_ne hf126 es25 (by omega)
                    have hf137 : s31.1 172 6 = nI x36 := fc_ne hf127 es25 (by omega)
                    have hf138 : s31.1 172 5 = nI x37 := fc_ne hf128 es25 (by omega)
                    refine mi_iinc (k := 2) (x := nn21 + 1) (d := 1) (y := nn21 + 1 + 1) (lv' := [(5, .int (nI (nn21 + 1 + 1))), (8, .int z30), (7, .int (nI 1)), (6, .int (nI z21)), (0, .ref h0), (1, .ref f)]) hx hb dMH_small_173 hl rfl (by decide) rfl (by decide) rfl (fun ls hl => ?_)
                    refine mi_iinc (k := 2) (x := 1) (d := 1) (y := 2) (lv' := [(7, .int (nI 2)), (5, .int (nI (nn21 + 1 + 1))), (8, .int z30), (6, .int (nI z21)), (0, .ref h0), (1, .ref f)]) hx hb dMH_small_176 hl rfl (by decide) rfl (by decide) rfl (fun ls hl => ?_)
                    refine lv_goto (tgt := 69) hx hb dMH_small_179 (by decide) ?_
                    refine lv_iload hx hb dMH_small_69 (lv_at hl 0 rfl) ?_
                    refine lv_iconst (v := nI 2) hx hb dMH_small_71 (by decide) ?_
                    refine mi_ge (tgt := 182) hx hb dMH_small_72 (by decide) (by omega) (by omega) (fun h47 => ?_) (fun h47 => absurd h47 (by omega))
                    refine lv_goto (tgt := 49) hx hb dMH_small_182 (by decide) ?_
                    exact ih21 (nn21 + 1 + 1) s31 x36 pl ls H locs (by omega) (by omega) (by omega) hF hf129 hf130 hf131 hf132 hf133 hf134 hf135 hf136 hf137 (by have h9 := hf138; rw [show x37 = x34 by omega] at h9; exact h9) hE hR (lv_sub hl [1, 4, 5] rfl) hO hP hD hS
                  · replace hR := hR.trans (if_neg h46)
                    replace hE := iteP_neg h46 hE
                    refine lv_iload hx hb dMH_small_162 (lv_at hl 0 rfl) ?_
                    refine lv_ldc (v := 8380417) hx hb hown (hts _ (wg_t kw_1429)) dMH_small_164 ?_
                    refine mi_as (show (8380417 : Int32) = nI 8380417 by decide) ?_
                    refine lv_iadd hx hb dMH_small_166 ?_
                    refine lv_goto (tgt := 172) hx hb dMH_small_167 (by decide) ?_
                    refine nw_iast hx hb hK hO hU k_f (k := pf) n_f hP hD hS (by omega) (by omega) dMH_small_172 (fun s32 pl H locs es26 hO hP hD hS => ?_)
                    replace hR := bnd_step hR es26
                    replace hE := bndP_step hE es26
                    have hF := frm_sI hF es26 (by unfold M_MH_small_2; omega)
                    have hf139 : s32.1 225 23 = nI 2 := fc_ne hf119 es26 (by omega)
                    have hf140 : s32.1 225 24 = nI 8 := fc_ne hf120 es26 (by omega)
                    have hf141 : s32.1 225 25 = nI 7 := fc_ne hf121 es26 (by omega)
                    have hf142 : s32.1 225 26 = nI 2 := fc_ne hf122 es26 (by omega)
                    have hf143 : s32.1 225 27 = nI 524288 := fc_ne hf123 es26 (by omega)
                    have hf144 : s32.1 225 28 = nI 261888 := fc_ne hf124 es26 (by omega)
                    have hf145 : s32.1 225 29 = nI 120 := fc_ne hf125 es26 (by omega)
                    have hf146 : s32.1 225 30 = nI 64 := fc_ne hf126 es26 (by omega)
                    have hf147 : s32.1 172 6 = nI x36 := fc_ne hf127 es26 (by omega)
                    have hf148 : s32.1 172 5 = nI x37 := fc_ne hf128 es26 (by omega)
                    refine mi_iinc (k := 2) (x := nn21 + 1) (d := 1) (y := nn21 + 1 + 1) (lv' := [(5, .int (nI (nn21 + 1 + 1))), (8, .int z30), (7, .int (nI 1)), (6, .int (nI z21)), (0, .ref h0), (1, .ref f)]) hx hb dMH_small_173 hl rfl (by decide) rfl (by decide) rfl (fun ls hl => ?_)
                    refine mi_iinc (k := 2) (x := 1) (d := 1) (y := 2) (lv' := [(7, .int (nI 2)), (5, .int (nI (nn21 + 1 + 1))), (8, .int z30), (6, .int (nI z21)), (0, .ref h0), (1, .ref f)]) hx hb dMH_small_176 hl rfl (by decide) rfl (by decide) rfl (fun ls hl => ?_)
                    refine lv_goto (tgt := 69) hx hb dMH_small_179 (by decide) ?_
                    refine lv_iload hx hb dMH_small_69 (lv_at hl 0 rfl) ?_
                    refine lv_iconst (v := nI 2) hx hb dMH_small_71 (by decide) ?_
                    refine mi_ge (tgt := 182) hx hb dMH_small_72 (by decide) (by omega) (by omega) (fun h48 => ?_) (fun h48 => absurd h48 (by omega))
                    refine lv_goto (tgt := 49) hx hb dMH_small_182 (by decide) ?_
                    exact ih21 (nn21 + 1 + 1) s32 x36 pl ls H locs (by omega) (by omega) (by omega) hF hf139 hf140 hf141 hf142 hf143 hf144 hf145 hf146 hf147 (by have h9 := hf148; rw [show x37 = x34 by omega] at h9; exact h9) hE hR (lv_sub hl [1, 4, 5] rfl) hO hP hD hS
                · replace hR := hR.trans (if_neg (Nat.not_le.mpr h44))
                  replace hE := iteP_neg (Nat.not_le.mpr h44) hE
                  refine lv_goto (tgt := 176) hx hb dMH_small_118 (by decide) ?_
                  refine mi_iinc (k := 1) (x := 1) (d := 1) (y := 2) (lv' := [(7, .int (nI 2)), (8, .int (nI (z21 / 16))), (5, .int (nI (nn21 + 1))), (6, .int (nI z21)), (0, .ref h0), (1, .ref f)]) hx hb dMH_small_176 hl rfl (by decide) rfl (by decide) rfl (fun ls hl => ?_)
                  refine lv_goto (tgt := 69) hx hb dMH_small_179 (by decide) ?_
                  refine lv_iload hx hb dMH_small_69 (lv_at hl 0 rfl) ?_
                  refine lv_iconst (v := nI 2) hx hb dMH_small_71 (by decide) ?_
                  refine mi_ge (tgt := 182) hx hb dMH_small_72 (by decide) (by omega) (by omega) (fun h49 => ?_) (fun h49 => absurd h49 (by omega))
                  refine lv_goto (tgt := 49) hx hb dMH_small_182 (by decide) ?_
                  exact ih21 (nn21 + 1) s30 x36 pl ls H locs (by omega) (by omega) (by omega) hF hf119 hf120 hf121 hf122 hf123 hf124 hf125 hf126 hf127 (by have h9 := hf128; rw [show x37 = x34 by omega] at h9; exact h9) hE hR (lv_sub hl [2, 4, 5] rfl) hO hP hD hS
          · replace hR := hR.trans (if_neg (Nat.not_le.mpr h27))
            replace hE := iteP_neg (Nat.not_le.mpr h27) hE
            refine lv_goto (tgt := 176) hx hb dMH_small_118 (by decide) ?_
            refine mi_iinc (k := 1) (x := 0) (d := 1) (y := 1) (lv' := [(7, .int (nI 1)), (8, .int (nI (z21 % 16))), (6, .int (nI z21)), (5, .int (nI nn21)), (0, .ref h0), (1, .ref f)]) hx hb dMH_small_176 hl rfl (by decide) rfl (by decide) rfl (fun ls hl => ?_)
            refine lv_goto (tgt := 69) hx hb dMH_small_179 (by decide) ?_
            refine lv_iload hx hb dMH_small_69 (lv_at hl 0 rfl) ?_
            refine lv_iconst (v := nI 2) hx hb dMH_small_71 (by decide) ?_
            refine mi_ge (tgt := 182) hx hb dMH_small_72 (by decide) (by omega) (by omega) (fun h50 => absurd h50 (by omega)) (fun h50 => ?_)
            refine lv_iload hx hb dMH_small_75 (lv_at hl 3 rfl) ?_
            refine lv_sipush (v := nI 256) hx hb dMH_small_77 (by decide) ?_
            refine mi_ge (tgt := 182) hx hb dMH_small_80 (by decide) (by omega) (by omega) (fun h51 => ?_) (fun h51 => ?_)
            · replace hR := hR.trans (if_pos h51)
              replace hE := iteP_pos h51 hE
              refine lv_goto (tgt := 49) hx hb dMH_small_182 (by decide) ?_
              exact ih21 nn21 q21.2 x36 pl ls H locs (by omega) (by omega) (by omega) hF hf81 hf82 hf83 hf84 hf85 hf86 hf87 hf88 hx_36 (by have h9 := hx_37; rw [show x37 = x34 by omega] at h9; exact h9) hE hR (lv_sub hl [3, 4, 5] rfl) hO hP hD hS
            · replace hR := hR.trans (if_neg (Nat.not_le.mpr h51))
              replace hE := iteP_neg (Nat.not_le.mpr h51) hE
              refine lv_iload hx hb dMH_small_83 (lv_at hl 0 rfl) ?_
              refine lv_if_ne (tgt := 96) hx hb dMH_small_85 (by decide) (fun h52 => ?_) (fun h52 => absurd h52 (by decide))
              refine lv_iload hx hb dMH_small_96 (lv_at hl 2 rfl) ?_
              refine lv_bipush (v := nI 16) hx hb dMH_small_98 (by decide) ?_
              refine mi_idiv hx hb dMH_small_100 (by omega) (by omega) (by omega) ?_
              refine lv_istore (lv' := [(8, .int (nI (z21 / 16))), (7, .int (nI 1)), (6, .int (nI z21)), (5, .int (nI nn21)), (0, .ref h0), (1, .ref f)]) hx hb dMH_small_101 hl (by decide) rfl (fun ls hl => ?_)
              refine lv_aload_n hx hb dMH_small_103 rfl (lv_at hl 4 rfl) ?_
              refine nw_get (C := "LatticeKeysModel$Hands") (TT := T_MH) (N := 31) hx hb hts (wg_ft i_MH) hown hK hO k_h0 (kn := 225) (ci := 12) (fl := [(3, 172), (3, 181), (3, 226), (3, 291), (3, 299), (3, 308), (3, 317), (3, 326), (3, 334), (3, 342), (3, 350), (3, 359), (3, 368), (3, 369), (3, 370), (3, 371), (3, 372), (3, 373), (3, 374), (3, 375), (3, 376), (3, 377), (3, 378), (0, 0), (0, 0), (0, 0), (0, 0), (0, 0), (0, 0), (0, 0), (0, 0)]) rfl hP rfl 26 (by decide) (hts _ (wg_t kw_1458)) (fun _ h9 => h9) (cd := (0, 0)) rfl dMH_small_104 (fun v33 hv33 => ?_)
              obtain rfl := (show v33 = .int (q21.2.1 225 26) from hv33)
              obtain ⟨z31, ez31, hz35, hz36⟩ := cl_of (b := 2147483648) hf84 (by omega) (by decide)
              replace hR := bnd_step hR ez31
              replace hE := bndP_step hE ez31
              refine mi_as hz35 ?_
              subst hz36
              refine lv_iconst (v := nI 2) hx hb dMH_small_107 (by decide) ?_
              refine mi_ne (tgt := 121) hx hb dMH_small_108 (by decide) (by omega) (by omega) (fun h53 => absurd h53 (by omega)) (fun h53 => ?_)
              refine lv_iload hx hb dMH_small_111 (lv_at hl 0 rfl) ?_
              refine lv_bipush (v := nI 14) hx hb dMH_small_113 (by decide) ?_
              refine mi_le (tgt := 131) hx hb dMH_small_115 (by decide) (by omega) (by omega) (fun h54 => ?_) (fun h54 => ?_)
              · replace hR := hR.trans (if_pos h54)
                replace hE := iteP_pos h54 hE
                refine lv_aload_n hx hb dMH_small_131 rfl (lv_at hl 4 rfl) ?_
                refine nw_get (C := "LatticeKeysModel$Hands") (TT := T_MH) (N := 31) hx hb hts (wg_ft i_MH) hown hK hO k_h0 (kn := 225) (ci := 12) (fl := [(3, 172), (3, 181), (3, 226), (3, 291), (3, 299), (3, 308), (3, 317), (3, 326), (3, 334), (3, 342), (3, 350), (3, 359), (3, 368), (3, 369), (3, 370), (3, 371), (3, 372), (3, 373), (3, 374), (3, 375), (3, 376), (3, 377), (3, 378), (0, 0), (0, 0), (0, 0), (0, 0), (0, 0), (0, 0), (0, 0), (0, 0)]) rfl hP rfl 26 (by decide) (hts _ (wg_t kw_1458)) (fun _ h9 => h9) (cd := (0, 0)) rfl dMH_small_132 (fun v34 hv34 => ?_)
                obtain rfl := (show v34 = .int (q21.2.1 225 26) from hv34)
                obtain ⟨z32, ez32, hz37, hz38⟩ := cl_of (b := 2147483648) hf84 (by omega) (by decide)
                replace hR := bnd_step hR ez32
                replace hE := bndP_step hE ez32
                refine mi_as hz37 ?_
                subst hz38
                refine lv_iconst (v := nI 2) hx hb dMH_small_135 (by decide) ?_
                refine mi_ne (tgt := 148) hx hb dMH_small_136 (by decide) (by omega) (by omega) (fun h55 => absurd h55 (by omega)) (fun h55 => ?_)
                refine lv_iconst (v := nI 2) hx hb dMH_small_139 (by decide) ?_
                refine lv_iload hx hb dMH_small_140 (lv_at hl 0 rfl) ?_
                refine lv_iconst (v := nI 5) hx hb dMH_small_142 (by decide) ?_
                refine mi_irem hx hb dMH_small_143 (by omega) (by omega) (by omega) ?_
                refine lv_isub hx hb dMH_small_144 ?_
                refine lv_goto (tgt := 152) hx hb dMH_small_145 (by decide) ?_
                refine mi_eqv (fun z33 ez33 => ?_)
                replace hR := bnd_step hR ez33
                replace hE := bndP_step hE ez33
                refine lv_istore (lv' := [(8, .int z33), (7, .int (nI 1)), (6, .int (nI z21)), (5, .int (nI nn21)), (0, .ref h0), (1, .ref f)]) hx hb dMH_small_152 hl (by decide) rfl (fun ls hl => ?_)
                refine lv_aload_n hx hb dMH_small_154 rfl (lv_at hl 5 rfl) ?_
                refine lv_iload hx hb dMH_small_155 (lv_at hl 3 rfl) ?_
                refine lv_iload hx hb dMH_small_157 (lv_at hl 0 rfl) ?_
                refine lv_if_ge (tgt := 170) hx hb dMH_small_159 (by decide) (fun h56 => ?_) (fun h56 => ?_)
                · replace hR := hR.trans (if_pos h56)
                  replace hE := iteP_pos h56 hE
                  refine lv_iload hx hb dMH_small_170 (lv_at hl 0 rfl) ?_
                  refine nw_iast hx hb hK hO hU k_f (k := pf) n_f hP hD hS (by omega) (by omega) dMH_small_172 (fun s33 pl H locs es27 hO hP hD hS => ?_)
                  replace hR := bnd_step hR es27
                  replace hE := bndP_step hE es27
                  have hF := frm_sI hF es27 (by unfold M_MH_small_2; omega)
                  have hf149 : s33.1 225 23 = nI 2 := fc_ne hf81 es27 (by omega)
                  have hf150 : s33.1 225 24 = nI 8 := fc_ne hf82 es27 (by omega)
                  have hf151 : s33.1 225 25 = nI 7 := fc_ne hf83 es27 (by omega)
                  have hf152 : s33.1 225 26 = nI 2 := fc_ne hf84 es27 (by omega)
                  have hf153 : s33.1 225 27 = nI 524288 := fc_ne hf85 es27 (by omega)
                  have hf154 : s33.1 225 28 = nI 261888 := fc_ne hf86 es27 (by omega)
                  have hf155 : s33.1 225 29 = nI 120 := fc_ne hf87 es27 (by omega)
                  have hf156 : s33.1 225 30 = nI 64 := fc_ne hf88 es27 (by omega)
                  have hf157 : s33.1 172 6 = nI x36 := fc_ne hx_36 es27 (by omega)
                  have hf158 : s33.1 172 5 = nI x37 := fc_ne hx_37 es27 (by omega)
                  refine mi_iinc (k := 3) (x := nn21) (d := 1) (y := nn21 + 1) (lv' := [(5, .int (nI (nn21 + 1))), (8, .int z33), (7, .int (nI 1)), (6, .int (nI z21)), (0, .ref h0), (1, .ref f)]) hx hb dMH_small_173 hl rfl (by decide) rfl (by decide) rfl (fun ls hl => ?_)
                  refine mi_iinc (k := 2) (x := 1) (d := 1) (y := 2) (lv' := [(7, .int (nI 2)), (5, .int (nI (nn21 + 1))), (8, .int z33), (6, .int (nI z21)), (0, .ref h0), (1, .ref f)]) hx hb dMH_small_176 hl rfl (by decide) rfl (by decide) rfl (fun ls hl => ?_)
                  refine lv_goto (tgt := 69) hx hb dMH_small_179 (by decide) ?_
                  refine lv_iload hx hb dMH_small_69 (lv_at hl 0 rfl) ?_
                  refine lv_iconst (v := nI 2) hx hb dMH_small_71 (by decide) ?_
                  refine mi_ge (tgt := 182) hx hb dMH_small_72 (by decide) (by omega) (by omega) (fun h57 => ?_) (fun h57 => absurd h57 (by omega))
                  refine lv_goto (tgt := 49) hx hb dMH_small_182 (by decide) ?_
                  exact ih21 (nn21 + 1) s33 x36 pl ls H locs (by omega) (by omega) (by omega) hF hf149 hf150 hf151 hf152 hf153 hf154 hf155 hf156 hf157 (by have h9 := hf158; rw [show x37 = x34 by omega] at h9; exact h9) hE hR (lv_sub hl [1, 4, 5] rfl) hO hP hD hS
                · replace hR := hR.trans (if_neg h56)
                  replace hE := iteP_neg h56 hE
                  refine lv_iload hx hb dMH_small_162 (lv_at hl 0 rfl) ?_
                  refine lv_ldc (v := 8380417) hx hb hown (hts _ (wg_t kw_1429)) dMH_small_164 ?_
                  refine mi_as (show (8380417 : Int32) = nI 8380417 by decide) ?_
                  refine lv_iadd hx hb dMH_small_166 ?_
                  refine lv_goto (tgt := 172) hx hb dMH_small_167 (by decide) ?_
                  refine nw_iast hx hb hK hO hU k_f (k := pf) n_f hP hD hS (by omega) (by omega) dMH_small_172 (fun s34 pl H locs es28 hO hP hD hS => ?_)
                  replace hR := bnd_step hR es28
                  replace hE := bndP_step hE es28
                  have hF := frm_sI hF es28 (by unfold M_MH_small_2; omega)
                  have hf159 : s34.1 225 23 = nI 2 := fc_ne hf81 es28 (by omega)
                  have hf160 : s34.1 225 24 = nI 8 := fc_ne hf82 es28 (by omega)
                  have hf161 : s34.1 225 25 = nI 7 := fc_ne hf83 es28 (by omega)
                  have hf162 : s34.1 225 26 = nI 2 := fc_ne hf84 es28 (by omega)
                  have hf163 : s34.1 225 27 = nI 524288 := fc_ne hf85 es28 (by omega)
                  have hf164 : s34.1 225 28 = nI 261888 := fc_ne hf86 es28 (by omega)
                  have hf165 : s34.1 225 29 = nI 120 := fc_ne hf87 es28 (by omega)
                  have hf166 : s34.1 225 30 = nI 64 := fc_ne hf88 es28 (by omega)
                  have hf167 : s34.1 172 6 = nI x36 := fc_ne hx_36 es28 (by omega)
                  have hf168 : s34.1 172 5 = nI x37 := fc_ne hx_37 es28 (by omega)
                  refine mi_iinc (k := 3) (x := nn21) (d := 1) (y := nn21 + 1) (lv' := [(5, .int (nI (nn21 + 1))), (8, .int z33), (7, .int (nI 1)), (6, .int (nI z21)), (0, .ref h0), (1, .ref f)]) hx hb dMH_small_173 hl rfl (by decide) rfl (by decide) rfl (fun ls hl => ?_)
                  refine mi_iinc (k := 2) (x := 1) (d := 1) (y := 2) (lv' := [(7, .int (nI 2)), (5, .int (nI (nn21 + 1))), (8, .int z33), (6, .int (nI z21)), (0, .ref h0), (1, .ref f)]) hx hb dMH_small_176 hl rfl (by decide) rfl (by decide) rfl (fun ls hl => ?_)
                  refine lv_goto (tgt := 69) hx hb dMH_small_179 (by decide) ?_
                  refine lv_iload hx hb dMH_small_69 (lv_at hl 0 rfl) ?_
                  refine lv_iconst (v := nI 2) hx hb dMH_small_71 (by decide) ?_
                  refine mi_ge (tgt := 182) hx hb dMH_small_72 (by decide) (by omega) (by omega) (fun h58 => ?_) (fun h58 => absurd h58 (by omega))
                  refine lv_goto (tgt := 49) hx hb dMH_small_182 (by decide) ?_
                  exact ih21 (nn21 + 1) s34 x36 pl ls H locs (by omega) (by omega) (by omega) hF hf159 hf160 hf161 hf162 hf163 hf164 hf165 hf166 hf167 (by have h9 := hf168; rw [show x37 = x34 by omega] at h9; exact h9) hE hR (lv_sub hl [1, 4, 5] rfl) hO hP hD hS
              · replace hR := hR.trans (if_neg (Nat.not_le.mpr h54))
                replace hE := iteP_neg (Nat.not_le.mpr h54) hE
                refine lv_goto (tgt := 176) hx hb dMH_small_118 (by decide) ?_
                refine mi_iinc (k := 1) (x := 1) (d := 1) (y := 2) (lv' := [(7, .int (nI 2)), (8, .int (nI (z21 / 16))), (6, .int (nI z21)), (5, .int (nI nn21)), (0, .ref h0), (1, .ref f)]) hx hb dMH_small_176 hl rfl (by decide) rfl (by decide) rfl (fun ls hl => ?_)
                refine lv_goto (tgt := 69) hx hb dMH_small_179 (by decide) ?_
                refine lv_iload hx hb dMH_small_69 (lv_at hl 0 rfl) ?_
                refine lv_iconst (v := nI 2) hx hb dMH_small_71 (by decide) ?_
                refine mi_ge (tgt := 182) hx hb dMH_small_72 (by decide) (by omega) (by omega) (fun h59 => ?_) (fun h59 => absurd h59 (by omega))
                refine lv_goto (tgt := 49) hx hb dMH_small_182 (by decide) ?_
                exact ih21 nn21 q21.2 x36 pl ls H locs (by omega) (by omega) (by omega) hF hf81 hf82 hf83 hf84 hf85 hf86 hf87 hf88 hx_36 (by have h9 := hx_37; rw [show x37 = x34 by omega] at h9; exact h9) hE hR (lv_sub hl [3, 4, 5] rfl) hO hP hD hS
  exact lp21 1000000 0 s25 x33 pl ls _ _ (by omega) (by omega) (by omega) hF hf53 hf54 hf55 hf56 hf57 hf58 hf59 hf60 hx_33 hx_34 hE hR (lv_sub hl [0, 1, 2] rfl) hO hP hD hS
def M_MH_ball_0 (k : Nat) : Prop := k = 172 ∨ k = 368 ∨ (0 : Nat) = 1
noncomputable def F_MH_ball_0_L3 (y21 : Int64) (i23 : Nat) (kk : Nat → Sto → Sto) : Nat → Nat → Sto → Sto
  | 0, jj21, s27 => bnd (sI s27 368 i23 (s27.1 368 jj21)) fun s28 => bnd ((s28.1 225 23).toNatClampNeg) fun z24 => if (lg_cmp (((y21.toUInt64 >>> (((nI (i23 + 39)) - (nI 256)).toInt64.toUInt64 &&& Int64.toUInt64 63)).toInt64) &&& 1) 1) = 0 then bnd (sI s28 368 jj21 (-1)) fun s30 => kk (i23 + 1) s30 else bnd (sI s28 368 jj21 (nI 1)) fun s29 => kk (i23 + 1) s29
  | n24 + 1, jj21, s27 => if jj21 ≤ i23 then bnd (sI s27 368 i23 (s27.1 368 jj21)) fun s31 => bnd ((s31.1 225 23).toNatClampNeg) fun z25 => if (lg_cmp (((y21.toUInt64 >>> (((nI (i23 + 39)) - (nI 256)).toInt64.toUInt64 &&& Int64.toUInt64 63)).toInt64) &&& 1) 1) = 0 then bnd (sI s31 368 jj21 (-1)) fun s33 => kk (i23 + 1) s33 else bnd (sI s31 368 jj21 (nI 1)) fun s32 => kk (i23 + 1) s32 else bnd (F_MS_next  s27) fun q22 => bnd (q22.1.toNatClampNeg) fun z26 => F_MH_ball_0_L3 y21 i23 kk n24 z26 q22.2
noncomputable def E_MH_ball_0_L3 (y21 : Int64) (i23 : Nat) (ke : Nat → Sto → Prop) : Nat → Nat → Sto → Prop
  | 0, jj21, s27 => (jj21 ≤ i23) ∧ (bnd (sI s27 368 i23 (s27.1 368 jj21)) fun s28 => bnd ((s28.1 225 23).toNatClampNeg) fun z24 => if (lg_cmp (((y21.toUInt64 >>> (((nI (i23 + 39)) - (nI 256)).toInt64.toUInt64 &&& Int64.toUInt64 63)).toInt64) &&& 1) 1) = 0 then bnd (sI s28 368 jj21 (-1)) fun s30 => ke (i23 + 1) s30 else bnd (sI s28 368 jj21 (nI 1)) fun s29 => ke (i23 + 1) s29)
  | n24 + 1, jj21, s27 => if jj21 ≤ i23 then bnd (sI s27 368 i23 (s27.1 368 jj21)) fun s31 => bnd ((s31.1 225 23).toNatClampNeg) fun z25 => if (lg_cmp (((y21.toUInt64 >>> (((nI (i23 + 39)) - (nI 256)).toInt64.toUInt64 &&& Int64.toUInt64 63)).toInt64) &&& 1) 1) = 0 then bnd (sI s31 368 jj21 (-1)) fun s33 => ke (i23 + 1) s33 else bnd (sI s31 368 jj21 (nI 1)) fun s32 => ke (i23 + 1) s32 else bnd (F_MS_next  s27) fun q22 => bnd (q22.1.toNatClampNeg) fun z26 => E_MH_ball_0_L3 y21 i23 ke n24 z26 q22.2
noncomputable def F_MH_ball_0_L2 (y21 : Int64) : Nat → Nat → Sto → Sto
  | 0, i23, s26 => s26
  | n23 + 1, i23, s26 => bnd (F_MS_next  s26) fun q21 => bnd (q21.1.toNatClampNeg) fun z23 => F_MH_ball_0_L3 y21 i23 (F_MH_ball_0_L2 y21 n23) 1000000 z23 q21.2
noncomputable def E_MH_ball_0_L2 (y21 : Int64) : Nat → Nat → Sto → Prop
  | 0, i23, s26 => True
  | n23 + 1, i23, s26 => bnd (F_MS_next  s26) fun q21 => bnd (q21.1.toNatClampNeg) fun z23 => E_MH_ball_0_L3 y21 i23 (E_MH_ball_0_L2 y21 n23) 1000000 z23 q21.2
noncomputable def F_MH_ball_0_L1 (y21 : Int64) : Nat → Nat → Sto → Sto
  | 0, i22, s25 => bnd ((s25.1 225 23).toNatClampNeg) fun z22 => F_MH_ball_0_L2 y21 (256 - 217) 217 s25
  | n22 + 1, i22, s25 => bnd (sI s25 368 i22 (nI 0)) fun s34 => F_MH_ball_0_L1 y21 n22 (i22 + 1) s34
noncomputable def E_MH_ball_0_L1 (y21 : Int64) : Nat → Nat → Sto → Prop
  | 0, i22, s25 => bnd ((s25.1 225 23).toNatClampNeg) fun z22 => E_MH_ball_0_L2 y21 (256 - 217) 217 s25
  | n22 + 1, i22, s25 => bnd (sI s25 368 i22 (nI 0)) fun s34 => E_MH_ball_0_L1 y21 n22 (i22 + 1) s34
noncomputable def F_MH_ball_0_L0 : Nat → Nat → Int64 → Sto → Sto
  | 0, i21, y21, s24 => F_MH_ball_0_L1 y21 256 0 s24
  | n21 + 1, i21, y21, s24 => bnd (F_MS_next  s24) fun q23 => bnd (q23.1.toNatClampNeg) fun z27 => bnd ((y21 ||| (((nI z27).toInt64) <<< ((nI (8 * i21)).toInt64 &&& 63)))) fun y22 => F_MH_ball_0_L0  n21 (i21 + 1) y22 q23.2
noncomputable def E_MH_ball_0_L0 : Nat → Nat → Int64 → Sto → Prop
  | 0, i21, y21, s24 => E_MH_ball_0_L1 y21 256 0 s24
  | n21 + 1, i21, y21, s24 => bnd (F_MS_next  s24) fun q23 => bnd (q23.1.toNatClampNeg) fun z27 => bnd ((y21 ||| (((nI z27).toInt64) <<< ((nI (8 * i21)).toInt64 &&& 63)))) fun y22 => E_MH_ball_0_L0  n21 (i21 + 1) y22 q23.2
noncomputable def F_MH_ball_0 (pb : Nat) (s : Sto) : Sto := bnd (F_MS_shake  s) fun s21 => bnd ((s21.1 225 30).toNatClampNeg) fun z21 => bnd (F_MS_puts pb 64 0 32 s21) fun s22 => bnd (F_MS_end  s22) fun s23 => F_MH_ball_0_L0 8 0 0 s23
noncomputable def E_MH_ball_0 (pb : Nat) (s : Sto) : Prop := bnd (F_MS_shake  s) fun s21 => bnd ((s21.1 225 30).toNatClampNeg) fun z21 => bnd (F_MS_puts pb 64 0 32 s21) fun s22 => bnd (F_MS_end  s22) fun s23 => E_MH_ball_0_L0 8 0 0 s23
set_option maxHeartbeats 8000000 in
set_option maxRecDepth 100000 in
theorem N_MH_ball_0 (l : Launch) (g : Gd) (sz : Nat) (T : TyN) (s : Sto) (pl : va_W) (hO : okn g T s pl) (hU : inj T) (h0 b : Nat) (pb : Nat) (k_h0 : T h0 = some 225) (k_b : T b = some pb) (n_b : nsp pb = (1, 64, [])) (e_c0 : s.1 225 23 = nI 0) (e_c1 : s.1 225 24 = nI 4) (e_c2 : s.1 225 25 = nI 4) (e_c3 : s.1 225 26 = nI 2) (e_c4 : s.1 225 27 = nI 131072) (e_c5 : s.1 225 28 = nI 95232) (e_c6 : s.1 225 29 = nI 78) (e_c7 : s.1 225 30 = nI 32) (hE : E_MH_ball_0 pb s)  : Met l y_MH_ball w_MH_ball ({ frames := 4, cells := 0, slots := 0, locals := 90 } : Room) (va_Pc [.ref h0, .ref b] (pr (en g) g.1 vcl sz ([] ++ pl))) (va_Qv (fun (u : (Sto) × va_W) => (u.1 = F_MH_ball_0 pb s ∧ frm (M_MH_ball_0) s u.1 ∧ True) ∧ okn g T u.1 u.2) (po g.1 vcl (va_A ([] ++ pl) sz) (fun (u : (Sto) × va_W) => [] ++ u.2)) (va_A ([] ++ pl) sz)) 0 0 (va_A ([] ++ pl) sz) := by
  refine mc_entry (cc := c_MH_ball) (maxL := 6) (ret := none) (by decide) rfl (Nat.le_of_ble_eq_true rfl) ?_
  intro p e s0 m args below meth c ls F hr hlk hnm hsz hP hD hEn hA hl
  obtain ⟨hx, hb, hml, hown, hts⟩ := id F
  have hK := hEn.1
  generalize va_A ([] ++ pl) sz = A at hD hEn hA ⊢
  have hS : va_S A s0.heap s0.heap [] := va_S.rf
  have hl : lv_has ls 6 [(0, .ref h0), (1, .ref b)] := hl
  have hR : F_MH_ball_0 pb s = F_MH_ball_0 pb s := rfl
  have hF : frm (M_MH_ball_0) s s := frm_rf
  have ne_172_pb : 172 ≠ pb := nsp_ne (p := 172) rfl n_b (show (5 : Nat) ≠ 1 by decide)
  have ne_225_pb : 225 ≠ pb := nsp_ne (p := 225) rfl n_b (show (5 : Nat) ≠ 1 by decide)
  refine lv_aload_n hx hb dMH_ball_0 rfl (lv_at hl 0 rfl) ?_
  refine nw_get (C := "LatticeKeysModel$Hands") (TT := T_MH) (N := 31) hx hb hts (wg_ft i_MH) hown hK hO k_h0 (kn := 225) (ci := 12) (fl := [(3, 172), (3, 181), (3, 226), (3, 291), (3, 299), (3, 308), (3, 317), (3, 326), (3, 334), (3, 342), (3, 350), (3, 359), (3, 368), (3, 369), (3, 370), (3, 371), (3, 372), (3, 373), (3, 374), (3, 375), (3, 376), (3, 377), (3, 378), (0, 0), (0, 0), (0, 0), (0, 0), (0, 0), (0, 0), (0, 0), (0, 0)]) rfl hP rfl 0 (by decide) (hts _ (wg_t kw_1432)) (fun _ h9 => h9) (cd := (3, 172)) rfl dMH_ball_1 (fun v21 hv21 => ?_)
  obtain ⟨r21, rfl, kr21⟩ := (show ∃ r : Nat, v21 = .ref r ∧ T r = some 172 from hv21)
  refine mp_v (cx := []) (wr := []) hP hD hS hA [] [] rfl rfl rfl (by decide) (va_runV (As := []) (rest := []) F (N_MS_shake l g _ T s pl hO hU r21 kr21) (cwV 0 hts (wg_app (wg_c kw_1714 (wg_c kw_1657 (wg_c kw_1658 (wg_c kw_10 wg_n)))) kw_1659) rfl rfl rfl (by decide +kernel) ⟨by decide, by decide⟩) (pn_V (en_ok g) (ci := 9) (kn := 172) (fl := [(3, 173), (3, 174), (3, 175), (3, 176), (3, 177), (0, 0), (0, 0), (0, 0)]) hK hO kr21 rfl hP hD hS hA hEn [] rfl rfl rfl) rfl rfl hl.1 rfl (lv_room (Nat.le_of_ble_eq_true rfl)) dMH_ball_4 ⟨by omega, by omega⟩) (fun  u21 H locs hu21 hP hD hS => ?_)
  obtain ⟨s21, pl⟩ := u21
  obtain ⟨⟨eq21, hFc21, ⟨x21, hx_21, hb_21⟩, ⟨x22, hx_22, hb_22⟩, -⟩, hO⟩ := hu21
  have hO : okn g T s21 pl := hO
  have hP : va_P g.1 vcl ([] ++ pl) _ := hP
  have hD : va_D _ ([] ++ pl) := hD
  have hFc21 : frm (M_MS_shake) s s21 := hFc21
  have hb_21 : x21 = 0 := hb_21
  have hb_22 : x22 = 136 := hb_22
  replace hR := bnd_step hR eq21
  replace hE := bndP_step hE eq21
  have hF := frm_tr hF hFc21 (fun k hk => by unfold M_MS_shake at hk; unfold M_MH_ball_0; omega)
  have hf21 : s21.1 225 23 = nI 0 := fc_F e_c0 hFc21 (by unfold M_MS_shake; omega)
  have hf22 : s21.1 225 24 = nI 4 := fc_F e_c1 hFc21 (by unfold M_MS_shake; omega)
  have hf23 : s21.1 225 25 = nI 4 := fc_F e_c2 hFc21 (by unfold M_MS_shake; omega)
  have hf24 : s21.1 225 26 = nI 2 := fc_F e_c3 hFc21 (by unfold M_MS_shake; omega)
  have hf25 : s21.1 225 27 = nI 131072 := fc_F e_c4 hFc21 (by unfold M_MS_shake; omega)
  have hf26 : s21.1 225 28 = nI 95232 := fc_F e_c5 hFc21 (by unfold M_MS_shake; omega)
  have hf27 : s21.1 225 29 = nI 78 := fc_F e_c6 hFc21 (by unfold M_MS_shake; omega)
  have hf28 : s21.1 225 30 = nI 32 := fc_F e_c7 hFc21 (by unfold M_MS_shake; omega)
  refine W.widen (k := 0) (n := 0) (by omega) (by omega) ?_
  refine lv_aload_n hx hb dMH_ball_7 rfl (lv_at hl 0 rfl) ?_
  refine nw_get (C := "LatticeKeysModel$Hands") (TT := T_MH) (N := 31) hx hb hts (wg_ft i_MH) hown hK hO k_h0 (kn := 225) (ci := 12) (fl := [(3, 172), (3, 181), (3, 226), (3, 291), (3, 299), (3, 308), (3, 317), (3, 326), (3, 334), (3, 342), (3, 350), (3, 359), (3, 368), (3, 369), (3, 370), (3, 371), (3, 372), (3, 373), (3, 374), (3, 375), (3, 376), (3, 377), (3, 378), (0, 0), (0, 0), (0, 0), (0, 0), (0, 0), (0, 0), (0, 0), (0, 0)]) rfl hP rfl 0 (by decide) (hts _ (wg_t kw_1432)) (fun _ h9 => h9) (cd := (3, 172)) rfl dMH_ball_8 (fun v22 hv22 => ?_)
  obtain ⟨r22, rfl, kr22⟩ := (show ∃ r : Nat, v22 = .ref r ∧ T r = some 172 from hv22)
  refine lv_aload_n hx hb dMH_ball_11 rfl (lv_at hl 1 rfl) ?_
  refine lv_iconst (v := nI 0) hx hb dMH_ball_12 (by decide) ?_
  refine lv_aload_n hx hb dMH_ball_13 rfl (lv_at hl 0 rfl) ?_
  refine nw_get (C := "LatticeKeysModel$Hands") (TT := T_MH) (N := 31) hx hb hts (wg_ft i_MH) hown hK hO k_h0 (kn := 225) (ci := 12) (fl := [(3, 172), (3, 181), (3, 226), (3, 291), (3, 299), (3, 308), (3, 317), (3, 326), (3, 334), (3, 342), (3, 350), (3, 359), (3, 368), (3, 369), (3, 370), (3, 371), (3, 372), (3, 373), (3, 374), (3, 375), (3, 376), (3, 377), (3, 378), (0, 0), (0, 0), (0, 0), (0, 0), (0, 0), (0, 0), (0, 0), (0, 0)]) rfl hP rfl 30 (by decide) (hts _ (wg_t kw_1462)) (fun _ h9 => h9) (cd := (0, 0)) rfl dMH_ball_14 (fun v23 hv23 => ?_)
  obtain rfl := (show v23 = .int (s21.1 225 30) from hv23)
  obtain ⟨z21, ez21, hz21, hz22⟩ := cl_of (b := 2147483648) hf28 (by omega) (by decide)
  replace hR := bnd_step hR ez21
  replace hE := bndP_step hE ez21
  refine mi_as hz21 ?_
  subst hz22
  refine mp_v (cx := []) (wr := []) hP hD hS hA [] [] rfl rfl rfl (by decide) (va_runV (As := [.ref b, .int (nI 0), .int (nI 32)]) (rest := []) F (N_MS_puts l g _ T s21 pl hO hU r22 b pb 64 0 32 x21 x22 kr22 k_b n_b hx_21 hx_22 (by omega) (by omega) (by omega) (by omega)) (cwV 3 hts (wg_app (wg_c kw_1715 (wg_c kw_1608 (wg_c kw_1609 (wg_c kw_10 wg_n)))) kw_1610) rfl rfl rfl (by decide +kernel) ⟨by decide, by decide⟩) (pn_V (en_ok g) (ci := 9) (kn := 172) (fl := [(3, 173), (3, 174), (3, 175), (3, 176), (3, 177), (0, 0), (0, 0), (0, 0)]) hK hO kr22 rfl hP hD hS hA hEn [] rfl rfl rfl) rfl rfl hl.1 rfl (lv_room (Nat.le_of_ble_eq_true rfl)) dMH_ball_17 ⟨by omega, by omega⟩) (fun  u22 H locs hu22 hP hD hS => ?_)
  obtain ⟨s22, pl⟩ := u22
  obtain ⟨⟨eq22, hFc22, ⟨x24, hx_24, hb_24⟩, ⟨x25, hx_25, hb_25⟩, -⟩, hO⟩ := hu22
  have hO : okn g T s22 pl := hO
  have hP : va_P g.1 vcl ([] ++ pl) _ := hP
  have hD : va_D _ ([] ++ pl) := hD
  have hFc22 : frm (M_MS_puts) s21 s22 := hFc22
  have hb_24 : x24 < x22 := hb_24
  have hb_25 : x25 = x22 := hb_25
  replace hR := bnd_step hR eq22
  replace hE := bndP_step hE eq22
  have hF := frm_tr hF hFc22 (fun k hk => by unfold M_MS_puts at hk; unfold M_MH_ball_0; omega)
  have hf29 : s22.1 225 23 = nI 0 := fc_F hf21 hFc22 (by unfold M_MS_puts; omega)
  have hf30 : s22.1 225 24 = nI 4 := fc_F hf22 hFc22 (by unfold M_MS_puts; omega)
  have hf31 : s22.1 225 25 = nI 4 := fc_F hf23 hFc22 (by unfold M_MS_puts; omega)
  have hf32 : s22.1 225 26 = nI 2 := fc_F hf24 hFc22 (by unfold M_MS_puts; omega)
  have hf33 : s22.1 225 27 = nI 131072 := fc_F hf25 hFc22 (by unfold M_MS_puts; omega)
  have hf34 : s22.1 225 28 = nI 95232 := fc_F hf26 hFc22 (by unfold M_MS_puts; omega)
  have hf35 : s22.1 225 29 = nI 78 := fc_F hf27 hFc22 (by unfold M_MS_puts; omega)
  have hf36 : s22.1 225 30 = nI 32 := fc_F hf28 hFc22 (by unfold M_MS_puts; omega)
  refine W.widen (k := 0) (n := 0) (by omega) (by omega) ?_
  refine lv_aload_n hx hb dMH_ball_20 rfl (lv_at hl 0 rfl) ?_
  refine nw_get (C := "LatticeKeysModel$Hands") (TT := T_MH) (N := 31) hx hb hts (wg_ft i_MH) hown hK hO k_h0 (kn := 225) (ci := 12) (fl := [(3, 172), (3, 181), (3, 226), (3, 291), (3, 299), (3, 308), (3, 317), (3, 326), (3, 334), (3, 342), (3, 350), (3, 359), (3, 368), (3, 369), (3, 370), (3, 371), (3, 372), (3, 373), (3, 374), (3, 375), (3, 376), (3, 377), (3, 378), (0, 0), (0, 0), (0, 0), (0, 0), (0, 0), (0, 0), (0, 0), (0, 0)]) rfl hP rfl 0 (by decide) (hts _ (wg_t kw_1432)) (fun _ h9 => h9) (cd := (3, 172)) rfl dMH_ball_21 (fun v24 hv24 => ?_)
  obtain ⟨r23, rfl, kr23⟩ := (show ∃ r : Nat, v24 = .ref r ∧ T r = some 172 from hv24)
  refine mp_v (cx := []) (wr := []) hP hD hS hA [] [] rfl rfl rfl (by decide) (va_runV (As := []) (rest := []) F (N_MS_end l g _ T s22 pl hO hU r23 x24 x25 kr23 hx_24 hx_25 (by omega) (by omega)) (cwV 0 hts (wg_app (wg_c kw_1717 (wg_c kw_1630 (wg_c kw_1631 (wg_c kw_10 wg_n)))) kw_1632) rfl rfl rfl (by decide +kernel) ⟨by decide, by decide⟩) (pn_V (en_ok g) (ci := 9) (kn := 172) (fl := [(3, 173), (3, 174), (3, 175), (3, 176), (3, 177), (0, 0), (0, 0), (0, 0)]) hK hO kr23 rfl hP hD hS hA hEn [] rfl rfl rfl) rfl rfl hl.1 rfl (lv_room (Nat.le_of_ble_eq_true rfl)) dMH_ball_24 ⟨by omega, by omega⟩) (fun  u23 H locs hu23 hP hD hS => ?_)
  obtain ⟨s23, pl⟩ := u23
  obtain ⟨⟨eq23, hFc23, ⟨x27, hx_27, hb_27⟩, ⟨x28, hx_28, hb_28⟩, -⟩, hO⟩ := hu23
  have hO : okn g T s23 pl := hO
  have hP : va_P g.1 vcl ([] ++ pl) _ := hP
  have hD : va_D _ ([] ++ pl) := hD
  have hFc23 : frm (M_MS_end) s22 s23 := hFc23
  have hb_27 : x27 = 0 := hb_27
  have hb_28 : x28 = x25 := hb_28
  replace hR := bnd_step hR eq23
  replace hE := bndP_step hE eq23
  have hF := frm_tr hF hFc23 (fun k hk => by unfold M_MS_end at hk; unfold M_MH_ball_0; omega)
  have hf37 : s23.1 225 23 = nI 0 := fc_F hf29 hFc23 (by unfold M_MS_end; omega)
  have hf38 : s23.1 225 24 = nI 4 := fc_F hf30 hFc23 (by unfold M_MS_end; omega)
  have hf39 : s23.1 225 25 = nI 4 := fc_F hf31 hFc23 (by unfold M_MS_end; omega)
  have hf40 : s23.1 225 26 = nI 2 := fc_F hf32 hFc23 (by unfold M_MS_end; omega)
  have hf41 : s23.1 225 27 = nI 131072 := fc_F hf33 hFc23 (by unfold M_MS_end; omega)
  have hf42 : s23.1 225 28 = nI 95232 := fc_F hf34 hFc23 (by unfold M_MS_end; omega)
  have hf43 : s23.1 225 29 = nI 78 := fc_F hf35 hFc23 (by unfold M_MS_end; omega)
  have hf44 : s23.1 225 30 = nI 32 := fc_F hf36 hFc23 (by unfold M_MS_end; omega)
  refine W.widen (k := 0) (n := 0) (by omega) (by omega) ?_
  refine lv_lconst (v := 0) hx hb dMH_ball_27 (by decide) ?_
  refine lv_lstore_n (lv' := [(2, .long 0), (0, .ref h0), (1, .ref b)]) hx hb dMH_ball_28 rfl hl (by decide) rfl (fun ls hl => ?_)
  refine lv_iconst (v := nI 0) hx hb dMH_ball_29 (by decide) ?_
  refine lv_istore (lv' := [(4, .int (nI 0)), (2, .long 0), (0, .ref h0), (1, .ref b)]) hx hb dMH_ball_30 hl (by decide) rfl (fun ls hl => ?_)
  have lp21 : ∀ (n21 : Nat) (i21 : Nat) (y21 : Int64) (s24 : Sto) (ps21 : Nat) (pl : va_W) (ls : Array Slot) (H : Heap) (locs : List Loc), n21 + i21 = 8 → (ps21 ≤ 136) → frm (M_MH_ball_0) s s24 → s24.1 225 23 = nI 0 → s24.1 225 24 = nI 4 → s24.1 225 25 = nI 4 → s24.1 225 26 = nI 2 → s24.1 225 27 = nI 131072 → s24.1 225 28 = nI 95232 → s24.1 225 29 = nI 78 → s24.1 225 30 = nI 32 → s24.1 172 6 = nI ps21 → s24.1 172 5 = nI x28 → E_MH_ball_0_L0 n21 i21 y21 s24 → F_MH_ball_0 pb s = F_MH_ball_0_L0 n21 i21 y21 s24 → lv_has ls 6 [(4, .int (nI i21)), (2, .long y21), (0, .ref h0)] → okn g T s24 pl → va_P g.1 vcl ([] ++ pl) H → va_D A ([] ++ pl) → va_S A s0.heap H locs → W p l e ({ frames := 4, cells := 0, slots := 0, locals := 90 } : Room) s0 m args below meth c H locs 0 0 (MQ below (va_Qv (fun (u : (Sto) × va_W) => (u.1 = F_MH_ball_0 pb s ∧ frm (M_MH_ball_0) s u.1 ∧ True) ∧ okn g T u.1 u.2) (po g.1 vcl A (fun (u : (Sto) × va_W) => [] ++ u.2)) A) args s0 0 0 A) (F0 m 32 ls []) := by
    intro n21
    induction n21 with
    | zero =>
      intro i21 y21 s24 ps21 pl ls H locs hm21 hi21 hF hf45 hf46 hf47 hf48 hf49 hf50 hf51 hf52 hf53 hf54 hE hR hl hO hP hD hS
      refine lv_iload hx hb dMH_ball_32 (lv_at hl 0 rfl) ?_
      refine lv_bipush (v := nI 8) hx hb dMH_ball_34 (by decide) ?_
      refine mi_ge (tgt := 62) hx hb dMH_ball_36 (by decide) (by omega) (by omega) (fun h21 => ?_) (fun h21 => absurd h21 (by omega))
      refine lv_iconst (v := nI 0) hx hb dMH_ball_62 (by decide) ?_
      refine lv_istore (lv' := [(4, .int (nI 0)), (2, .long y21), (0, .ref h0)]) hx hb dMH_ball_63 hl (by decide) rfl (fun ls hl => ?_)
      have lp22 : ∀ (n22 : Nat) (i22 : Nat) (s25 : Sto) (ps22 : Nat) (pl : va_W) (ls : Array Slot) (H : Heap) (locs : List Loc), n22 + i22 = 256 → (ps22 ≤ 136) → frm (M_MH_ball_0) s s25 → s25.1 225 23 = nI 0 → s25.1 225 24 = nI 4 → s25.1 225 25 = nI 4 → s25.1 225 26 = nI 2 → s25.1 225 27 = nI 131072 → s25.1 225 28 = nI 95232 → s25.1 225 29 = nI 78 → s25.1 225 30 = nI 32 → s25.1 172 6 = nI ps22 → s25.1 172 5 = nI x28 → E_MH_ball_0_L1 y21 n22 i22 s25 → F_MH_ball_0 pb s = F_MH_ball_0_L1 y21 n22 i22 s25 → lv_has ls 6 [(4, .int (nI i22)), (2, .long y21), (0, .ref h0)] → okn g T s25 pl → va_P g.1 vcl ([] ++ pl) H → va_D A ([] ++ pl) → va_S A s0.heap H locs → W p l e ({ frames := 4, cells := 0, slots := 0, locals := 90 } : Room) s0 m args below meth c H locs 0 0 (MQ below (va_Qv (fun (u : (Sto) × va_W) => (u.1 = F_MH_ball_0 pb s ∧ frm (M_MH_ball_0) s u.1 ∧ True) ∧ okn g T u.1 u.2) (po g.1 vcl A (fun (u : (Sto) × va_W) => [] ++ u.2)) A) args s0 0 0 A) (F0 m 65 ls []) := by
        intro n22
        induction n22 with
        | zero =>
          intro i22 s25 ps22 pl ls H locs hm22 hi22 hF hf55 hf56 hf57 hf58 hf59 hf60 hf61 hf62 hf63 hf64 hE hR hl hO hP hD hS
          refine lv_iload hx hb dMH_ball_65 (lv_at hl 0 rfl) ?_
          refine lv_sipush (v := nI 256) hx hb dMH_ball_67 (by decide) ?_
          refine mi_ge (tgt := 87) hx hb dMH_ball_70 (by decide) (by omega) (by omega) (fun h22 => ?_) (fun h22 => absurd h22 (by omega))
          refine lv_sipush (v := nI 256) hx hb dMH_ball_87 (by decide) ?_
          refine va_gets hx hb (hEn.2.1 26 _ rfl).1 hS hown (hts _ (wg_t kw_1712)) (fun _ h9 => h9) dMH_ball_90 ?_
          refine lv_aload_n hx hb dMH_ball_93 rfl (lv_at hl 2 rfl) ?_
          refine nw_get (C := "LatticeKeysModel$Hands") (TT := T_MH) (N := 31) hx hb hts (wg_ft i_MH) hown hK hO k_h0 (kn := 225) (ci := 12) (fl := [(3, 172), (3, 181), (3, 226), (3, 291), (3, 299), (3, 308), (3, 317), (3, 326), (3, 334), (3, 342), (3, 350), (3, 359), (3, 368), (3, 369), (3, 370), (3, 371), (3, 372), (3, 373), (3, 374), (3, 375), (3, 376), (3, 377), (3, 378), (0, 0), (0, 0), (0, 0), (0, 0), (0, 0), (0, 0), (0, 0), (0, 0)]) rfl hP rfl 23 (by decide) (hts _ (wg_t kw_1455)) (fun _ h9 => h9) (cd := (0, 0)) rfl dMH_ball_94 (fun v25 hv25 => ?_)
          obtain rfl := (show v25 = .int (s25.1 225 23) from hv25)
          obtain ⟨z22, ez22, hz23, hz24⟩ := cl_of (b := 2147483648) hf55 (by omega) (by decide)
          replace hR := bnd_step hR ez22
          replace hE := bndP_step hE ez22
          refine mi_as hz23 ?_
          subst hz24
          refine va_ti (v := .int (nI 39)) hx hb (hEn.2.1 26 _ rfl).2 hS (vp_in_nI (by decide) (by decide)) (by decide +kernel) dMH_ball_97 ?_
          refine mi_isub hx hb dMH_ball_98 (by omega) ?_
          refine mi_as (show nI (256 - 39) = nI 217 from rfl) ?_
          refine lv_istore (lv' := [(4, .int (nI 217)), (2, .long y21), (0, .ref h0)]) hx hb dMH_ball_99 hl (by decide) rfl (fun ls hl => ?_)
          have lp23 : ∀ (n23 : Nat) (i23 : Nat) (s26 : Sto) (ps23 : Nat) (pl : va_W) (ls : Array Slot) (H : Heap) (locs : List Loc), n23 + i23 = 256 → (ps23 ≤ 136) → (217 ≤ i23) → frm (M_MH_ball_0) s s26 → s26.1 225 23 = nI 0 → s26.1 225 24 = nI 4 → s26.1 225 25 = nI 4 → s26.1 225 26 = nI 2 → s26.1 225 27 = nI 131072 → s26.1 225 28 = nI 95232 → s26.1 225 29 = nI 78 → s26.1 225 30 = nI 32 → s26.1 172 6 = nI ps23 → s26.1 172 5 = nI x28 → E_MH_ball_0_L2 y21 n23 i23 s26 → F_MH_ball_0 pb s = F_MH_ball_0_L2 y21 n23 i23 s26 → lv_has ls 6 [(4, .int (nI i23)), (2, .long y21), (0, .ref h0)] → okn g T s26 pl → va_P g.1 vcl ([] ++ pl) H → va_D A ([] ++ pl) → va_S A s0.heap H locs → W p l e ({ frames := 4, cells := 0, slots := 0, locals := 90 } : Room) s0 m args below meth c H locs 0 0 (MQ below (va_Qv (fun (u : (Sto) × va_W) => (u.1 = F_MH_ball_0 pb s ∧ frm (M_MH_ball_0) s u.1 ∧ True) ∧ okn g T u.1 u.2) (po g.1 vcl A (fun (u : (Sto) × va_W) => [] ++ u.2)) A) args s0 0 0 A) (F0 m 101 ls []) := by
            intro n23
            induction n23 with
            | zero =>
              intro i23 s26 ps23 pl ls H locs hm23 hi23 hi24 hF hf65 hf66 hf67 hf68 hf69 hf70 hf71 hf72 hf73 hf74 hE hR hl hO hP hD hS
              refine lv_iload hx hb dMH_ball_101 (lv_at hl 0 rfl) ?_
              refine lv_sipush (v := nI 256) hx hb dMH_ball_103 (by decide) ?_
              refine mi_ge (tgt := 193) hx hb dMH_ball_106 (by decide) (by omega) (by omega) (fun h23 => ?_) (fun h23 => absurd h23 (by omega))
              exact mp_vret hx hb hr hlk hP hD hS (s26, pl) ⟨⟨hR.symm, hF, trivial⟩, hO⟩ [] rfl rfl rfl (by omega) (by omega) dMH_ball_193
            | succ n23 ih23 =>
              intro i23 s26 ps23 pl ls H locs hm23 hi23 hi24 hF hf75 hf76 hf77 hf78 hf79 hf80 hf81 hf82 hf83 hf84 hE hR hl hO hP hD hS
              refine lv_iload hx hb dMH_ball_101 (lv_at hl 0 rfl) ?_
              refine lv_sipush (v := nI 256) hx hb dMH_ball_103 (by decide) ?_
              refine mi_ge (tgt := 193) hx hb dMH_ball_106 (by decide) (by omega) (by omega) (fun h24 => absurd h24 (by omega)) (fun h24 => ?_)
              refine lv_aload_n hx hb dMH_ball_109 rfl (lv_at hl 2 rfl) ?_
              refine nw_get (C := "LatticeKeysModel$Hands") (TT := T_MH) (N := 31) hx hb hts (wg_ft i_MH) hown hK hO k_h0 (kn := 225) (ci := 12) (fl := [(3, 172), (3, 181), (3, 226), (3, 291), (3, 299), (3, 308), (3, 317), (3, 326), (3, 334), (3, 342), (3, 350), (3, 359), (3, 368), (3, 369), (3, 370), (3, 371), (3, 372), (3, 373), (3, 374), (3, 375), (3, 376), (3, 377), (3, 378), (0, 0), (0, 0), (0, 0), (0, 0), (0, 0), (0, 0), (0, 0), (0, 0)]) rfl hP rfl 0 (by decide) (hts _ (wg_t kw_1432)) (fun _ h9 => h9) (cd := (3, 172)) rfl dMH_ball_110 (fun v26 hv26 => ?_)
              obtain ⟨r24, rfl, kr24⟩ := (show ∃ r : Nat, v26 = .ref r ∧ T r = some 172 from hv26)
              refine mp_i (cx := []) (wr := []) hP hD hS hA [] [] rfl rfl rfl (by decide) (va_runV (As := []) (rest := []) F (N_MS_next l g _ T s26 pl hO hU r24 ps23 x28 kr24 hf83 hf84 (by omega) (by omega)) (cwV 0 hts (wg_app (wg_c kw_1724 (wg_c kw_1638 (wg_c kw_1639 (wg_c kw_10 wg_n)))) kw_1640) rfl rfl rfl (by decide +kernel) ⟨by decide, by decide⟩) (pn_V (en_ok g) (ci := 9) (kn := 172) (fl := [(3, 173), (3, 174), (3, 175), (3, 176), (3, 177), (0, 0), (0, 0), (0, 0)]) hK hO kr24 rfl hP hD hS hA hEn [] rfl rfl rfl) rfl rfl hl.1 rfl (lv_room (Nat.le_of_ble_eq_true rfl)) dMH_ball_113 ⟨by omega, by omega⟩) (fun r25 u24 H locs hu24 hP hD hS => ?_)
              obtain ⟨q21, pl⟩ := u24
              obtain ⟨⟨eq24, rfl, hFc24, ⟨x32, hx_32, hb_32⟩, ⟨x30, hx_30, hb_30⟩, ⟨x31, hx_31, hb_31⟩, -⟩, hO⟩ := hu24
              have hO : okn g T q21.2 pl := hO
              have hP : va_P g.1 vcl ([] ++ pl) _ := hP
              have hD : va_D _ ([] ++ pl) := hD
              have hFc24 : frm (M_MS_next) s26 q21.2 := hFc24
              have hb_30 : x30 ≤ x28 := hb_30
              have hb_31 : x31 = x28 := hb_31
              have hb_32 : x32 < 256 := hb_32
              replace hR := bnd_step hR eq24
              replace hE := bndP_step hE eq24
              have hF := frm_tr hF hFc24 (fun k hk => by unfold M_MS_next at hk; unfold M_MH_ball_0; omega)
              have hf85 : q21.2.1 225 23 = nI 0 := fc_F hf75 hFc24 (by unfold M_MS_next; omega)
              have hf86 : q21.2.1 225 24 = nI 4 := fc_F hf76 hFc24 (by unfold M_MS_next; omega)
              have hf87 : q21.2.1 225 25 = nI 4 := fc_F hf77 hFc24 (by unfold M_MS_next; omega)
              have hf88 : q21.2.1 225 26 = nI 2 := fc_F hf78 hFc24 (by unfold M_MS_next; omega)
              have hf89 : q21.2.1 225 27 = nI 131072 := fc_F hf79 hFc24 (by unfold M_MS_next; omega)
              have hf90 : q21.2.1 225 28 = nI 95232 := fc_F hf80 hFc24 (by unfold M_MS_next; omega)
              have hf91 : q21.2.1 225 29 = nI 78 := fc_F hf81 hFc24 (by unfold M_MS_next; omega)
              have hf92 : q21.2.1 225 30 = nI 32 := fc_F hf82 hFc24 (by unfold M_MS_next; omega)
              obtain ⟨z23, ez23, hz25, hz26⟩ := cl_of (b := 2147483648) hx_32 (by omega) (by decide)
              replace hR := bnd_step hR ez23
              replace hE := bndP_step hE ez23
              refine mi_as hz25 ?_
              refine W.widen (k := 0) (n := 0) (by omega) (by omega) ?_
              refine lv_istore (lv' := [(5, .int (nI z23)), (4, .int (nI i23)), (2, .long y21), (0, .ref h0)]) hx hb dMH_ball_116 hl (by decide) rfl (fun ls hl => ?_)
              have lp24 : ∀ (n24 : Nat) (jj21 : Nat) (s27 : Sto) (ps24 : Nat) (pl : va_W) (ls : Array Slot) (H : Heap) (locs : List Loc), 0 = 0 → (jj21 < 256) → (ps24 ≤ 136) → frm (M_MH_ball_0) s s27 → s27.1 225 23 = nI 0 → s27.1 225 24 = nI 4 → s27.1 225 25 = nI 4 → s27.1 225 26 = nI 2 → s27.1 225 27 = nI 131072 → s27.1 225 28 = nI 95232 → s27.1 225 29 = nI 78 → s27.1 225 30 = nI 32 → s27.1 172 6 = nI ps24 → s27.1 172 5 = nI x31 → E_MH_ball_0_L3 y21 i23 (E_MH_ball_0_L2 y21 n23) n24 jj21 s27 → F_MH_ball_0 pb s = F_MH_ball_0_L3 y21 i23 (F_MH_ball_0_L2 y21 n23) n24 jj21 s27 → lv_has ls 6 [(5, .int (nI jj21)), (4, .int (nI i23)), (2, .long y21), (0, .ref h0)] → okn g T s27 pl → va_P g.1 vcl ([] ++ pl) H → va_D A ([] ++ pl) → va_S A s0.heap H locs → W p l e ({ frames := 4, cells := 0, slots := 0, locals := 90 } : Room) s0 m args below meth c H locs 0 0 (MQ below (va_Qv (fun (u : (Sto) × va_W) => (u.1 = F_MH_ball_0 pb s ∧ frm (M_MH_ball_0) s u.1 ∧ True) ∧ okn g T u.1 u.2) (po g.1 vcl A (fun (u : (Sto) × va_W) => [] ++ u.2)) A) args s0 0 0 A) (F0 m 118 ls []) := by
                intro n24
                induction n24 with
                | zero =>
                  intro jj21 s27 ps24 pl ls H locs hm24 hi25 hi26 hF hf93 hf94 hf95 hf96 hf97 hf98 hf99 hf100 hf101 hf102 hE hR hl hO hP hD hS
                  refine lv_iload hx hb dMH_ball_118 (lv_at hl 0 rfl) ?_
                  refine lv_iload hx hb dMH_ball_120 (lv_at hl 1 rfl) ?_
                  refine mi_le (tgt := 137) hx hb dMH_ball_122 (by decide) (by omega) (by omega) (fun h25 => ?_) (fun h25 => absurd h25 (by have h9 : jj21 ≤ i23 := hE.1; omega))
                  replace hE := hE.2
                  refine lv_aload_n hx hb dMH_ball_137 rfl (lv_at hl 3 rfl) ?_
                  refine nw_get (C := "LatticeKeysModel$Hands") (TT := T_MH) (N := 31) hx hb hts (wg_ft i_MH) hown hK hO k_h0 (kn := 225) (ci := 12) (fl := [(3, 172), (3, 181), (3, 226), (3, 291), (3, 299), (3, 308), (3, 317), (3, 326), (3, 334), (3, 342), (3, 350), (3, 359), (3, 368), (3, 369), (3, 370), (3, 371), (3, 372), (3, 373), (3, 374), (3, 375), (3, 376), (3, 377), (3, 378), (0, 0), (0, 0), (0, 0), (0, 0), (0, 0), (0, 0), (0, 0), (0, 0)]) rfl hP rfl 12 (by decide) (hts _ (wg_t kw_1444)) (fun _ h9 => h9) (cd := (3, 368)) rfl dMH_ball_138 (fun v27 hv27 => ?_)
                  obtain ⟨r26, rfl, kr25⟩ := (show ∃ r : Nat, v27 = .ref r ∧ T r = some 368 from hv27)
                  refine lv_iload hx hb dMH_ball_141 (lv_at hl 1 rfl) ?_
                  refine lv_aload_n hx hb dMH_ball_143 rfl (lv_at hl 3 rfl) ?_
                  refine nw_get (C := "LatticeKeysModel$Hands") (TT := T_MH) (N := 31) hx hb hts (wg_ft i_MH) hown hK hO k_h0 (kn := 225) (ci := 12) (fl := [(3, 172), (3, 181), (3, 226), (3, 291), (3, 299), (3, 308), (3, 317), (3, 326), (3, 334), (3, 342), (3, 350), (3, 359), (3, 368), (3, 369), (3, 370), (3, 371), (3, 372), (3, 373), (3, 374), (3, 375), (3, 376), (3, 377), (3, 378), (0, 0), (0, 0), (0, 0), (0, 0), (0, 0), (0, 0), (0, 0), (0, 0)]) rfl hP rfl 12 (by decide) (hts _ (wg_t kw_1444)) (fun _ h9 => h9) (cd := (3, 368)) rfl dMH_ball_144 (fun v28 hv28 => ?_)
                  obtain ⟨r27, rfl, kr26⟩ := (show ∃ r : Nat, v28 = .ref r ∧ T r = some 368 from hv28)
                  refine lv_iload hx hb dMH_ball_147 (lv_at hl 0 rfl) ?_
                  refine nw_iald hx hb hK hO kr26 (k := 368) rfl hP (by omega) (by omega) dMH_ball_149 ?_
                  refine nw_iast hx hb hK hO hU kr25 (k := 368) rfl hP hD hS (by omega) (by omega) dMH_ball_150 (fun s28 pl H locs es21 hO hP hD hS => ?_)
                  replace hR := bnd_step hR es21
                  replace hE := bndP_step hE es21
                  have hF := frm_sI hF es21 (by unfold M_MH_ball_0; omega)
                  have hf103 : s28.1 225 23 = nI 0 := fc_ne hf93 es21 (by omega)
                  have hf104 : s28.1 225 24 = nI 4 := fc_ne hf94 es21 (by omega)
                  have hf105 : s28.1 225 25 = nI 4 := fc_ne hf95 es21 (by omega)
                  have hf106 : s28.1 225 26 = nI 2 := fc_ne hf96 es21 (by omega)
                  have hf107 : s28.1 225 27 = nI 131072 := fc_ne hf97 es21 (by omega)
                  have hf108 : s28.1 225 28 = nI 95232 := fc_ne hf98 es21 (by omega)
                  have hf109 : s28.1 225 29 = nI 78 := fc_ne hf99 es21 (by omega)
                  have hf110 : s28.1 225 30 = nI 32 := fc_ne hf100 es21 (by omega)
                  have hf111 : s28.1 172 6 = nI ps24 := fc_ne hf101 es21 (by omega)
                  have hf112 : s28.1 172 5 = nI x31 := fc_ne hf102 es21 (by omega)
                  refine lv_aload_n hx hb dMH_ball_151 rfl (lv_at hl 3 rfl) ?_
                  refine nw_get (C := "LatticeKeysModel$Hands") (TT := T_MH) (N := 31) hx hb hts (wg_ft i_MH) hown hK hO k_h0 (kn := 225) (ci := 12) (fl := [(3, 172), (3, 181), (3, 226), (3, 291), (3, 299), (3, 308), (3, 317), (3, 326), (3, 334), (3, 342), (3, 350), (3, 359), (3, 368), (3, 369), (3, 370), (3, 371), (3, 372), (3, 373), (3, 374), (3, 375), (3, 376), (3, 377), (3, 378), (0, 0), (0, 0), (0, 0), (0, 0), (0, 0), (0, 0), (0, 0), (0, 0)]) rfl hP rfl 12 (by decide) (hts _ (wg_t kw_1444)) (fun _ h9 => h9) (cd := (3, 368)) rfl dMH_ball_152 (fun v29 hv29 => ?_)
                  obtain ⟨r28, rfl, kr27⟩ := (show ∃ r : Nat, v29 = .ref r ∧ T r = some 368 from hv29)
                  refine lv_iload hx hb dMH_ball_155 (lv_at hl 0 rfl) ?_
                  refine lv_lload_n hx hb dMH_ball_157 rfl (lv_at hl 2 rfl) ?_
                  refine lv_iload hx hb dMH_ball_158 (lv_at hl 1 rfl) ?_
                  refine va_gets hx hb (hEn.2.1 26 _ rfl).1 hS hown (hts _ (wg_t kw_1712)) (fun _ h9 => h9) dMH_ball_160 ?_
                  refine lv_aload_n hx hb dMH_ball_163 rfl (lv_at hl 3 rfl) ?_
                  refine nw_get (C := "LatticeKeysModel$Hands") (TT := T_MH) (N := 31) hx hb hts (wg_ft i_MH) hown hK hO k_h0 (kn := 225) (ci := 12) (fl := [(3, 172), (3, 181), (3, 226), (3, 291), (3, 299), (3, 308), (3, 317), (3, 326), (3, 334), (3, 342), (3, 350), (3, 359), (3, 368), (3, 369), (3, 370), (3, 371), (3, 372), (3, 373), (3, 374), (3, 375), (3, 376), (3, 377), (3, 378), (0, 0), (0, 0), (0, 0), (0, 0), (0, 0), (0, 0), (0, 0), (0, 0)]) rfl hP rfl 23 (by decide) (hts _ (wg_t kw_1455)) (fun _ h9 => h9) (cd := (0, 0)) rfl dMH_ball_164 (fun v30 hv30 => ?_)
                  obtain rfl := (show v30 = .int (s28.1 225 23) from hv30)
                  obtain ⟨z24, ez24, hz27, hz28⟩ := cl_of (b := 2147483648) hf103 (by omega) (by decide)
                  replace hR := bnd_step hR ez24
                  replace hE := bndP_step hE ez24
                  refine mi_as hz27 ?_
                  subst hz28
                  refine va_ti (v := .int (nI 39)) hx hb (hEn.2.1 26 _ rfl).2 hS (vp_in_nI (by decide) (by decide)) (by decide +kernel) dMH_ball_167 ?_
                  refine mi_iadd hx hb dMH_ball_168 ?_
                  refine lv_sipush (v := nI 256) hx hb dMH_ball_169 (by decide) ?_
                  refine lv_isub hx hb dMH_ball_172 ?_
                  refine lv_lushr hx hb dMH_ball_173 rfl ?_
                  refine lv_lconst (v := 1) hx hb dMH_ball_174 (by decide) ?_
                  refine lv_land hx hb dMH_ball_175 ?_
                  refine lv_lconst (v := 1) hx hb dMH_ball_176 (by decide) ?_
                  refine W.lcmp hx hb dMH_ball_177 ?_
                  refine lv_if_ne (tgt := 185) hx hb dMH_ball_178 (by decide) (fun h26 => ?_) (fun h26 => ?_)
                  · replace hR := hR.trans (if_neg h26)
                    replace hE := iteP_neg h26 hE
                    refine lv_iconst (v := nI 1) hx hb dMH_ball_185 (by decide) ?_
                    refine nw_iast hx hb hK hO hU kr27 (k := 368) rfl hP hD hS (by omega) (by omega) dMH_ball_186 (fun s29 pl H locs es22 hO hP hD hS => ?_)
                    replace hR := bnd_step hR es22
                    replace hE := bndP_step hE es22
                    have hF := frm_sI hF es22 (by unfold M_MH_ball_0; omega)
                    have hf113 : s29.1 225 23 = nI 0 := fc_ne hf103 es22 (by omega)
                    have hf114 : s29.1 225 24 = nI 4 := fc_ne hf104 es22 (by omega)
                    have hf115 : s29.1 225 25 = nI 4 := fc_ne hf105 es22 (by omega)
                    have hf116 : s29.1 225 26 = nI 2 := fc_ne hf106 es22 (by omega)
                    have hf117 : s29.1 225 27 = nI 131072 := fc_ne hf107 es22 (by omega)
                    have hf118 : s29.1 225 28 = nI 95232 := fc_ne hf108 es22 (by omega)
                    have hf119 : s29.1 225 29 = nI 78 := fc_ne hf109 es22 (by omega)
                    have hf120 : s29.1 225 30 = nI 32 := fc_ne hf110 es22 (by omega)
                    have hf121 : s29.1 172 6 = nI ps24 := fc_ne hf111 es22 (by omega)
                    have hf122 : s29.1 172 5 = nI x31 := fc_ne hf112 es22 (by omega)
                    refine mi_iinc (k := 1) (x := i23) (d := 1) (y := i23 + 1) (lv' := [(4, .int (nI (i23 + 1))), (5, .int (nI jj21)), (2, .long y21), (0, .ref h0)]) hx hb dMH_ball_187 hl rfl (by decide) rfl (by decide) rfl (fun ls hl => ?_)
                    refine lv_goto (tgt := 101) hx hb dMH_ball_190 (by decide) ?_
                    exact ih23 (i23 + 1) s29 ps24 pl ls H locs (by omega) (by omega) (by omega) hF hf113 hf114 hf115 hf116 hf117 hf118 hf119 hf120 hf121 (by have h9 := hf122; rw [show x31 = x28 by omega] at h9; exact h9) hE hR (lv_sub hl [0, 2, 3] rfl) hO hP hD hS
                  · replace hR := hR.trans (if_pos h26)
                    replace hE := iteP_pos h26 hE
                    refine lv_iconst (v := (-1)) hx hb dMH_ball_181 (by decide) ?_
                    refine lv_goto (tgt := 186) hx hb dMH_ball_182 (by decide) ?_
                    refine nw_iast hx hb hK hO hU kr27 (k := 368) rfl hP hD hS (by omega) (by omega) dMH_ball_186 (fun s30 pl H locs es23 hO hP hD hS => ?_)
                    replace hR := bnd_step hR es23
                    replace hE := bndP_step hE es23
                    have hF := frm_sI hF es23 (by unfold M_MH_ball_0; omega)
                    have hf123 : s30.1 225 23 = nI 0 := fc_ne hf103 es23 (by omega)
                    have hf124 : s30.1 225 24 = nI 4 := fc_ne hf104 es23 (by omega)
                    have hf125 : s30.1 225 25 = nI 4 := fc_ne hf105 es23 (by omega)
                    have hf126 : s30.1 225 26 = nI 2 := fc_ne hf106 es23 (by omega)
                    have hf127 : s30.1 225 27 = nI 131072 := fc_ne hf107 es23 (by omega)
                    have hf128 : s30.1 225 28 = nI 95232 := fc_ne hf108 es23 (by omega)
                    have hf129 : s30.1 225 29 = nI 78 := fc_ne hf109 es23 (by omega)
                    have hf130 : s30.1 225 30 = nI 32 := fc_ne hf110 es23 (by omega)
                    have hf131 : s30.1 172 6 = nI ps24 := fc_ne hf111 es23 (by omega)
                    have hf132 : s30.1 172 5 = nI x31 := fc_ne hf112 es23 (by omega)
                    refine mi_iinc (k := 1) (x := i23) (d := 1) (y := i23 + 1) (lv' := [(4, .int (nI (i23 + 1))), (5, .int (nI jj21)), (2, .long y21), (0, .ref h0)]) hx hb dMH_ball_187 hl rfl (by decide) rfl (by decide) rfl (fun ls hl => ?_)
                    refine lv_goto (tgt := 101) hx hb dMH_ball_190 (by decide) ?_
                    exact ih23 (i23 + 1) s30 ps24 pl ls H locs (by omega) (by omega) (by omega) hF hf123 hf124 hf125 hf126 hf127 hf128 hf129 hf130 hf131 (by have h9 := hf132; rw [show x31 = x28 by omega] at h9; exact h9) hE hR (lv_sub hl [0, 2, 3] rfl) hO hP hD hS
                | succ n24 ih24 =>
                  intro jj21 s27 ps24 pl ls H locs hm24 hi25 hi26 hF hf133 hf134 hf135 hf136 hf137 hf138 hf139 hf140 hf141 hf142 hE hR hl hO hP hD hS
                  refine lv_iload hx hb dMH_ball_118 (lv_at hl 0 rfl) ?_
                  refine lv_iload hx hb dMH_ball_120 (lv_at hl 1 rfl) ?_
                  refine mi_le (tgt := 137) hx hb dMH_ball_122 (by decide) (by omega) (by omega) (fun h27 => ?_) (fun h27 => ?_)
                  · replace hR := hR.trans (if_pos h27)
                    replace hE := iteP_pos h27 hE
                    refine lv_aload_n hx hb dMH_ball_137 rfl (lv_at hl 3 rfl) ?_
                    refine nw_get (C := "LatticeKeysModel$Hands") (TT := T_MH) (N := 31) hx hb hts (wg_ft i_MH) hown hK hO k_h0 (kn := 225) (ci := 12) (fl := [(3, 172), (3, 181), (3, 226), (3, 291), (3, 299), (3, 308), (3, 317), (3, 326), (3, 334), (3, 342), (3, 350), (3, 359), (3, 368), (3, 369), (3, 370), (3, 371), (3, 372), (3, 373), (3, 374), (3, 375), (3, 376), (3, 377), (3, 378), (0, 0), (0, 0), (0, 0), (0, 0), (0, 0), (0, 0), (0, 0), (0, 0)]) rfl hP rfl 12 (by decide) (hts _ (wg_t kw_1444)) (fun _ h9 => h9) (cd := (3, 368)) rfl dMH_ball_138 (fun v31 hv31 => ?_)
                    obtain ⟨r29, rfl, kr28⟩ := (show ∃ r : Nat, v31 = .ref r ∧ T r = some 368 from hv31)
                    refine lv_iload hx hb dMH_ball_141 (lv_at hl 1 rfl) ?_
                    refine lv_aload_n hx hb dMH_ball_143 rfl (lv_at hl 3 rfl) ?_
                    refine nw_get (C := "LatticeKeysModel$Hands") (TT := T_MH) (N := 31) hx hb hts (wg_ft i_MH) hown hK hO k_h0 (kn := 225) (ci := 12) (fl := [(3, 172), (3, 181), (3, 226), (3, 291), (3, 299), (3, 308), (3, 317), (3, 326), (3, 334), (3, 342), (3, 350), (3, 359), (3, 368), (3, 369), (3, 370), (3, 371), (3, 372), (3, 373), (3, 374), (3, 375), (3, 376), (3, 377), (3, 378), (0, 0), (0, 0), (0, 0), (0, 0), (0, 0), (0, 0), (0, 0), (0, 0)]) rfl hP rfl 12 (by decide) (hts _ (wg_t kw_1444)) (fun _ h9 => h9) (cd := (3, 368)) rfl dMH_ball_144 (fun v32 hv32 => ?_)
                    obtain ⟨r30, rfl, kr29⟩ := (show ∃ r : Nat, v32 = .ref r ∧ T r = some 368 from hv32)
                    refine lv_iload hx hb dMH_ball_147 (lv_at hl 0 rfl) ?_
                    refine nw_iald hx hb hK hO kr29 (k := 368) rfl hP (by omega) (by omega) dMH_ball_149 ?_
                    refine nw_iast hx hb hK hO hU kr28 (k := 368) rfl hP hD hS (by omega) (by omega) dMH_ball_150 (fun s31 pl H locs es24 hO hP hD hS => ?_)
                    replace hR := bnd_step hR es24
                    replace hE := bndP_step hE es24
                    have hF := frm_sI hF es24 (by unfold M_MH_ball_0; omega)
                    have hf143 : s31.1 225 23 = nI 0 := fc_ne hf133 es24 (by omega)
                    have hf144 : s31.1 225 24 = nI 4 := fc_ne hf134 es24 (by omega)
                    have hf145 : s31.1 225 25 = nI 4 := fc_ne hf135 es24 (by omega)
                    have hf146 : s31.1 225 26 = nI 2 := fc_ne hf136 es24 (by omega)
                    have hf147 : s31.1 225 27 = nI 131072 := fc_ne hf137 es24 (by omega)
                    have hf148 : s31.1 225 28 = nI 95232 := fc_ne hf138 es24 (by omega)
                    have hf149 : s31.1 225 29 = nI 78 := fc_ne hf139 es24 (by omega)
                    have hf150 : s31.1 225 30 = nI 32 := fc_ne hf140 es24 (by omega)
                    have hf151 : s31.1 172 6 = nI ps24 := fc_ne hf141 es24 (by omega)
                    have hf152 : s31.1 172 5 = nI x31 := fc_ne hf142 es24 (by omega)
                    refine lv_aload_n hx hb dMH_ball_151 rfl (lv_at hl 3 rfl) ?_
                    refine nw_get (C := "LatticeKeysModel$Hands") (TT := T_MH) (N := 31) hx hb hts (wg_ft i_MH) hown hK hO k_h0 (kn := 225) (ci := 12) (fl := [(3, 172), (3, 181), (3, 226), (3, 291), (3, 299), (3, 308), (3, 317), (3, 326), (3, 334), (3, 342), (3, 350), (3, 359), (3, 368), (3, 369), (3, 370), (3, 371), (3, 372), (3, 373), (3, 374), (3, 375), (3, 376), (3, 377), (3, 378), (0, 0), (0, 0), (0, 0), (0, 0), (0, 0), (0, 0), (0, 0), (0, 0)]) rfl hP rfl 12 (by decide) (hts _ (wg_t kw_1444)) (fun _ h9 => h9) (cd := (3, 368)) rfl dMH_ball_152 (fun v33 hv33 => ?_)
                    obtain ⟨r31, rfl, kr30⟩ := (show ∃ r : Nat, v33 = .ref r ∧ T r = some 368 from hv33)
                    refine lv_iload hx hb dMH_ball_155 (lv_at hl 0 rfl) ?_
                    refine lv_lload_n hx hb dMH_ball_157 rfl (lv_at hl 2 rfl) ?_
                    refine lv_iload hx hb dMH_ball_158 (lv_at hl 1 rfl) ?_
                    refine va_gets hx hb (hEn.2.1 26 _ rfl).1 hS hown (hts _ (wg_t kw_1712)) (fun _ h9 => h9) dMH_ball_160 ?_
                    refine lv_aload_n hx hb dMH_ball_163 rfl (lv_at hl 3 rfl) ?_
                    refine nw_get (C := "LatticeKeysModel$Hands") (TT := T_MH) (N := 31) hx hb hts (wg_ft i_MH) hown hK hO k_h0 (kn := 225) (ci := 12) (fl := [(3, 172), (3, 181), (3, 226), (3, 291), (3, 299), (3, 308), (3, 317), (3, 326), (3, 334), (3, 342), (3, 350), (3, 359), (3, 368), (3, 369), (3, 370), (3, 371), (3, 372), (3, 373), (3, 374), (3, 375), (3, 376), (3, 377), (3, 378), (0, 0), (0, 0), (0, 0), (0, 0), (0, 0), (0, 0), (0, 0), (0, 0)]) rfl hP rfl 23 (by decide) (hts _ (wg_t kw_1455)) (fun _ h9 => h9) (cd := (0, 0)) rfl dMH_ball_164 (fun v34 hv34 => ?_)
                    obtain rfl := (show v34 = .int (s31.1 225 23) from hv34)
                    obtain ⟨z25, ez25, hz29, hz30⟩ := cl_of (b := 2147483648) hf143 (by omega) (by decide)
                    replace hR := bnd_step hR ez25
                    replace hE := bndP_step hE ez25
                    refine mi_as hz29 ?_
                    subst hz30
                    refine va_ti (v := .int (nI 39)) hx hb (hEn.2.1 26 _ rfl).2 hS (vp_in_nI (by decide) (by decide)) (by decide +kernel) dMH_ball_167 ?_
                    refine mi_iadd hx hb dMH_ball_168 ?_
                    refine lv_sipush (v := nI 256) hx hb dMH_ball_169 (by decide) ?_
                    refine lv_isub hx hb dMH_ball_172 ?_
                    refine lv_lushr hx hb dMH_ball_173 rfl ?_
                    refine lv_lconst (v := 1) hx hb dMH_ball_174 (by decide) ?_
                    refine lv_land hx hb dMH_ball_175 ?_
                    refine lv_lconst (v := 1) hx hb dMH_ball_176 (by decide) ?_
                    refine W.lcmp hx hb dMH_ball_177 ?_
                    refine lv_if_ne (tgt := 185) hx hb dMH_ball_178 (by decide) (fun h28 => ?_) (fun h28 => ?_)
                    · replace hR := hR.trans (if_neg h28)
                      replace hE := iteP_neg h28 hE
                      refine lv_iconst (v := nI 1) hx hb dMH_ball_185 (by decide) ?_
                      refine nw_iast hx hb hK hO hU kr30 (k := 368) rfl hP hD hS (by omega) (by omega) dMH_ball_186 (fun s32 pl H locs es25 hO hP hD hS => ?_)
                      replace hR := bnd_step hR es25
                      replace hE := bndP_step hE es25
                      have hF := frm_sI hF es25 (by unfold M_MH_ball_0; omega)
                      have hf153 : s32.1 225 23 = nI 0 := fc_ne hf143 es25 (by omega)
                      have hf154 : s32.1 225 24 = nI 4 := fc_ne hf144 es25 (by omega)
                      have hf155 : s32.1 225 25 = nI 4 := fc_ne hf145 es25 (by omega)
                      have hf156 : s32.1 225 26 = nI 2 := fc_ne hf146 es25 (by omega)
                      have hf157 : s32.1 225 27 = nI 131072 := fc_ne hf147 es25 (by omega)
                      have hf158 : s32.1 225 28 = nI 95232 := fc_ne hf148 es25 (by omega)
                      have hf159 : s32.1 225 29 = nI 78 := fc_ne hf149 es25 (by omega)
                      have hf160 : s32.1 225 30 = nI 32 := fc_ne hf150 es25 (by omega)
                      have hf161 : s32.1 172 6 = nI ps24 := fc_ne hf151 es25 (by omega)
                      have hf162 : s32.1 172 5 = nI x31 := fc_ne hf152 es25 (by omega)
                      refine mi_iinc (k := 1) (x := i23) (d := 1) (y := i23 + 1) (lv' := [(4, .int (nI (i23 + 1))), (5, .int (nI jj21)), (2, .long y21), (0, .ref h0)]) hx hb dMH_ball_187 hl rfl (by decide) rfl (by decide) rfl (fun ls hl => ?_)
                      refine lv_goto (tgt := 101) hx hb dMH_ball_190 (by decide) ?_
                      exact ih23 (i23 + 1) s32 ps24 pl ls H locs (by omega) (by omega) (by omega) hF hf153 hf154 hf155 hf156 hf157 hf158 hf159 hf160 hf161 (by have h9 := hf162; rw [show x31 = x28 by omega] at h9; exact h9) hE hR (lv_sub hl [0, 2, 3] rfl) hO hP hD hS
                    · replace hR := hR.trans (if_pos h28)
                      replace hE := iteP_pos h28 hE
                      refine lv_iconst (v := (-1)) hx hb dMH_ball_181 (by decide) ?_
                      refine lv_goto (tgt := 186) hx hb dMH_ball_182 (by decide) ?_
                      refine nw_iast hx hb hK hO hU kr30 (k := 368) rfl hP hD hS (by omega) (by omega) dMH_ball_186 (fun s33 pl H locs es26 hO hP hD hS => ?_)
                      replace hR := bnd_step hR es26
                      replace hE := bndP_step hE es26
                      have hF := frm_sI hF es26 (by unfold M_MH_ball_0; omega)
                      have hf163 : s33.1 225 23 = nI 0 := fc_ne hf143 es26 (by omega)
                      have hf164 : s33.1 225 24 = nI 4 := fc_ne hf144 es26 (by omega)
                      have hf165 : s33.1 225 25 = nI 4 := fc_ne hf145 es26 (by omega)
                      have hf166 : s33.1 225 26 = nI 2 := fc_ne hf146 es26 (by omega)
                      have hf167 : s33.1 225 27 = nI 131072 := fc_ne hf147 es26 (by omega)
                      have hf168 : s33.1 225 28 = nI 95232 := fc_ne hf148 es26 (by omega)
                      have hf169 : s33.1 225 29 = nI 78 := fc_ne hf149 es26 (by omega)
                      have hf170 : s33.1 225 30 = nI 32 := fc_ne hf150 es26 (by omega)
                      have hf171 : s33.1 172 6 = nI ps24 := fc_ne hf151 es26 (by omega)
                      have hf172 : s33.1 172 5 = nI x31 := fc_ne hf152 es26 (by omega)
                      refine mi_iinc (k := 1) (x := i23) (d := 1) (y := i23 + 1) (lv' := [(4, .int (nI (i23 + 1))), (5, .int (nI jj21)), (2, .long y21), (0, .ref h0)]) hx hb dMH_ball_187 hl rfl (by decide) rfl (by decide) rfl (fun ls hl => ?_)
                      refine lv_goto (tgt := 101) hx hb dMH_ball_190 (by decide) ?_
                      exact ih23 (i23 + 1) s33 ps24 pl ls H locs (by omega) (by omega) (by omega) hF hf163 hf164 hf165 hf166 hf167 hf168 hf169 hf170 hf171 (by have h9 := hf172; rw [show x31 = x28 by omega] at h9; exact h9) hE hR (lv_sub hl [0, 2, 3] rfl) hO hP hD hS
                  · replace hR := hR.trans (if_neg (Nat.not_le.mpr h27))
                    replace hE := iteP_neg (Nat.not_le.mpr h27) hE
                    refine lv_aload_n hx hb dMH_ball_125 rfl (lv_at hl 3 rfl) ?_
                    refine nw_get (C := "LatticeKeysModel$Hands") (TT := T_MH) (N := 31) hx hb hts (wg_ft i_MH) hown hK hO k_h0 (kn := 225) (ci := 12) (fl := [(3, 172), (3, 181), (3, 226), (3, 291), (3, 299), (3, 308), (3, 317), (3, 326), (3, 334), (3, 342), (3, 350), (3, 359), (3, 368), (3, 369), (3, 370), (3, 371), (3, 372), (3, 373), (3, 374), (3, 375), (3, 376), (3, 377), (3, 378), (0, 0), (0, 0), (0, 0), (0, 0), (0, 0), (0, 0), (0, 0), (0, 0)]) rfl hP rfl 0 (by decide) (hts _ (wg_t kw_1432)) (fun _ h9 => h9) (cd := (3, 172)) rfl dMH_ball_126 (fun v35 hv35 => ?_)
                    obtain ⟨r32, rfl, kr31⟩ := (show ∃ r : Nat, v35 = .ref r ∧ T r = some 172 from hv35)
                    refine mp_i (cx := []) (wr := []) hP hD hS hA [] [] rfl rfl rfl (by decide) (va_runV (As := []) (rest := []) F (N_MS_next l g _ T s27 pl hO hU r32 ps24 x31 kr31 hf141 hf142 (by omega) (by omega)) (cwV 0 hts (wg_app (wg_c kw_1724 (wg_c kw_1638 (wg_c kw_1639 (wg_c kw_10 wg_n)))) kw_1640) rfl rfl rfl (by decide +kernel) ⟨by decide, by decide⟩) (pn_V (en_ok g) (ci := 9) (kn := 172) (fl := [(3, 173), (3, 174), (3, 175), (3, 176), (3, 177), (0, 0), (0, 0), (0, 0)]) hK hO kr31 rfl hP hD hS hA hEn [] rfl rfl rfl) rfl rfl hl.1 rfl (lv_room (Nat.le_of_ble_eq_true rfl)) dMH_ball_129 ⟨by omega, by omega⟩) (fun r33 u25 H locs hu25 hP hD hS => ?_)
                    obtain ⟨q22, pl⟩ := u25
                    obtain ⟨⟨eq25, rfl, hFc25, ⟨x35, hx_35, hb_35⟩, ⟨x33, hx_33, hb_33⟩, ⟨x34, hx_34, hb_34⟩, -⟩, hO⟩ := hu25
                    have hO : okn g T q22.2 pl := hO
                    have hP : va_P g.1 vcl ([] ++ pl) _ := hP
                    have hD : va_D _ ([] ++ pl) := hD
                    have hFc25 : frm (M_MS_next) s27 q22.2 := hFc25
                    have hb_33 : x33 ≤ x31 := hb_33
                    have hb_34 : x34 = x31 := hb_34
                    have hb_35 : x35 < 256 := hb_35
                    replace hR := bnd_step hR eq25
                    replace hE := bndP_step hE eq25
                    have hF := frm_tr hF hFc25 (fun k hk => by unfold M_MS_next at hk; unfold M_MH_ball_0; omega)
                    have hf173 : q22.2.1 225 23 = nI 0 := fc_F hf133 hFc25 (by unfold M_MS_next; omega)
                    have hf174 : q22.2.1 225 24 = nI 4 := fc_F hf134 hFc25 (by unfold M_MS_next; omega)
                    have hf175 : q22.2.1 225 25 = nI 4 := fc_F hf135 hFc25 (by unfold M_MS_next; omega)
                    have hf176 : q22.2.1 225 26 = nI 2 := fc_F hf136 hFc25 (by unfold M_MS_next; omega)
                    have hf177 : q22.2.1 225 27 = nI 131072 := fc_F hf137 hFc25 (by unfold M_MS_next; omega)
                    have hf178 : q22.2.1 225 28 = nI 95232 := fc_F hf138 hFc25 (by unfold M_MS_next; omega)
                    have hf179 : q22.2.1 225 29 = nI 78 := fc_F hf139 hFc25 (by unfold M_MS_next; omega)
                    have hf180 : q22.2.1 225 30 = nI 32 := fc_F hf140 hFc25 (by unfold M_MS_next; omega)
                    obtain ⟨z26, ez26, hz31, hz32⟩ := cl_of (b := 2147483648) hx_35 (by omega) (by decide)
                    replace hR := bnd_step hR ez26
                    replace hE := bndP_step hE ez26
                    refine mi_as hz31 ?_
                    refine W.widen (k := 0) (n := 0) (by omega) (by omega) ?_
                    refine lv_istore (lv' := [(5, .int (nI z26)), (4, .int (nI i23)), (2, .long y21), (0, .ref h0)]) hx hb dMH_ball_132 hl (by decide) rfl (fun ls hl => ?_)
                    refine lv_goto (tgt := 118) hx hb dMH_ball_134 (by decide) ?_
                    exact ih24 z26 q22.2 x33 pl ls H locs (by omega) (by omega) (by omega) hF hf173 hf174 hf175 hf176 hf177 hf178 hf179 hf180 hx_33 (by have h9 := hx_34; rw [show x34 = x31 by omega] at h9; exact h9) hE hR (lv_sub hl [0, 1, 2, 3] rfl) hO hP hD hS
              exact lp24 1000000 z23 q21.2 x30 pl ls _ _ (by omega) (by omega) (by omega) hF hf85 hf86 hf87 hf88 hf89 hf90 hf91 hf92 hx_30 hx_31 hE hR (lv_sub hl [0, 1, 2, 3] rfl) hO hP hD hS
          exact lp23 (256 - 217) 217 s25 ps22 pl ls _ _ (by omega) (by omega) (by omega) hF hf55 hf56 hf57 hf58 hf59 hf60 hf61 hf62 hf63 hf64 hE hR (lv_sub hl [0, 1, 2] rfl) hO hP hD hS
        | succ n22 ih22 =>
          intro i22 s25 ps22 pl ls H locs hm22 hi22 hF hf181 hf182 hf183 hf184 hf185 hf186 hf187 hf188 hf189 hf190 hE hR hl hO hP hD hS
          refine lv_iload hx hb dMH_ball_65 (lv_at hl 0 rfl) ?_
          refine lv_sipush (v := nI 256) hx hb dMH_ball_67 (by decide) ?_
          refine mi_ge (tgt := 87) hx hb dMH_ball_70 (by decide) (by omega) (by omega) (fun h29 => absurd h29 (by omega)) (fun h29 => ?_)
          refine lv_aload_n hx hb dMH_ball_73 rfl (lv_at hl 2 rfl) ?_
          refine nw_get (C := "LatticeKeysModel$Hands") (TT := T_MH) (N := 31) hx hb hts (wg_ft i_MH) hown hK hO k_h0 (kn := 225) (ci := 12) (fl := [(3, 172), (3, 181), (3, 226), (3, 291), (3, 299), (3, 308), (3, 317), (3, 326), (3, 334), (3, 342), (3, 350), (3, 359), (3, 368), (3, 369), (3, 370), (3, 371), (3, 372), (3, 373), (3, 374), (3, 375), (3, 376), (3, 377), (3, 378), (0, 0), (0, 0), (0, 0), (0, 0), (0, 0), (0, 0), (0, 0), (0, 0)]) rfl hP rfl 12 (by decide) (hts _ (wg_t kw_1444)) (fun _ h9 => h9) (cd := (3, 368)) rfl dMH_ball_74 (fun v36 hv36 => ?_)
          obtain ⟨r34, rfl, kr32⟩ := (show ∃ r : Nat, v36 = .ref r ∧ T r = some 368 from hv36)
          refine lv_iload hx hb dMH_ball_77 (lv_at hl 0 rfl) ?_
          refine lv_iconst (v := nI 0) hx hb dMH_ball_79 (by decide) ?_
          refine nw_iast hx hb hK hO hU kr32 (k := 368) rfl hP hD hS (by omega) (by omega) dMH_ball_80 (fun s34 pl H locs es27 hO hP hD hS => ?_)
          replace hR := bnd_step hR es27
          replace hE := bndP_step hE es27
          have hF := frm_sI hF es27 (by unfold M_MH_ball_0; omega)
          have hf191 : s34.1 225 23 = nI 0 := fc_ne hf181 es27 (by omega)
          have hf192 : s34.1 225 24 = nI 4 := fc_ne hf182 es27 (by omega)
          have hf193 : s34.1 225 25 = nI 4 := fc_ne hf183 es27 (by omega)
          have hf194 : s34.1 225 26 = nI 2 := fc_ne hf184 es27 (by omega)
          have hf195 : s34.1 225 27 = nI 131072 := fc_ne hf185 es27 (by omega)
          have hf196 : s34.1 225 28 = nI 95232 := fc_ne hf186 es27 (by omega)
          have hf197 : s34.1 225 29 = nI 78 := fc_ne hf187 es27 (by omega)
          have hf198 : s34.1 225 30 = nI 32 := fc_ne hf188 es27 (by omega)
          have hf199 : s34.1 172 6 = nI ps22 := fc_ne hf189 es27 (by omega)
          have hf200 : s34.1 172 5 = nI x28 := fc_ne hf190 es27 (by omega)
          refine mi_iinc (k := 0) (x := i22) (d := 1) (y := i22 + 1) (lv' := [(4, .int (nI (i22 + 1))), (2, .long y21), (0, .ref h0)]) hx hb dMH_ball_81 hl rfl (by decide) rfl (by decide) rfl (fun ls hl => ?_)
          refine lv_goto (tgt := 65) hx hb dMH_ball_84 (by decide) ?_
          exact ih22 (i22 + 1) s34 ps22 pl ls H locs (by omega) (by omega) hF hf191 hf192 hf193 hf194 hf195 hf196 hf197 hf198 hf199 hf200 hE hR (lv_sub hl [0, 1, 2] rfl) hO hP hD hS
      exact lp22 256 0 s24 ps21 pl ls _ _ (by omega) (by omega) hF hf45 hf46 hf47 hf48 hf49 hf50 hf51 hf52 hf53 hf54 hE hR (lv_sub hl [0, 1, 2] rfl) hO hP hD hS
    | succ n21 ih21 =>
      intro i21 y21 s24 ps21 pl ls H locs hm21 hi21 hF hf201 hf202 hf203 hf204 hf205 hf206 hf207 hf208 hf209 hf210 hE hR hl hO hP hD hS
      refine lv_iload hx hb dMH_ball_32 (lv_at hl 0 rfl) ?_
      refine lv_bipush (v := nI 8) hx hb dMH_ball_34 (by decide) ?_
      refine mi_ge (tgt := 62) hx hb dMH_ball_36 (by decide) (by omega) (by omega) (fun h30 => absurd h30 (by omega)) (fun h30 => ?_)
      refine lv_lload_n hx hb dMH_ball_39 rfl (lv_at hl 1 rfl) ?_
      refine lv_aload_n hx hb dMH_ball_40 rfl (lv_at hl 2 rfl) ?_
      refine nw_get (C := "LatticeKeysModel$Hands") (TT := T_MH) (N := 31) hx hb hts (wg_ft i_MH) hown hK hO k_h0 (kn := 225) (ci := 12) (fl := [(3, 172), (3, 181), (3, 226), (3, 291), (3, 299), (3, 308), (3, 317), (3, 326), (3, 334), (3, 342), (3, 350), (3, 359), (3, 368), (3, 369), (3, 370), (3, 371), (3, 372), (3, 373), (3, 374), (3, 375), (3, 376), (3, 377), (3, 378), (0, 0), (0, 0), (0, 0), (0, 0), (0, 0), (0, 0), (0, 0), (0, 0)]) rfl hP rfl 0 (by decide) (hts _ (wg_t kw_1432)) (fun _ h9 => h9) (cd := (3, 172)) rfl dMH_ball_41 (fun v37 hv37 => ?_)
      obtain ⟨r35, rfl, kr33⟩ := (show ∃ r : Nat, v37 = .ref r ∧ T r = some 172 from hv37)
      refine mp_i (cx := []) (wr := []) hP hD hS hA [] [] rfl rfl rfl (by decide) (va_runV (As := []) (rest := [.long y21]) F (N_MS_next l g _ T s24 pl hO hU r35 ps21 x28 kr33 hf209 hf210 (by omega) (by omega)) (cwV 0 hts (wg_app (wg_c kw_1724 (wg_c kw_1638 (wg_c kw_1639 (wg_c kw_10 wg_n)))) kw_1640) rfl rfl rfl (by decide +kernel) ⟨by decide, by decide⟩) (pn_V (en_ok g) (ci := 9) (kn := 172) (fl := [(3, 173), (3, 174), (3, 175), (3, 176), (3, 177), (0, 0), (0, 0), (0, 0)]) hK hO kr33 rfl hP hD hS hA hEn [] rfl rfl rfl) rfl rfl hl.1 rfl (lv_room (Nat.le_of_ble_eq_true rfl)) dMH_ball_44 ⟨by omega, by omega⟩) (fun r36 u26 H locs hu26 hP hD hS => ?_)
      obtain ⟨q23, pl⟩ := u26
      obtain ⟨⟨eq26, rfl, hFc26, ⟨x38, hx_38, hb_38⟩, ⟨x36, hx_36, hb_36⟩, ⟨x37, hx_37, hb_37⟩, -⟩, hO⟩ := hu26
      have hO : okn g T q23.2 pl := hO
      have hP : va_P g.1 vcl ([] ++ pl) _ := hP
      have hD : va_D _ ([] ++ pl) := hD
      have hFc26 : frm (M_MS_next) s24 q23.2 := hFc26
      have hb_36 : x36 ≤ x28 := hb_36
      have hb_37 : x37 = x28 := hb_37
      have hb_38 : x38 < 256 := hb_38
      replace hR := bnd_step hR eq26
      replace hE := bndP_step hE eq26
      have hF := frm_tr hF hFc26 (fun k hk => by unfold M_MS_next at hk; unfold M_MH_ball_0; omega)
      have hf211 : q23.2.1 225 23 = nI 0 := fc_F hf201 hFc26 (by unfold M_MS_next; omega)
      have hf212 : q23.2.1 225 24 = nI 4 := fc_F hf202 hFc26 (by unfold M_MS_next; omega)
      have hf213 : q23.2.1 225 25 = nI 4 := fc_F hf203 hFc26 (by unfold M_MS_next; omega)
      have hf214 : q23.2.1 225 26 = nI 2 := fc_F hf204 hFc26 (by unfold M_MS_next; omega)
      have hf215 : q23.2.1 225 27 = nI 131072 := fc_F hf205 hFc26 (by unfold M_MS_next; omega)
      have hf216 : q23.2.1 225 28 = nI 95232 := fc_F hf206 hFc26 (by unfold M_MS_next; omega)
      have hf217 : q23.2.1 225 29 = nI 78 := fc_F hf207 hFc26 (by unfold M_MS_next; omega)
      have hf218 : q23.2.1 225 30 = nI 32 := fc_F hf208 hFc26 (by unfold M_MS_next; omega)
      obtain ⟨z27, ez27, hz33, hz34⟩ := cl_of (b := 2147483648) hx_38 (by omega) (by decide)
      replace hR := bnd_step hR ez27
      replace hE := bndP_step hE ez27
      refine mi_as hz33 ?_
      refine W.widen (k := 0) (n := 0) (by omega) (by omega) ?_
      refine lv_i2l hx hb dMH_ball_47 rfl ?_
      refine lv_bipush (v := nI 8) hx hb dMH_ball_48 (by decide) ?_
      refine lv_iload hx hb dMH_ball_50 (lv_at hl 0 rfl) ?_
      refine mi_imul hx hb dMH_ball_52 ?_
      refine lv_lshl hx hb dMH_ball_53 rfl ?_
      refine lv_lor hx hb dMH_ball_54 ?_
      refine ml_eqv (fun y22 ez28 => ?_)
      replace hR := bnd_step hR ez28
      replace hE := bndP_step hE ez28
      refine lv_lstore_n (lv' := [(2, .long y22), (4, .int (nI i21)), (0, .ref h0)]) hx hb dMH_ball_55 rfl hl (by decide) rfl (fun ls hl => ?_)
      refine mi_iinc (k := 1) (x := i21) (d := 1) (y := i21 + 1) (lv' := [(4, .int (nI (i21 + 1))), (2, .long y22), (0, .ref h0)]) hx hb dMH_ball_56 hl rfl (by decide) rfl (by decide) rfl (fun ls hl => ?_)
      refine lv_goto (tgt := 32) hx hb dMH_ball_59 (by decide) ?_
      exact ih21 (i21 + 1) y22 q23.2 x36 pl ls H locs (by omega) (by omega) hF hf211 hf212 hf213 hf214 hf215 hf216 hf217 hf218 hx_36 (by have h9 := hx_37; rw [show x37 = x28 by omega] at h9; exact h9) hE hR (lv_sub hl [0, 1, 2] rfl) hO hP hD hS
  exact lp21 8 0 0 s23 x27 pl ls _ _ (by omega) (by omega) hF hf37 hf38 hf39 hf40 hf41 hf42 hf43 hf44 hx_27 hx_28 hE hR (lv_sub hl [0, 1, 2] rfl) hO hP hD hS
def M_MH_ball_1 (k : Nat) : Prop := k = 172 ∨ k = 368 ∨ (0 : Nat) = 1
noncomputable def F_MH_ball_1_L3 (y21 : Int64) (i23 : Nat) (kk : Nat → Sto → Sto) : Nat → Nat → Sto → Sto
  | 0, jj21, s27 => bnd (sI s27 368 i23 (s27.1 368 jj21)) fun s28 => bnd ((s28.1 225 23).toNatClampNeg) fun z24 => if (lg_cmp (((y21.toUInt64 >>> (((nI (i23 + 49)) - (nI 256)).toInt64.toUInt64 &&& Int64.toUInt64 63)).toInt64) &&& 1) 1) = 0 then bnd (sI s28 368 jj21 (-1)) fun s30 => kk (i23 + 1) s30 else bnd (sI s28 368 jj21 (nI 1)) fun s29 => kk (i23 + 1) s29
  | n24 + 1, jj21, s27 => if jj21 ≤ i23 then bnd (sI s27 368 i23 (s27.1 368 jj21)) fun s31 => bnd ((s31.1 225 23).toNatClampNeg) fun z25 => if (lg_cmp (((y21.toUInt64 >>> (((nI (i23 + 49)) - (nI 256)).toInt64.toUInt64 &&& Int64.toUInt64 63)).toInt64) &&& 1) 1) = 0 then bnd (sI s31 368 jj21 (-1)) fun s33 => kk (i23 + 1) s33 else bnd (sI s31 368 jj21 (nI 1)) fun s32 => kk (i23 + 1) s32 else bnd (F_MS_next  s27) fun q22 => bnd (q22.1.toNatClampNeg) fun z26 => F_MH_ball_1_L3 y21 i23 kk n24 z26 q22.2
noncomputable def E_MH_ball_1_L3 (y21 : Int64) (i23 : Nat) (ke : Nat → Sto → Prop) : Nat → Nat → Sto → Prop
  | 0, jj21, s27 => (jj21 ≤ i23) ∧ (bnd (sI s27 368 i23 (s27.1 368 jj21)) fun s28 => bnd ((s28.1 225 23).toNatClampNeg) fun z24 => if (lg_cmp (((y21.toUInt64 >>> (((nI (i23 + 49)) - (nI 256)).toInt64.toUInt64 &&& Int64.toUInt64 63)).toInt64) &&& 1) 1) = 0 then bnd (sI s28 368 jj21 (-1)) fun s30 => ke (i23 + 1) s30 else bnd (sI s28 368 jj21 (nI 1)) fun s29 => ke (i23 + 1) s29)
  | n24 + 1, jj21, s27 => if jj21 ≤ i23 then bnd (sI s27 368 i23 (s27.1 368 jj21)) fun s31 => bnd ((s31.1 225 23).toNatClampNeg) fun z25 => if (lg_cmp (((y21.toUInt64 >>> (((nI (i23 + 49)) - (nI 256)).toInt64.toUInt64 &&& Int64.toUInt64 63)).toInt64) &&& 1) 1) = 0 then bnd (sI s31 368 jj21 (-1)) fun s33 => ke (i23 + 1) s33 else bnd (sI s31 368 jj21 (nI 1)) fun s32 => ke (i23 + 1) s32 else bnd (F_MS_next  s27) fun q22 => bnd (q22.1.toNatClampNeg) fun z26 => E_MH_ball_1_L3 y21 i23 ke n24 z26 q22.2
noncomputable def F_MH_ball_1_L2 (y21 : Int64) : Nat → Nat → Sto → Sto
  | 0, i23, s26 => s26
  | n23 + 1, i23, s26 => bnd (F_MS_next  s26) fun q21 => bnd (q21.1.toNatClampNeg) fun z23 => F_MH_ball_1_L3 y21 i23 (F_MH_ball_1_L2 y21 n23) 1000000 z23 q21.2
noncomputable def E_MH_ball_1_L2 (y21 : Int64) : Nat → Nat → Sto → Prop
  | 0, i23, s26 => True
  | n23 + 1, i23, s26 => bnd (F_MS_next  s26) fun q21 => bnd (q21.1.toNatClampNeg) fun z23 => E_MH_ball_1_L3 y21 i23 (E_MH_ball_1_L2 y21 n23) 1000000 z23 q21.2
noncomputable def F_MH_ball_1_L1 (y21 : Int64) : Nat → Nat → Sto → Sto
  | 0, i22, s25 => bnd ((s25.1 225 23).toNatClampNeg) fun z22 => F_MH_ball_1_L2 y21 (256 - 207) 207 s25
  | n22 + 1, i22, s25 => bnd (sI s25 368 i22 (nI 0)) fun s34 => F_MH_ball_1_L1 y21 n22 (i22 + 1) s34
noncomputable def E_MH_ball_1_L1 (y21 : Int64) : Nat → Nat → Sto → Prop
  | 0, i22, s25 => bnd ((s25.1 225 23).toNatClampNeg) fun z22 => E_MH_ball_1_L2 y21 (256 - 207) 207 s25
  | n22 + 1, i22, s25 => bnd (sI s25 368 i22 (nI 0)) fun s34 => E_MH_ball_1_L1 y21 n22 (i22 + 1) s34
noncomputable def F_MH_ball_1_L0 : Nat → Nat → Int64 → Sto → Sto
  | 0, i21, y21, s24 => F_MH_ball_1_L1 y21 256 0 s24
  | n21 + 1, i21, y21, s24 => bnd (F_MS_next  s24) fun q23 => bnd (q23.1.toNatClampNeg) fun z27 => bnd ((y21 ||| (((nI z27).toInt64) <<< ((nI (8 * i21)).toInt64 &&& 63)))) fun y22 => F_MH_ball_1_L0  n21 (i21 + 1) y22 q23.2
noncomputable def E_MH_ball_1_L0 : Nat → Nat → Int64 → Sto → Prop
  | 0, i21, y21, s24 => E_MH_ball_1_L1 y21 256 0 s24
  | n21 + 1, i21, y21, s24 => bnd (F_MS_next  s24) fun q23 => bnd (q23.1.toNatClampNeg) fun z27 => bnd ((y21 ||| (((nI z27).toInt64) <<< ((nI (8 * i21)).toInt64 &&& 63)))) fun y22 => E_MH_ball_1_L0  n21 (i21 + 1) y22 q23.2
noncomputable def F_MH_ball_1 (pb : Nat) (s : Sto) : Sto := bnd (F_MS_shake  s) fun s21 => bnd ((s21.1 225 30).toNatClampNeg) fun z21 => bnd (F_MS_puts pb 64 0 48 s21) fun s22 => bnd (F_MS_end  s22) fun s23 => F_MH_ball_1_L0 8 0 0 s23
noncomputable def E_MH_ball_1 (pb : Nat) (s : Sto) : Prop := bnd (F_MS_shake  s) fun s21 => bnd ((s21.1 225 30).toNatClampNeg) fun z21 => bnd (F_MS_puts pb 64 0 48 s21) fun s22 => bnd (F_MS_end  s22) fun s23 => E_MH_ball_1_L0 8 0 0 s23
set_option maxHeartbeats 8000000 in
set_option maxRecDepth 100000 in
theorem N_MH_ball_1 (l : Launch) (g : Gd) (sz : Nat) (T : TyN) (s : Sto) (pl : va_W) (hO : okn g T s pl) (hU : inj T) (h0 b : Nat) (pb : Nat) (k_h0 : T h0 = some 225) (k_b : T b = some pb) (n_b : nsp pb = (1, 64, [])) (e_c0 : s.1 225 23 = nI 1) (e_c1 : s.1 225 24 = nI 6) (e_c2 : s.1 225 25 = nI 5) (e_c3 : s.1 225 26 = nI 4) (e_c4 : s.1 225 27 = nI 524288) (e_c5 : s.1 225 28 = nI 261888) (e_c6 : s.1 225 29 = nI 196) (e_c7 : s.1 225 30 = nI 48) (hE : E_MH_ball_1 pb s)  : Met l y_MH_ball w_MH_ball ({ frames := 4, cells := 0, slots := 0, locals := 90 } : Room) (va_Pc [.ref h0, .ref b] (pr (en g) g.1 vcl sz ([] ++ pl))) (va_Qv (fun (u : (Sto) × va_W) => (u.1 = F_MH_ball_1 pb s ∧ frm (M_MH_ball_1) s u.1 ∧ True) ∧ okn g T u.1 u.2) (po g.1 vcl (va_A ([] ++ pl) sz) (fun (u : (Sto) × va_W) => [] ++ u.2)) (va_A ([] ++ pl) sz)) 0 0 (va_A ([] ++ pl) sz) := by
  refine mc_entry (cc := c_MH_ball) (maxL := 6) (ret := none) (by decide) rfl (Nat.le_of_ble_eq_true rfl) ?_
  intro p e s0 m args below meth c ls F hr hlk hnm hsz hP hD hEn hA hl
  obtain ⟨hx, hb, hml, hown, hts⟩ := id F
  have hK := hEn.1
  generalize va_A ([] ++ pl) sz = A at hD hEn hA ⊢
  have hS : va_S A s0.heap s0.heap [] := va_S.rf
  have hl : lv_has ls 6 [(0, .ref h0), (1, .ref b)] := hl
  have hR : F_MH_ball_1 pb s = F_MH_ball_1 pb s := rfl
  have hF : frm (M_MH_ball_1) s s := frm_rf
  have ne_172_pb : 172 ≠ pb := nsp_ne (p := 172) rfl n_b (show (5 : Nat) ≠ 1 by decide)
  have ne_225_pb : 225 ≠ pb := nsp_ne (p := 225) rfl n_b (show (5 : Nat) ≠ 1 by decide)
  refine lv_aload_n hx hb dMH_ball_0 rfl (lv_at hl 0 rfl) ?_
  refine nw_get (C := "LatticeKeysModel$Hands") (TT := T_MH) (N := 31) hx hb hts (wg_ft i_MH) hown hK hO k_h0 (kn := 225) (ci := 12) (fl := [(3, 172), (3, 181), (3, 226), (3, 291), (3, 299), (3, 308), (3, 317), (3, 326), (3, 334), (3, 342), (3, 350), (3, 359), (3, 368), (3, 369), (3, 370), (3, 371), (3, 372), (3, 373), (3, 374), (3, 375), (3, 376), (3, 377), (3, 378), (0, 0), (0, 0), (0, 0), (0, 0), (0, 0), (0, 0), (0, 0), (0, 0)]) rfl hP rfl 0 (by decide) (hts _ (wg_t kw_1432)) (fun _ h9 => h9) (cd := (3, 172)) rfl dMH_ball_1 (fun v21 hv21 => ?_)
  obtain ⟨r21, rfl, kr21⟩ := (show ∃ r : Nat, v21 = .ref r ∧ T r = some 172 from hv21)
  refine mp_v (cx := []) (wr := []) hP hD hS hA [] [] rfl rfl rfl (by decide) (va_runV (As := []) (rest := []) F (N_MS_shake l g _ T s pl hO hU r21 kr21) (cwV 0 hts (wg_app (wg_c kw_1714 (wg_c kw_1657 (wg_c kw_1658 (wg_c kw_10 wg_n)))) kw_1659) rfl rfl rfl (by decide +kernel) ⟨by decide, by decide⟩) (pn_V (en_ok g) (ci := 9) (kn := 172) (fl := [(3, 173), (3, 174), (3, 175), (3, 176), (3, 177), (0, 0), (0, 0), (0, 0)]) hK hO kr21 rfl hP hD hS hA hEn [] rfl rfl rfl) rfl rfl hl.1 rfl (lv_room (Nat.le_of_ble_eq_true rfl)) dMH_ball_4 ⟨by omega, by omega⟩) (fun  u21 H locs hu21 hP hD hS => ?_)
  obtain ⟨s21, pl⟩ := u21
  obtain ⟨⟨eq21, hFc21, ⟨x21, hx_21, hb_21⟩, ⟨x22, hx_22, hb_22⟩, -⟩, hO⟩ := hu21
  have hO : okn g T s21 pl := hO
  have hP : va_P g.1 vcl ([] ++ pl) _ := hP
  have hD : va_D _ ([] ++ pl) := hD
  have hFc21 : frm (M_MS_shake) s s21 := hFc21
  have hb_21 : x21 = 0 := hb_21
  have hb_22 : x22 = 136 := hb_22
  replace hR := bnd_step hR eq21
  replace hE := bndP_step hE eq21
  have hF := frm_tr hF hFc21 (fun k hk => by unfold M_MS_shake at hk; unfold M_MH_ball_1; omega)
  have hf21 : s21.1 225 23 = nI 1 := fc_F e_c0 hFc21 (by unfold M_MS_shake; omega)
  have hf22 : s21.1 225 24 = nI 6 := fc_F e_c1 hFc21 (by unfold M_MS_shake; omega)
  have hf23 : s21.1 225 25 = nI 5 := fc_F e_c2 hFc21 (by unfold M_MS_shake; omega)
  have hf24 : s21.1 225 26 = nI 4 := fc_F e_c3 hFc21 (by unfold M_MS_shake; omega)
  have hf25 : s21.1 225 27 = nI 524288 := fc_F e_c4 hFc21 (by unfold M_MS_shake; omega)
  have hf26 : s21.1 225 28 = nI 261888 := fc_F e_c5 hFc21 (by unfold M_MS_shake; omega)
  have hf27 : s21.1 225 29 = nI 196 := fc_F e_c6 hFc21 (by unfold M_MS_shake; omega)
  have hf28 : s21.1 225 30 = nI 48 := fc_F e_c7 hFc21 (by unfold M_MS_shake; omega)
  refine W.widen (k := 0) (n := 0) (by omega) (by omega) ?_
  refine lv_aload_n hx hb dMH_ball_7 rfl (lv_at hl 0 rfl) ?_
  refine nw_get (C := "LatticeKeysModel$Hands") (TT := T_MH) (N := 31) hx hb hts (wg_ft i_MH) hown hK hO k_h0 (kn := 225) (ci := 12) (fl := [(3, 172), (3, 181), (3, 226), (3, 291), (3, 299), (3, 308), (3, 317), (3, 326), (3, 334), (3, 342), (3, 350), (3, 359), (3, 368), (3, 369), (3, 370), (3, 371), (3, 372), (3, 373), (3, 374), (3, 375), (3, 376), (3, 377), (3, 378), (0, 0), (0, 0), (0, 0), (0, 0), (0, 0), (0, 0), (0, 0), (0, 0)]) rfl hP rfl 0 (by decide) (hts _ (wg_t kw_1432)) (fun _ h9 => h9) (cd := (3, 172)) rfl dMH_ball_8 (fun v22 hv22 => ?_)
  obtain ⟨r22, rfl, kr22⟩ := (show ∃ r : Nat, v22 = .ref r ∧ T r = some 172 from hv22)
  refine lv_aload_n hx hb dMH_ball_11 rfl (lv_at hl 1 rfl) ?_
  refine lv_iconst (v := nI 0) hx hb dMH_ball_12 (by decide) ?_
  refine lv_aload_n hx hb dMH_ball_13 rfl (lv_at hl 0 rfl) ?_
  refine nw_get (C := "LatticeKeysModel$Hands") (TT := T_MH) (N := 31) hx hb hts (wg_ft i_MH) hown hK hO k_h0 (kn := 225) (ci := 12) (fl := [(3, 172), (3, 181), (3, 226), (3, 291), (3, 299), (3, 308), (3, 317), (3, 326), (3, 334), (3, 342), (3, 350), (3, 359), (3, 368), (3, 369), (3, 370), (3, 371), (3, 372), (3, 373), (3, 374), (3, 375), (3, 376), (3, 377), (3, 378), (0, 0), (0, 0), (0, 0), (0, 0), (0, 0), (0, 0), (0, 0), (0, 0)]) rfl hP rfl 30 (by decide) (hts _ (wg_t kw_1462)) (fun _ h9 => h9) (cd := (0, 0)) rfl dMH_ball_14 (fun v23 hv23 => ?_)
  obtain rfl := (show v23 = .int (s21.1 225 30) from hv23)
  obtain ⟨z21, ez21, hz21, hz22⟩ := cl_of (b := 2147483648) hf28 (by omega) (by decide)
  replace hR := bnd_step hR ez21
  replace hE := bndP_step hE ez21
  refine mi_as hz21 ?_
  subst hz22
  refine mp_v (cx := []) (wr := []) hP hD hS hA [] [] rfl rfl rfl (by decide) (va_runV (As := [.ref b, .int (nI 0), .int (nI 48)]) (rest := []) F (N_MS_puts l g _ T s21 pl hO hU r22 b pb 64 0 48 x21 x22 kr22 k_b n_b hx_21 hx_22 (by omega) (by omega) (by omega) (by omega)) (cwV 3 hts (wg_app (wg_c kw_1715 (wg_c kw_1608 (wg_c kw_1609 (wg_c kw_10 wg_n)))) kw_1610) rfl rfl rfl (by decide +kernel) ⟨by decide, by decide⟩) (pn_V (en_ok g) (ci := 9) (kn := 172) (fl := [(3, 173), (3, 174), (3, 175), (3, 176), (3, 177), (0, 0), (0, 0), (0, 0)]) hK hO kr22 rfl hP hD hS hA hEn [] rfl rfl rfl) rfl rfl hl.1 rfl (lv_room (Nat.le_of_ble_eq_true rfl)) dMH_ball_17 ⟨by omega, by omega⟩) (fun  u22 H locs hu22 hP hD hS => ?_)
  obtain ⟨s22, pl⟩ := u22
  obtain ⟨⟨eq22, hFc22, ⟨x24, hx_24, hb_24⟩, ⟨x25, hx_25, hb_25⟩, -⟩, hO⟩ := hu22
  have hO : okn g T s22 pl := hO
  have hP : va_P g.1 vcl ([] ++ pl) _ := hP
  have hD : va_D _ ([] ++ pl) := hD
  have hFc22 : frm (M_MS_puts) s21 s22 := hFc22
  have hb_24 : x24 < x22 := hb_24
  have hb_25 : x25 = x22 := hb_25
  replace hR := bnd_step hR eq22
  replace hE := bndP_step hE eq22
  have hF := frm_tr hF hFc22 (fun k hk => by unfold M_MS_puts at hk; unfold M_MH_ball_1; omega)
  have hf29 : s22.1 225 23 = nI 1 := fc_F hf21 hFc22 (by unfold M_MS_puts; omega)
  have hf30 : s22.1 225 24 = nI 6 := fc_F hf22 hFc22 (by unfold M_MS_puts; omega)
  have hf31 : s22.1 225 25 = nI 5 := fc_F hf23 hFc22 (by unfold M_MS_puts; omega)
  have hf32 : s22.1 225 26 = nI 4 := fc_F hf24 hFc22 (by unfold M_MS_puts; omega)
  have hf33 : s22.1 225 27 = nI 524288 := fc_F hf25 hFc22 (by unfold M_MS_puts; omega)
  have hf34 : s22.1 225 28 = nI 261888 := fc_F hf26 hFc22 (by unfold M_MS_puts; omega)
  have hf35 : s22.1 225 29 = nI 196 := fc_F hf27 hFc22 (by unfold M_MS_puts; omega)
  have hf36 : s22.1 225 30 = nI 48 := fc_F hf28 hFc22 (by unfold M_MS_puts; omega)
  refine W.widen (k := 0) (n := 0) (by omega) (by omega) ?_
  refine lv_aload_n hx hb dMH_ball_20 rfl (lv_at hl 0 rfl) ?_
  refine nw_get (C := "LatticeKeysModel$Hands") (TT := T_MH) (N := 31) hx hb hts (wg_ft i_MH) hown hK hO k_h0 (kn := 225) (ci := 12) (fl := [(3, 172), (3, 181), (3, 226), (3, 291), (3, 299), (3, 308), (3, 317), (3, 326), (3, 334), (3, 342), (3, 350), (3, 359), (3, 368), (3, 369), (3, 370), (3, 371), (3, 372), (3, 373), (3, 374), (3, 375), (3, 376), (3, 377), (3, 378), (0, 0), (0, 0), (0, 0), (0, 0), (0, 0), (0, 0), (0, 0), (0, 0)]) rfl hP rfl 0 (by decide) (hts _ (wg_t kw_1432)) (fun _ h9 => h9) (cd := (3, 172)) rfl dMH_ball_21 (fun v24 hv24 => ?_)
  obtain ⟨r23, rfl, kr23⟩ := (show ∃ r : Nat, v24 = .ref r ∧ T r = some 172 from hv24)
  refine mp_v (cx := []) (wr := []) hP hD hS hA [] [] rfl rfl rfl (by decide) (va_runV (As := []) (rest := []) F (N_MS_end l g _ T s22 pl hO hU r23 x24 x25 kr23 hx_24 hx_25 (by omega) (by omega)) (cwV 0 hts (wg_app (wg_c kw_1717 (wg_c kw_1630 (wg_c kw_1631 (wg_c kw_10 wg_n)))) kw_1632) rfl rfl rfl (by decide +kernel) ⟨by decide, by decide⟩) (pn_V (en_ok g) (ci := 9) (kn := 172) (fl := [(3, 173), (3, 174), (3, 175), (3, 176), (3, 177), (0, 0), (0, 0), (0, 0)]) hK hO kr23 rfl hP hD hS hA hEn [] rfl rfl rfl) rfl rfl hl.1 rfl (lv_room (Nat.le_of_ble_eq_true rfl)) dMH_ball_24 ⟨by omega, by omega⟩) (fun  u23 H locs hu23 hP hD hS => ?_)
  obtain ⟨s23, pl⟩ := u23
  obtain ⟨⟨eq23, hFc23, ⟨x27, hx_27, hb_27⟩, ⟨x28, hx_28, hb_28⟩, -⟩, hO⟩ := hu23
  have hO : okn g T s23 pl := hO
  have hP : va_P g.1 vcl ([] ++ pl) _ := hP
  have hD : va_D _ ([] ++ pl) := hD
  have hFc23 : frm (M_MS_end) s22 s23 := hFc23
  have hb_27 : x27 = 0 := hb_27
  have hb_28 : x28 = x25 := hb_28
  replace hR := bnd_step hR eq23
  replace hE := bndP_step hE eq23
  have hF := frm_tr hF hFc23 (fun k hk => by unfold M_MS_end at hk; unfold M_MH_ball_1; omega)
  have hf37 : s23.1 225 23 = nI 1 := fc_F hf29 hFc23 (by unfold M_MS_end; omega)
  have hf38 : s23.1 225 24 = nI 6 := fc_F hf30 hFc23 (by unfold M_MS_end; omega)
  have hf39 : s23.1 225 25 = nI 5 := fc_F hf31 hFc23 (by unfold M_MS_end; omega)
  have hf40 : s23.1 225 26 = nI 4 := fc_F hf32 hFc23 (by unfold M_MS_end; omega)
  have hf41 : s23.1 225 27 = nI 524288 := fc_F hf33 hFc23 (by unfold M_MS_end; omega)
  have hf42 : s23.1 225 28 = nI 261888 := fc_F hf34 hFc23 (by unfold M_MS_end; omega)
  have hf43 : s23.1 225 29 = nI 196 := fc_F hf35 hFc23 (by unfold M_MS_end; omega)
  have hf44 : s23.1 225 30 = nI 48 := fc_F hf36 hFc23 (by unfold M_MS_end; omega)
  refine W.widen (k := 0) (n := 0) (by omega) (by omega) ?_
  refine lv_lconst (v := 0) hx hb dMH_ball_27 (by decide) ?_
  refine lv_lstore_n (lv' := [(2, .long 0), (0, .ref h0), (1, .ref b)]) hx hb dMH_ball_28 rfl hl (by decide) rfl (fun ls hl => ?_)
  refine lv_iconst (v := nI 0) hx hb dMH_ball_29 (by decide) ?_
  refine lv_istore (lv' := [(4, .int (nI 0)), (2, .long 0), (0, .ref h0), (1, .ref b)]) hx hb dMH_ball_30 hl (by decide) rfl (fun ls hl => ?_)
  have lp21 : ∀ (n21 : Nat) (i21 : Nat) (y21 : Int64) (s24 : Sto) (ps21 : Nat) (pl : va_W) (ls : Array Slot) (H : Heap) (locs : List Loc), n21 + i21 = 8 → (ps21 ≤ 136) → frm (M_MH_ball_1) s s24 → s24.1 225 23 = nI 1 → s24.1 225 24 = nI 6 → s24.1 225 25 = nI 5 → s24.1 225 26 = nI 4 → s24.1 225 27 = nI 524288 → s24.1 225 28 = nI 261888 → s24.1 225 29 = nI 196 → s24.1 225 30 = nI 48 → s24.1 172 6 = nI ps21 → s24.1 172 5 = nI x28 → E_MH_ball_1_L0 n21 i21 y21 s24 → F_MH_ball_1 pb s = F_MH_ball_1_L0 n21 i21 y21 s24 → lv_has ls 6 [(4, .int (nI i21)), (2, .long y21), (0, .ref h0)] → okn g T s24 pl → va_P g.1 vcl ([] ++ pl) H → va_D A ([] ++ pl) → va_S A s0.heap H locs → W p l e ({ frames := 4, cells := 0, slots := 0, locals := 90 } : Room) s0 m args below meth c H locs 0 0 (MQ below (va_Qv (fun (u : (Sto) × va_W) => (u.1 = F_MH_ball_1 pb s ∧ frm (M_MH_ball_1) s u.1 ∧ True) ∧ okn g T u.1 u.2) (po g.1 vcl A (fun (u : (Sto) × va_W) => [] ++ u.2)) A) args s0 0 0 A) (F0 m 32 ls []) := by
    intro n21
    induction n21 with
    | zero =>
      intro i21 y21 s24 ps21 pl ls H locs hm21 hi21 hF hf45 hf46 hf47 hf48 hf49 hf50 hf51 hf52 hf53 hf54 hE hR hl hO hP hD hS
      refine lv_iload hx hb dMH_ball_32 (lv_at hl 0 rfl) ?_
      refine lv_bipush (v := nI 8) hx hb dMH_ball_34 (by decide) ?_
      refine mi_ge (tgt := 62) hx hb dMH_ball_36 (by decide) (by omega) (by omega) (fun h21 => ?_) (fun h21 => absurd h21 (by omega))
      refine lv_iconst (v := nI 0) hx hb dMH_ball_62 (by decide) ?_
      refine lv_istore (lv' := [(4, .int (nI 0)), (2, .long y21), (0, .ref h0)]) hx hb dMH_ball_63 hl (by decide) rfl (fun ls hl => ?_)
      have lp22 : ∀ (n22 : Nat) (i22 : Nat) (s25 : Sto) (ps22 : Nat) (pl : va_W) (ls : Array Slot) (H : Heap) (locs : List Loc), n22 + i22 = 256 → (ps22 ≤ 136) → frm (M_MH_ball_1) s s25 → s25.1 225 23 = nI 1 → s25.1 225 24 = nI 6 → s25.1 225 25 = nI 5 → s25.1 225 26 = nI 4 → s25.1 225 27 = nI 524288 → s25.1 225 28 = nI 261888 → s25.1 225 29 = nI 196 → s25.1 225 30 = nI 48 → s25.1 172 6 = nI ps22 → s25.1 172 5 = nI x28 → E_MH_ball_1_L1 y21 n22 i22 s25 → F_MH_ball_1 pb s = F_MH_ball_1_L1 y21 n22 i22 s25 → lv_has ls 6 [(4, .int (nI i22)), (2, .long y21), (0, .ref h0)] → okn g T s25 pl → va_P g.1 vcl ([] ++ pl) H → va_D A ([] ++ pl) → va_S A s0.heap H locs → W p l e ({ frames := 4, cells := 0, slots := 0, locals := 90 } : Room) s0 m args below meth c H locs 0 0 (MQ below (va_Qv (fun (u : (Sto) × va_W) => (u.1 = F_MH_ball_1 pb s ∧ frm (M_MH_ball_1) s u.1 ∧ True) ∧ okn g T u.1 u.2) (po g.1 vcl A (fun (u : (Sto) × va_W) => [] ++ u.2)) A) args s0 0 0 A) (F0 m 65 ls []) := by
        intro n22
        induction n22 with
        | zero =>
          intro i22 s25 ps22 pl ls H locs hm22 hi22 hF hf55 hf56 hf57 hf58 hf59 hf60 hf61 hf62 hf63 hf64 hE hR hl hO hP hD hS
          refine lv_iload hx hb dMH_ball_65 (lv_at hl 0 rfl) ?_
          refine lv_sipush (v := nI 256) hx hb dMH_ball_67 (by decide) ?_
          refine mi_ge (tgt := 87) hx hb dMH_ball_70 (by decide) (by omega) (by omega) (fun h22 => ?_) (fun h22 => absurd h22 (by omega))
          refine lv_sipush (v := nI 256) hx hb dMH_ball_87 (by decide) ?_
          refine va_gets hx hb (hEn.2.1 26 _ rfl).1 hS hown (hts _ (wg_t kw_1712)) (fun _ h9 => h9) dMH_ball_90 ?_
          refine lv_aload_n hx hb dMH_ball_93 rfl (lv_at hl 2 rfl) ?_
          refine nw_get (C := "LatticeKeysModel$Hands") (TT := T_MH) (N := 31) hx hb hts (wg_ft i_MH) hown hK hO k_h0 (kn := 225) (ci := 12) (fl := [(3, 172), (3, 181), (3, 226), (3, 291), (3, 299), (3, 308), (3, 317), (3, 326), (3, 334), (3, 342), (3, 350), (3, 359), (3, 368), (3, 369), (3, 370), (3, 371), (3, 372), (3, 373), (3, 374), (3, 375), (3, 376), (3, 377), (3, 378), (0, 0), (0, 0), (0, 0), (0, 0), (0, 0), (0, 0), (0, 0), (0, 0)]) rfl hP rfl 23 (by decide) (hts _ (wg_t kw_1455)) (fun _ h9 => h9) (cd := (0, 0)) rfl dMH_ball_94 (fun v25 hv25 => ?_)
          obtain rfl := (show v25 = .int (s25.1 225 23) from hv25)
          obtain ⟨z22, ez22, hz23, hz24⟩ := cl_of (b := 2147483648) hf55 (by omega) (by decide)
          replace hR := bnd_step hR ez22
          replace hE := bndP_step hE ez22
          refine mi_as hz23 ?_
          subst hz24
          refine va_ti (v := .int (nI 49)) hx hb (hEn.2.1 26 _ rfl).2 hS (vp_in_nI (by decide) (by decide)) (by decide +kernel) dMH_ball_97 ?_
          refine mi_isub hx hb dMH_ball_98 (by omega) ?_
          refine mi_as (show nI (256 - 49) = nI 207 from rfl) ?_
          refine lv_istore (lv' := [(4, .int (nI 207)), (2, .long y21), (0, .ref h0)]) hx hb dMH_ball_99 hl (by decide) rfl (fun ls hl => ?_)
          have lp23 : ∀ (n23 : Nat) (i23 : Nat) (s26 : Sto) (ps23 : Nat) (pl : va_W) (ls : Array Slot) (H : Heap) (locs : List Loc), n23 + i23 = 256 → (ps23 ≤ 136) → (207 ≤ i23) → frm (M_MH_ball_1) s s26 → s26.1 225 23 = nI 1 → s26.1 225 24 = nI 6 → s26.1 225 25 = nI 5 → s26.1 225 26 = nI 4 → s26.1 225 27 = nI 524288 → s26.1 225 28 = nI 261888 → s26.1 225 29 = nI 196 → s26.1 225 30 = nI 48 → s26.1 172 6 = nI ps23 → s26.1 172 5 = nI x28 → E_MH_ball_1_L2 y21 n23 i23 s26 → F_MH_ball_1 pb s = F_MH_ball_1_L2 y21 n23 i23 s26 → lv_has ls 6 [(4, .int (nI i23)), (2, .long y21), (0, .ref h0)] → okn g T s26 pl → va_P g.1 vcl ([] ++ pl) H → va_D A ([] ++ pl) → va_S A s0.heap H locs → W p l e ({ frames := 4, cells := 0, slots := 0, locals := 90 } : Room) s0 m args below meth c H locs 0 0 (MQ below (va_Qv (fun (u : (Sto) × va_W) => (u.1 = F_MH_ball_1 pb s ∧ frm (M_MH_ball_1) s u.1 ∧ True) ∧ okn g T u.1 u.2) (po g.1 vcl A (fun (u : (Sto) × va_W) => [] ++ u.2)) A) args s0 0 0 A) (F0 m 101 ls []) := by
            intro n23
            induction n23 with
            | zero =>
              intro i23 s26 ps23 pl ls H locs hm23 hi23 hi24 hF hf65 hf66 hf67 hf68 hf69 hf70 hf71 hf72 hf73 hf74 hE hR hl hO hP hD hS
              refine lv_iload hx hb dMH_ball_101 (lv_at hl 0 rfl) ?_
              refine lv_sipush (v := nI 256) hx hb dMH_ball_103 (by decide) ?_
              refine mi_ge (tgt := 193) hx hb dMH_ball_106 (by decide) (by omega) (by omega) (fun h23 => ?_) (fun h23 => absurd h23 (by omega))
              exact mp_vret hx hb hr hlk hP hD hS (s26, pl) ⟨⟨hR.symm, hF, trivial⟩, hO⟩ [] rfl rfl rfl (by omega) (by omega) dMH_ball_193
            | succ n23 ih23 =>
              intro i23 s26 ps23 pl ls H locs hm23 hi23 hi24 hF hf75 hf76 hf77 hf78 hf79 hf80 hf81 hf82 hf83 hf84 hE hR hl hO hP hD hS
              refine lv_iload hx hb dMH_ball_101 (lv_at hl 0 rfl) ?_
              refine lv_sipush (v := nI 256) hx hb dMH_ball_103 (by decide) ?_
              refine mi_ge (tgt := 193) hx hb dMH_ball_106 (by decide) (by omega) (by omega) (fun h24 => absurd h24 (by omega)) (fun h24 => ?_)
              refine lv_aload_n hx hb dMH_ball_109 rfl (lv_at hl 2 rfl) ?_
              refine nw_get (C := "LatticeKeysModel$Hands") (TT := T_MH) (N := 31) hx hb hts (wg_ft i_MH) hown hK hO k_h0 (kn := 225) (ci := 12) (fl := [(3, 172), (3, 181), (3, 226), (3, 291), (3, 299), (3, 308), (3, 317), (3, 326), (3, 334), (3, 342), (3, 350), (3, 359), (3, 368), (3, 369), (3, 370), (3, 371), (3, 372), (3, 373), (3, 374), (3, 375), (3, 376), (3, 377), (3, 378), (0, 0), (0, 0), (0, 0), (0, 0), (0, 0), (0, 0), (0, 0), (0, 0)]) rfl hP rfl 0 (by decide) (hts _ (wg_t kw_1432)) (fun _ h9 => h9) (cd := (3, 172)) rfl dMH_ball_110 (fun v26 hv26 => ?_)
              obtain ⟨r24, rfl, kr24⟩ := (show ∃ r : Nat, v26 = .ref r ∧ T r = some 172 from hv26)
              refine mp_i (cx := []) (wr := []) hP hD hS hA [] [] rfl rfl rfl (by decide) (va_runV (As := []) (rest := []) F (N_MS_next l g _ T s26 pl hO hU r24 ps23 x28 kr24 hf83 hf84 (by omega) (by omega)) (cwV 0 hts (wg_app (wg_c kw_1724 (wg_c kw_1638 (wg_c kw_1639 (wg_c kw_10 wg_n)))) kw_1640) rfl rfl rfl (by decide +kernel) ⟨by decide, by decide⟩) (pn_V (en_ok g) (ci := 9) (kn := 172) (fl := [(3, 173), (3, 174), (3, 175), (3, 176), (3, 177), (0, 0), (0, 0), (0, 0)]) hK hO kr24 rfl hP hD hS hA hEn [] rfl rfl rfl) rfl rfl hl.1 rfl (lv_room (Nat.le_of_ble_eq_true rfl)) dMH_ball_113 ⟨by omega, by omega⟩) (fun r25 u24 H locs hu24 hP hD hS => ?_)
              obtain ⟨q21, pl⟩ := u24
              obtain ⟨⟨eq24, rfl, hFc24, ⟨x32, hx_32, hb_32⟩, ⟨x30, hx_30, hb_30⟩, ⟨x31, hx_31, hb_31⟩, -⟩, hO⟩ := hu24
              have hO : okn g T q21.2 pl := hO
              have hP : va_P g.1 vcl ([] ++ pl) _ := hP
              have hD : va_D _ ([] ++ pl) := hD
              have hFc24 : frm (M_MS_next) s26 q21.2 := hFc24
              have hb_30 : x30 ≤ x28 := hb_30
              have hb_31 : x31 = x28 := hb_31
              have hb_32 : x32 < 256 := hb_32
              replace hR := bnd_step hR eq24
              replace hE := bndP_step hE eq24
              have hF := frm_tr hF hFc24 (fun k hk => by unfold M_MS_next at hk; unfold M_MH_ball_1; omega)
              have hf85 : q21.2.1 225 23 = nI 1 := fc_F hf75 hFc24 (by unfold M_MS_next; omega)
              have hf86 : q21.2.1 225 24 = nI 6 := fc_F hf76 hFc24 (by unfold M_MS_next; omega)
              have hf87 : q21.2.1 225 25 = nI 5 := fc_F hf77 hFc24 (by unfold M_MS_next; omega)
              have hf88 : q21.2.1 225 26 = nI 4 := fc_F hf78 hFc24 (by unfold M_MS_next; omega)
              have hf89 : q21.2.1 225 27 = nI 524288 := fc_F hf79 hFc24 (by unfold M_MS_next; omega)
              have hf90 : q21.2.1 225 28 = nI 261888 := fc_F hf80 hFc24 (by unfold M_MS_next; omega)
              have hf91 : q21.2.1 225 29 = nI 196 := fc_F hf81 hFc24 (by unfold M_MS_next; omega)
              have hf92 : q21.2.1 225 30 = nI 48 := fc_F hf82 hFc24 (by unfold M_MS_next; omega)
              obtain ⟨z23, ez23, hz25, hz26⟩ := cl_of (b := 2147483648) hx_32 (by omega) (by decide)
              replace hR := bnd_step hR ez23
              replace hE := bndP_step hE ez23
              refine mi_as hz25 ?_
              refine W.widen (k := 0) (n := 0) (by omega) (by omega) ?_
              refine lv_istore (lv' := [(5, .int (nI z23)), (4, .int (nI i23)), (2, .long y21), (0, .ref h0)]) hx hb dMH_ball_116 hl (by decide) rfl (fun ls hl => ?_)
              have lp24 : ∀ (n24 : Nat) (jj21 : Nat) (s27 : Sto) (ps24 : Nat) (pl : va_W) (ls : Array Slot) (H : Heap) (locs : List Loc), 0 = 0 → (jj21 < 256) → (ps24 ≤ 136) → frm (M_MH_ball_1) s s27 → s27.1 225 23 = nI 1 → s27.1 225 24 = nI 6 → s27.1 225 25 = nI 5 → s27.1 225 26 = nI 4 → s27.1 225 27 = nI 524288 → s27.1 225 28 = nI 261888 → s27.1 225 29 = nI 196 → s27.1 225 30 = nI 48 → s27.1 172 6 = nI ps24 → s27.1 172 5 = nI x31 → E_MH_ball_1_L3 y21 i23 (E_MH_ball_1_L2 y21 n23) n24 jj21 s27 → F_MH_ball_1 pb s = F_MH_ball_1_L3 y21 i23 (F_MH_ball_1_L2 y21 n23) n24 jj21 s27 → lv_has ls 6 [(5, .int (nI jj21)), (4, .int (nI i23)), (2, .long y21), (0, .ref h0)] → okn g T s27 pl → va_P g.1 vcl ([] ++ pl) H → va_D A ([] ++ pl) → va_S A s0.heap H locs → W p l e ({ frames := 4, cells := 0, slots := 0, locals := 90 } : Room) s0 m args below meth c H locs 0 0 (MQ below (va_Qv (fun (u : (Sto) × va_W) => (u.1 = F_MH_ball_1 pb s ∧ frm (M_MH_ball_1) s u.1 ∧ True) ∧ okn g T u.1 u.2) (po g.1 vcl A (fun (u : (Sto) × va_W) => [] ++ u.2)) A) args s0 0 0 A) (F0 m 118 ls []) := by
                intro n24
                induction n24 with
                | zero =>
                  intro jj21 s27 ps24 pl ls H locs hm24 hi25 hi26 hF hf93 hf94 hf95 hf96 hf97 hf98 hf99 hf100 hf101 hf102 hE hR hl hO hP hD hS
                  refine lv_iload hx hb dMH_ball_118 (lv_at hl 0 rfl) ?_
                  refine lv_iload hx hb dMH_ball_120 (lv_at hl 1 rfl) ?_
                  refine mi_le (tgt := 137) hx hb dMH_ball_122 (by decide) (by omega) (by omega) (fun h25 => ?_) (fun h25 => absurd h25 (by have h9 : jj21 ≤ i23 := hE.1; omega))
                  replace hE := hE.2
                  refine lv_aload_n hx hb dMH_ball_137 rfl (lv_at hl 3 rfl) ?_
                  refine nw_get (C := "LatticeKeysModel$Hands") (TT := T_MH) (N := 31) hx hb hts (wg_ft i_MH) hown hK hO k_h0 (kn := 225) (ci := 12) (fl := [(3, 172), (3, 181), (3, 226), (3, 291), (3, 299), (3, 308), (3, 317), (3, 326), (3, 334), (3, 342), (3, 350), (3, 359), (3, 368), (3, 369), (3, 370), (3, 371), (3, 372), (3, 373), (3, 374), (3, 375), (3, 376), (3, 377), (3, 378), (0, 0), (0, 0), (0, 0), (0, 0), (0, 0), (0, 0), (0, 0), (0, 0)]) rfl hP rfl 12 (by decide) (hts _ (wg_t kw_1444)) (fun _ h9 => h9) (cd := (3, 368)) rfl dMH_ball_138 (fun v27 hv27 => ?_)
                  obtain ⟨r26, rfl, kr25⟩ := (show ∃ r : Nat, v27 = .ref r ∧ T r = some 368 from hv27)
                  refine lv_iload hx hb dMH_ball_141 (lv_at hl 1 rfl) ?_
                  refine lv_aload_n hx hb dMH_ball_143 rfl (lv_at hl 3 rfl) ?_
                  refine nw_get (C := "LatticeKeysModel$Hands") (TT := T_MH) (N := 31) hx hb hts (wg_ft i_MH) hown hK hO k_h0 (kn := 225) (ci := 12) (fl := [(3, 172), (3, 181), (3, 226), (3, 291), (3, 299), (3, 308), (3, 317), (3, 326), (3, 334), (3, 342), (3, 350), (3, 359), (3, 368), (3, 369), (3, 370), (3, 371), (3, 372), (3, 373), (3, 374), (3, 375), (3, 376), (3, 377), (3, 378), (0, 0), (0, 0), (0, 0), (0, 0), (0, 0), (0, 0), (0, 0), (0, 0)]) rfl hP rfl 12 (by decide) (hts _ (wg_t kw_1444)) (fun _ h9 => h9) (cd := (3, 368)) rfl dMH_ball_144 (fun v28 hv28 => ?_)
                  obtain ⟨r27, rfl, kr26⟩ := (show ∃ r : Nat, v28 = .ref r ∧ T r = some 368 from hv28)
                  refine lv_iload hx hb dMH_ball_147 (lv_at hl 0 rfl) ?_
                  refine nw_iald hx hb hK hO kr26 (k := 368) rfl hP (by omega) (by omega) dMH_ball_149 ?_
                  refine nw_iast hx hb hK hO hU kr25 (k := 368) rfl hP hD hS (by omega) (by omega) dMH_ball_150 (fun s28 pl H locs es21 hO hP hD hS => ?_)
                  replace hR := bnd_step hR es21
                  replace hE := bndP_step hE es21
                  have hF := frm_sI hF es21 (by unfold M_MH_ball_1; omega)
                  have hf103 : s28.1 225 23 = nI 1 := fc_ne hf93 es21 (by omega)
                  have hf104 : s28.1 225 24 = nI 6 := fc_ne hf94 es21 (by omega)
                  have hf105 : s28.1 225 25 = nI 5 := fc_ne hf95 es21 (by omega)
                  have hf106 : s28.1 225 26 = nI 4 := fc_ne hf96 es21 (by omega)
                  have hf107 : s28.1 225 27 = nI 524288 := fc_ne hf97 es21 (by omega)
                  have hf108 : s28.1 225 28 = nI 261888 := fc_ne hf98 es21 (by omega)
                  have hf109 : s28.1 225 29 = nI 196 := fc_ne hf99 es21 (by omega)
                  have hf110 : s28.1 225 30 = nI 48 := fc_ne hf100 es21 (by omega)
                  have hf111 : s28.1 172 6 = nI ps24 := fc_ne hf101 es21 (by omega)
                  have hf112 : s28.1 172 5 = nI x31 := fc_ne hf102 es21 (by omega)
                  refine lv_aload_n hx hb dMH_ball_151 rfl (lv_at hl 3 rfl) ?_
                  refine nw_get (C := "LatticeKeysModel$Hands") (TT := T_MH) (N := 31) hx hb hts (wg_ft i_MH) hown hK hO k_h0 (kn := 225) (ci := 12) (fl := [(3, 172), (3, 181), (3, 226), (3, 291), (3, 299), (3, 308), (3, 317), (3, 326), (3, 334), (3, 342), (3, 350), (3, 359), (3, 368), (3, 369), (3, 370), (3, 371), (3, 372), (3, 373), (3, 374), (3, 375), (3, 376), (3, 377), (3, 378), (0, 0), (0, 0), (0, 0), (0, 0), (0, 0), (0, 0), (0, 0), (0, 0)]) rfl hP rfl 12 (by decide) (hts _ (wg_t kw_1444)) (fun _ h9 => h9) (cd := (3, 368)) rfl dMH_ball_152 (fun v29 hv29 => ?_)
                  obtain ⟨r28, rfl, kr27⟩ := (show ∃ r : Nat, v29 = .ref r ∧ T r = some 368 from hv29)
                  refine lv_iload hx hb dMH_ball_155 (lv_at hl 0 rfl) ?_
                  refine lv_lload_n hx hb dMH_ball_157 rfl (lv_at hl 2 rfl) ?_
                  refine lv_iload hx hb dMH_ball_158 (lv_at hl 1 rfl) ?_
                  refine va_gets hx hb (hEn.2.1 26 _ rfl).1 hS hown (hts _ (wg_t kw_1712)) (fun _ h9 => h9) dMH_ball_160 ?_
                  refine lv_aload_n hx hb dMH_ball_163 rfl (lv_at hl 3 rfl) ?_
                  refine nw_get (C := "LatticeKeysModel$Hands") (TT := T_MH) (N := 31) hx hb hts (wg_ft i_MH) hown hK hO k_h0 (kn := 225) (ci := 12) (fl := [(3, 172), (3, 181), (3, 226), (3, 291), (3, 299), (3, 308), (3, 317), (3, 326), (3, 334), (3, 342), (3, 350), (3, 359), (3, 368), (3, 369), (3, 370), (3, 371), (3, 372), (3, 373), (3, 374), (3, 375), (3, 376), (3, 377), (3, 378), (0, 0), (0, 0), (0, 0), (0, 0), (0, 0), (0, 0), (0, 0), (0, 0)]) rfl hP rfl 23 (by decide) (hts _ (wg_t kw_1455)) (fun _ h9 => h9) (cd := (0, 0)) rfl dMH_ball_164 (fun v30 hv30 => ?_)
                  obtain rfl := (show v30 = .int (s28.1 225 23) from hv30)
                  obtain ⟨z24, ez24, hz27, hz28⟩ := cl_of (b := 2147483648) hf103 (by omega) (by decide)
                  replace hR := bnd_step hR ez24
                  replace hE := bndP_step hE ez24
                  refine mi_as hz27 ?_
                  subst hz28
                  refine va_ti (v := .int (nI 49)) hx hb (hEn.2.1 26 _ rfl).2 hS (vp_in_nI (by decide) (by decide)) (by decide +kernel) dMH_ball_167 ?_
                  refine mi_iadd hx hb dMH_ball_168 ?_
                  refine lv_sipush (v := nI 256) hx hb dMH_ball_169 (by decide) ?_
                  refine lv_isub hx hb dMH_ball_172 ?_
                  refine lv_lushr hx hb dMH_ball_173 rfl ?_
                  refine lv_lconst (v := 1) hx hb dMH_ball_174 (by decide) ?_
                  refine lv_land hx hb dMH_ball_175 ?_
                  refine lv_lconst (v := 1) hx hb dMH_ball_176 (by decide) ?_
                  refine W.lcmp hx hb dMH_ball_177 ?_
                  refine lv_if_ne (tgt := 185) hx hb dMH_ball_178 (by decide) (fun h26 => ?_) (fun h26 => ?_)
                  · replace hR := hR.trans (if_neg h26)
                    replace hE := iteP_neg h26 hE
                    refine lv_iconst (v := nI 1) hx hb dMH_ball_185 (by decide) ?_
                    refine nw_iast hx hb hK hO hU kr27 (k := 368) rfl hP hD hS (by omega) (by omega) dMH_ball_186 (fun s29 pl H locs es22 hO hP hD hS => ?_)
                    replace hR := bnd_step hR es22
                    replace hE := bndP_step hE es22
                    have hF := frm_sI hF es22 (by unfold M_MH_ball_1; omega)
                    have hf113 : s29.1 225 23 = nI 1 := fc_ne hf103 es22 (by omega)
                    have hf114 : s29.1 225 24 = nI 6 := fc_ne hf104 es22 (by omega)
                    have hf115 : s29.1 225 25 = nI 5 := fc_ne hf105 es22 (by omega)
                    have hf116 : s29.1 225 26 = nI 4 := fc_ne hf106 es22 (by omega)
                    have hf117 : s29.1 225 27 = nI 524288 := fc_ne hf107 es22 (by omega)
                    have hf118 : s29.1 225 28 = nI 261888 := fc_ne hf108 es22 (by omega)
                    have hf119 : s29.1 225 29 = nI 196 := fc_ne hf109 es22 (by omega)
                    have hf120 : s29.1 225 30 = nI 48 := fc_ne hf110 es22 (by omega)
                    have hf121 : s29.1 172 6 = nI ps24 := fc_ne hf111 es22 (by omega)
                    have hf122 : s29.1 172 5 = nI x31 := fc_ne hf112 es22 (by omega)
                    refine mi_iinc (k := 1) (x := i23) (d := 1) (y := i23 + 1) (lv' := [(4, .int (nI (i23 + 1))), (5, .int (nI jj21)), (2, .long y21), (0, .ref h0)]) hx hb dMH_ball_187 hl rfl (by decide) rfl (by decide) rfl (fun ls hl => ?_)
                    refine lv_goto (tgt := 101) hx hb dMH_ball_190 (by decide) ?_
                    exact ih23 (i23 + 1) s29 ps24 pl ls H locs (by omega) (by omega) (by omega) hF hf113 hf114 hf115 hf116 hf117 hf118 hf119 hf120 hf121 (by have h9 := hf122; rw [show x31 = x28 by omega] at h9; exact h9) hE hR (lv_sub hl [0, 2, 3] rfl) hO hP hD hS
                  · replace hR := hR.trans (if_pos h26)
                    replace hE := iteP_pos h26 hE
                    refine lv_iconst (v := (-1)) hx hb dMH_ball_181 (by decide) ?_
                    refine lv_goto (tgt := 186) hx hb dMH_ball_182 (by decide) ?_
                    refine nw_iast hx hb hK hO hU kr27 (k := 368) rfl hP hD hS (by omega) (by omega) dMH_ball_186 (fun s30 pl H locs es23 hO hP hD hS => ?_)
                    replace hR := bnd_step hR es23
                    replace hE := bndP_step hE es23
                    have hF := frm_sI hF es23 (by unfold M_MH_ball_1; omega)
                    have hf123 : s30.1 225 23 = nI 1 := fc_ne hf103 es23 (by omega)
                    have hf124 : s30.1 225 24 = nI 6 := fc_ne hf104 es23 (by omega)
                    have hf125 : s30.1 225 25 = nI 5 := fc_ne hf105 es23 (by omega)
                    have hf126 : s30.1 225 26 = nI 4 := fc_ne hf106 es23 (by omega)
                    have hf127 : s30.1 225 27 = nI 524288 := fc_ne hf107 es23 (by omega)
                    have hf128 : s30.1 225 28 = nI 261888 := fc_ne hf108 es23 (by omega)
                    have hf129 : s30.1 225 29 = nI 196 := fc_ne hf109 es23 (by omega)
                    have hf130 : s30.1 225 30 = nI 48 := fc_ne hf110 es23 (by omega)
                    have hf131 : s30.1 172 6 = nI ps24 := fc_ne hf111 es23 (by omega)
                    have hf132 : s30.1 172 5 = nI x31 := fc_ne hf112 es23 (by omega)
                    refine mi_iinc (k := 1) (x := i23) (d := 1) (y := i23 + 1) (lv' := [(4, .int (nI (i23 + 1))), (5, .int (nI jj21)), (2, .long y21), (0, .ref h0)]) hx hb dMH_ball_187 hl rfl (by decide) rfl (by decide) rfl (fun ls hl => ?_)
                    refine lv_goto (tgt := 101) hx hb dMH_ball_190 (by decide) ?_
                    exact ih23 (i23 + 1) s30 ps24 pl ls H locs (by omega) (by omega) (by omega) hF hf123 hf124 hf125 hf126 hf127 hf128 hf129 hf130 hf131 (by have h9 := hf132; rw [show x31 = x28 by omega] at h9; exact h9) hE hR (lv_sub hl [0, 2, 3] rfl) hO hP hD hS
                | succ n24 ih24 =>
                  intro jj21 s27 ps24 pl ls H locs hm24 hi25 hi26 hF hf133 hf134 hf135 hf136 hf137 hf138 hf139 hf140 hf141 hf142 hE hR hl hO hP hD hS
                  refine lv_iload hx hb dMH_ball_118 (lv_at hl 0 rfl) ?_
                  refine lv_iload hx hb dMH_ball_120 (lv_at hl 1 rfl) ?_
                  refine mi_le (tgt := 137) hx hb dMH_ball_122 (by decide) (by omega) (by omega) (fun h27 => ?_) (fun h27 => ?_)
                  · replace hR := hR.trans (if_pos h27)
                    replace hE := iteP_pos h27 hE
                    refine lv_aload_n hx hb dMH_ball_137 rfl (lv_at hl 3 rfl) ?_
                    refine nw_get (C := "LatticeKeysModel$Hands") (TT := T_MH) (N := 31) hx hb hts (wg_ft i_MH) hown hK hO k_h0 (kn := 225) (ci := 12) (fl := [(3, 172), (3, 181), (3, 226), (3, 291), (3, 299), (3, 308), (3, 317), (3, 326), (3, 334), (3, 342), (3, 350), (3, 359), (3, 368), (3, 369), (3, 370), (3, 371), (3, 372), (3, 373), (3, 374), (3, 375), (3, 376), (3, 377), (3, 378), (0, 0), (0, 0), (0, 0), (0, 0), (0, 0), (0, 0), (0, 0), (0, 0)]) rfl hP rfl 12 (by decide) (hts _ (wg_t kw_1444)) (fun _ h9 => h9) (cd := (3, 368)) rfl dMH_ball_138 (fun v31 hv31 => ?_)
                    obtain ⟨r29, rfl, kr28⟩ := (show ∃ r : Nat, v31 = .ref r ∧ T r = some 368 from hv31)
                    refine lv_iload hx hb dMH_ball_141 (lv_at hl 1 rfl) ?_
                    refine lv_aload_n hx hb dMH_ball_143 rfl (lv_at hl 3 rfl) ?_
                    refine nw_get (C := "LatticeKeysModel$Hands") (TT := T_MH) (N := 31) hx hb hts (wg_ft i_MH) hown hK hO k_h0 (kn := 225) (ci := 12) (fl := [(3, 172), (3, 181), (3, 226), (3, 291), (3, 299), (3, 308), (3, 317), (3, 326), (3, 334), (3, 342), (3, 350), (3, 359), (3, 368), (3, 369), (3, 370), (3, 371), (3, 372), (3, 373), (3, 374), (3, 375), (3, 376), (3, 377), (3, 378), (0, 0), (0, 0), (0, 0), (0, 0), (0, 0), (0, 0), (0, 0), (0, 0)]) rfl hP rfl 12 (by decide) (hts _ (wg_t kw_1444)) (fun _ h9 => h9) (cd := (3, 368)) rfl dMH_ball_144 (fun v32 hv32 => ?_)
                    obtain ⟨r30, rfl, kr29⟩ := (show ∃ r : Nat, v32 = .ref r ∧ T r = some 368 from hv32)
                    refine lv_iload hx hb dMH_ball_147 (lv_at hl 0 rfl) ?_
                    refine nw_iald hx hb hK hO kr29 (k := 368) rfl hP (by omega) (by omega) dMH_ball_149 ?_
                    refine nw_iast hx hb hK hO hU kr28 (k := 368) rfl hP hD hS (by omega) (by omega) dMH_ball_150 (fun s31 pl H locs es24 hO hP hD hS => ?_)
                    replace hR := bnd_step hR es24
                    replace hE := bndP_step hE es24
                    have hF := frm_sI hF es24 (by unfold M_MH_ball_1; omega)
                    have hf143 : s31.1 225 23 = nI 1 := fc_ne hf133 es24 (by omega)
                    have hf144 : s31.1 225 24 = nI 6 := fc_ne hf134 es24 (by omega)
                    have hf145 : s31.1 225 25 = nI 5 := fc_ne hf135 es24 (by omega)
                    have hf146 : s31.1 225 26 = nI 4 := fc_ne hf136 es24 (by omega)
                    have hf147 : s31.1 225 27 = nI 524288 := fc_ne hf137 es24 (by omega)
                    have hf148 : s31.1 225 28 = nI 261888 := fc_ne hf138 es24 (by omega)
                    have hf149 : s31.1 225 29 = nI 196 := fc_ne hf139 es24 (by omega)
                    have hf150 : s31.1 225 30 = nI 48 := fc_ne hf140 es24 (by omega)
                    have hf151 : s31.1 172 6 = nI ps24 := fc_ne hf141 es24 (by omega)
                    have hf152 : s31.1 172 5 = nI x31 := fc_ne hf142 es24 (by omega)
                    refine lv_aload_n hx hb dMH_ball_151 rfl (lv_at hl 3 rfl) ?_
                    refine nw_get (C := "LatticeKeysModel$Hands") (TT := T_MH) (N := 31) hx hb hts (wg_ft i_MH) hown hK hO k_h0 (kn := 225) (ci := 12) (fl := [(3, 172), (3, 181), (3, 226), (3, 291), (3, 299), (3, 308), (3, 317), (3, 326), (3, 334), (3, 342), (3, 350), (3, 359), (3, 368), (3, 369), (3, 370), (3, 371), (3, 372), (3, 373), (3, 374), (3, 375), (3, 376), (3, 377), (3, 378), (0, 0), (0, 0), (0, 0), (0, 0), (0, 0), (0, 0), (0, 0), (0, 0)]) rfl hP rfl 12 (by decide) (hts _ (wg_t kw_1444)) (fun _ h9 => h9) (cd := (3, 368)) rfl dMH_ball_152 (fun v33 hv33 => ?_)
                    obtain ⟨r31, rfl, kr30⟩ := (show ∃ r : Nat, v33 = .ref r ∧ T r = some 368 from hv33)
                    refine lv_iload hx hb dMH_ball_155 (lv_at hl 0 rfl) ?_
                    refine lv_lload_n hx hb dMH_ball_157 rfl (lv_at hl 2 rfl) ?_
                    refine lv_iload hx hb dMH_ball_158 (lv_at hl 1 rfl) ?_
                    refine va_gets hx hb (hEn.2.1 26 _ rfl).1 hS hown (hts _ (wg_t kw_1712)) (fun _ h9 => h9) dMH_ball_160 ?_
                    refine lv_aload_n hx hb dMH_ball_163 rfl (lv_at hl 3 rfl) ?_
                    refine nw_get (C := "LatticeKeysModel$Hands") (TT := T_MH) (N := 31) hx hb hts (wg_ft i_MH) hown hK hO k_h0 (kn := 225) (ci := 12) (fl := [(3, 172), (3, 181), (3, 226), (3, 291), (3, 299), (3, 308), (3, 317), (3, 326), (3, 334), (3, 342), (3, 350), (3, 359), (3, 368), (3, 369), (3, 370), (3, 371), (3, 372), (3, 373), (3, 374), (3, 375), (3, 376), (3, 377), (3, 378), (0, 0), (0, 0), (0, 0), (0, 0), (0, 0), (0, 0), (0, 0), (0, 0)]) rfl hP rfl 23 (by decide) (hts _ (wg_t kw_1455)) (fun _ h9 => h9) (cd := (0, 0)) rfl dMH_ball_164 (fun v34 hv34 => ?_)
                    obtain rfl := (show v34 = .int (s31.1 225 23) from hv34)
                    obtain ⟨z25, ez25, hz29, hz30⟩ := cl_of (b := 2147483648) hf143 (by omega) (by decide)
                    replace hR := bnd_step hR ez25
                    replace hE := bndP_step hE ez25
                    refine mi_as hz29 ?_
                    subst hz30
                    refine va_ti (v := .int (nI 49)) hx hb (hEn.2.1 26 _ rfl).2 hS (vp_in_nI (by decide) (by decide)) (by decide +kernel) dMH_ball_167 ?_
                    refine mi_iadd hx hb dMH_ball_168 ?_
                    refine lv_sipush (v := nI 256) hx hb dMH_ball_169 (by decide) ?_
                    refine lv_isub hx hb dMH_ball_172 ?_
                    refine lv_lushr hx hb dMH_ball_173 rfl ?_
                    refine lv_lconst (v := 1) hx hb dMH_ball_174 (by decide) ?_
                    refine lv_land hx hb dMH_ball_175 ?_
                    refine lv_lconst (v := 1) hx hb dMH_ball_176 (by decide) ?_
                    refine W.lcmp hx hb dMH_ball_177 ?_
                    refine lv_if_ne (tgt := 185) hx hb dMH_ball_178 (by decide) (fun h28 => ?_) (fun h28 => ?_)
                    · replace hR := hR.trans (if_neg h28)
                      replace hE := iteP_neg h28 hE
                      refine lv_iconst (v := nI 1) hx hb dMH_ball_185 (by decide) ?_
                      refine nw_iast hx hb hK hO hU kr30 (k := 368) rfl hP hD hS (by omega) (by omega) dMH_ball_186 (fun s32 pl H locs es25 hO hP hD hS => ?_)
                      replace hR := bnd_step hR es25
                      replace hE := bndP_step hE es25
                      have hF := frm_sI hF es25 (by unfold M_MH_ball_1; omega)
                      have hf153 : s32.1 225 23 = nI 1 := fc_ne hf143 es25 (by omega)
                      have hf154 : s32.1 225 24 = nI 6 := fc_ne hf144 es25 (by omega)
                      have hf155 : s32.1 225 25 = nI 5 := fc_ne hf145 es25 (by omega)
                      have hf156 : s32.1 225 26 = nI 4 := fc_ne hf146 es25 (by omega)
                      have hf157 : s32.1 225 27 = nI 524288 := fc_ne hf147 es25 (by omega)
                      have hf158 : s32.1 225 28 = nI 261888 := fc_ne hf148 es25 (by omega)
                      have hf159 : s32.1 225 29 = nI 196 := fc_ne hf149 es25 (by omega)
                      have hf160 : s32.1 225 30 = nI 48 := fc_ne hf150 es25 (by omega)
                      have hf161 : s32.1 172 6 = nI ps24 := fc_ne hf151 es25 (by omega)
                      have hf162 : s32.1 172 5 = nI x31 := fc_ne hf152 es25 (by omega)
                      refine mi_iinc (k := 1) (x := i23) (d := 1) (y := i23 + 1) (lv' := [(4, .int (nI (i23 + 1))), (5, .int (nI jj21)), (2, .long y21), (0, .ref h0)]) hx hb dMH_ball_187 hl rfl (by decide) rfl (by decide) rfl (fun ls hl => ?_)
                      refine lv_goto (tgt := 101) hx hb dMH_ball_190 (by decide) ?_
                      exact ih23 (i23 + 1) s32 ps24 pl ls H locs (by omega) (by omega) (by omega) hF hf153 hf154 hf155 hf156 hf157 hf158 hf159 hf160 hf161 (by have h9 := hf162; rw [show x31 = x28 by omega] at h9; exact h9) hE hR (lv_sub hl [0, 2, 3] rfl) hO hP hD hS
                    · replace hR := hR.trans (if_pos h28)
                      replace hE := iteP_pos h28 hE
                      refine lv_iconst (v := (-1)) hx hb dMH_ball_181 (by decide) ?_
                      refine lv_goto (tgt := 186) hx hb dMH_ball_182 (by decide) ?_
                      refine nw_iast hx hb hK hO hU kr30 (k := 368) rfl hP hD hS (by omega) (by omega) dMH_ball_186 (fun s33 pl H locs es26 hO hP hD hS => ?_)
                      replace hR := bnd_step hR es26
                      replace hE := bndP_step hE es26
                      have hF := frm_sI hF es26 (by unfold M_MH_ball_1; omega)
                      have hf163 : s33.1 225 23 = nI 1 := fc_ne hf143 es26 (by omega)
                      have hf164 : s33.1 225 24 = nI 6 := fc_ne hf144 es26 (by omega)
                      have hf165 : s33.1 225 25 = nI 5 := fc_ne hf145 es26 (by omega)
                      have hf166 : s33.1 225 26 = nI 4 := fc_ne hf146 es26 (by omega)
                      have hf167 : s33.1 225 27 = nI 524288 := fc_ne hf147 es26 (by omega)
                      have hf168 : s33.1 225 28 = nI 261888 := fc_ne hf148 es26 (by omega)
                      have hf169 : s33.1 225 29 = nI 196 := fc_ne hf149 es26 (by omega)
                      have hf170 : s33.1 225 30 = nI 48 := fc_ne hf150 es26 (by omega)
                      have hf171 : s33.1 172 6 = nI ps24 := fc_ne hf151 es26 (by omega)
                      have hf172 : s33.1 172 5 = nI x31 := fc_ne hf152 es26 (by omega)
                      refine mi_iinc (k := 1) (x := i23) (d := 1) (y := i23 + 1) (lv' := [(4, .int (nI (i23 + 1))), (5, .int (nI jj21)), (2, .long y21), (0, .ref h0)]) hx hb dMH_ball_187 hl rfl (by decide) rfl (by decide) rfl (fun ls hl => ?_)
                      refine lv_goto (tgt := 101) hx hb dMH_ball_190 (by decide) ?_
                      exact ih23 (i23 + 1) s33 ps24 pl ls H locs (by omega) (by omega) (by omega) hF hf163 hf164 hf165 hf166 hf167 hf168 hf169 hf170 hf171 (by have h9 := hf172; rw [show x31 = x28 by omega] at h9; exact h9) hE hR (lv_sub hl [0, 2, 3] rfl) hO hP hD hS
                  · replace hR := hR.trans (if_neg (Nat.not_le.mpr h27))
                    replace hE := iteP_neg (Nat.not_le.mpr h27) hE
                    refine lv_aload_n hx hb dMH_ball_125 rfl (lv_at hl 3 rfl) ?_
                    refine nw_get (C := "LatticeKeysModel$Hands") (TT := T_MH) (N := 31) hx hb hts (wg_ft i_MH) hown hK hO k_h0 (kn := 225) (ci := 12) (fl := [(3, 172), (3, 181), (3, 226), (3, 291), (3, 299), (3, 308), (3, 317), (3, 326), (3, 334), (3, 342), (3, 350), (3, 359), (3, 368), (3, 369), (3, 370), (3, 371), (3, 372), (3, 373), (3, 374), (3, 375), (3, 376), (3, 377), (3, 378), (0, 0), (0, 0), (0, 0), (0, 0), (0, 0), (0, 0), (0, 0), (0, 0)]) rfl hP rfl 0 (by decide) (hts _ (wg_t kw_1432)) (fun _ h9 => h9) (cd := (3, 172)) rfl dMH_ball_126 (fun v35 hv35 => ?_)
                    obtain ⟨r32, rfl, kr31⟩ := (show ∃ r : Nat, v35 = .ref r ∧ T r = some 172 from hv35)
                    refine mp_i (cx := []) (wr := []) hP hD hS hA [] [] rfl rfl rfl (by decide) (va_runV (As := []) (rest := []) F (N_MS_next l g _ T s27 pl hO hU r32 ps24 x31 kr31 hf141 hf142 (by omega) (by omega)) (cwV 0 hts (wg_app (wg_c kw_1724 (wg_c kw_1638 (wg_c kw_1639 (wg_c kw_10 wg_n)))) kw_1640) rfl rfl rfl (by decide +kernel) ⟨by decide, by decide⟩) (pn_V (en_ok g) (ci := 9) (kn := 172) (fl := [(3, 173), (3, 174), (3, 175), (3, 176), (3, 177), (0, 0), (0, 0), (0, 0)]) hK hO kr31 rfl hP hD hS hA hEn [] rfl rfl rfl) rfl rfl hl.1 rfl (lv_room (Nat.le_of_ble_eq_true rfl)) dMH_ball_129 ⟨by omega, by omega⟩) (fun r33 u25 H locs hu25 hP hD hS => ?_)
                    obtain ⟨q22, pl⟩ := u25
                    obtain ⟨⟨eq25, rfl, hFc25, ⟨x35, hx_35, hb_35⟩, ⟨x33, hx_33, hb_33⟩, ⟨x34, hx_34, hb_34⟩, -⟩, hO⟩ := hu25
                    have hO : okn g T q22.2 pl := hO
                    have hP : va_P g.1 vcl ([] ++ pl) _ := hP
                    have hD : va_D _ ([] ++ pl) := hD
                    have hFc25 : frm (M_MS_next) s27 q22.2 := hFc25
                    have hb_33 : x33 ≤ x31 := hb_33
                    have hb_34 : x34 = x31 := hb_34
                    have hb_35 : x35 < 256 := hb_35
                    replace hR := bnd_step hR eq25
                    replace hE := bndP_step hE eq25
                    have hF := frm_tr hF hFc25 (fun k hk => by unfold M_MS_next at hk; unfold M_MH_ball_1; omega)
                    have hf173 : q22.2.1 225 23 = nI 1 := fc_F hf133 hFc25 (by unfold M_MS_next; omega)
                    have hf174 : q22.2.1 225 24 = nI 6 := fc_F hf134 hFc25 (by unfold M_MS_next; omega)
                    have hf175 : q22.2.1 225 25 = nI 5 := fc_F hf135 hFc25 (by unfold M_MS_next; omega)
                    have hf176 : q22.2.1 225 26 = nI 4 := fc_F hf136 hFc25 (by unfold M_MS_next; omega)
                    have hf177 : q22.2.1 225 27 = nI 524288 := fc_F hf137 hFc25 (by unfold M_MS_next; omega)
                    have hf178 : q22.2.1 225 28 = nI 261888 := fc_F hf138 hFc25 (by unfold M_MS_next; omega)
                    have hf179 : q22.2.1 225 29 = nI 196 := fc_F hf139 hFc25 (by unfold M_MS_next; omega)
                    have hf180 : q22.2.1 225 30 = nI 48 := fc_F hf140 hFc25 (by unfold M_MS_next; omega)
                    obtain ⟨z26, ez26, hz31, hz32⟩ := cl_of (b := 2147483648) hx_35 (by omega) (by decide)
                    replace hR := bnd_step hR ez26
                    replace hE := bndP_step hE ez26
                    refine mi_as hz31 ?_
                    refine W.widen (k := 0) (n := 0) (by omega) (by omega) ?_
                    refine lv_istore (lv' := [(5, .int (nI z26)), (4, .int (nI i23)), (2, .long y21), (0, .ref h0)]) hx hb dMH_ball_132 hl (by decide) rfl (fun ls hl => ?_)
                    refine lv_goto (tgt := 118) hx hb dMH_ball_134 (by decide) ?_
                    exact ih24 z26 q22.2 x33 pl ls H locs (by omega) (by omega) (by omega) hF hf173 hf174 hf175 hf176 hf177 hf178 hf179 hf180 hx_33 (by have h9 := hx_34; rw [show x34 = x31 by omega] at h9; exact h9) hE hR (lv_sub hl [0, 1, 2, 3] rfl) hO hP hD hS
              exact lp24 1000000 z23 q21.2 x30 pl ls _ _ (by omega) (by omega) (by omega) hF hf85 hf86 hf87 hf88 hf89 hf90 hf91 hf92 hx_30 hx_31 hE hR (lv_sub hl [0, 1, 2, 3] rfl) hO hP hD hS
          exact lp23 (256 - 207) 207 s25 ps22 pl ls _ _ (by omega) (by omega) (by omega) hF hf55 hf56 hf57 hf58 hf59 hf60 hf61 hf62 hf63 hf64 hE hR (lv_sub hl [0, 1, 2] rfl) hO hP hD hS
        | succ n22 ih22 =>
          intro i22 s25 ps22 pl ls H locs hm22 hi22 hF hf181 hf182 hf183 hf184 hf185 hf186 hf187 hf188 hf189 hf190 hE hR hl hO hP hD hS
          refine lv_iload hx hb dMH_ball_65 (lv_at hl 0 rfl) ?_
          refine lv_sipush (v := nI 256) hx hb dMH_ball_67 (by decide) ?_
          refine mi_ge (tgt := 87) hx hb dMH_ball_70 (by decide) (by omega) (by omega) (fun h29 => absurd h29 (by omega)) (fun h29 => ?_)
          refine lv_aload_n hx hb dMH_ball_73 rfl (lv_at hl 2 rfl) ?_
          refine nw_get (C := "LatticeKeysModel$Hands") (TT := T_MH) (N := 31) hx hb hts (wg_ft i_MH) hown hK hO k_h0 (kn := 225) (ci := 12) (fl := [(3, 172), (3, 181), (3, 226), (3, 291), (3, 299), (3, 308), (3, 317), (3, 326), (3, 334), (3, 342), (3, 350), (3, 359), (3, 368), (3, 369), (3, 370), (3, 371), (3, 372), (3, 373), (3, 374), (3, 375), (3, 376), (3, 377), (3, 378), (0, 0), (0, 0), (0, 0), (0, 0), (0, 0), (0, 0), (0, 0), (0, 0)]) rfl hP rfl 12 (by decide) (hts _ (wg_t kw_1444)) (fun _ h9 => h9) (cd := (3, 368)) rfl dMH_ball_74 (fun v36 hv36 => ?_)
          obtain ⟨r34, rfl, kr32⟩ := (show ∃ r : Nat, v36 = .ref r ∧ T r = some 368 from hv36)
          refine lv_iload hx hb dMH_ball_77 (lv_at hl 0 rfl) ?_
          refine lv_iconst (v := nI 0) hx hb dMH_ball_79 (by decide) ?_
          refine nw_iast hx hb hK hO hU kr32 (k := 368) rfl hP hD hS (by omega) (by omega) dMH_ball_80 (fun s34 pl H locs es27 hO hP hD hS => ?_)
          replace hR := bnd_step hR es27
          replace hE := bndP_step hE es27
          have hF := frm_sI hF es27 (by unfold M_MH_ball_1; omega)
          have hf191 : s34.1 225 23 = nI 1 := fc_ne hf181 es27 (by omega)
          have hf192 : s34.1 225 24 = nI 6 := fc_ne hf182 es27 (by omega)
          have hf193 : s34.1 225 25 = nI 5 := fc_ne hf183 es27 (by omega)
          have hf194 : s34.1 225 26 = nI 4 := fc_ne hf184 es27 (by omega)
          have hf195 : s34.1 225 27 = nI 524288 := fc_ne hf185 es27 (by omega)
          have hf196 : s34.1 225 28 = nI 261888 := fc_ne hf186 es27 (by omega)
          have hf197 : s34.1 225 29 = nI 196 := fc_ne hf187 es27 (by omega)
          have hf198 : s34.1 225 30 = nI 48 := fc_ne hf188 es27 (by omega)
          have hf199 : s34.1 172 6 = nI ps22 := fc_ne hf189 es27 (by omega)
          have hf200 : s34.1 172 5 = nI x28 := fc_ne hf190 es27 (by omega)
          refine mi_iinc (k := 0) (x := i22) (d := 1) (y := i22 + 1) (lv' := [(4, .int (nI (i22 + 1))), (2, .long y21), (0, .ref h0)]) hx hb dMH_ball_81 hl rfl (by decide) rfl (by decide) rfl (fun ls hl => ?_)
          refine lv_goto (tgt := 65) hx hb dMH_ball_84 (by decide) ?_
          exact ih22 (i22 + 1) s34 ps22 pl ls H locs (by omega) (by omega) hF hf191 hf192 hf193 hf194 hf195 hf196 hf197 hf198 hf199 hf200 hE hR (lv_sub hl [0, 1, 2] rfl) hO hP hD hS
      exact lp22 256 0 s24 ps21 pl ls _ _ (by omega) (by omega) hF hf45 hf46 hf47 hf48 hf49 hf50 hf51 hf52 hf53 hf54 hE hR (lv_sub hl [0, 1, 2] rfl) hO hP hD hS
    | succ n21 ih21 =>
      intro i21 y21 s24 ps21 pl ls H locs hm21 hi21 hF hf201 hf202 hf203 hf204 hf205 hf206 hf207 hf208 hf209 hf210 hE hR hl hO hP hD hS
      refine lv_iload hx hb dMH_ball_32 (lv_at hl 0 rfl) ?_
      refine lv_bipush (v := nI 8) hx hb dMH_ball_34 (by decide) ?_
      refine mi_ge (tgt := 62) hx hb dMH_ball_36 (by decide) (by omega) (by omega) (fun h30 => absurd h30 (by omega)) (fun h30 => ?_)
      refine lv_lload_n hx hb dMH_ball_39 rfl (lv_at hl 1 rfl) ?_
      refine lv_aload_n hx hb dMH_ball_40 rfl (lv_at hl 2 rfl) ?_
      refine nw_get (C := "LatticeKeysModel$Hands") (TT := T_MH) (N := 31) hx hb hts (wg_ft i_MH) hown hK hO k_h0 (kn := 225) (ci := 12) (fl := [(3, 172), (3, 181), (3, 226), (3, 291), (3, 299), (3, 308), (3, 317), (3, 326), (3, 334), (3, 342), (3, 350), (3, 359), (3, 368), (3, 369), (3, 370), (3, 371), (3, 372), (3, 373), (3, 374), (3, 375), (3, 376), (3, 377), (3, 378), (0, 0), (0, 0), (0, 0), (0, 0), (0, 0), (0, 0), (0, 0), (0, 0)]) rfl hP rfl 0 (by decide) (hts _ (wg_t kw_1432)) (fun _ h9 => h9) (cd := (3, 172)) rfl dMH_ball_41 (fun v37 hv37 => ?_)
      obtain ⟨r35, rfl, kr33⟩ := (show ∃ r : Nat, v37 = .ref r ∧ T r = some 172 from hv37)
      refine mp_i (cx := []) (wr := []) hP hD hS hA [] [] rfl rfl rfl (by decide) (va_runV (As := []) (rest := [.long y21]) F (N_MS_next l g _ T s24 pl hO hU r35 ps21 x28 kr33 hf209 hf210 (by omega) (by omega)) (cwV 0 hts (wg_app (wg_c kw_1724 (wg_c kw_1638 (wg_c kw_1639 (wg_c kw_10 wg_n)))) kw_1640) rfl rfl rfl (by decide +kernel) ⟨by decide, by decide⟩) (pn_V (en_ok g) (ci := 9) (kn := 172) (fl := [(3, 173), (3, 174), (3, 175), (3, 176), (3, 177), (0, 0), (0, 0), (0, 0)]) hK hO kr33 rfl hP hD hS hA hEn [] rfl rfl rfl) rfl rfl hl.1 rfl (lv_room (Nat.le_of_ble_eq_true rfl)) dMH_ball_44 ⟨by omega, by omega⟩) (fun r36 u26 H locs hu26 hP hD hS => ?_)
      obtain ⟨q23, pl⟩ := u26
      obtain ⟨⟨eq26, rfl, hFc26, ⟨x38, hx_38, hb_38⟩, ⟨x36, hx_36, hb_36⟩, ⟨x37, hx_37, hb_37⟩, -⟩, hO⟩ := hu26
      have hO : okn g T q23.2 pl := hO
      have hP : va_P g.1 vcl ([] ++ pl) _ := hP
      have hD : va_D _ ([] ++ pl) := hD
      have hFc26 : frm (M_MS_next) s24 q23.2 := hFc26
      have hb_36 : x36 ≤ x28 := hb_36
      have hb_37 : x37 = x28 := hb_37
      have hb_38 : x38 < 256 := hb_38
      replace hR := bnd_step hR eq26
      replace hE := bndP_step hE eq26
      have hF := frm_tr hF hFc26 (fun k hk => by unfold M_MS_next at hk; unfold M_MH_ball_1; omega)
      have hf211 : q23.2.1 225 23 = nI 1 := fc_F hf201 hFc26 (by unfold M_MS_next; omega)
      have hf212 : q23.2.1 225 24 = nI 6 := fc_F hf202 hFc26 (by unfold M_MS_next; omega)
      have hf213 : q23.2.1 225 25 = nI 5 := fc_F hf203 hFc26 (by unfold M_MS_next; omega)
      have hf214 : q23.2.1 225 26 = nI 4 := fc_F hf204 hFc26 (by unfold M_MS_next; omega)
      have hf215 : q23.2.1 225 27 = nI 524288 := fc_F hf205 hFc26 (by unfold M_MS_next; omega)
      have hf216 : q23.2.1 225 28 = nI 261888 := fc_F hf206 hFc26 (by unfold M_MS_next; omega)
      have hf217 : q23.2.1 225 29 = nI 196 := fc_F hf207 hFc26 (by unfold M_MS_next; omega)
      have hf218 : q23.2.1 225 30 = nI 48 := fc_F hf208 hFc26 (by unfold M_MS_next; omega)
      obtain ⟨z27, ez27, hz33, hz34⟩ := cl_of (b := 2147483648) hx_38 (by omega) (by decide)
      replace hR := bnd_step hR ez27
      replace hE := bndP_step hE ez27
      refine mi_as hz33 ?_
      refine W.widen (k := 0) (n := 0) (by omega) (by omega) ?_
      refine lv_i2l hx hb dMH_ball_47 rfl ?_
      refine lv_bipush (v := nI 8) hx hb dMH_ball_48 (by decide) ?_
      refine lv_iload hx hb dMH_ball_50 (lv_at hl 0 rfl) ?_
      refine mi_imul hx hb dMH_ball_52 ?_
      refine lv_lshl hx hb dMH_ball_53 rfl ?_
      refine lv_lor hx hb dMH_ball_54 ?_
      refine ml_eqv (fun y22 ez28 => ?_)
      replace hR := bnd_step hR ez28
      replace hE := bndP_step hE ez28
      refine lv_lstore_n (lv' := [(2, .long y22), (4, .int (nI i21)), (0, .ref h0)]) hx hb dMH_ball_55 rfl hl (by decide) rfl (fun ls hl => ?_)
      refine mi_iinc (k := 1) (x := i21) (d := 1) (y := i21 + 1) (lv' := [(4, .int (nI (i21 + 1))), (2, .long y22), (0, .ref h0)]) hx hb dMH_ball_56 hl rfl (by decide) rfl (by decide) rfl (fun ls hl => ?_)
      refine lv_goto (tgt := 32) hx hb dMH_ball_59 (by decide) ?_
      exact ih21 (i21 + 1) y22 q23.2 x36 pl ls H locs (by omega) (by omega) hF hf211 hf212 hf213 hf214 hf215 hf216 hf217 hf218 hx_36 (by have h9 := hx_37; rw [show x37 = x28 by omega] at h9; exact h9) hE hR (lv_sub hl [0, 1, 2] rfl) hO hP hD hS
  exact lp21 8 0 0 s23 x27 pl ls _ _ (by omega) (by omega) hF hf37 hf38 hf39 hf40 hf41 hf42 hf43 hf44 hx_27 hx_28 hE hR (lv_sub hl [0, 1, 2] rfl) hO hP hD hS
def M_MH_ball_2 (k : Nat) : Prop := k = 172 ∨ k = 368 ∨ (0 : Nat) = 1
noncomputable def F_MH_ball_2_L3 (y21 : Int64) (i23 : Nat) (kk : Nat → Sto → Sto) : Nat → Nat → Sto → Sto
  | 0, jj21, s27 => bnd (sI s27 368 i23 (s27.1 368 jj21)) fun s28 => bnd ((s28.1 225 23).toNatClampNeg) fun z24 => if (lg_cmp (((y21.toUInt64 >>> (((nI (i23 + 60)) - (nI 256)).toInt64.toUInt64 &&& Int64.toUInt64 63)).toInt64) &&& 1) 1) = 0 then bnd (sI s28 368 jj21 (-1)) fun s30 => kk (i23 + 1) s30 else bnd (sI s28 368 jj21 (nI 1)) fun s29 => kk (i23 + 1) s29
  | n24 + 1, jj21, s27 => if jj21 ≤ i23 then bnd (sI s27 368 i23 (s27.1 368 jj21)) fun s31 => bnd ((s31.1 225 23).toNatClampNeg) fun z25 => if (lg_cmp (((y21.toUInt64 >>> (((nI (i23 + 60)) - (nI 256)).toInt64.toUInt64 &&& Int64.toUInt64 63)).toInt64) &&& 1) 1) = 0 then bnd (sI s31 368 jj21 (-1)) fun s33 => kk (i23 + 1) s33 else bnd (sI s31 368 jj21 (nI 1)) fun s32 => kk (i23 + 1) s32 else bnd (F_MS_next  s27) fun q22 => bnd (q22.1.toNatClampNeg) fun z26 => F_MH_ball_2_L3 y21 i23 kk n24 z26 q22.2
noncomputable def E_MH_ball_2_L3 (y21 : Int64) (i23 : Nat) (ke : Nat → Sto → Prop) : Nat → Nat → Sto → Prop
  | 0, jj21, s27 => (jj21 ≤ i23) ∧ (bnd (sI s27 368 i23 (s27.1 368 jj21)) fun s28 => bnd ((s28.1 225 23).toNatClampNeg) fun z24 => if (lg_cmp (((y21.toUInt64 >>> (((nI (i23 + 60)) - (nI 256)).toInt64.toUInt64 &&& Int64.toUInt64 63)).toInt64) &&& 1) 1) = 0 then bnd (sI s28 368 jj21 (-1)) fun s30 => ke (i23 + 1) s30 else bnd (sI s28 368 jj21 (nI 1)) fun s29 => ke (i23 + 1) s29)
  | n24 + 1, jj21, s27 => if jj21 ≤ i23 then bnd (sI s27 368 i23 (s27.1 368 jj21)) fun s31 => bnd ((s31.1 225 23).toNatClampNeg) fun z25 => if (lg_cmp (((y21.toUInt64 >>> (((nI (i23 + 60)) - (nI 256)).toInt64.toUInt64 &&& Int64.toUInt64 63)).toInt64) &&& 1) 1) = 0 then bnd (sI s31 368 jj21 (-1)) fun s33 => ke (i23 + 1) s33 else bnd (sI s31 368 jj21 (nI 1)) fun s32 => ke (i23 + 1) s32 else bnd (F_MS_next  s27) fun q22 => bnd (q22.1.toNatClampNeg) fun z26 => E_MH_ball_2_L3 y21 i23 ke n24 z26 q22.2
noncomputable def F_MH_ball_2_L2 (y21 : Int64) : Nat → Nat → Sto → Sto
  | 0, i23, s26 => s26
  | n23 + 1, i23, s26 => bnd (F_MS_next  s26) fun q21 => bnd (q21.1.toNatClampNeg) fun z23 => F_MH_ball_2_L3 y21 i23 (F_MH_ball_2_L2 y21 n23) 1000000 z23 q21.2
noncomputable def E_MH_ball_2_L2 (y21 : Int64) : Nat → Nat → Sto → Prop
  | 0, i23, s26 => True
  | n23 + 1, i23, s26 => bnd (F_MS_next  s26) fun q21 => bnd (q21.1.toNatClampNeg) fun z23 => E_MH_ball_2_L3 y21 i23 (E_MH_ball_2_L2 y21 n23) 1000000 z23 q21.2
noncomputable def F_MH_ball_2_L1 (y21 : Int64) : Nat → Nat → Sto → Sto
  | 0, i22, s25 => bnd ((s25.1 225 23).toNatClampNeg) fun z22 => F_MH_ball_2_L2 y21 (256 - 196) 196 s25
  | n22 + 1, i22, s25 => bnd (sI s25 368 i22 (nI 0)) fun s34 => F_MH_ball_2_L1 y21 n22 (i22 + 1) s34
noncomputable def E_MH_ball_2_L1 (y21 : Int64) : Nat → Nat → Sto → Prop
  | 0, i22, s25 => bnd ((s25.1 225 23).toNatClampNeg) fun z22 => E_MH_ball_2_L2 y21 (256 - 196) 196 s25
  | n22 + 1, i22, s25 => bnd (sI s25 368 i22 (nI 0)) fun s34 => E_MH_ball_2_L1 y21 n22 (i22 + 1) s34
noncomputable def F_MH_ball_2_L0 : Nat → Nat → Int64 → Sto → Sto
  | 0, i21, y21, s24 => F_MH_ball_2_L1 y21 256 0 s24
  | n21 + 1, i21, y21, s24 => bnd (F_MS_next  s24) fun q23 => bnd (q23.1.toNatClampNeg) fun z27 => bnd ((y21 ||| (((nI z27).toInt64) <<< ((nI (8 * i21)).toInt64 &&& 63)))) fun y22 => F_MH_ball_2_L0  n21 (i21 + 1) y22 q23.2
noncomputable def E_MH_ball_2_L0 : Nat → Nat → Int64 → Sto → Prop
  | 0, i21, y21, s24 => E_MH_ball_2_L1 y21 256 0 s24
  | n21 + 1, i21, y21, s24 => bnd (F_MS_next  s24) fun q23 => bnd (q23.1.toNatClampNeg) fun z27 => bnd ((y21 ||| (((nI z27).toInt64) <<< ((nI (8 * i21)).toInt64 &&& 63)))) fun y22 => E_MH_ball_2_L0  n21 (i21 + 1) y22 q23.2
noncomputable def F_MH_ball_2 (pb : Nat) (s : Sto) : Sto := bnd (F_MS_shake  s) fun s21 => bnd ((s21.1 225 30).toNatClampNeg) fun z21 => bnd (F_MS_puts pb 64 0 64 s21) fun s22 => bnd (F_MS_end  s22) fun s23 => F_MH_ball_2_L0 8 0 0 s23
noncomputable def E_MH_ball_2 (pb : Nat) (s : Sto) : Prop := bnd (F_MS_shake  s) fun s21 => bnd ((s21.1 225 30).toNatClampNeg) fun z21 => bnd (F_MS_puts pb 64 0 64 s21) fun s22 => bnd (F_MS_end  s22) fun s23 => E_MH_ball_2_L0 8 0 0 s23
set_option maxHeartbeats 8000000 in
set_option maxRecDepth 100000 in
theorem N_MH_ball_2 (l : Launch) (g : Gd) (sz : Nat) (T : TyN) (s : Sto) (pl : va_W) (hO : okn g T s pl) (hU : inj T) (h0 b : Nat) (pb : Nat) (k_h0 : T h0 = some 225) (k_b : T b = some pb) (n_b : nsp pb = (1, 64, [])) (e_c0 : s.1 225 23 = nI 2) (e_c1 : s.1 225 24 = nI 8) (e_c2 : s.1 225 25 = nI 7) (e_c3 : s.1 225 26 = nI 2) (e_c4 : s.1 225 27 = nI 524288) (e_c5 : s.1 225 28 = nI 261888) (e_c6 : s.1 225 29 = nI 120) (e_c7 : s.1 225 30 = nI 64) (hE : E_MH_ball_2 pb s)  : Met l y_MH_ball w_MH_ball ({ frames := 4, cells := 0, slots := 0, locals := 90 } : Room) (va_Pc [.ref h0, .ref b] (pr (en g) g.1 vcl sz ([] ++ pl))) (va_Qv (fun (u : (Sto) × va_W) => (u.1 = F_MH_ball_2 pb s ∧ frm (M_MH_ball_2) s u.1 ∧ True) ∧ okn g T u.1 u.2) (po g.1 vcl (va_A ([] ++ pl) sz) (fun (u : (Sto) × va_W) => [] ++ u.2)) (va_A ([] ++ pl) sz)) 0 0 (va_A ([] ++ pl) sz) := by
  refine mc_entry (cc := c_MH_ball) (maxL := 6) (ret := none) (by decide) rfl (Nat.le_of_ble_eq_true rfl) ?_
  intro p e s0 m args below meth c ls F hr hlk hnm hsz hP hD hEn hA hl
  obtain ⟨hx, hb, hml, hown, hts⟩ := id F
  have hK := hEn.1
  generalize va_A ([] ++ pl) sz = A at hD hEn hA ⊢
  have hS : va_S A s0.heap s0.heap [] := va_S.rf
  have hl : lv_has ls 6 [(0, .ref h0), (1, .ref b)] := hl
  have hR : F_MH_ball_2 pb s = F_MH_ball_2 pb s := rfl
  have hF : frm (M_MH_ball_2) s s := frm_rf
  have ne_172_pb : 172 ≠ pb := nsp_ne (p := 172) rfl n_b (show (5 : Nat) ≠ 1 by decide)
  have ne_225_pb : 225 ≠ pb := nsp_ne (p := 225) rfl n_b (show (5 : Nat) ≠ 1 by decide)
  refine lv_aload_n hx hb dMH_ball_0 rfl (lv_at hl 0 rfl) ?_
  refine nw_get (C := "LatticeKeysModel$Hands") (TT := T_MH) (N := 31) hx hb hts (wg_ft i_MH) hown hK hO k_h0 (kn := 225) (ci := 12) (fl := [(3, 172), (3, 181), (3, 226), (3, 291), (3, 299), (3, 308), (3, 317), (3, 326), (3, 334), (3, 342), (3, 350), (3, 359), (3, 368), (3, 369), (3, 370), (3, 371), (3, 372), (3, 373), (3, 374), (3, 375), (3, 376), (3, 377), (3, 378), (0, 0), (0, 0), (0, 0), (0, 0), (0, 0), (0, 0), (0, 0), (0, 0)]) rfl hP rfl 0 (by decide) (hts _ (wg_t kw_1432)) (fun _ h9 => h9) (cd := (3, 172)) rfl dMH_ball_1 (fun v21 hv21 => ?_)
  obtain ⟨r21, rfl, kr21⟩ := (show ∃ r : Nat, v21 = .ref r ∧ T r = some 172 from hv21)
  refine mp_v (cx := []) (wr := []) hP hD hS hA [] [] rfl rfl rfl (by decide) (va_runV (As := []) (rest := []) F (N_MS_shake l g _ T s pl hO hU r21 kr21) (cwV 0 hts (wg_app (wg_c kw_1714 (wg_c kw_1657 (wg_c kw_1658 (wg_c kw_10 wg_n)))) kw_1659) rfl rfl rfl (by decide +kernel) ⟨by decide, by decide⟩) (pn_V (en_ok g) (ci := 9) (kn := 172) (fl := [(3, 173), (3, 174), (3, 175), (3, 176), (3, 177), (0, 0), (0, 0), (0, 0)]) hK hO kr21 rfl hP hD hS hA hEn [] rfl rfl rfl) rfl rfl hl.1 rfl (lv_room (Nat.le_of_ble_eq_true rfl)) dMH_ball_4 ⟨by omega, by omega⟩) (fun  u21 H locs hu21 hP hD hS => ?_)
  obtain ⟨s21, pl⟩ := u21
  obtain ⟨⟨eq21, hFc21, ⟨x21, hx_21, hb_21⟩, ⟨x22, hx_22, hb_22⟩, -⟩, hO⟩ := hu21
  have hO : okn g T s21 pl := hO
  have hP : va_P g.1 vcl ([] ++ pl) _ := hP
  have hD : va_D _ ([] ++ pl) := hD
  have hFc21 : frm (M_MS_shake) s s21 := hFc21
  have hb_21 : x21 = 0 := hb_21
  have hb_22 : x22 = 136 := hb_22
  replace hR := bnd_step hR eq21
  replace hE := bndP_step hE eq21
  have hF := frm_tr hF hFc21 (fun k hk => by unfold M_MS_shake at hk; unfold M_MH_ball_2; omega)
  have hf21 : s21.1 225 23 = nI 2 := fc_F e_c0 hFc21 (by unfold M_MS_shake; omega)
  have hf22 : s21.1 225 24 = nI 8 := fc_F e_c1 hFc21 (by unfold M_MS_shake; omega)
  have hf23 : s21.1 225 25 = nI 7 := fc_F e_c2 hFc21 (by unfold M_MS_shake; omega)
  have hf24 : s21.1 225 26 = nI 2 := fc_F e_c3 hFc21 (by unfold M_MS_shake; omega)
  have hf25 : s21.1 225 27 = nI 524288 := fc_F e_c4 hFc21 (by unfold M_MS_shake; omega)
  have hf26 : s21.1 225 28 = nI 261888 := fc_F e_c5 hFc21 (by unfold M_MS_shake; omega)
  have hf27 : s21.1 225 29 = nI 120 := fc_F e_c6 hFc21 (by unfold M_MS_shake; omega)
  have hf28 : s21.1 225 30 = nI 64 := fc_F e_c7 hFc21 (by unfold M_MS_shake; omega)
  refine W.widen (k := 0) (n := 0) (by omega) (by omega) ?_
  refine lv_aload_n hx hb dMH_ball_7 rfl (lv_at hl 0 rfl) ?_
  refine nw_get (C := "LatticeKeysModel$Hands") (TT := T_MH) (N := 31) hx hb hts (wg_ft i_MH) hown hK hO k_h0 (kn := 225) (ci := 12) (fl := [(3, 172), (3, 181), (3, 226), (3, 291), (3, 299), (3, 308), (3, 317), (3, 326), (3, 334), (3, 342), (3, 350), (3, 359), (3, 368), (3, 369), (3, 370), (3, 371), (3, 372), (3, 373), (3, 374), (3, 375), (3, 376), (3, 377), (3, 378), (0, 0), (0, 0), (0, 0), (0, 0), (0, 0), (0, 0), (0, 0), (0, 0)]) rfl hP rfl 0 (by decide) (hts _ (wg_t kw_1432)) (fun _ h9 => h9) (cd := (3, 172)) rfl dMH_ball_8 (fun v22 hv22 => ?_)
  obtain ⟨r22, rfl, kr22⟩ := (show ∃ r : Nat, v22 = .ref r ∧ T r = some 172 from hv22)
  refine lv_aload_n hx hb dMH_ball_11 rfl (lv_at hl 1 rfl) ?_
  refine lv_iconst (v := nI 0) hx hb dMH_ball_12 (by decide) ?_
  refine lv_aload_n hx hb dMH_ball_13 rfl (lv_at hl 0 rfl) ?_
  refine nw_get (C := "LatticeKeysModel$Hands") (TT := T_MH) (N := 31) hx hb hts (wg_ft i_MH) hown hK hO k_h0 (kn := 225) (ci := 12) (fl := [(3, 172), (3, 181), (3, 226), (3, 291), (3, 299), (3, 308), (3, 317), (3, 326), (3, 334), (3, 342), (3, 350), (3, 359), (3, 368), (3, 369), (3, 370), (3, 371), (3, 372), (3, 373), (3, 374), (3, 375), (3, 376), (3, 377), (3, 378), (0, 0), (0, 0), (0, 0), (0, 0), (0, 0), (0, 0), (0, 0), (0, 0)]) rfl hP rfl 30 (by decide) (hts _ (wg_t kw_1462)) (fun _ h9 => h9) (cd := (0, 0)) rfl dMH_ball_14 (fun v23 hv23 => ?_)
  obtain rfl := (show v23 = .int (s21.1 225 30) from hv23)
  obtain ⟨z21, ez21, hz21, hz22⟩ := cl_of (b := 2147483648) hf28 (by omega) (by decide)
  replace hR := bnd_step hR ez21
  replace hE := bndP_step hE ez21
  refine mi_as hz21 ?_
  subst hz22
  refine mp_v (cx := []) (wr := []) hP hD hS hA [] [] rfl rfl rfl (by decide) (va_runV (As := [.ref b, .int (nI 0), .int (nI 64)]) (rest := []) F (N_MS_puts l g _ T s21 pl hO hU r22 b pb 64 0 64 x21 x22 kr22 k_b n_b hx_21 hx_22 (by omega) (by omega) (by omega) (by omega)) (cwV 3 hts (wg_app (wg_c kw_1715 (wg_c kw_1608 (wg_c kw_1609 (wg_c kw_10 wg_n)))) kw_1610) rfl rfl rfl (by decide +kernel) ⟨by decide, by decide⟩) (pn_V (en_ok g) (ci := 9) (kn := 172) (fl := [(3, 173), (3, 174), (3, 175), (3, 176), (3, 177), (0, 0), (0, 0), (0, 0)]) hK hO kr22 rfl hP hD hS hA hEn [] rfl rfl rfl) rfl rfl hl.1 rfl (lv_room (Nat.le_of_ble_eq_true rfl)) dMH_ball_17 ⟨by omega, by omega⟩) (fun  u22 H locs hu22 hP hD hS => ?_)
  obtain ⟨s22, pl⟩ := u22
  obtain ⟨⟨eq22, hFc22, ⟨x24, hx_24, hb_24⟩, ⟨x25, hx_25, hb_25⟩, -⟩, hO⟩ := hu22
  have hO : okn g T s22 pl := hO
  have hP : va_P g.1 vcl ([] ++ pl) _ := hP
  have hD : va_D _ ([] ++ pl) := hD
  have hFc22 : frm (M_MS_puts) s21 s22 := hFc22
  have hb_24 : x24 < x22 := hb_24
  have hb_25 : x25 = x22 := hb_25
  replace hR := bnd_step hR eq22
  replace hE := bndP_step hE eq22
  have hF := frm_tr hF hFc22 (fun k hk => by unfold M_MS_puts at hk; unfold M_MH_ball_2; omega)
  have hf29 : s22.1 225 23 = nI 2 := fc_F hf21 hFc22 (by unfold M_MS_puts; omega)
  have hf30 : s22.1 225 24 = nI 8 := fc_F hf22 hFc22 (by unfold M_MS_puts; omega)
  have hf31 : s22.1 225 25 = nI 7 := fc_F hf23 hFc22 (by unfold M_MS_puts; omega)
  have hf32 : s22.1 225 26 = nI 2 := fc_F hf24 hFc22 (by unfold M_MS_puts; omega)
  have hf33 : s22.1 225 27 = nI 524288 := fc_F hf25 hFc22 (by unfold M_MS_puts; omega)
  have hf34 : s22.1 225 28 = nI 261888 := fc_F hf26 hFc22 (by unfold M_MS_puts; omega)
  have hf35 : s22.1 225 29 = nI 120 := fc_F hf27 hFc22 (by unfold M_MS_puts; omega)
  have hf36 : s22.1 225 30 = nI 64 := fc_F hf28 hFc22 (by unfold M_MS_puts; omega)
  refine W.widen (k := 0) (n := 0) (by omega) (by omega) ?_
  refine lv_aload_n hx hb dMH_ball_20 rfl (lv_at hl 0 rfl) ?_
  refine nw_get (C := "LatticeKeysModel$Hands") (TT := T_MH) (N := 31) hx hb hts (wg_ft i_MH) hown hK hO k_h0 (kn := 225) (ci := 12) (fl := [(3, 172), (3, 181), (3, 226), (3, 291), (3, 299), (3, 308), (3, 317), (3, 326), (3, 334), (3, 342), (3, 350), (3, 359), (3, 368), (3, 369), (3, 370), (3, 371), (3, 372), (3, 373), (3, 374), (3, 375), (3, 376), (3, 377), (3, 378), (0, 0), (0, 0), (0, 0), (0, 0), (0, 0), (0, 0), (0, 0), (0, 0)]) rfl hP rfl 0 (by decide) (hts _ (wg_t kw_1432)) (fun _ h9 => h9) (cd := (3, 172)) rfl dMH_ball_21 (fun v24 hv24 => ?_)
  obtain ⟨r23, rfl, kr23⟩ := (show ∃ r : Nat, v24 = .ref r ∧ T r = some 172 from hv24)
  refine mp_v (cx := []) (wr := []) hP hD hS hA [] [] rfl rfl rfl (by decide) (va_runV (As := []) (rest := []) F (N_MS_end l g _ T s22 pl hO hU r23 x24 x25 kr23 hx_24 hx_25 (by omega) (by omega)) (cwV 0 hts (wg_app (wg_c kw_1717 (wg_c kw_1630 (wg_c kw_1631 (wg_c kw_10 wg_n)))) kw_1632) rfl rfl rfl (by decide +kernel) ⟨by decide, by decide⟩) (pn_V (en_ok g) (ci := 9) (kn := 172) (fl := [(3, 173), (3, 174), (3, 175), (3, 176), (3, 177), (0, 0), (0, 0), (0, 0)]) hK hO kr23 rfl hP hD hS hA hEn [] rfl rfl rfl) rfl rfl hl.1 rfl (lv_room (Nat.le_of_ble_eq_true rfl)) dMH_ball_24 ⟨by omega, by omega⟩) (fun  u23 H locs hu23 hP hD hS => ?_)
  obtain ⟨s23, pl⟩ := u23
  obtain ⟨⟨eq23, hFc23, ⟨x27, hx_27, hb_27⟩, ⟨x28, hx_28, hb_28⟩, -⟩, hO⟩ := hu23
  have hO : okn g T s23 pl := hO
  have hP : va_P g.1 vcl ([] ++ pl) _ := hP
  have hD : va_D _ ([] ++ pl) := hD
  have hFc23 : frm (M_MS_end) s22 s23 := hFc23
  have hb_27 : x27 = 0 := hb_27
  have hb_28 : x28 = x25 := hb_28
  replace hR := bnd_step hR eq23
  replace hE := bndP_step hE eq23
  have hF := frm_tr hF hFc23 (fun k hk => by unfold M_MS_end at hk; unfold M_MH_ball_2; omega)
  have hf37 : s23.1 225 23 = nI 2 := fc_F hf29 hFc23 (by unfold M_MS_end; omega)
  have hf38 : s23.1 225 24 = nI 8 := fc_F hf30 hFc23 (by unfold M_MS_end; omega)
  have hf39 : s23.1 225 25 = nI 7 := fc_F hf31 hFc23 (by unfold M_MS_end; omega)
  have hf40 : s23.1 225 26 = nI 2 := fc_F hf32 hFc23 (by unfold M_MS_end; omega)
  have hf41 : s23.1 225 27 = nI 524288 := fc_F hf33 hFc23 (by unfold M_MS_end; omega)
  have hf42 : s23.1 225 28 = nI 261888 := fc_F hf34 hFc23 (by unfold M_MS_end; omega)
  have hf43 : s23.1 225 29 = nI 120 := fc_F hf35 hFc23 (by unfold M_MS_end; omega)
  have hf44 : s23.1 225 30 = nI 64 := fc_F hf36 hFc23 (by unfold M_MS_end; omega)
  refine W.widen (k := 0) (n := 0) (by omega) (by omega) ?_
  refine lv_lconst (v := 0) hx hb dMH_ball_27 (by decide) ?_
  refine lv_lstore_n (lv' := [(2, .long 0), (0, .ref h0), (1, .ref b)]) hx hb dMH_ball_28 rfl hl (by decide) rfl (fun ls hl => ?_)
  refine lv_iconst (v := nI 0) hx hb dMH_ball_29 (by decide) ?_
  refine lv_istore (lv' := [(4, .int (nI 0)), (2, .long 0), (0, .ref h0), (1, .ref b)]) hx hb dMH_ball_30 hl (by decide) rfl (fun ls hl => ?_)
  have lp21 : ∀ (n21 : Nat) (i21 : Nat) (y21 : Int64) (s24 : Sto) (ps21 : Nat) (pl : va_W) (ls : Array Slot) (H : Heap) (locs : List Loc), n21 + i21 = 8 → (ps21 ≤ 136) → frm (M_MH_ball_2) s s24 → s24.1 225 23 = nI 2 → s24.1 225 24 = nI 8 → s24.1 225 25 = nI 7 → s24.1 225 26 = nI 2 → s24.1 225 27 = nI 524288 → s24.1 225 28 = nI 261888 → s24.1 225 29 = nI 120 → s24.1 225 30 = nI 64 → s24.1 172 6 = nI ps21 → s24.1 172 5 = nI x28 → E_MH_ball_2_L0 n21 i21 y21 s24 → F_MH_ball_2 pb s = F_MH_ball_2_L0 n21 i21 y21 s24 → lv_has ls 6 [(4, .int (nI i21)), (2, .long y21), (0, .ref h0)] → okn g T s24 pl → va_P g.1 vcl ([] ++ pl) H → va_D A ([] ++ pl) → va_S A s0.heap H locs → W p l e ({ frames := 4, cells := 0, slots := 0, locals := 90 } : Room) s0 m args below meth c H locs 0 0 (MQ below (va_Qv (fun (u : (Sto) × va_W) => (u.1 = F_MH_ball_2 pb s ∧ frm (M_MH_ball_2) s u.1 ∧ True) ∧ okn g T u.1 u.2) (po g.1 vcl A (fun (u : (Sto) × va_W) => [] ++ u.2)) A) args s0 0 0 A) (F0 m 32 ls []) := by
    intro n21
    induction n21 with
    | zero =>
      intro i21 y21 s24 ps21 pl ls H locs hm21 hi21 hF hf45 hf46 hf47 hf48 hf49 hf50 hf51 hf52 hf53 hf54 hE hR hl hO hP hD hS
      refine lv_iload hx hb dMH_ball_32 (lv_at hl 0 rfl) ?_
      refine lv_bipush (v := nI 8) hx hb dMH_ball_34 (by decide) ?_
      refine mi_ge (tgt := 62) hx hb dMH_ball_36 (by decide) (by omega) (by omega) (fun h21 => ?_) (fun h21 => absurd h21 (by omega))
      refine lv_iconst (v := nI 0) hx hb dMH_ball_62 (by decide) ?_
      refine lv_istore (lv' := [(4, .int (nI 0)), (2, .long y21), (0, .ref h0)]) hx hb dMH_ball_63 hl (by decide) rfl (fun ls hl => ?_)
      have lp22 : ∀ (n22 : Nat) (i22 : Nat) (s25 : Sto) (ps22 : Nat) (pl : va_W) (ls : Array Slot) (H : Heap) (locs : List Loc), n22 + i22 = 256 → (ps22 ≤ 136) → frm (M_MH_ball_2) s s25 → s25.1 225 23 = nI 2 → s25.1 225 24 = nI 8 → s25.1 225 25 = nI 7 → s25.1 225 26 = nI 2 → s25.1 225 27 = nI 524288 → s25.1 225 28 = nI 261888 → s25.1 225 29 = nI 120 → s25.1 225 30 = nI 64 → s25.1 172 6 = nI ps22 → s25.1 172 5 = nI x28 → E_MH_ball_2_L1 y21 n22 i22 s25 → F_MH_ball_2 pb s = F_MH_ball_2_L1 y21 n22 i22 s25 → lv_has ls 6 [(4, .int (nI i22)), (2, .long y21), (0, .ref h0)] → okn g T s25 pl → va_P g.1 vcl ([] ++ pl) H → va_D A ([] ++ pl) → va_S A s0.heap H locs → W p l e ({ frames := 4, cells := 0, slots := 0, locals := 90 } : Room) s0 m args below meth c H locs 0 0 (MQ below (va_Qv (fun (u : (Sto) × va_W) => (u.1 = F_MH_ball_2 pb s ∧ frm (M_MH_ball_2) s u.1 ∧ True) ∧ okn g T u.1 u.2) (po g.1 vcl A (fun (u : (Sto) × va_W) => [] ++ u.2)) A) args s0 0 0 A) (F0 m 65 ls []) := by
        intro n22
        induction n22 with
        | zero =>
          intro i22 s25 ps22 pl ls H locs hm22 hi22 hF hf55 hf56 hf57 hf58 hf59 hf60 hf61 hf62 hf63 hf64 hE hR hl hO hP hD hS
          refine lv_iload hx hb dMH_ball_65 (lv_at hl 0 rfl) ?_
          refine lv_sipush (v := nI 256) hx hb dMH_ball_67 (by decide) ?_
          refine mi_ge (tgt := 87) hx hb dMH_ball_70 (by decide) (by omega) (by omega) (fun h22 => ?_) (fun h22 => absurd h22 (by omega))
          refine lv_sipush (v := nI 256) hx hb dMH_ball_87 (by decide) ?_
          refine va_gets hx hb (hEn.2.1 26 _ rfl).1 hS hown (hts _ (wg_t kw_1712)) (fun _ h9 => h9) dMH_ball_90 ?_
          refine lv_aload_n hx hb dMH_ball_93 rfl (lv_at hl 2 rfl) ?_
          refine nw_get (C := "LatticeKeysModel$Hands") (TT := T_MH) (N := 31) hx hb hts (wg_ft i_MH) hown hK hO k_h0 (kn := 225) (ci := 12) (fl := [(3, 172), (3, 181), (3, 226), (3, 291), (3, 299), (3, 308), (3, 317), (3, 326), (3, 334), (3, 342), (3, 350), (3, 359), (3, 368), (3, 369), (3, 370), (3, 371), (3, 372), (3, 373), (3, 374), (3, 375), (3, 376), (3, 377), (3, 378), (0, 0), (0, 0), (0, 0), (0, 0), (0, 0), (0, 0), (0, 0), (0, 0)]) rfl hP rfl 23 (by decide) (hts _ (wg_t kw_1455)) (fun _ h9 => h9) (cd := (0, 0)) rfl dMH_ball_94 (fun v25 hv25 => ?_)
          obtain rfl := (show v25 = .int (s25.1 225 23) from hv25)
          obtain ⟨z22, ez22, hz23, hz24⟩ := cl_of (b := 2147483648) hf55 (by omega) (by decide)
          replace hR := bnd_step hR ez22
          replace hE := bndP_step hE ez22
          refine mi_as hz23 ?_
          subst hz24
          refine va_ti (v := .int (nI 60)) hx hb (hEn.2.1 26 _ rfl).2 hS (vp_in_nI (by decide) (by decide)) (by decide +kernel) dMH_ball_97 ?_
          refine mi_isub hx hb dMH_ball_98 (by omega) ?_
          refine mi_as (show nI (256 - 60) = nI 196 from rfl) ?_
          refine lv_istore (lv' := [(4, .int (nI 196)), (2, .long y21), (0, .ref h0)]) hx hb dMH_ball_99 hl (by decide) rfl (fun ls hl => ?_)
          have lp23 : ∀ (n23 : Nat) (i23 : Nat) (s26 : Sto) (ps23 : Nat) (pl : va_W) (ls : Array Slot) (H : Heap) (locs : List Loc), n23 + i23 = 256 → (ps23 ≤ 136) → (196 ≤ i23) → frm (M_MH_ball_2) s s26 → s26.1 225 23 = nI 2 → s26.1 225 24 = nI 8 → s26.1 225 25 = nI 7 → s26.1 225 26 = nI 2 → s26.1 225 27 = nI 524288 → s26.1 225 28 = nI 261888 → s26.1 225 29 = nI 120 → s26.1 225 30 = nI 64 → s26.1 172 6 = nI ps23 → s26.1 172 5 = nI x28 → E_MH_ball_2_L2 y21 n23 i23 s26 → F_MH_ball_2 pb s = F_MH_ball_2_L2 y21 n23 i23 s26 → lv_has ls 6 [(4, .int (nI i23)), (2, .long y21), (0, .ref h0)] → okn g T s26 pl → va_P g.1 vcl ([] ++ pl) H → va_D A ([] ++ pl) → va_S A s0.heap H locs → W p l e ({ frames := 4, cells := 0, slots := 0, locals := 90 } : Room) s0 m args below meth c H locs 0 0 (MQ below (va_Qv (fun (u : (Sto) × va_W) => (u.1 = F_MH_ball_2 pb s ∧ frm (M_MH_ball_2) s u.1 ∧ True) ∧ okn g T u.1 u.2) (po g.1 vcl A (fun (u : (Sto) × va_W) => [] ++ u.2)) A) args s0 0 0 A) (F0 m 101 ls []) := by
            intro n23
            induction n23 with
            | zero =>
              intro i23 s26 ps23 pl ls H locs hm23 hi23 hi24 hF hf65 hf66 hf67 hf68 hf69 hf70 hf71 hf72 hf73 hf74 hE hR hl hO hP hD hS
              refine lv_iload hx hb dMH_ball_101 (lv_at hl 0 rfl) ?_
              refine lv_sipush (v := nI 256) hx hb dMH_ball_103 (by decide) ?_
              refine mi_ge (tgt := 193) hx hb dMH_ball_106 (by decide) (by omega) (by omega) (fun h23 => ?_) (fun h23 => absurd h23 (by omega))
              exact mp_vret hx hb hr hlk hP hD hS (s26, pl) ⟨⟨hR.symm, hF, trivial⟩, hO⟩ [] rfl rfl rfl (by omega) (by omega) dMH_ball_193
            | succ n23 ih23 =>
              intro i23 s26 ps23 pl ls H locs hm23 hi23 hi24 hF hf75 hf76 hf77 hf78 hf79 hf80 hf81 hf82 hf83 hf84 hE hR hl hO hP hD hS
              refine lv_iload hx hb dMH_ball_101 (lv_at hl 0 rfl) ?_
              refine lv_sipush (v := nI 256) hx hb dMH_ball_103 (by decide) ?_
              refine mi_ge (tgt := 193) hx hb dMH_ball_106 (by decide) (by omega) (by omega) (fun h24 => absurd h24 (by omega)) (fun h24 => ?_)
              refine lv_aload_n hx hb dMH_ball_109 rfl (lv_at hl 2 rfl) ?_
              refine nw_get (C := "LatticeKeysModel$Hands") (TT := T_MH) (N := 31) hx hb hts (wg_ft i_MH) hown hK hO k_h0 (kn := 225) (ci := 12) (fl := [(3, 172), (3, 181), (3, 226), (3, 291), (3, 299), (3, 308), (3, 317), (3, 326), (3, 334), (3, 342), (3, 350), (3, 359), (3, 368), (3, 369), (3, 370), (3, 371), (3, 372), (3, 373), (3, 374), (3, 375), (3, 376), (3, 377), (3, 378), (0, 0), (0, 0), (0, 0), (0, 0), (0, 0), (0, 0), (0, 0), (0, 0)]) rfl hP rfl 0 (by decide) (hts _ (wg_t kw_1432)) (fun _ h9 => h9) (cd := (3, 172)) rfl dMH_ball_110 (fun v26 hv26 => ?_)
              obtain ⟨r24, rfl, kr24⟩ := (show ∃ r : Nat, v26 = .ref r ∧ T r = some 172 from hv26)
              refine mp_i (cx := []) (wr := []) hP hD hS hA [] [] rfl rfl rfl (by decide) (va_runV (As := []) (rest := []) F (N_MS_next l g _ T s26 pl hO hU r24 ps23 x28 kr24 hf83 hf84 (by omega) (by omega)) (cwV 0 hts (wg_app (wg_c kw_1724 (wg_c kw_1638 (wg_c kw_1639 (wg_c kw_10 wg_n)))) kw_1640) rfl rfl rfl (by decide +kernel) ⟨by decide, by decide⟩) (pn_V (en_ok g) (ci := 9) (kn := 172) (fl := [(3, 173), (3, 174), (3, 175), (3, 176), (3, 177), (0, 0), (0, 0), (0, 0)]) hK hO kr24 rfl hP hD hS hA hEn [] rfl rfl rfl) rfl rfl hl.1 rfl (lv_room (Nat.le_of_ble_eq_true rfl)) dMH_ball_113 ⟨by omega, by omega⟩) (fun r25 u24 H locs hu24 hP hD hS => ?_)
              obtain ⟨q21, pl⟩ := u24
              obtain ⟨⟨eq24, rfl, hFc24, ⟨x32, hx_32, hb_32⟩, ⟨x30, hx_30, hb_30⟩, ⟨x31, hx_31, hb_31⟩, -⟩, hO⟩ := hu24
              have hO : okn g T q21.2 pl := hO
              have hP : va_P g.1 vcl ([] ++ pl) _ := hP
              have hD : va_D _ ([] ++ pl) := hD
              have hFc24 : frm (M_MS_next) s26 q21.2 := hFc24
              have hb_30 : x30 ≤ x28 := hb_30
              have hb_31 : x31 = x28 := hb_31
              have hb_32 : x32 < 256 := hb_32
              replace hR := bnd_step hR eq24
              replace hE := bndP_step hE eq24
              have hF := frm_tr hF hFc24 (fun k hk => by unfold M_MS_next at hk; unfold M_MH_ball_2; omega)
              have hf85 : q21.2.1 225 23 = nI 2 := fc_F hf75 hFc24 (by unfold M_MS_next; omega)
              have hf86 : q21.2.1 225 24 = nI 8 := fc_F hf76 hFc24 (by unfold M_MS_next; omega)
              have hf87 : q21.2.1 225 25 = nI 7 := fc_F hf77 hFc24 (by unfold M_MS_next; omega)
              have hf88 : q21.2.1 225 26 = nI 2 := fc_F hf78 hFc24 (by unfold M_MS_next; omega)
              have hf89 : q21.2.1 225 27 = nI 524288 := fc_F hf79 hFc24 (by unfold M_MS_next; omega)
              have hf90 : q21.2.1 225 28 = nI 261888 := fc_F hf80 hFc24 (by unfold M_MS_next; omega)
              have hf91 : q21.2.1 225 29 = nI 120 := fc_F hf81 hFc24 (by unfold M_MS_next; omega)
              have hf92 : q21.2.1 225 30 = nI 64 := fc_F hf82 hFc24 (by unfold M_MS_next; omega)
              obtain ⟨z23, ez23, hz25, hz26⟩ := cl_of (b := 2147483648) hx_32 (by omega) (by decide)
              replace hR := bnd_step hR ez23
              replace hE := bndP_step hE ez23
              refine mi_as hz25 ?_
              refine W.widen (k := 0) (n := 0) (by omega) (by omega) ?_
              refine lv_istore (lv' := [(5, .int (nI z23)), (4, .int (nI i23)), (2, .long y21), (0, .ref h0)]) hx hb dMH_ball_116 hl (by decide) rfl (fun ls hl => ?_)
              have lp24 : ∀ (n24 : Nat) (jj21 : Nat) (s27 : Sto) (ps24 : Nat) (pl : va_W) (ls : Array Slot) (H : Heap) (locs : List Loc), 0 = 0 → (jj21 < 256) → (ps24 ≤ 136) → frm (M_MH_ball_2) s s27 → s27.1 225 23 = nI 2 → s27.1 225 24 = nI 8 → s27.1 225 25 = nI 7 → s27.1 225 26 = nI 2 → s27.1 225 27 = nI 524288 → s27.1 225 28 = nI 261888 → s27.1 225 29 = nI 120 → s27.1 225 30 = nI 64 → s27.1 172 6 = nI ps24 → s27.1 172 5 = nI x31 → E_MH_ball_2_L3 y21 i23 (E_MH_ball_2_L2 y21 n23) n24 jj21 s27 → F_MH_ball_2 pb s = F_MH_ball_2_L3 y21 i23 (F_MH_ball_2_L2 y21 n23) n24 jj21 s27 → lv_has ls 6 [(5, .int (nI jj21)), (4, .int (nI i23)), (2, .long y21), (0, .ref h0)] → okn g T s27 pl → va_P g.1 vcl ([] ++ pl) H → va_D A ([] ++ pl) → va_S A s0.heap H locs → W p l e ({ frames := 4, cells := 0, slots := 0, locals := 90 } : Room) s0 m args below meth c H locs 0 0 (MQ below (va_Qv (fun (u : (Sto) × va_W) => (u.1 = F_MH_ball_2 pb s ∧ frm (M_MH_ball_2) s u.1 ∧ True) ∧ okn g T u.1 u.2) (po g.1 vcl A (fun (u : (Sto) × va_W) => [] ++ u.2)) A) args s0 0 0 A) (F0 m 118 ls []) := by
                intro n24
                induction n24 with
                | zero =>
                  intro jj21 s27 ps24 pl ls H locs hm24 hi25 hi26 hF hf93 hf94 hf95 hf96 hf97 hf98 hf99 hf100 hf101 hf102 hE hR hl hO hP hD hS
                  refine lv_iload hx hb dMH_ball_118 (lv_at hl 0 rfl) ?_
                  refine lv_iload hx hb dMH_ball_120 (lv_at hl 1 rfl) ?_
                  refine mi_le (tgt := 137) hx hb dMH_ball_122 (by decide) (by omega) (by omega) (fun h25 => ?_) (fun h25 => absurd h25 (by have h9 : jj21 ≤ i23 := hE.1; omega))
                  replace hE := hE.2
                  refine lv_aload_n hx hb dMH_ball_137 rfl (lv_at hl 3 rfl) ?_
                  refine nw_get (C := "LatticeKeysModel$Hands") (TT := T_MH) (N := 31) hx hb hts (wg_ft i_MH) hown hK hO k_h0 (kn := 225) (ci := 12) (fl := [(3, 172), (3, 181), (3, 226), (3, 291), (3, 299), (3, 308), (3, 317), (3, 326), (3, 334), (3, 342), (3, 350), (3, 359), (3, 368), (3, 369), (3, 370), (3, 371), (3, 372), (3, 373), (3, 374), (3, 375), (3, 376), (3, 377), (3, 378), (0, 0), (0, 0), (0, 0), (0, 0), (0, 0), (0, 0), (0, 0), (0, 0)]) rfl hP rfl 12 (by decide) (hts _ (wg_t kw_1444)) (fun _ h9 => h9) (cd := (3, 368)) rfl dMH_ball_138 (fun v27 hv27 => ?_)
                  obtain ⟨r26, rfl, kr25⟩ := (show ∃ r : Nat, v27 = .ref r ∧ T r = some 368 from hv27)
                  refine lv_iload hx hb dMH_ball_141 (lv_at hl 1 rfl) ?_
                  refine lv_aload_n hx hb dMH_ball_143 rfl (lv_at hl 3 rfl) ?_
                  refine nw_get (C := "LatticeKeysModel$Hands") (TT := T_MH) (N := 31) hx hb hts (wg_ft i_MH) hown hK hO k_h0 (kn := 225) (ci := 12) (fl := [(3, 172), (3, 181), (3, 226), (3, 291), (3, 299), (3, 308), (3, 317), (3, 326), (3, 334), (3, 342), (3, 350), (3, 359), (3, 368), (3, 369), (3, 370), (3, 371), (3, 372), (3, 373), (3, 374), (3, 375), (3, 376), (3, 377), (3, 378), (0, 0), (0, 0), (0, 0), (0, 0), (0, 0), (0, 0), (0, 0), (0, 0)]) rfl hP rfl 12 (by decide) (hts _ (wg_t kw_1444)) (fun _ h9 => h9) (cd := (3, 368)) rfl dMH_ball_144 (fun v28 hv28 => ?_)
                  obtain ⟨r27, rfl, kr26⟩ := (show ∃ r : Nat, v28 = .ref r ∧ T r = some 368 from hv28)
                  refine lv_iload hx hb dMH_ball_147 (lv_at hl 0 rfl) ?_
                  refine nw_iald hx hb hK hO kr26 (k := 368) rfl hP (by omega) (by omega) dMH_ball_149 ?_
                  refine nw_iast hx hb hK hO hU kr25 (k := 368) rfl hP hD hS (by omega) (by omega) dMH_ball_150 (fun s28 pl H locs es21 hO hP hD hS => ?_)
                  replace hR := bnd_step hR es21
                  replace hE := bndP_step hE es21
                  have hF := frm_sI hF es21 (by unfold M_MH_ball_2; omega)
                  have hf103 : s28.1 225 23 = nI 2 := fc_ne hf93 es21 (by omega)
                  have hf104 : s28.1 225 24 = nI 8 := fc_ne hf94 es21 (by omega)
                  have hf105 : s28.1 225 25 = nI 7 := fc_ne hf95 es21 (by omega)
                  have hf106 : s28.1 225 26 = nI 2 := fc_ne hf96 es21 (by omega)
                  have hf107 : s28.1 225 27 = nI 524288 := fc_ne hf97 es21 (by omega)
                  have hf108 : s28.1 225 28 = nI 261888 := fc_ne hf98 es21 (by omega)
                  have hf109 : s28.1 225 29 = nI 120 := fc_ne hf99 es21 (by omega)
                  have hf110 : s28.1 225 30 = nI 64 := fc_ne hf100 es21 (by omega)
                  have hf111 : s28.1 172 6 = nI ps24 := fc_ne hf101 es21 (by omega)
                  have hf112 : s28.1 172 5 = nI x31 := fc_ne hf102 es21 (by omega)
                  refine lv_aload_n hx hb dMH_ball_151 rfl (lv_at hl 3 rfl) ?_
                  refine nw_get (C := "LatticeKeysModel$Hands") (TT := T_MH) (N := 31) hx hb hts (wg_ft i_MH) hown hK hO k_h0 (kn := 225) (ci := 12) (fl := [(3, 172), (3, 181), (3, 226), (3, 291), (3, 299), (3, 308), (3, 317), (3, 326), (3, 334), (3, 342), (3, 350), (3, 359), (3, 368), (3, 369), (3, 370), (3, 371), (3, 372), (3, 373), (3, 374), (3, 375), (3, 376), (3, 377), (3, 378), (0, 0), (0, 0), (0, 0), (0, 0), (0, 0), (0, 0), (0, 0), (0, 0)]) rfl hP rfl 12 (by decide) (hts _ (wg_t kw_1444)) (fun _ h9 => h9) (cd := (3, 368)) rfl dMH_ball_152 (fun v29 hv29 => ?_)
                  obtain ⟨r28, rfl, kr27⟩ := (show ∃ r : Nat, v29 = .ref r ∧ T r = some 368 from hv29)
                  refine lv_iload hx hb dMH_ball_155 (lv_at hl 0 rfl) ?_
                  refine lv_lload_n hx hb dMH_ball_157 rfl (lv_at hl 2 rfl) ?_
                  refine lv_iload hx hb dMH_ball_158 (lv_at hl 1 rfl) ?_
                  refine va_gets hx hb (hEn.2.1 26 _ rfl).1 hS hown (hts _ (wg_t kw_1712)) (fun _ h9 => h9) dMH_ball_160 ?_
                  refine lv_aload_n hx hb dMH_ball_163 rfl (lv_at hl 3 rfl) ?_
                  refine nw_get (C := "LatticeKeysModel$Hands") (TT := T_MH) (N := 31) hx hb hts (wg_ft i_MH) hown hK hO k_h0 (kn := 225) (ci := 12) (fl := [(3, 172), (3, 181), (3, 226), (3, 291), (3, 299), (3, 308), (3, 317), (3, 326), (3, 334), (3, 342), (3, 350), (3, 359), (3, 368), (3, 369), (3, 370), (3, 371), (3, 372), (3, 373), (3, 374), (3, 375), (3, 376), (3, 377), (3, 378), (0, 0), (0, 0), (0, 0), (0, 0), (0, 0), (0, 0), (0, 0), (0, 0)]) rfl hP rfl 23 (by decide) (hts _ (wg_t kw_1455)) (fun _ h9 => h9) (cd := (0, 0)) rfl dMH_ball_164 (fun v30 hv30 => ?_)
                  obtain rfl := (show v30 = .int (s28.1 225 23) from hv30)
                  obtain ⟨z24, ez24, hz27, hz28⟩ := cl_of (b := 2147483648) hf103 (by omega) (by decide)
                  replace hR := bnd_step hR ez24
                  replace hE := bndP_step hE ez24
                  refine mi_as hz27 ?_
                  subst hz28
                  refine va_ti (v := .int (nI 60)) hx hb (hEn.2.1 26 _ rfl).2 hS (vp_in_nI (by decide) (by decide)) (by decide +kernel) dMH_ball_167 ?_
                  refine mi_iadd hx hb dMH_ball_168 ?_
                  refine lv_sipush (v := nI 256) hx hb dMH_ball_169 (by decide) ?_
                  refine lv_isub hx hb dMH_ball_172 ?_
                  refine lv_lushr hx hb dMH_ball_173 rfl ?_
                  refine lv_lconst (v := 1) hx hb dMH_ball_174 (by decide) ?_
                  refine lv_land hx hb dMH_ball_175 ?_
                  refine lv_lconst (v := 1) hx hb dMH_ball_176 (by decide) ?_
                  refine W.lcmp hx hb dMH_ball_177 ?_
                  refine lv_if_ne (tgt := 185) hx hb dMH_ball_178 (by decide) (fun h26 => ?_) (fun h26 => ?_)
                  · replace hR := hR.trans (if_neg h26)
                    replace hE := iteP_neg h26 hE
                    refine lv_iconst (v := nI 1) hx hb dMH_ball_185 (by decide) ?_
                    refine nw_iast hx hb hK hO hU kr27 (k := 368) rfl hP hD hS (by omega) (by omega) dMH_ball_186 (fun s29 pl H locs es22 hO hP hD hS => ?_)
                    replace hR := bnd_step hR es22
                    replace hE := bndP_step hE es22
                    have hF := frm_sI hF es22 (by unfold M_MH_ball_2; omega)
                    have hf113 : s29.1 225 23 = nI 2 := fc_ne hf103 es22 (by omega)
                    have hf114 : s29.1 225 24 = nI 8 := fc_ne hf104 es22 (by omega)
                    have hf115 : s29.1 225 25 = nI 7 := fc_ne hf105 es22 (by omega)
                    have hf116 : s29.1 225 26 = nI 2 := fc_ne hf106 es22 (by omega)
                    have hf117 : s29.1 225 27 = nI 524288 := fc_ne hf107 es22 (by omega)
                    have hf118 : s29.1 225 28 = nI 261888 := fc_ne hf108 es22 (by omega)
                    have hf119 : s29.1 225 29 = nI 120 := fc_ne hf109 es22 (by omega)
                    have hf120 : s29.1 225 30 = nI 64 := fc_ne hf110 es22 (by omega)
                    have hf121 : s29.1 172 6 = nI ps24 := fc_ne hf111 es22 (by omega)
                    have hf122 : s29.1 172 5 = nI x31 := fc_ne hf112 es22 (by omega)
                    refine mi_iinc (k := 1) (x := i23) (d := 1) (y := i23 + 1) (lv' := [(4, .int (nI (i23 + 1))), (5, .int (nI jj21)), (2, .long y21), (0, .ref h0)]) hx hb dMH_ball_187 hl rfl (by decide) rfl (by decide) rfl (fun ls hl => ?_)
                    refine lv_goto (tgt := 101) hx hb dMH_ball_190 (by decide) ?_
                    exact ih23 (i23 + 1) s29 ps24 pl ls H locs (by omega) (by omega) (by omega) hF hf113 hf114 hf115 hf116 hf117 hf118 hf119 hf120 hf121 (by have h9 := hf122; rw [show x31 = x28 by omega] at h9; exact h9) hE hR (lv_sub hl [0, 2, 3] rfl) hO hP hD hS
                  · replace hR := hR.trans (if_pos h26)
                    replace hE := iteP_pos h26 hE
                    refine lv_iconst (v := (-1)) hx hb dMH_ball_181 (by decide) ?_
                    refine lv_goto (tgt := 186) hx hb dMH_ball_182 (by decide) ?_
                    refine nw_iast hx hb hK hO hU kr27 (k := 368) rfl hP hD hS (by omega) (by omega) dMH_ball_186 (fun s30 pl H locs es23 hO hP hD hS => ?_)
                    replace hR := bnd_step hR es23
                    replace hE := bndP_step hE es23
                    have hF := frm_sI hF es23 (by unfold M_MH_ball_2; omega)
                    have hf123 : s30.1 225 23 = nI 2 := fc_ne hf103 es23 (by omega)
                    have hf124 : s30.1 225 24 = nI 8 := fc_ne hf104 es23 (by omega)
                    have hf125 : s30.1 225 25 = nI 7 := fc_ne hf105 es23 (by omega)
                    have hf126 : s30.1 225 26 = nI 2 := fc_ne hf106 es23 (by omega)
                    have hf127 : s30.1 225 27 = nI 524288 := fc_ne hf107 es23 (by omega)
                    have hf128 : s30.1 225 28 = nI 261888 := fc_ne hf108 es23 (by omega)
                    have hf129 : s30.1 225 29 = nI 120 := fc_ne hf109 es23 (by omega)
                    have hf130 : s30.1 225 30 = nI 64 := fc_ne hf110 es23 (by omega)
                    have hf131 : s30.1 172 6 = nI ps24 := fc_ne hf111 es23 (by omega)
                    have hf132 : s30.1 172 5 = nI x31 := fc_ne hf112 es23 (by omega)
                    refine mi_iinc (k := 1) (x := i23) (d := 1) (y := i23 + 1) (lv' := [(4, .int (nI (i23 + 1))), (5, .int (nI jj21)), (2, .long y21), (0, .ref h0)]) hx hb dMH_ball_187 hl rfl (by decide) rfl (by decide) rfl (fun ls hl => ?_)
                    refine lv_goto (tgt := 101) hx hb dMH_ball_190 (by decide) ?_
                    exact ih23 (i23 + 1) s30 ps24 pl ls H locs (by omega) (by omega) (by omega) hF hf123 hf124 hf125 hf126 hf127 hf128 hf129 hf130 hf131 (by have h9 := hf132; rw [show x31 = x28 by omega] at h9; exact h9) hE hR (lv_sub hl [0, 2, 3] rfl) hO hP hD hS
                | succ n24 ih24 =>
                  intro jj21 s27 ps24 pl ls H locs hm24 hi25 hi26 hF hf133 hf134 hf135 hf136 hf137 hf138 hf139 hf140 hf141 hf142 hE hR hl hO hP hD hS
                  refine lv_iload hx hb dMH_ball_118 (lv_at hl 0 rfl) ?_
                  refine lv_iload hx hb dMH_ball_120 (lv_at hl 1 rfl) ?_
                  refine mi_le (tgt := 137) hx hb dMH_ball_122 (by decide) (by omega) (by omega) (fun h27 => ?_) (fun h27 => ?_)
                  · replace hR := hR.trans (if_pos h27)
                    replace hE := iteP_pos h27 hE
                    refine lv_aload_n hx hb dMH_ball_137 rfl (lv_at hl 3 rfl) ?_
                    refine nw_get (C := "LatticeKeysModel$Hands") (TT := T_MH) (N := 31) hx hb hts (wg_ft i_MH) hown hK hO k_h0 (kn := 225) (ci := 12) (fl := [(3, 172), (3, 181), (3, 226), (3, 291), (3, 299), (3, 308), (3, 317), (3, 326), (3, 334), (3, 342), (3, 350), (3, 359), (3, 368), (3, 369), (3, 370), (3, 371), (3, 372), (3, 373), (3, 374), (3, 375), (3, 376), (3, 377), (3, 378), (0, 0), (0, 0), (0, 0), (0, 0), (0, 0), (0, 0), (0, 0), (0, 0)]) rfl hP rfl 12 (by decide) (hts _ (wg_t kw_1444)) (fun _ h9 => h9) (cd := (3, 368)) rfl dMH_ball_138 (fun v31 hv31 => ?_)
                    obtain ⟨r29, rfl, kr28⟩ := (show ∃ r : Nat, v31 = .ref r ∧ T r = some 368 from hv31)
                    refine lv_iload hx hb dMH_ball_141 (lv_at hl 1 rfl) ?_
                    refine lv_aload_n hx hb dMH_ball_143 rfl (lv_at hl 3 rfl) ?_
                    refine nw_get (C := "LatticeKeysModel$Hands") (TT := T_MH) (N := 31) hx hb hts (wg_ft i_MH) hown hK hO k_h0 (kn := 225) (ci := 12) (fl := [(3, 172), (3, 181), (3, 226), (3, 291), (3, 299), (3, 308), (3, 317), (3, 326), (3, 334), (3, 342), (3, 350), (3, 359), (3, 368), (3, 369), (3, 370), (3, 371), (3, 372), (3, 373), (3, 374), (3, 375), (3, 376), (3, 377), (3, 378), (0, 0), (0, 0), (0, 0), (0, 0), (0, 0), (0, 0), (0, 0), (0, 0)]) rfl hP rfl 12 (by decide) (hts _ (wg_t kw_1444)) (fun _ h9 => h9) (cd := (3, 368)) rfl dMH_ball_144 (fun v32 hv32 => ?_)
                    obtain ⟨r30, rfl, kr29⟩ := (show ∃ r : Nat, v32 = .ref r ∧ T r = some 368 from hv32)
                    refine lv_iload hx hb dMH_ball_147 (lv_at hl 0 rfl) ?_
                    refine nw_iald hx hb hK hO kr29 (k := 368) rfl hP (by omega) (by omega) dMH_ball_149 ?_
                    refine nw_iast hx hb hK hO hU kr28 (k := 368) rfl hP hD hS (by omega) (by omega) dMH_ball_150 (fun s31 pl H locs es24 hO hP hD hS => ?_)
                    replace hR := bnd_step hR es24
                    replace hE := bndP_step hE es24
                    have hF := frm_sI hF es24 (by unfold M_MH_ball_2; omega)
                    have hf143 : s31.1 225 23 = nI 2 := fc_ne hf133 es24 (by omega)
                    have hf144 : s31.1 225 24 = nI 8 := fc_ne hf134 es24 (by omega)
                    have hf145 : s31.1 225 25 = nI 7 := fc_ne hf135 es24 (by omega)
                    have hf146 : s31.1 225 26 = nI 2 := fc_ne hf136 es24 (by omega)
                    have hf147 : s31.1 225 27 = nI 524288 := fc_ne hf137 es24 (by omega)
                    have hf148 : s31.1 225 28 = nI 261888 := fc_ne hf138 es24 (by omega)
                    have hf149 : s31.1 225 29 = nI 120 := fc_ne hf139 es24 (by omega)
                    have hf150 : s31.1 225 30 = nI 64 := fc_ne hf140 es24 (by omega)
                    have hf151 : s31.1 172 6 = nI ps24 := fc_ne hf141 es24 (by omega)
                    have hf152 : s31.1 172 5 = nI x31 := fc_ne hf142 es24 (by omega)
                    refine lv_aload_n hx hb dMH_ball_151 rfl (lv_at hl 3 rfl) ?_
                    refine nw_get (C := "LatticeKeysModel$Hands") (TT := T_MH) (N := 31) hx hb hts (wg_ft i_MH) hown hK hO k_h0 (kn := 225) (ci := 12) (fl := [(3, 172), (3, 181), (3, 226), (3, 291), (3, 299), (3, 308), (3, 317), (3, 326), (3, 334), (3, 342), (3, 350), (3, 359), (3, 368), (3, 369), (3, 370), (3, 371), (3, 372), (3, 373), (3, 374), (3, 375), (3, 376), (3, 377), (3, 378), (0, 0), (0, 0), (0, 0), (0, 0), (0, 0), (0, 0), (0, 0), (0, 0)]) rfl hP rfl 12 (by decide) (hts _ (wg_t kw_1444)) (fun _ h9 => h9) (cd := (3, 368)) rfl dMH_ball_152 (fun v33 hv33 => ?_)
                    obtain ⟨r31, rfl, kr30⟩ := (show ∃ r : Nat, v33 = .ref r ∧ T r = some 368 from hv33)
                    refine lv_iload hx hb dMH_ball_155 (lv_at hl 0 rfl) ?_
                    refine lv_lload_n hx hb dMH_ball_157 rfl (lv_at hl 2 rfl) ?_
                    refine lv_iload hx hb dMH_ball_158 (lv_at hl 1 rfl) ?_
                    refine va_gets hx hb (hEn.2.1 26 _ rfl).1 hS hown (hts _ (wg_t kw_1712)) (fun _ h9 => h9) dMH_ball_160 ?_
                    refine lv_aload_n hx hb dMH_ball_163 rfl (lv_at hl 3 rfl) ?_
                    refine nw_get (C := "LatticeKeysModel$Hands") (TT := T_MH) (N := 31) hx hb hts (wg_ft i_MH) hown hK hO k_h0 (kn := 225) (ci := 12) (fl := [(3, 172), (3, 181), (3, 226), (3, 291), (3, 299), (3, 308), (3, 317), (3, 326), (3, 334), (3, 342), (3, 350), (3, 359), (3, 368), (3, 369), (3, 370), (3, 371), (3, 372), (3, 373), (3, 374), (3, 375), (3, 376), (3, 377), (3, 378), (0, 0), (0, 0), (0, 0), (0, 0), (0, 0), (0, 0), (0, 0), (0, 0)]) rfl hP rfl 23 (by decide) (hts _ (wg_t kw_1455)) (fun _ h9 => h9) (cd := (0, 0)) rfl dMH_ball_164 (fun v34 hv34 => ?_)
                    obtain rfl := (show v34 = .int (s31.1 225 23) from hv34)
                    obtain ⟨z25, ez25, hz29, hz30⟩ := cl_of (b := 2147483648) hf143 (by omega) (by decide)
                    replace hR := bnd_step hR ez25
                    replace hE := bndP_step hE ez25
                    refine mi_as hz29 ?_
                    subst hz30
                    refine va_ti (v := .int (nI 60)) hx hb (hEn.2.1 26 _ rfl).2 hS (vp_in_nI (by decide) (by decide)) (by decide +kernel) dMH_ball_167 ?_
                    refine mi_iadd hx hb dMH_ball_168 ?_
                    refine lv_sipush (v := nI 256) hx hb dMH_ball_169 (by decide) ?_
                    refine lv_isub hx hb dMH_ball_172 ?_
                    refine lv_lushr hx hb dMH_ball_173 rfl ?_
                    refine lv_lconst (v := 1) hx hb dMH_ball_174 (by decide) ?_
                    refine lv_land hx hb dMH_ball_175 ?_
                    refine lv_lconst (v := 1) hx hb dMH_ball_176 (by decide) ?_
                    refine W.lcmp hx hb dMH_ball_177 ?_
                    refine lv_if_ne (tgt := 185) hx hb dMH_ball_178 (by decide) (fun h28 => ?_) (fun h28 => ?_)
                    · replace hR := hR.trans (if_neg h28)
                      replace hE := iteP_neg h28 hE
                      refine lv_iconst (v := nI 1) hx hb dMH_ball_185 (by decide) ?_
                      refine nw_iast hx hb hK hO hU kr30 (k := 368) rfl hP hD hS (by omega) (by omega) dMH_ball_186 (fun s32 pl H locs es25 hO hP hD hS => ?_)
                      replace hR := bnd_step hR es25
                      replace hE := bndP_step hE es25
                      have hF := frm_sI hF es25 (by unfold M_MH_ball_2; omega)
                      have hf153 : s32.1 225 23 = nI 2 := fc_ne hf143 es25 (by omega)
                      have hf154 : s32.1 225 24 = nI 8 := fc_ne hf144 es25 (by omega)
                      have hf155 : s32.1 225 25 = nI 7 := fc_ne hf145 es25 (by omega)
                      have hf156 : s32.1 225 26 = nI 2 := fc_ne hf146 es25 (by omega)
                      have hf157 : s32.1 225 27 = nI 524288 := fc_ne hf147 es25 (by omega)
                      have hf158 : s32.1 225 28 = nI 261888 := fc_ne hf148 es25 (by omega)
                      have hf159 : s32.1 225 29 = nI 120 := fc_ne hf149 es25 (by omega)
                      have hf160 : s32.1 225 30 = nI 64 := fc_ne hf150 es25 (by omega)
                      have hf161 : s32.1 172 6 = nI ps24 := fc_ne hf151 es25 (by omega)
                      have hf162 : s32.1 172 5 = nI x31 := fc_ne hf152 es25 (by omega)
                      refine mi_iinc (k := 1) (x := i23) (d := 1) (y := i23 + 1) (lv' := [(4, .int (nI (i23 + 1))), (5, .int (nI jj21)), (2, .long y21), (0, .ref h0)]) hx hb dMH_ball_187 hl rfl (by decide) rfl (by decide) rfl (fun ls hl => ?_)
                      refine lv_goto (tgt := 101) hx hb dMH_ball_190 (by decide) ?_
                      exact ih23 (i23 + 1) s32 ps24 pl ls H locs (by omega) (by omega) (by omega) hF hf153 hf154 hf155 hf156 hf157 hf158 hf159 hf160 hf161 (by have h9 := hf162; rw [show x31 = x28 by omega] at h9; exact h9) hE hR (lv_sub hl [0, 2, 3] rfl) hO hP hD hS
                    · replace hR := hR.trans (if_pos h28)
                      replace hE := iteP_pos h28 hE
                      refine lv_iconst (v := (-1)) hx hb dMH_ball_181 (by decide) ?_
                      refine lv_goto (tgt := 186) hx hb dMH_ball_182 (by decide) ?_
                      refine nw_iast hx hb hK hO hU kr30 (k := 368) rfl hP hD hS (by omega) (by omega) dMH_ball_186 (fun s33 pl H locs es26 hO hP hD hS => ?_)
                      replace hR := bnd_step hR es26
                      replace hE := bndP_step hE es26
                      have hF := frm_sI hF es26 (by unfold M_MH_ball_2; omega)
                      have hf163 : s33.1 225 23 = nI 2 := fc_ne hf143 es26 (by omega)
                      have hf164 : s33.1 225 24 = nI 8 := fc_ne hf144 es26 (by omega)
                      have hf165 : s33.1 225 25 = nI 7 := fc_ne hf145 es26 (by omega)
                      have hf166 : s33.1 225 26 = nI 2 := fc_ne hf146 es26 (by omega)
                      have hf167 : s33.1 225 27 = nI 524288 := fc_ne hf147 es26 (by omega)
                      have hf168 : s33.1 225 28 = nI 261888 := fc_ne hf148 es26 (by omega)
                      have hf169 : s33.1 225 29 = nI 120 := fc_ne hf149 es26 (by omega)
                      have hf170 : s33.1 225 30 = nI 64 := fc_ne hf150 es26 (by omega)
                      have hf171 : s33.1 172 6 = nI ps24 := fc_ne hf151 es26 (by omega)
                      have hf172 : s33.1 172 5 = nI x31 := fc_ne hf152 es26 (by omega)
                      refine mi_iinc (k := 1) (x := i23) (d := 1) (y := i23 + 1) (lv' := [(4, .int (nI (i23 + 1))), (5, .int (nI jj21)), (2, .long y21), (0, .ref h0)]) hx hb dMH_ball_187 hl rfl (by decide) rfl (by decide) rfl (fun ls hl => ?_)
                      refine lv_goto (tgt := 101) hx hb dMH_ball_190 (by decide) ?_
                      exact ih23 (i23 + 1) s33 ps24 pl ls H locs (by omega) (by omega) (by omega) hF hf163 hf164 hf165 hf166 hf167 hf168 hf169 hf170 hf171 (by have h9 := hf172; rw [show x31 = x28 by omega] at h9; exact h9) hE hR (lv_sub hl [0, 2, 3] rfl) hO hP hD hS
                  · replace hR := hR.trans (if_neg (Nat.not_le.mpr h27))
                    replace hE := iteP_neg (Nat.not_le.mpr h27) hE
                    refine lv_aload_n hx hb dMH_ball_125 rfl (lv_at hl 3 rfl) ?_
                    refine nw_get (C := "LatticeKeysModel$Hands") (TT := T_MH) (N := 31) hx hb hts (wg_ft i_MH) hown hK hO k_h0 (kn := 225) (ci := 12) (fl := [(3, 172), (3, 181), (3, 226), (3, 291), (3, 299), (3, 308), (3, 317), (3, 326), (3, 334), (3, 342), (3, 350), (3, 359), (3, 368), (3, 369), (3, 370), (3, 371), (3, 372), (3, 373), (3, 374), (3, 375), (3, 376), (3, 377), (3, 378), (0, 0), (0, 0), (0, 0), (0, 0), (0, 0), (0, 0), (0, 0), (0, 0)]) rfl hP rfl 0 (by decide) (hts _ (wg_t kw_1432)) (fun _ h9 => h9) (cd := (3, 172)) rfl dMH_ball_126 (fun v35 hv35 => ?_)
                    obtain ⟨r32, rfl, kr31⟩ := (show ∃ r : Nat, v35 = .ref r ∧ T r = some 172 from hv35)
                    refine mp_i (cx := []) (wr := []) hP hD hS hA [] [] rfl rfl rfl (by decide) (va_runV (As := []) (rest := []) F (N_MS_next l g _ T s27 pl hO hU r32 ps24 x31 kr31 hf141 hf142 (by omega) (by omega)) (cwV 0 hts (wg_app (wg_c kw_1724 (wg_c kw_1638 (wg_c kw_1639 (wg_c kw_10 wg_n)))) kw_1640) rfl rfl rfl (by decide +kernel) ⟨by decide, by decide⟩) (pn_V (en_ok g) (ci := 9) (kn := 172) (fl := [(3, 173), (3, 174), (3, 175), (3, 176), (3, 177), (0, 0), (0, 0), (0, 0)]) hK hO kr31 rfl hP hD hS hA hEn [] rfl rfl rfl) rfl rfl hl.1 rfl (lv_room (Nat.le_of_ble_eq_true rfl)) dMH_ball_129 ⟨by omega, by omega⟩) (fun r33 u25 H locs hu25 hP hD hS => ?_)
                    obtain ⟨q22, pl⟩ := u25
                    obtain ⟨⟨eq25, rfl, hFc25, ⟨x35, hx_35, hb_35⟩, ⟨x33, hx_33, hb_33⟩, ⟨x34, hx_34, hb_34⟩, -⟩, hO⟩ := hu25
                    have hO : okn g T q22.2 pl := hO
                    have hP : va_P g.1 vcl ([] ++ pl) _ := hP
                    have hD : va_D _ ([] ++ pl) := hD
                    have hFc25 : frm (M_MS_next) s27 q22.2 := hFc25
                    have hb_33 : x33 ≤ x31 := hb_33
                    have hb_34 : x34 = x31 := hb_34
                    have hb_35 : x35 < 256 := hb_35
                    replace hR := bnd_step hR eq25
                    replace hE := bndP_step hE eq25
                    have hF := frm_tr hF hFc25 (fun k hk => by unfold M_MS_next at hk; unfold M_MH_ball_2; omega)
                    have hf173 : q22.2.1 225 23 = nI 2 := fc_F hf133 hFc25 (by unfold M_MS_next; omega)
                    have hf174 : q22.2.1 225 24 = nI 8 := fc_F hf134 hFc25 (by unfold M_MS_next; omega)
                    have hf175 : q22.2.1 225 25 = nI 7 := fc_F hf135 hFc25 (by unfold M_MS_next; omega)
                    have hf176 : q22.2.1 225 26 = nI 2 := fc_F hf136 hFc25 (by unfold M_MS_next; omega)
                    have hf177 : q22.2.1 225 27 = nI 524288 := fc_F hf137 hFc25 (by unfold M_MS_next; omega)
                    have hf178 : q22.2.1 225 28 = nI 261888 := fc_F hf138 hFc25 (by unfold M_MS_next; omega)
                    have hf179 : q22.2.1 225 29 = nI 120 := fc_F hf139 hFc25 (by unfold M_MS_next; omega)
                    have hf180 : q22.2.1 225 30 = nI 64 := fc_F hf140 hFc25 (by unfold M_MS_next; omega)
                    obtain ⟨z26, ez26, hz31, hz32⟩ := cl_of (b := 2147483648) hx_35 (by omega) (by decide)
                    replace hR := bnd_step hR ez26
                    replace hE := bndP_step hE ez26
                    refine mi_as hz31 ?_
                    refine W.widen (k := 0) (n := 0) (by omega) (by omega) ?_
                    refine lv_istore (lv' := [(5, .int (nI z26)), (4, .int (nI i23)), (2, .long y21), (0, .ref h0)]) hx hb dMH_ball_132 hl (by decide) rfl (fun ls hl => ?_)
                    refine lv_goto (tgt := 118) hx hb dMH_ball_134 (by decide) ?_
                    exact ih24 z26 q22.2 x33 pl ls H locs (by omega) (by omega) (by omega) hF hf173 hf174 hf175 hf176 hf177 hf178 hf179 hf180 hx_33 (by have h9 := hx_34; rw [show x34 = x31 by omega] at h9; exact h9) hE hR (lv_sub hl [0, 1, 2, 3] rfl) hO hP hD hS
              exact lp24 1000000 z23 q21.2 x30 pl ls _ _ (by omega) (by omega) (by omega) hF hf85 hf86 hf87 hf88 hf89 hf90 hf91 hf92 hx_30 hx_31 hE hR (lv_sub hl [0, 1, 2, 3] rfl) hO hP hD hS
          exact lp23 (256 - 196) 196 s25 ps22 pl ls _ _ (by omega) (by omega) (by omega) hF hf55 hf56 hf57 hf58 hf59 hf60 hf61 hf62 hf63 hf64 hE hR (lv_sub hl [0, 1, 2] rfl) hO hP hD hS
        | succ n22 ih22 =>
          intro i22 s25 ps22 pl ls H locs hm22 hi22 hF hf181 hf182 hf183 hf184 hf185 hf186 hf187 hf188 hf189 hf190 hE hR hl hO hP hD hS
          refine lv_iload hx hb dMH_ball_65 (lv_at hl 0 rfl) ?_
          refine lv_sipush (v := nI 256) hx hb dMH_ball_67 (by decide) ?_
          refine mi_ge (tgt := 87) hx hb dMH_ball_70 (by decide) (by omega) (by omega) (fun h29 => absurd h29 (by omega)) (fun h29 => ?_)
          refine lv_aload_n hx hb dMH_ball_73 rfl (lv_at hl 2 rfl) ?_
          refine nw_get (C := "LatticeKeysModel$Hands") (TT := T_MH) (N := 31) hx hb hts (wg_ft i_MH) hown hK hO k_h0 (kn := 225) (ci := 12) (fl := [(3, 172), (3, 181), (3, 226), (3, 291), (3, 299), (3, 308), (3, 317), (3, 326), (3, 334), (3, 342), (3, 350), (3, 359), (3, 368), (3, 369), (3, 370), (3, 371), (3, 372), (3, 373), (3, 374), (3, 375), (3, 376), (3, 377), (3, 378), (0, 0), (0, 0), (0, 0), (0, 0), (0, 0), (0, 0), (0, 0), (0, 0)]) rfl hP rfl 12 (by decide) (hts _ (wg_t kw_1444)) (fun _ h9 => h9) (cd := (3, 368)) rfl dMH_ball_74 (fun v36 hv36 => ?_)
          obtain ⟨r34, rfl, kr32⟩ := (show ∃ r : Nat, v36 = .ref r ∧ T r = some 368 from hv36)
          refine lv_iload hx hb dMH_ball_77 (lv_at hl 0 rfl) ?_
          refine lv_iconst (v := nI 0) hx hb dMH_ball_79 (by decide) ?_
          refine nw_iast hx hb hK hO hU kr32 (k := 368) rfl hP hD hS (by omega) (by omega) dMH_ball_80 (fun s34 pl H locs es27 hO hP hD hS => ?_)
          replace hR := bnd_step hR es27
          replace hE := bndP_step hE es27
          have hF := frm_sI hF es27 (by unfold M_MH_ball_2; omega)
          have hf191 : s34.1 225 23 = nI 2 := fc_ne hf181 es27 (by omega)
          have hf192 : s34.1 225 24 = nI 8 := fc_ne hf182 es27 (by omega)
          have hf193 : s34.1 225 25 = nI 7 := fc_ne hf183 es27 (by omega)
          have hf194 : s34.1 225 26 = nI 2 := fc_ne hf184 es27 (by omega)
          have hf195 : s34.1 225 27 = nI 524288 := fc_ne hf185 es27 (by omega)
          have hf196 : s34.1 225 28 = nI 261888 := fc_ne hf186 es27 (by omega)
          have hf197 : s34.1 225 29 = nI 120 := fc_ne hf187 es27 (by omega)
          have hf198 : s34.1 225 30 = nI 64 := fc_ne hf188 es27 (by omega)
          have hf199 : s34.1 172 6 = nI ps22 := fc_ne hf189 es27 (by omega)
          have hf200 : s34.1 172 5 = nI x28 := fc_ne hf190 es27 (by omega)
          refine mi_iinc (k := 0) (x := i22) (d := 1) (y := i22 + 1) (lv' := [(4, .int (nI (i22 + 1))), (2, .long y21), (0, .ref h0)]) hx hb dMH_ball_81 hl rfl (by decide) rfl (by decide) rfl (fun ls hl => ?_)
          refine lv_goto (tgt := 65) hx hb dMH_ball_84 (by decide) ?_
          exact ih22 (i22 + 1) s34 ps22 pl ls H locs (by omega) (by omega) hF hf191 hf192 hf193 hf194 hf195 hf196 hf197 hf198 hf199 hf200 hE hR (lv_sub hl [0, 1, 2] rfl) hO hP hD hS
      exact lp22 256 0 s24 ps21 pl ls _ _ (by omega) (by omega) hF hf45 hf46 hf47 hf48 hf49 hf50 hf51 hf52 hf53 hf54 hE hR (lv_sub hl [0, 1, 2] rfl) hO hP hD hS
    | succ n21 ih21 =>
      intro i21 y21 s24 ps21 pl ls H locs hm21 hi21 hF hf201 hf202 hf203 hf204 hf205 hf206 hf207 hf208 hf209 hf210 hE hR hl hO hP hD hS
      refine lv_iload hx hb dMH_ball_32 (lv_at hl 0 rfl) ?_
      refine lv_bipush (v := nI 8) hx hb dMH_ball_34 (by decide) ?_
      refine mi_ge (tgt := 62) hx hb dMH_ball_36 (by decide) (by omega) (by omega) (fun h30 => absurd h30 (by omega)) (fun h30 => ?_)
      refine lv_lload_n hx hb dMH_ball_39 rfl (lv_at hl 1 rfl) ?_
      refine lv_aload_n hx hb dMH_ball_40 rfl (lv_at hl 2 rfl) ?_
      refine nw_get (C := "LatticeKeysModel$Hands") (TT := T_MH) (N := 31) hx hb hts (wg_ft i_MH) hown hK hO k_h0 (kn := 225) (ci := 12) (fl := [(3, 172), (3, 181), (3, 226), (3, 291), (3, 299), (3, 308), (3, 317), (3, 326), (3, 334), (3, 342), (3, 350), (3, 359), (3, 368), (3, 369), (3, 370), (3, 371), (3, 372), (3, 373), (3, 374), (3, 375), (3, 376), (3, 377), (3, 378), (0, 0), (0, 0), (0, 0), (0, 0), (0, 0), (0, 0), (0, 0), (0, 0)]) rfl hP rfl 0 (by decide) (hts _ (wg_t kw_1432)) (fun _ h9 => h9) (cd := (3, 172)) rfl dMH_ball_41 (fun v37 hv37 => ?_)
      obtain ⟨r35, rfl, kr33⟩ := (show ∃ r : Nat, v37 = .ref r ∧ T r = some 172 from hv37)
      refine mp_i (cx := []) (wr := []) hP hD hS hA [] [] rfl rfl rfl (by decide) (va_runV (As := []) (rest := [.long y21]) F (N_MS_next l g _ T s24 pl hO hU r35 ps21 x28 kr33 hf209 hf210 (by omega) (by omega)) (cwV 0 hts (wg_app (wg_c kw_1724 (wg_c kw_1638 (wg_c kw_1639 (wg_c kw_10 wg_n)))) kw_1640) rfl rfl rfl (by decide +kernel) ⟨by decide, by decide⟩) (pn_V (en_ok g) (ci := 9) (kn := 172) (fl := [(3, 173), (3, 174), (3, 175), (3, 176), (3, 177), (0, 0), (0, 0), (0, 0)]) hK hO kr33 rfl hP hD hS hA hEn [] rfl rfl rfl) rfl rfl hl.1 rfl (lv_room (Nat.le_of_ble_eq_true rfl)) dMH_ball_44 ⟨by omega, by omega⟩) (fun r36 u26 H locs hu26 hP hD hS => ?_)
      obtain ⟨q23, pl⟩ := u26
      obtain ⟨⟨eq26, rfl, hFc26, ⟨x38, hx_38, hb_38⟩, ⟨x36, hx_36, hb_36⟩, ⟨x37, hx_37, hb_37⟩, -⟩, hO⟩ := hu26
      have hO : okn g T q23.2 pl := hO
      have hP : va_P g.1 vcl ([] ++ pl) _ := hP
      have hD : va_D _ ([] ++ pl) := hD
      have hFc26 : frm (M_MS_next) s24 q23.2 := hFc26
      have hb_36 : x36 ≤ x28 := hb_36
      have hb_37 : x37 = x28 := hb_37
      have hb_38 : x38 < 256 := hb_38
      replace hR := bnd_step hR eq26
      replace hE := bndP_step hE eq26
      have hF := frm_tr hF hFc26 (fun k hk => by unfold M_MS_next at hk; unfold M_MH_ball_2; omega)
      have hf211 : q23.2.1 225 23 = nI 2 := fc_F hf201 hFc26 (by unfold M_MS_next; omega)
      have hf212 : q23.2.1 225 24 = nI 8 := fc_F hf202 hFc26 (by unfold M_MS_next; omega)
      have hf213 : q23.2.1 225 25 = nI 7 := fc_F hf203 hFc26 (by unfold M_MS_next; omega)
      have hf214 : q23.2.1 225 26 = nI 2 := fc_F hf204 hFc26 (by unfold M_MS_next; omega)
      have hf215 : q23.2.1 225 27 = nI 524288 := fc_F hf205 hFc26 (by unfold M_MS_next; omega)
      have hf216 : q23.2.1 225 28 = nI 261888 := fc_F hf206 hFc26 (by unfold M_MS_next; omega)
      have hf217 : q23.2.1 225 29 = nI 120 := fc_F hf207 hFc26 (by unfold M_MS_next; omega)
      have hf218 : q23.2.1 225 30 = nI 64 := fc_F hf208 hFc26 (by unfold M_MS_next; omega)
      obtain ⟨z27, ez27, hz33, hz34⟩ := cl_of (b := 2147483648) hx_38 (by omega) (by decide)
      replace hR := bnd_step hR ez27
      replace hE := bndP_step hE ez27
      refine mi_as hz33 ?_
      refine W.widen (k := 0) (n := 0) (by omega) (by omega) ?_
      refine lv_i2l hx hb dMH_ball_47 rfl ?_
      refine lv_bipush (v := nI 8) hx hb dMH_ball_48 (by decide) ?_
      refine lv_iload hx hb dMH_ball_50 (lv_at hl 0 rfl) ?_
      refine mi_imul hx hb dMH_ball_52 ?_
      refine lv_lshl hx hb dMH_ball_53 rfl ?_
      refine lv_lor hx hb dMH_ball_54 ?_
      refine ml_eqv (fun y22 ez28 => ?_)
      replace hR := bnd_step hR ez28
      replace hE := bndP_step hE ez28
      refine lv_lstore_n (lv' := [(2, .long y22), (4, .int (nI i21)), (0, .ref h0)]) hx hb dMH_ball_55 rfl hl (by decide) rfl (fun ls hl => ?_)
      refine mi_iinc (k := 1) (x := i21) (d := 1) (y := i21 + 1) (lv' := [(4, .int (nI (i21 + 1))), (2, .long y22), (0, .ref h0)]) hx hb dMH_ball_56 hl rfl (by decide) rfl (by decide) rfl (fun ls hl => ?_)
      refine lv_goto (tgt := 32) hx hb dMH_ball_59 (by decide) ?_
      exact ih21 (i21 + 1) y22 q23.2 x36 pl ls H locs (by omega) (by omega) hF hf211 hf212 hf213 hf214 hf215 hf216 hf217 hf218 hx_36 (by have h9 := hx_37; rw [show x37 = x28 by omega] at h9; exact h9) hE hR (lv_sub hl [0, 1, 2] rfl) hO hP hD hS
  exact lp21 8 0 0 s23 x27 pl ls _ _ (by omega) (by omega) hF hf37 hf38 hf39 hf40 hf41 hf42 hf43 hf44 hx_27 hx_28 hE hR (lv_sub hl [0, 1, 2] rfl) hO hP hD hS
