abbrev c_M_keys : ByteArray := prog_12_method_14_code
abbrev y_M_keys : MethodName := ⟨"LatticeKeysModel", "keys", "(I)I"⟩
abbrev w_M_keys : List Cond := Cond.code y_M_keys c_M_keys 2 (some .int) :: WG
theorem dM_keys_0 : decode c_M_keys 0 = .ok (.aload_n 0, 1) := by decide +kernel
theorem dM_keys_1 : decode c_M_keys 1 = .ok (.iconst 0, 1) := by decide +kernel
theorem dM_keys_2 : decode c_M_keys 2 = .ok (.putfield 57, 3) := by decide +kernel
theorem dM_keys_5 : decode c_M_keys 5 = .ok (.iload_n 1, 1) := by decide +kernel
theorem dM_keys_6 : decode c_M_keys 6 = .ok (.ifCond .lt 27, 3) := by decide +kernel
theorem dM_keys_9 : decode c_M_keys 9 = .ok (.iload_n 1, 1) := by decide +kernel
theorem dM_keys_10 : decode c_M_keys 10 = .ok (.iconst 5, 1) := by decide +kernel
theorem dM_keys_11 : decode c_M_keys 11 = .ok (.if_icmp .gt 22, 3) := by decide +kernel
theorem dM_keys_14 : decode c_M_keys 14 = .ok (.aload_n 0, 1) := by decide +kernel
theorem dM_keys_15 : decode c_M_keys 15 = .ok (.getfield 70, 3) := by decide +kernel
theorem dM_keys_18 : decode c_M_keys 18 = .ok (.iload_n 1, 1) := by decide +kernel
theorem dM_keys_19 : decode c_M_keys 19 = .ok (.iconst 3, 1) := by decide +kernel
theorem dM_keys_20 : decode c_M_keys 20 = .ok (.if_icmp .ge 8, 3) := by decide +kernel
theorem dM_keys_23 : decode c_M_keys 23 = .ok (.bipush 64, 2) := by decide +kernel
theorem dM_keys_25 : decode c_M_keys 25 = .ok (.goto 5, 3) := by decide +kernel
theorem dM_keys_28 : decode c_M_keys 28 = .ok (.bipush 32, 2) := by decide +kernel
theorem dM_keys_30 : decode c_M_keys 30 = .ok (.if_icmp .eq 9, 3) := by decide +kernel
theorem dM_keys_33 : decode c_M_keys 33 = .ok (.aload_n 0, 1) := by decide +kernel
theorem dM_keys_34 : decode c_M_keys 34 = .ok (.iconst 1, 1) := by decide +kernel
theorem dM_keys_35 : decode c_M_keys 35 = .ok (.invokevirtual 73, 3) := by decide +kernel
theorem dM_keys_38 : decode c_M_keys 38 = .ok (.ireturn, 1) := by decide +kernel
theorem dM_keys_39 : decode c_M_keys 39 = .ok (.aload_n 0, 1) := by decide +kernel
theorem dM_keys_40 : decode c_M_keys 40 = .ok (.getfield 83, 3) := by decide +kernel
theorem dM_keys_43 : decode c_M_keys 43 = .ok (.bipush 8, 2) := by decide +kernel
theorem dM_keys_45 : decode c_M_keys 45 = .ok (.if_icmp .ne 9, 3) := by decide +kernel
theorem dM_keys_48 : decode c_M_keys 48 = .ok (.aload_n 0, 1) := by decide +kernel
theorem dM_keys_49 : decode c_M_keys 49 = .ok (.iconst 2, 1) := by decide +kernel
theorem dM_keys_50 : decode c_M_keys 50 = .ok (.invokevirtual 73, 3) := by decide +kernel
theorem dM_keys_53 : decode c_M_keys 53 = .ok (.ireturn, 1) := by decide +kernel
theorem dM_keys_54 : decode c_M_keys 54 = .ok (.iload_n 1, 1) := by decide +kernel
theorem dM_keys_55 : decode c_M_keys 55 = .ok (.iconst 3, 1) := by decide +kernel
theorem dM_keys_56 : decode c_M_keys 56 = .ok (.if_icmp .ge 36, 3) := by decide +kernel
theorem dM_keys_59 : decode c_M_keys 59 = .ok (.aload_n 0, 1) := by decide +kernel
theorem dM_keys_60 : decode c_M_keys 60 = .ok (.getfield 46, 3) := by decide +kernel
theorem dM_keys_63 : decode c_M_keys 63 = .ok (.iload_n 1, 1) := by decide +kernel
theorem dM_keys_64 : decode c_M_keys 64 = .ok (.aload_n 0, 1) := by decide +kernel
theorem dM_keys_65 : decode c_M_keys 65 = .ok (.getfield 7, 3) := by decide +kernel
theorem dM_keys_68 : decode c_M_keys 68 = .ok (.aload_n 0, 1) := by decide +kernel
theorem dM_keys_69 : decode c_M_keys 69 = .ok (.getfield 21, 3) := by decide +kernel
theorem dM_keys_72 : decode c_M_keys 72 = .ok (.aload_n 0, 1) := by decide +kernel
theorem dM_keys_73 : decode c_M_keys 73 = .ok (.getfield 83, 3) := by decide +kernel
theorem dM_keys_76 : decode c_M_keys 76 = .ok (.aaload, 1) := by decide +kernel
theorem dM_keys_77 : decode c_M_keys 77 = .ok (.aload_n 0, 1) := by decide +kernel
theorem dM_keys_78 : decode c_M_keys 78 = .ok (.getfield 24, 3) := by decide +kernel
theorem dM_keys_81 : decode c_M_keys 81 = .ok (.aload_n 0, 1) := by decide +kernel
theorem dM_keys_82 : decode c_M_keys 82 = .ok (.getfield 83, 3) := by decide +kernel
theorem dM_keys_85 : decode c_M_keys 85 = .ok (.aaload, 1) := by decide +kernel
theorem dM_keys_86 : decode c_M_keys 86 = .ok (.invokevirtual 86, 3) := by decide +kernel
theorem dM_keys_89 : decode c_M_keys 89 = .ok (.goto 35, 3) := by decide +kernel
theorem dM_keys_92 : decode c_M_keys 92 = .ok (.aload_n 0, 1) := by decide +kernel
theorem dM_keys_93 : decode c_M_keys 93 = .ok (.getfield 53, 3) := by decide +kernel
theorem dM_keys_96 : decode c_M_keys 96 = .ok (.iload_n 1, 1) := by decide +kernel
theorem dM_keys_97 : decode c_M_keys 97 = .ok (.iconst 3, 1) := by decide +kernel
theorem dM_keys_98 : decode c_M_keys 98 = .ok (.isub, 1) := by decide +kernel
theorem dM_keys_99 : decode c_M_keys 99 = .ok (.aload_n 0, 1) := by decide +kernel
theorem dM_keys_100 : decode c_M_keys 100 = .ok (.getfield 7, 3) := by decide +kernel
theorem dM_keys_103 : decode c_M_keys 103 = .ok (.aload_n 0, 1) := by decide +kernel
theorem dM_keys_104 : decode c_M_keys 104 = .ok (.getfield 21, 3) := by decide +kernel
theorem dM_keys_107 : decode c_M_keys 107 = .ok (.aload_n 0, 1) := by decide +kernel
theorem dM_keys_108 : decode c_M_keys 108 = .ok (.getfield 83, 3) := by decide +kernel
theorem dM_keys_111 : decode c_M_keys 111 = .ok (.aaload, 1) := by decide +kernel
theorem dM_keys_112 : decode c_M_keys 112 = .ok (.aload_n 0, 1) := by decide +kernel
theorem dM_keys_113 : decode c_M_keys 113 = .ok (.getfield 24, 3) := by decide +kernel
theorem dM_keys_116 : decode c_M_keys 116 = .ok (.aload_n 0, 1) := by decide +kernel
theorem dM_keys_117 : decode c_M_keys 117 = .ok (.getfield 83, 3) := by decide +kernel
theorem dM_keys_120 : decode c_M_keys 120 = .ok (.aaload, 1) := by decide +kernel
theorem dM_keys_121 : decode c_M_keys 121 = .ok (.invokevirtual 89, 3) := by decide +kernel
theorem dM_keys_124 : decode c_M_keys 124 = .ok (.aload_n 0, 1) := by decide +kernel
theorem dM_keys_125 : decode c_M_keys 125 = .ok (.iload_n 1, 1) := by decide +kernel
theorem dM_keys_126 : decode c_M_keys 126 = .ok (.iload_n 1, 1) := by decide +kernel
theorem dM_keys_127 : decode c_M_keys 127 = .ok (.invokestatic 90, 3) := by decide +kernel
theorem dM_keys_130 : decode c_M_keys 130 = .ok (.invokevirtual 91, 3) := by decide +kernel
theorem dM_keys_133 : decode c_M_keys 133 = .ok (.ireturn, 1) := by decide +kernel
abbrev c_M_load : ByteArray := prog_12_method_15_code
abbrev y_M_load : MethodName := ⟨"LatticeKeysModel", "load", "(IZ)I"⟩
abbrev w_M_load : List Cond := Cond.code y_M_load c_M_load 5 (some .int) :: WG
theorem dM_load_0 : decode c_M_load 0 = .ok (.aload_n 0, 1) := by decide +kernel
theorem dM_load_1 : decode c_M_load 1 = .ok (.iconst 0, 1) := by decide +kernel
theorem dM_load_2 : decode c_M_load 2 = .ok (.putfield 57, 3) := by decide +kernel
theorem dM_load_5 : decode c_M_load 5 = .ok (.iload_n 1, 1) := by decide +kernel
theorem dM_load_6 : decode c_M_load 6 = .ok (.ifCond .lt 38, 3) := by decide +kernel
theorem dM_load_9 : decode c_M_load 9 = .ok (.iload_n 1, 1) := by decide +kernel
theorem dM_load_10 : decode c_M_load 10 = .ok (.iload_n 2, 1) := by decide +kernel
theorem dM_load_11 : decode c_M_load 11 = .ok (.ifCond .eq 7, 3) := by decide +kernel
theorem dM_load_14 : decode c_M_load 14 = .ok (.iconst 2, 1) := by decide +kernel
theorem dM_load_15 : decode c_M_load 15 = .ok (.goto 4, 3) := by decide +kernel
theorem dM_load_18 : decode c_M_load 18 = .ok (.iconst 5, 1) := by decide +kernel
theorem dM_load_19 : decode c_M_load 19 = .ok (.if_icmp .gt 25, 3) := by decide +kernel
theorem dM_load_22 : decode c_M_load 22 = .ok (.aload_n 0, 1) := by decide +kernel
theorem dM_load_23 : decode c_M_load 23 = .ok (.getfield 70, 3) := by decide +kernel
theorem dM_load_26 : decode c_M_load 26 = .ok (.iload_n 2, 1) := by decide +kernel
theorem dM_load_27 : decode c_M_load 27 = .ok (.ifCond .eq 10, 3) := by decide +kernel
theorem dM_load_30 : decode c_M_load 30 = .ok (.iload_n 1, 1) := by decide +kernel
theorem dM_load_31 : decode c_M_load 31 = .ok (.invokestatic 90, 3) := by decide +kernel
theorem dM_load_34 : decode c_M_load 34 = .ok (.goto 7, 3) := by decide +kernel
theorem dM_load_37 : decode c_M_load 37 = .ok (.iload_n 1, 1) := by decide +kernel
theorem dM_load_38 : decode c_M_load 38 = .ok (.invokestatic 95, 3) := by decide +kernel
theorem dM_load_41 : decode c_M_load 41 = .ok (.if_icmp .eq 9, 3) := by decide +kernel
theorem dM_load_44 : decode c_M_load 44 = .ok (.aload_n 0, 1) := by decide +kernel
theorem dM_load_45 : decode c_M_load 45 = .ok (.iconst 1, 1) := by decide +kernel
theorem dM_load_46 : decode c_M_load 46 = .ok (.invokevirtual 73, 3) := by decide +kernel
theorem dM_load_49 : decode c_M_load 49 = .ok (.ireturn, 1) := by decide +kernel
theorem dM_load_50 : decode c_M_load 50 = .ok (.iload_n 1, 1) := by decide +kernel
theorem dM_load_51 : decode c_M_load 51 = .ok (.iconst 3, 1) := by decide +kernel
theorem dM_load_52 : decode c_M_load 52 = .ok (.if_icmp .ge 46, 3) := by decide +kernel
theorem dM_load_55 : decode c_M_load 55 = .ok (.iload_n 2, 1) := by decide +kernel
theorem dM_load_56 : decode c_M_load 56 = .ok (.ifCond .eq 21, 3) := by decide +kernel
theorem dM_load_59 : decode c_M_load 59 = .ok (.aload_n 0, 1) := by decide +kernel
theorem dM_load_60 : decode c_M_load 60 = .ok (.getfield 46, 3) := by decide +kernel
theorem dM_load_63 : decode c_M_load 63 = .ok (.iload_n 1, 1) := by decide +kernel
theorem dM_load_64 : decode c_M_load 64 = .ok (.aload_n 0, 1) := by decide +kernel
theorem dM_load_65 : decode c_M_load 65 = .ok (.getfield 7, 3) := by decide +kernel
theorem dM_load_68 : decode c_M_load 68 = .ok (.invokevirtual 96, 3) := by decide +kernel
theorem dM_load_71 : decode c_M_load 71 = .ok (.ifCond .eq 21, 3) := by decide +kernel
theorem dM_load_74 : decode c_M_load 74 = .ok (.goto 24, 3) := by decide +kernel
theorem dM_load_77 : decode c_M_load 77 = .ok (.aload_n 0, 1) := by decide +kernel
theorem dM_load_78 : decode c_M_load 78 = .ok (.getfield 46, 3) := by decide +kernel
theorem dM_load_81 : decode c_M_load 81 = .ok (.iload_n 1, 1) := by decide +kernel
theorem dM_load_82 : decode c_M_load 82 = .ok (.aload_n 0, 1) := by decide +kernel
theorem dM_load_83 : decode c_M_load 83 = .ok (.getfield 7, 3) := by decide +kernel
theorem dM_load_86 : decode c_M_load 86 = .ok (.invokevirtual 100, 3) := by decide +kernel
theorem dM_load_89 : decode c_M_load 89 = .ok (.ifCond .ne 9, 3) := by decide +kernel
theorem dM_load_92 : decode c_M_load 92 = .ok (.aload_n 0, 1) := by decide +kernel
theorem dM_load_93 : decode c_M_load 93 = .ok (.iconst 2, 1) := by decide +kernel
theorem dM_load_94 : decode c_M_load 94 = .ok (.invokevirtual 73, 3) := by decide +kernel
theorem dM_load_97 : decode c_M_load 97 = .ok (.ireturn, 1) := by decide +kernel
theorem dM_load_98 : decode c_M_load 98 = .ok (.aload_n 0, 1) := by decide +kernel
theorem dM_load_99 : decode c_M_load 99 = .ok (.getfield 83, 3) := by decide +kernel
theorem dM_load_102 : decode c_M_load 102 = .ok (.bipush 8, 2) := by decide +kernel
theorem dM_load_104 : decode c_M_load 104 = .ok (.if_icmp .ne 9, 3) := by decide +kernel
theorem dM_load_107 : decode c_M_load 107 = .ok (.aload_n 0, 1) := by decide +kernel
theorem dM_load_108 : decode c_M_load 108 = .ok (.iconst 3, 1) := by decide +kernel
theorem dM_load_109 : decode c_M_load 109 = .ok (.invokevirtual 73, 3) := by decide +kernel
theorem dM_load_112 : decode c_M_load 112 = .ok (.ireturn, 1) := by decide +kernel
theorem dM_load_113 : decode c_M_load 113 = .ok (.iload_n 2, 1) := by decide +kernel
theorem dM_load_114 : decode c_M_load 114 = .ok (.ifCond .eq 13, 3) := by decide +kernel
theorem dM_load_117 : decode c_M_load 117 = .ok (.iload_n 1, 1) := by decide +kernel
theorem dM_load_118 : decode c_M_load 118 = .ok (.invokestatic 95, 3) := by decide +kernel
theorem dM_load_121 : decode c_M_load 121 = .ok (.bipush 32, 2) := by decide +kernel
theorem dM_load_123 : decode c_M_load 123 = .ok (.isub, 1) := by decide +kernel
theorem dM_load_124 : decode c_M_load 124 = .ok (.goto 4, 3) := by decide +kernel
theorem dM_load_127 : decode c_M_load 127 = .ok (.iconst 0, 1) := by decide +kernel
theorem dM_load_128 : decode c_M_load 128 = .ok (.istore_n 3, 1) := by decide +kernel
theorem dM_load_129 : decode c_M_load 129 = .ok (.iconst 0, 1) := by decide +kernel
theorem dM_load_130 : decode c_M_load 130 = .ok (.istore 4, 2) := by decide +kernel
theorem dM_load_132 : decode c_M_load 132 = .ok (.iload 4, 2) := by decide +kernel
theorem dM_load_134 : decode c_M_load 134 = .ok (.iload_n 1, 1) := by decide +kernel
theorem dM_load_135 : decode c_M_load 135 = .ok (.invokestatic 95, 3) := by decide +kernel
theorem dM_load_138 : decode c_M_load 138 = .ok (.if_icmp .ge 30, 3) := by decide +kernel
theorem dM_load_141 : decode c_M_load 141 = .ok (.aload_n 0, 1) := by decide +kernel
theorem dM_load_142 : decode c_M_load 142 = .ok (.getfield 21, 3) := by decide +kernel
theorem dM_load_145 : decode c_M_load 145 = .ok (.aload_n 0, 1) := by decide +kernel
theorem dM_load_146 : decode c_M_load 146 = .ok (.getfield 83, 3) := by decide +kernel
theorem dM_load_149 : decode c_M_load 149 = .ok (.aaload, 1) := by decide +kernel
theorem dM_load_150 : decode c_M_load 150 = .ok (.iload 4, 2) := by decide +kernel
theorem dM_load_152 : decode c_M_load 152 = .ok (.aload_n 0, 1) := by decide +kernel
theorem dM_load_153 : decode c_M_load 153 = .ok (.getfield 7, 3) := by decide +kernel
theorem dM_load_156 : decode c_M_load 156 = .ok (.iload_n 3, 1) := by decide +kernel
theorem dM_load_157 : decode c_M_load 157 = .ok (.iload 4, 2) := by decide +kernel
theorem dM_load_159 : decode c_M_load 159 = .ok (.iadd, 1) := by decide +kernel
theorem dM_load_160 : decode c_M_load 160 = .ok (.baload, 1) := by decide +kernel
theorem dM_load_161 : decode c_M_load 161 = .ok (.bastore, 1) := by decide +kernel
theorem dM_load_162 : decode c_M_load 162 = .ok (.iinc 4 1, 3) := by decide +kernel
theorem dM_load_165 : decode c_M_load 165 = .ok (.goto (-33), 3) := by decide +kernel
theorem dM_load_168 : decode c_M_load 168 = .ok (.iconst 0, 1) := by decide +kernel
theorem dM_load_169 : decode c_M_load 169 = .ok (.istore 4, 2) := by decide +kernel
theorem dM_load_171 : decode c_M_load 171 = .ok (.iload_n 2, 1) := by decide +kernel
theorem dM_load_172 : decode c_M_load 172 = .ok (.ifCond .eq 37, 3) := by decide +kernel
theorem dM_load_175 : decode c_M_load 175 = .ok (.iload 4, 2) := by decide +kernel
theorem dM_load_177 : decode c_M_load 177 = .ok (.aload_n 0, 1) := by decide +kernel
theorem dM_load_178 : decode c_M_load 178 = .ok (.getfield 70, 3) := by decide +kernel
theorem dM_load_181 : decode c_M_load 181 = .ok (.if_icmp .ge 28, 3) := by decide +kernel
theorem dM_load_184 : decode c_M_load 184 = .ok (.aload_n 0, 1) := by decide +kernel
theorem dM_load_185 : decode c_M_load 185 = .ok (.getfield 24, 3) := by decide +kernel
theorem dM_load_188 : decode c_M_load 188 = .ok (.aload_n 0, 1) := by decide +kernel
theorem dM_load_189 : decode c_M_load 189 = .ok (.getfield 83, 3) := by decide +kernel
theorem dM_load_192 : decode c_M_load 192 = .ok (.aaload, 1) := by decide +kernel
theorem dM_load_193 : decode c_M_load 193 = .ok (.iload 4, 2) := by decide +kernel
theorem dM_load_195 : decode c_M_load 195 = .ok (.aload_n 0, 1) := by decide +kernel
theorem dM_load_196 : decode c_M_load 196 = .ok (.getfield 7, 3) := by decide +kernel
theorem dM_load_199 : decode c_M_load 199 = .ok (.iload 4, 2) := by decide +kernel
theorem dM_load_201 : decode c_M_load 201 = .ok (.baload, 1) := by decide +kernel
theorem dM_load_202 : decode c_M_load 202 = .ok (.bastore, 1) := by decide +kernel
theorem dM_load_203 : decode c_M_load 203 = .ok (.iinc 4 1, 3) := by decide +kernel
theorem dM_load_206 : decode c_M_load 206 = .ok (.goto (-35), 3) := by decide +kernel
theorem dM_load_209 : decode c_M_load 209 = .ok (.aload_n 0, 1) := by decide +kernel
theorem dM_load_210 : decode c_M_load 210 = .ok (.iload_n 1, 1) := by decide +kernel
theorem dM_load_211 : decode c_M_load 211 = .ok (.iload_n 2, 1) := by decide +kernel
theorem dM_load_212 : decode c_M_load 212 = .ok (.ifCond .eq 10, 3) := by decide +kernel
theorem dM_load_215 : decode c_M_load 215 = .ok (.aload_n 0, 1) := by decide +kernel
theorem dM_load_216 : decode c_M_load 216 = .ok (.getfield 70, 3) := by decide +kernel
theorem dM_load_219 : decode c_M_load 219 = .ok (.goto 4, 3) := by decide +kernel
theorem dM_load_222 : decode c_M_load 222 = .ok (.iconst 0, 1) := by decide +kernel
theorem dM_load_223 : decode c_M_load 223 = .ok (.invokevirtual 91, 3) := by decide +kernel
theorem dM_load_226 : decode c_M_load 226 = .ok (.ireturn, 1) := by decide +kernel
abbrev c_M_seal : ByteArray := prog_12_method_21_code
abbrev y_M_seal : MethodName := ⟨"LatticeKeysModel", "seal", "(I)I"⟩
abbrev w_M_seal : List Cond := Cond.code y_M_seal c_M_seal 2 (some .int) :: WG
theorem dM_seal_0 : decode c_M_seal 0 = .ok (.aload_n 0, 1) := by decide +kernel
theorem dM_seal_1 : decode c_M_seal 1 = .ok (.iconst 0, 1) := by decide +kernel
theorem dM_seal_2 : decode c_M_seal 2 = .ok (.putfield 57, 3) := by decide +kernel
theorem dM_seal_5 : decode c_M_seal 5 = .ok (.aload_n 0, 1) := by decide +kernel
theorem dM_seal_6 : decode c_M_seal 6 = .ok (.iload_n 1, 1) := by decide +kernel
theorem dM_seal_7 : decode c_M_seal 7 = .ok (.invokevirtual 103, 3) := by decide +kernel
theorem dM_seal_10 : decode c_M_seal 10 = .ok (.ifCond .ne 13, 3) := by decide +kernel
theorem dM_seal_13 : decode c_M_seal 13 = .ok (.aload_n 0, 1) := by decide +kernel
theorem dM_seal_14 : decode c_M_seal 14 = .ok (.getfield 27, 3) := by decide +kernel
theorem dM_seal_17 : decode c_M_seal 17 = .ok (.iload_n 1, 1) := by decide +kernel
theorem dM_seal_18 : decode c_M_seal 18 = .ok (.iaload, 1) := by decide +kernel
theorem dM_seal_19 : decode c_M_seal 19 = .ok (.iconst 2, 1) := by decide +kernel
theorem dM_seal_20 : decode c_M_seal 20 = .ok (.if_icmp .le 9, 3) := by decide +kernel
theorem dM_seal_23 : decode c_M_seal 23 = .ok (.aload_n 0, 1) := by decide +kernel
theorem dM_seal_24 : decode c_M_seal 24 = .ok (.iconst 1, 1) := by decide +kernel
theorem dM_seal_25 : decode c_M_seal 25 = .ok (.invokevirtual 73, 3) := by decide +kernel
theorem dM_seal_28 : decode c_M_seal 28 = .ok (.ireturn, 1) := by decide +kernel
theorem dM_seal_29 : decode c_M_seal 29 = .ok (.aload_n 0, 1) := by decide +kernel
theorem dM_seal_30 : decode c_M_seal 30 = .ok (.getfield 70, 3) := by decide +kernel
theorem dM_seal_33 : decode c_M_seal 33 = .ok (.bipush 32, 2) := by decide +kernel
theorem dM_seal_35 : decode c_M_seal 35 = .ok (.if_icmp .eq 9, 3) := by decide +kernel
theorem dM_seal_38 : decode c_M_seal 38 = .ok (.aload_n 0, 1) := by decide +kernel
theorem dM_seal_39 : decode c_M_seal 39 = .ok (.iconst 2, 1) := by decide +kernel
theorem dM_seal_40 : decode c_M_seal 40 = .ok (.invokevirtual 73, 3) := by decide +kernel
theorem dM_seal_43 : decode c_M_seal 43 = .ok (.ireturn, 1) := by decide +kernel
theorem dM_seal_44 : decode c_M_seal 44 = .ok (.aload_n 0, 1) := by decide +kernel
theorem dM_seal_45 : decode c_M_seal 45 = .ok (.iconst 0, 1) := by decide +kernel
theorem dM_seal_46 : decode c_M_seal 46 = .ok (.putfield 70, 3) := by decide +kernel
theorem dM_seal_49 : decode c_M_seal 49 = .ok (.aload_n 0, 1) := by decide +kernel
theorem dM_seal_50 : decode c_M_seal 50 = .ok (.aload_n 0, 1) := by decide +kernel
theorem dM_seal_51 : decode c_M_seal 51 = .ok (.getfield 46, 3) := by decide +kernel
theorem dM_seal_54 : decode c_M_seal 54 = .ok (.aload_n 0, 1) := by decide +kernel
theorem dM_seal_55 : decode c_M_seal 55 = .ok (.getfield 27, 3) := by decide +kernel
theorem dM_seal_58 : decode c_M_seal 58 = .ok (.iload_n 1, 1) := by decide +kernel
theorem dM_seal_59 : decode c_M_seal 59 = .ok (.iaload, 1) := by decide +kernel
theorem dM_seal_60 : decode c_M_seal 60 = .ok (.aload_n 0, 1) := by decide +kernel
theorem dM_seal_61 : decode c_M_seal 61 = .ok (.getfield 21, 3) := by decide +kernel
theorem dM_seal_64 : decode c_M_seal 64 = .ok (.iload_n 1, 1) := by decide +kernel
theorem dM_seal_65 : decode c_M_seal 65 = .ok (.aaload, 1) := by decide +kernel
theorem dM_seal_66 : decode c_M_seal 66 = .ok (.aload_n 0, 1) := by decide +kernel
theorem dM_seal_67 : decode c_M_seal 67 = .ok (.getfield 7, 3) := by decide +kernel
theorem dM_seal_70 : decode c_M_seal 70 = .ok (.aload_n 0, 1) := by decide +kernel
theorem dM_seal_71 : decode c_M_seal 71 = .ok (.getfield 13, 3) := by decide +kernel
theorem dM_seal_74 : decode c_M_seal 74 = .ok (.invokevirtual 111, 3) := by decide +kernel
theorem dM_seal_77 : decode c_M_seal 77 = .ok (.putfield 80, 3) := by decide +kernel
theorem dM_seal_80 : decode c_M_seal 80 = .ok (.aload_n 0, 1) := by decide +kernel
theorem dM_seal_81 : decode c_M_seal 81 = .ok (.getfield 80, 3) := by decide +kernel
theorem dM_seal_84 : decode c_M_seal 84 = .ok (.ireturn, 1) := by decide +kernel
abbrev c_M_open : ByteArray := prog_12_method_22_code
abbrev y_M_open : MethodName := ⟨"LatticeKeysModel", "open", "(I)I"⟩
abbrev w_M_open : List Cond := Cond.code y_M_open c_M_open 2 (some .int) :: WG
theorem dM_open_0 : decode c_M_open 0 = .ok (.aload_n 0, 1) := by decide +kernel
theorem dM_open_1 : decode c_M_open 1 = .ok (.iconst 0, 1) := by decide +kernel
theorem dM_open_2 : decode c_M_open 2 = .ok (.putfield 57, 3) := by decide +kernel
theorem dM_open_5 : decode c_M_open 5 = .ok (.aload_n 0, 1) := by decide +kernel
theorem dM_open_6 : decode c_M_open 6 = .ok (.iload_n 1, 1) := by decide +kernel
theorem dM_open_7 : decode c_M_open 7 = .ok (.invokevirtual 103, 3) := by decide +kernel
theorem dM_open_10 : decode c_M_open 10 = .ok (.ifCond .ne 22, 3) := by decide +kernel
theorem dM_open_13 : decode c_M_open 13 = .ok (.aload_n 0, 1) := by decide +kernel
theorem dM_open_14 : decode c_M_open 14 = .ok (.getfield 27, 3) := by decide +kernel
theorem dM_open_17 : decode c_M_open 17 = .ok (.iload_n 1, 1) := by decide +kernel
theorem dM_open_18 : decode c_M_open 18 = .ok (.iaload, 1) := by decide +kernel
theorem dM_open_19 : decode c_M_open 19 = .ok (.iconst 2, 1) := by decide +kernel
theorem dM_open_20 : decode c_M_open 20 = .ok (.if_icmp .gt 12, 3) := by decide +kernel
theorem dM_open_23 : decode c_M_open 23 = .ok (.aload_n 0, 1) := by decide +kernel
theorem dM_open_24 : decode c_M_open 24 = .ok (.getfield 31, 3) := by decide +kernel
theorem dM_open_27 : decode c_M_open 27 = .ok (.iload_n 1, 1) := by decide +kernel
theorem dM_open_28 : decode c_M_open 28 = .ok (.iaload, 1) := by decide +kernel
theorem dM_open_29 : decode c_M_open 29 = .ok (.ifCond .ne 9, 3) := by decide +kernel
theorem dM_open_32 : decode c_M_open 32 = .ok (.aload_n 0, 1) := by decide +kernel
theorem dM_open_33 : decode c_M_open 33 = .ok (.iconst 1, 1) := by decide +kernel
theorem dM_open_34 : decode c_M_open 34 = .ok (.invokevirtual 73, 3) := by decide +kernel
theorem dM_open_37 : decode c_M_open 37 = .ok (.ireturn, 1) := by decide +kernel
theorem dM_open_38 : decode c_M_open 38 = .ok (.aload_n 0, 1) := by decide +kernel
theorem dM_open_39 : decode c_M_open 39 = .ok (.getfield 70, 3) := by decide +kernel
theorem dM_open_42 : decode c_M_open 42 = .ok (.aload_n 0, 1) := by decide +kernel
theorem dM_open_43 : decode c_M_open 43 = .ok (.getfield 27, 3) := by decide +kernel
theorem dM_open_46 : decode c_M_open 46 = .ok (.iload_n 1, 1) := by decide +kernel
theorem dM_open_47 : decode c_M_open 47 = .ok (.iaload, 1) := by decide +kernel
theorem dM_open_48 : decode c_M_open 48 = .ok (.invokestatic 115, 3) := by decide +kernel
theorem dM_open_51 : decode c_M_open 51 = .ok (.if_icmp .eq 9, 3) := by decide +kernel
theorem dM_open_54 : decode c_M_open 54 = .ok (.aload_n 0, 1) := by decide +kernel
theorem dM_open_55 : decode c_M_open 55 = .ok (.iconst 2, 1) := by decide +kernel
theorem dM_open_56 : decode c_M_open 56 = .ok (.invokevirtual 73, 3) := by decide +kernel
theorem dM_open_59 : decode c_M_open 59 = .ok (.ireturn, 1) := by decide +kernel
theorem dM_open_60 : decode c_M_open 60 = .ok (.aload_n 0, 1) := by decide +kernel
theorem dM_open_61 : decode c_M_open 61 = .ok (.iconst 0, 1) := by decide +kernel
theorem dM_open_62 : decode c_M_open 62 = .ok (.putfield 70, 3) := by decide +kernel
theorem dM_open_65 : decode c_M_open 65 = .ok (.aload_n 0, 1) := by decide +kernel
theorem dM_open_66 : decode c_M_open 66 = .ok (.bipush 32, 2) := by decide +kernel
theorem dM_open_68 : decode c_M_open 68 = .ok (.putfield 80, 3) := by decide +kernel
theorem dM_open_71 : decode c_M_open 71 = .ok (.aload_n 0, 1) := by decide +kernel
theorem dM_open_72 : decode c_M_open 72 = .ok (.getfield 46, 3) := by decide +kernel
theorem dM_open_75 : decode c_M_open 75 = .ok (.aload_n 0, 1) := by decide +kernel
theorem dM_open_76 : decode c_M_open 76 = .ok (.getfield 27, 3) := by decide +kernel
theorem dM_open_79 : decode c_M_open 79 = .ok (.iload_n 1, 1) := by decide +kernel
theorem dM_open_80 : decode c_M_open 80 = .ok (.iaload, 1) := by decide +kernel
theorem dM_open_81 : decode c_M_open 81 = .ok (.aload_n 0, 1) := by decide +kernel
theorem dM_open_82 : decode c_M_open 82 = .ok (.getfield 24, 3) := by decide +kernel
theorem dM_open_85 : decode c_M_open 85 = .ok (.iload_n 1, 1) := by decide +kernel
theorem dM_open_86 : decode c_M_open 86 = .ok (.aaload, 1) := by decide +kernel
theorem dM_open_87 : decode c_M_open 87 = .ok (.aload_n 0, 1) := by decide +kernel
theorem dM_open_88 : decode c_M_open 88 = .ok (.getfield 7, 3) := by decide +kernel
theorem dM_open_91 : decode c_M_open 91 = .ok (.aload_n 0, 1) := by decide +kernel
theorem dM_open_92 : decode c_M_open 92 = .ok (.getfield 13, 3) := by decide +kernel
theorem dM_open_95 : decode c_M_open 95 = .ok (.invokevirtual 118, 3) := by decide +kernel
theorem dM_open_98 : decode c_M_open 98 = .ok (.aload_n 0, 1) := by decide +kernel
theorem dM_open_99 : decode c_M_open 99 = .ok (.getfield 80, 3) := by decide +kernel
theorem dM_open_102 : decode c_M_open 102 = .ok (.ireturn, 1) := by decide +kernel
abbrev c_M_sign : ByteArray := prog_12_method_23_code
abbrev y_M_sign : MethodName := ⟨"LatticeKeysModel", "sign", "(II)I"⟩
abbrev w_M_sign : List Cond := Cond.code y_M_sign c_M_sign 5 (some .int) :: WG
theorem dM_sign_0 : decode c_M_sign 0 = .ok (.aload_n 0, 1) := by decide +kernel
theorem dM_sign_1 : decode c_M_sign 1 = .ok (.iconst 0, 1) := by decide +kernel
theorem dM_sign_2 : decode c_M_sign 2 = .ok (.putfield 57, 3) := by decide +kernel
theorem dM_sign_5 : decode c_M_sign 5 = .ok (.aload_n 0, 1) := by decide +kernel
theorem dM_sign_6 : decode c_M_sign 6 = .ok (.iload_n 1, 1) := by decide +kernel
theorem dM_sign_7 : decode c_M_sign 7 = .ok (.invokevirtual 103, 3) := by decide +kernel
theorem dM_sign_10 : decode c_M_sign 10 = .ok (.ifCond .ne 22, 3) := by decide +kernel
theorem dM_sign_13 : decode c_M_sign 13 = .ok (.aload_n 0, 1) := by decide +kernel
theorem dM_sign_14 : decode c_M_sign 14 = .ok (.getfield 27, 3) := by decide +kernel
theorem dM_sign_17 : decode c_M_sign 17 = .ok (.iload_n 1, 1) := by decide +kernel
theorem dM_sign_18 : decode c_M_sign 18 = .ok (.iaload, 1) := by decide +kernel
theorem dM_sign_19 : decode c_M_sign 19 = .ok (.iconst 3, 1) := by decide +kernel
theorem dM_sign_20 : decode c_M_sign 20 = .ok (.if_icmp .lt 12, 3) := by decide +kernel
theorem dM_sign_23 : decode c_M_sign 23 = .ok (.aload_n 0, 1) := by decide +kernel
theorem dM_sign_24 : decode c_M_sign 24 = .ok (.getfield 31, 3) := by decide +kernel
theorem dM_sign_27 : decode c_M_sign 27 = .ok (.iload_n 1, 1) := by decide +kernel
theorem dM_sign_28 : decode c_M_sign 28 = .ok (.iaload, 1) := by decide +kernel
theorem dM_sign_29 : decode c_M_sign 29 = .ok (.ifCond .ne 9, 3) := by decide +kernel
theorem dM_sign_32 : decode c_M_sign 32 = .ok (.aload_n 0, 1) := by decide +kernel
theorem dM_sign_33 : decode c_M_sign 33 = .ok (.iconst 1, 1) := by decide +kernel
theorem dM_sign_34 : decode c_M_sign 34 = .ok (.invokevirtual 73, 3) := by decide +kernel
theorem dM_sign_37 : decode c_M_sign 37 = .ok (.ireturn, 1) := by decide +kernel
theorem dM_sign_38 : decode c_M_sign 38 = .ok (.iload_n 2, 1) := by decide +kernel
theorem dM_sign_39 : decode c_M_sign 39 = .ok (.ifCond .lt 21, 3) := by decide +kernel
theorem dM_sign_42 : decode c_M_sign 42 = .ok (.iload_n 2, 1) := by decide +kernel
theorem dM_sign_43 : decode c_M_sign 43 = .ok (.sipush 255, 3) := by decide +kernel
theorem dM_sign_46 : decode c_M_sign 46 = .ok (.if_icmp .gt 14, 3) := by decide +kernel
theorem dM_sign_49 : decode c_M_sign 49 = .ok (.aload_n 0, 1) := by decide +kernel
theorem dM_sign_50 : decode c_M_sign 50 = .ok (.getfield 70, 3) := by decide +kernel
theorem dM_sign_53 : decode c_M_sign 53 = .ok (.bipush 32, 2) := by decide +kernel
theorem dM_sign_55 : decode c_M_sign 55 = .ok (.iload_n 2, 1) := by decide +kernel
theorem dM_sign_56 : decode c_M_sign 56 = .ok (.iadd, 1) := by decide +kernel
theorem dM_sign_57 : decode c_M_sign 57 = .ok (.if_icmp .ge 9, 3) := by decide +kernel
theorem dM_sign_60 : decode c_M_sign 60 = .ok (.aload_n 0, 1) := by decide +kernel
theorem dM_sign_61 : decode c_M_sign 61 = .ok (.iconst 2, 1) := by decide +kernel
theorem dM_sign_62 : decode c_M_sign 62 = .ok (.invokevirtual 73, 3) := by decide +kernel
theorem dM_sign_65 : decode c_M_sign 65 = .ok (.ireturn, 1) := by decide +kernel
theorem dM_sign_66 : decode c_M_sign 66 = .ok (.aload_n 0, 1) := by decide +kernel
theorem dM_sign_67 : decode c_M_sign 67 = .ok (.getfield 53, 3) := by decide +kernel
theorem dM_sign_70 : decode c_M_sign 70 = .ok (.aload_n 0, 1) := by decide +kernel
theorem dM_sign_71 : decode c_M_sign 71 = .ok (.getfield 27, 3) := by decide +kernel
theorem dM_sign_74 : decode c_M_sign 74 = .ok (.iload_n 1, 1) := by decide +kernel
theorem dM_sign_75 : decode c_M_sign 75 = .ok (.iaload, 1) := by decide +kernel
theorem dM_sign_76 : decode c_M_sign 76 = .ok (.iconst 3, 1) := by decide +kernel
theorem dM_sign_77 : decode c_M_sign 77 = .ok (.isub, 1) := by decide +kernel
theorem dM_sign_78 : decode c_M_sign 78 = .ok (.aload_n 0, 1) := by decide +kernel
theorem dM_sign_79 : decode c_M_sign 79 = .ok (.getfield 24, 3) := by decide +kernel
theorem dM_sign_82 : decode c_M_sign 82 = .ok (.iload_n 1, 1) := by decide +kernel
theorem dM_sign_83 : decode c_M_sign 83 = .ok (.aaload, 1) := by decide +kernel
theorem dM_sign_84 : decode c_M_sign 84 = .ok (.aload_n 0, 1) := by decide +kernel
theorem dM_sign_85 : decode c_M_sign 85 = .ok (.getfield 7, 3) := by decide +kernel
theorem dM_sign_88 : decode c_M_sign 88 = .ok (.iload_n 2, 1) := by decide +kernel
theorem dM_sign_89 : decode c_M_sign 89 = .ok (.aload_n 0, 1) := by decide +kernel
theorem dM_sign_90 : decode c_M_sign 90 = .ok (.getfield 70, 3) := by decide +kernel
theorem dM_sign_93 : decode c_M_sign 93 = .ok (.aload_n 0, 1) := by decide +kernel
theorem dM_sign_94 : decode c_M_sign 94 = .ok (.getfield 16, 3) := by decide +kernel
theorem dM_sign_97 : decode c_M_sign 97 = .ok (.invokevirtual 120, 3) := by decide +kernel
theorem dM_sign_100 : decode c_M_sign 100 = .ok (.istore_n 3, 1) := by decide +kernel
theorem dM_sign_101 : decode c_M_sign 101 = .ok (.iload_n 3, 1) := by decide +kernel
theorem dM_sign_102 : decode c_M_sign 102 = .ok (.ifCond .ne 9, 3) := by decide +kernel
theorem dM_sign_105 : decode c_M_sign 105 = .ok (.aload_n 0, 1) := by decide +kernel
theorem dM_sign_106 : decode c_M_sign 106 = .ok (.iconst 3, 1) := by decide +kernel
theorem dM_sign_107 : decode c_M_sign 107 = .ok (.invokevirtual 73, 3) := by decide +kernel
theorem dM_sign_110 : decode c_M_sign 110 = .ok (.ireturn, 1) := by decide +kernel
theorem dM_sign_111 : decode c_M_sign 111 = .ok (.aload_n 0, 1) := by decide +kernel
theorem dM_sign_112 : decode c_M_sign 112 = .ok (.aload_n 0, 1) := by decide +kernel
theorem dM_sign_113 : decode c_M_sign 113 = .ok (.getfield 27, 3) := by decide +kernel
theorem dM_sign_116 : decode c_M_sign 116 = .ok (.iload_n 1, 1) := by decide +kernel
theorem dM_sign_117 : decode c_M_sign 117 = .ok (.iaload, 1) := by decide +kernel
theorem dM_sign_118 : decode c_M_sign 118 = .ok (.iconst 3, 1) := by decide +kernel
theorem dM_sign_119 : decode c_M_sign 119 = .ok (.isub, 1) := by decide +kernel
theorem dM_sign_120 : decode c_M_sign 120 = .ok (.invokestatic 124, 3) := by decide +kernel
theorem dM_sign_123 : decode c_M_sign 123 = .ok (.putfield 80, 3) := by decide +kernel
theorem dM_sign_126 : decode c_M_sign 126 = .ok (.iconst 0, 1) := by decide +kernel
theorem dM_sign_127 : decode c_M_sign 127 = .ok (.istore 4, 2) := by decide +kernel
theorem dM_sign_129 : decode c_M_sign 129 = .ok (.iload 4, 2) := by decide +kernel
theorem dM_sign_131 : decode c_M_sign 131 = .ok (.aload_n 0, 1) := by decide +kernel
theorem dM_sign_132 : decode c_M_sign 132 = .ok (.getfield 80, 3) := by decide +kernel
theorem dM_sign_135 : decode c_M_sign 135 = .ok (.if_icmp .ge 23, 3) := by decide +kernel
theorem dM_sign_138 : decode c_M_sign 138 = .ok (.aload_n 0, 1) := by decide +kernel
theorem dM_sign_139 : decode c_M_sign 139 = .ok (.getfield 13, 3) := by decide +kernel
theorem dM_sign_142 : decode c_M_sign 142 = .ok (.iload 4, 2) := by decide +kernel
theorem dM_sign_144 : decode c_M_sign 144 = .ok (.aload_n 0, 1) := by decide +kernel
theorem dM_sign_145 : decode c_M_sign 145 = .ok (.getfield 16, 3) := by decide +kernel
theorem dM_sign_148 : decode c_M_sign 148 = .ok (.iload 4, 2) := by decide +kernel
theorem dM_sign_150 : decode c_M_sign 150 = .ok (.baload, 1) := by decide +kernel
theorem dM_sign_151 : decode c_M_sign 151 = .ok (.bastore, 1) := by decide +kernel
theorem dM_sign_152 : decode c_M_sign 152 = .ok (.iinc 4 1, 3) := by decide +kernel
theorem dM_sign_155 : decode c_M_sign 155 = .ok (.goto (-26), 3) := by decide +kernel
theorem dM_sign_158 : decode c_M_sign 158 = .ok (.aload_n 0, 1) := by decide +kernel
theorem dM_sign_159 : decode c_M_sign 159 = .ok (.iconst 0, 1) := by decide +kernel
theorem dM_sign_160 : decode c_M_sign 160 = .ok (.putfield 70, 3) := by decide +kernel
theorem dM_sign_163 : decode c_M_sign 163 = .ok (.iload_n 3, 1) := by decide +kernel
theorem dM_sign_164 : decode c_M_sign 164 = .ok (.ireturn, 1) := by decide +kernel
abbrev c_M_verify : ByteArray := prog_12_method_24_code
abbrev y_M_verify : MethodName := ⟨"LatticeKeysModel", "verify", "(II)Z"⟩
abbrev w_M_verify : List Cond := Cond.code y_M_verify c_M_verify 4 (some .boolean) :: WG
theorem dM_verify_0 : decode c_M_verify 0 = .ok (.aload_n 0, 1) := by decide +kernel
theorem dM_verify_1 : decode c_M_verify 1 = .ok (.aload_n 0, 1) := by decide +kernel
theorem dM_verify_2 : decode c_M_verify 2 = .ok (.iload_n 1, 1) := by decide +kernel
theorem dM_verify_3 : decode c_M_verify 3 = .ok (.invokevirtual 103, 3) := by decide +kernel
theorem dM_verify_6 : decode c_M_verify 6 = .ok (.ifCond .ne 13, 3) := by decide +kernel
theorem dM_verify_9 : decode c_M_verify 9 = .ok (.aload_n 0, 1) := by decide +kernel
theorem dM_verify_10 : decode c_M_verify 10 = .ok (.getfield 27, 3) := by decide +kernel
theorem dM_verify_13 : decode c_M_verify 13 = .ok (.iload_n 1, 1) := by decide +kernel
theorem dM_verify_14 : decode c_M_verify 14 = .ok (.iaload, 1) := by decide +kernel
theorem dM_verify_15 : decode c_M_verify 15 = .ok (.iconst 3, 1) := by decide +kernel
theorem dM_verify_16 : decode c_M_verify 16 = .ok (.if_icmp .ge 7, 3) := by decide +kernel
theorem dM_verify_19 : decode c_M_verify 19 = .ok (.iconst 1, 1) := by decide +kernel
theorem dM_verify_20 : decode c_M_verify 20 = .ok (.goto 39, 3) := by decide +kernel
theorem dM_verify_23 : decode c_M_verify 23 = .ok (.iload_n 2, 1) := by decide +kernel
theorem dM_verify_24 : decode c_M_verify 24 = .ok (.ifCond .lt 30, 3) := by decide +kernel
theorem dM_verify_27 : decode c_M_verify 27 = .ok (.iload_n 2, 1) := by decide +kernel
theorem dM_verify_28 : decode c_M_verify 28 = .ok (.sipush 255, 3) := by decide +kernel
theorem dM_verify_31 : decode c_M_verify 31 = .ok (.if_icmp .gt 23, 3) := by decide +kernel
theorem dM_verify_34 : decode c_M_verify 34 = .ok (.aload_n 0, 1) := by decide +kernel
theorem dM_verify_35 : decode c_M_verify 35 = .ok (.getfield 70, 3) := by decide +kernel
theorem dM_verify_38 : decode c_M_verify 38 = .ok (.aload_n 0, 1) := by decide +kernel
theorem dM_verify_39 : decode c_M_verify 39 = .ok (.getfield 27, 3) := by decide +kernel
theorem dM_verify_42 : decode c_M_verify 42 = .ok (.iload_n 1, 1) := by decide +kernel
theorem dM_verify_43 : decode c_M_verify 43 = .ok (.iaload, 1) := by decide +kernel
theorem dM_verify_44 : decode c_M_verify 44 = .ok (.iconst 3, 1) := by decide +kernel
theorem dM_verify_45 : decode c_M_verify 45 = .ok (.isub, 1) := by decide +kernel
theorem dM_verify_46 : decode c_M_verify 46 = .ok (.invokestatic 124, 3) := by decide +kernel
theorem dM_verify_49 : decode c_M_verify 49 = .ok (.iload_n 2, 1) := by decide +kernel
theorem dM_verify_50 : decode c_M_verify 50 = .ok (.iadd, 1) := by decide +kernel
theorem dM_verify_51 : decode c_M_verify 51 = .ok (.if_icmp .ge 7, 3) := by decide +kernel
theorem dM_verify_54 : decode c_M_verify 54 = .ok (.iconst 2, 1) := by decide +kernel
theorem dM_verify_55 : decode c_M_verify 55 = .ok (.goto 4, 3) := by decide +kernel
theorem dM_verify_58 : decode c_M_verify 58 = .ok (.iconst 0, 1) := by decide +kernel
theorem dM_verify_59 : decode c_M_verify 59 = .ok (.putfield 57, 3) := by decide +kernel
theorem dM_verify_62 : decode c_M_verify 62 = .ok (.aload_n 0, 1) := by decide +kernel
theorem dM_verify_63 : decode c_M_verify 63 = .ok (.getfield 57, 3) := by decide +kernel
theorem dM_verify_66 : decode c_M_verify 66 = .ok (.ifCond .le 5, 3) := by decide +kernel
theorem dM_verify_69 : decode c_M_verify 69 = .ok (.iconst 0, 1) := by decide +kernel
theorem dM_verify_70 : decode c_M_verify 70 = .ok (.ireturn, 1) := by decide +kernel
theorem dM_verify_71 : decode c_M_verify 71 = .ok (.aload_n 0, 1) := by decide +kernel
theorem dM_verify_72 : decode c_M_verify 72 = .ok (.getfield 53, 3) := by decide +kernel
theorem dM_verify_75 : decode c_M_verify 75 = .ok (.aload_n 0, 1) := by decide +kernel
theorem dM_verify_76 : decode c_M_verify 76 = .ok (.getfield 27, 3) := by decide +kernel
theorem dM_verify_79 : decode c_M_verify 79 = .ok (.iload_n 1, 1) := by decide +kernel
theorem dM_verify_80 : decode c_M_verify 80 = .ok (.iaload, 1) := by decide +kernel
theorem dM_verify_81 : decode c_M_verify 81 = .ok (.iconst 3, 1) := by decide +kernel
theorem dM_verify_82 : decode c_M_verify 82 = .ok (.isub, 1) := by decide +kernel
theorem dM_verify_83 : decode c_M_verify 83 = .ok (.aload_n 0, 1) := by decide +kernel
theorem dM_verify_84 : decode c_M_verify 84 = .ok (.getfield 21, 3) := by decide +kernel
theorem dM_verify_87 : decode c_M_verify 87 = .ok (.iload_n 1, 1) := by decide +kernel
theorem dM_verify_88 : decode c_M_verify 88 = .ok (.aaload, 1) := by decide +kernel
theorem dM_verify_89 : decode c_M_verify 89 = .ok (.aload_n 0, 1) := by decide +kernel
theorem dM_verify_90 : decode c_M_verify 90 = .ok (.getfield 7, 3) := by decide +kernel
theorem dM_verify_93 : decode c_M_verify 93 = .ok (.iload_n 2, 1) := by decide +kernel
theorem dM_verify_94 : decode c_M_verify 94 = .ok (.aload_n 0, 1) := by decide +kernel
theorem dM_verify_95 : decode c_M_verify 95 = .ok (.getfield 70, 3) := by decide +kernel
theorem dM_verify_98 : decode c_M_verify 98 = .ok (.invokevirtual 127, 3) := by decide +kernel
theorem dM_verify_101 : decode c_M_verify 101 = .ok (.istore_n 3, 1) := by decide +kernel
theorem dM_verify_102 : decode c_M_verify 102 = .ok (.aload_n 0, 1) := by decide +kernel
theorem dM_verify_103 : decode c_M_verify 103 = .ok (.iconst 0, 1) := by decide +kernel
theorem dM_verify_104 : decode c_M_verify 104 = .ok (.putfield 70, 3) := by decide +kernel
theorem dM_verify_107 : decode c_M_verify 107 = .ok (.iload_n 3, 1) := by decide +kernel
theorem dM_verify_108 : decode c_M_verify 108 = .ok (.ireturn, 1) := by decide +kernel
set_option maxHeartbeats 4000000 in
set_option maxRecDepth 100000 in
theorem t_M_keys (l : Launch) (g : Gd) (sz : Nat) (T : Ty) (pl : va_W) (hO : okx g T [] pl) (hU : uni T) (v : Int32) (h0 mt mr_ mk mo mh mse mhs msp msc mha tp rs ks : Nat) (x0 : Int32) (fS : Nat → Int32) (k_mt : T mt = some (1, 16384)) (k_mr_ : T mr_ = some (1, 8192)) (k_mk : T mk = some (1, 8192)) (k_mo : T mo = some (4, 2592)) (k_mh : T mh = some (4, 4896)) (k_mhs : T mhs = some (5, 4896)) (k_msp : T msp = some (20, 0)) (k_msc : T msc = some (23, 0)) (k_mha : T mha = some (49, 0)) (hb : tp ≤ 16384 ∧ rs ≤ 8192 ∧ ks ≤ 8) (hS5 : s5 fS)  : Met l y_M_keys w_M_keys ({ frames := 6, cells := 0, slots := 0, locals := 153 } : Room) (va_Pc [.ref h0, .int v] (pr (en g) g.1 vcl sz ([(h0, .inr (8, [.int x0, .int (nI tp), .int (nI rs), .int (nI ks), .ref mt, .ref mr_, .ref mk, .ref mo, .ref mh, .ref mse, .ref mhs, .ref msp, .ref msc, .ref mha])), (mse, .inl (g.2.1 0, 8, .inl fS))] ++ pl))) (va_Qi (fun (r : Int32) (u : (Int32 × Nat × Nat × Nat × (Nat → Int32)) × va_W) => (u.1.2.1 ≤ 16384 ∧ u.1.2.2.1 ≤ 8192 ∧ u.1.2.2.2.1 ≤ 8 ∧ s5 u.1.2.2.2.2) ∧ okx g T [] u.2) (po g.1 vcl (va_A ([(h0, .inr (8, [.int x0, .int (nI tp), .int (nI rs), .int (nI ks), .ref mt, .ref mr_, .ref mk, .ref mo, .ref mh, .ref mse, .ref mhs, .ref msp, .ref msc, .ref mha])), (mse, .inl (g.2.1 0, 8, .inl fS))] ++ pl) sz) (fun (u : (Int32 × Nat × Nat × Nat × (Nat → Int32)) × va_W) => [(h0, .inr (8, [.int u.1.1, .int (nI (u.1.2.1)), .int (nI (u.1.2.2.1)), .int (nI (u.1.2.2.2.1)), .ref mt, .ref mr_, .ref mk, .ref mo, .ref mh, .ref mse, .ref mhs, .ref msp, .ref msc, .ref mha])), (mse, .inl (g.2.1 0, 8, .inl ((u.1.2.2.2.2))))] ++ u.2)) (va_A ([(h0, .inr (8, [.int x0, .int (nI tp), .int (nI rs), .int (nI ks), .ref mt, .ref mr_, .ref mk, .ref mo, .ref mh, .ref mse, .ref mhs, .ref msp, .ref msc, .ref mha])), (mse, .inl (g.2.1 0, 8, .inl fS))] ++ pl) sz)) 0 0 (va_A ([(h0, .inr (8, [.int x0, .int (nI tp), .int (nI rs), .int (nI ks), .ref mt, .ref mr_, .ref mk, .ref mo, .ref mh, .ref mse, .ref mhs, .ref msp, .ref msc, .ref mha])), (mse, .inl (g.2.1 0, 8, .inl fS))] ++ pl) sz) := by
  refine mc_entry (cc := c_M_keys) (maxL := 2) (ret := (some .int)) (by decide) rfl (Nat.le_of_ble_eq_true rfl) ?_
  intro p e s m args below meth c ls F hr hlk hnm hsz hP hD hE hA hl
  obtain ⟨hx, hb, hml, hown, hts⟩ := id F
  have hK := hE.1
  generalize va_A ([(h0, .inr (8, [.int x0, .int (nI tp), .int (nI rs), .int (nI ks), .ref mt, .ref mr_, .ref mk, .ref mo, .ref mh, .ref mse, .ref mhs, .ref msp, .ref msc, .ref mha])), (mse, .inl (g.2.1 0, 8, .inl fS))] ++ pl) sz = A at hD hE hA ⊢
  have hS : va_S A s.heap s.heap [] := va_S.rf
  have hl : lv_has ls 2 [(0, .ref h0), (1, .int v)] := hl
  refine lv_aload_n hx hb dM_keys_0 rfl (lv_at hl 0 rfl) ?_
  refine lv_iconst (v := nI 0) hx hb dM_keys_1 (by decide) ?_
  refine va_put (D := g.1) (ci := 8) (v := .int (nI 0)) (ty := .int) (C := "LatticeKeysModel") (T := T_M) (N := 14) hx hb hts (wg_ft i_M) ty_M k_M n_M hown hK hP hD hS 0 rfl rfl 0 (by decide) (hts _ (wg_t kw_1526)) (fun _ h9 => h9) rfl (by decide +kernel) rfl rfl (Nat.le_of_ble_eq_true rfl) dM_keys_2 (fun H locs hP hD hS => ?_)
  have hP : va_P g.1 vcl ([(h0, .inr (8, [.int (nI 0), .int (nI tp), .int (nI rs), .int (nI ks), .ref mt, .ref mr_, .ref mk, .ref mo, .ref mh, .ref mse, .ref mhs, .ref msp, .ref msc, .ref mha])), (mse, .inl (g.2.1 0, 8, .inl fS))] ++ pl) _ := hP
  have hD : va_D _ ([(h0, .inr (8, [.int (nI 0), .int (nI tp), .int (nI rs), .int (nI ks), .ref mt, .ref mr_, .ref mk, .ref mo, .ref mh, .ref mse, .ref mhs, .ref msp, .ref msc, .ref mha])), (mse, .inl (g.2.1 0, 8, .inl fS))] ++ pl) := hD
  rcases rng (v := v) 5 (by decide) with hb9 | hb9
  · obtain ⟨j9, hj9, rfl⟩ := hb9
    match j9, hj9 with
    | 0, _ =>
      refine lv_iload_n hx hb dM_keys_5 rfl (lv_at hl 1 rfl) ?_
      refine lv_if_lt (tgt := 33) hx hb dM_keys_6 (by decide) (fun h21 => absurd h21 (by decide)) (fun h21 => ?_)
      refine lv_iload_n hx hb dM_keys_9 rfl (lv_at hl 1 rfl) ?_
      refine lv_iconst (v := nI 5) hx hb dM_keys_10 (by decide) ?_
      refine mi_gt (tgt := 33) hx hb dM_keys_11 (by decide) (by omega) (by omega) (fun h22 => absurd h22 (by omega)) (fun h22 => ?_)
      refine lv_aload_n hx hb dM_keys_14 rfl (lv_at hl 0 rfl) ?_
      refine va_get (D := g.1) (ci := 8) (C := "LatticeKeysModel") (T := T_M) (N := 14) hx hb hts (wg_ft i_M) hown hK hP 0 rfl rfl 1 (by decide) (hts _ (wg_t kw_1527)) (fun _ h9 => h9) rfl dM_keys_15 ?_
      refine lv_iload_n hx hb dM_keys_18 rfl (lv_at hl 1 rfl) ?_
      refine lv_iconst (v := nI 3) hx hb dM_keys_19 (by decide) ?_
      refine mi_ge (tgt := 28) hx hb dM_keys_20 (by decide) (by omega) (by omega) (fun h23 => absurd h23 (by omega)) (fun h23 => ?_)
      refine lv_bipush (v := nI 64) hx hb dM_keys_23 (by decide) ?_
      refine lv_goto (tgt := 30) hx hb dM_keys_25 (by decide) ?_
      refine mi_eq (tgt := 39) hx hb dM_keys_30 (by decide) (by omega) (by omega) (fun h24 => ?_) (fun h24 => ?_)
      · refine lv_aload_n hx hb dM_keys_39 rfl (lv_at hl 0 rfl) ?_
        refine va_get (D := g.1) (ci := 8) (C := "LatticeKeysModel") (T := T_M) (N := 14) hx hb hts (wg_ft i_M) hown hK hP 0 rfl rfl 3 (by decide) (hts _ (wg_t kw_1529)) (fun _ h9 => h9) rfl dM_keys_40 ?_
        refine lv_bipush (v := nI 8) hx hb dM_keys_43 (by decide) ?_
        refine mi_ne (tgt := 54) hx hb dM_keys_45 (by decide) (by omega) (by omega) (fun h25 => ?_) (fun h25 => ?_)
        · refine lv_iload_n hx hb dM_keys_54 rfl (lv_at hl 1 rfl) ?_
          refine lv_iconst (v := nI 3) hx hb dM_keys_55 (by decide) ?_
          refine mi_ge (tgt := 92) hx hb dM_keys_56 (by decide) (by omega) (by omega) (fun h26 => absurd h26 (by omega)) (fun h26 => ?_)
          refine lv_aload_n hx hb dM_keys_59 rfl (lv_at hl 0 rfl) ?_
          refine va_get (D := g.1) (ci := 8) (C := "LatticeKeysModel") (T := T_M) (N := 14) hx hb hts (wg_ft i_M) hown hK hP 0 rfl rfl 12 (by decide) (hts _ (wg_t kw_1538)) (fun _ h9 => h9) rfl dM_keys_60 ?_
          refine lv_iload_n hx hb dM_keys_63 rfl (lv_at hl 1 rfl) ?_
          refine lv_aload_n hx hb dM_keys_64 rfl (lv_at hl 0 rfl) ?_
          refine va_get (D := g.1) (ci := 8) (C := "LatticeKeysModel") (T := T_M) (N := 14) hx hb hts (wg_ft i_M) hown hK hP 0 rfl rfl 4 (by decide) (hts _ (wg_t kw_1530)) (fun _ h9 => h9) rfl dM_keys_65 ?_
          refine lv_aload_n hx hb dM_keys_68 rfl (lv_at hl 0 rfl) ?_
          refine va_get (D := g.1) (ci := 8) (C := "LatticeKeysModel") (T := T_M) (N := 14) hx hb hts (wg_ft i_M) hown hK hP 0 rfl rfl 7 (by decide) (hts _ (wg_t kw_1533)) (fun _ h9 => h9) rfl dM_keys_69 ?_
          refine lv_aload_n hx hb dM_keys_72 rfl (lv_at hl 0 rfl) ?_
          refine va_get (D := g.1) (ci := 8) (C := "LatticeKeysModel") (T := T_M) (N := 14) hx hb hts (wg_ft i_M) hown hK hP 0 rfl rfl 3 (by decide) (hts _ (wg_t kw_1529)) (fun _ h9 => h9) rfl dM_keys_73 ?_
          refine ty_aald4 hx hb hK hO k_mo (nxg clo_nil k_mo rfl) hP (by omega) dM_keys_76 (fun r21 kr21 => ?_)
          refine lv_aload_n hx hb dM_keys_77 rfl (lv_at hl 0 rfl) ?_
          refine va_get (D := g.1) (ci := 8) (C := "LatticeKeysModel") (T := T_M) (N := 14) hx hb hts (wg_ft i_M) hown hK hP 0 rfl rfl 8 (by decide) (hts _ (wg_t kw_1534)) (fun _ h9 => h9) rfl dM_keys_78 ?_
          refine lv_aload_n hx hb dM_keys_81 rfl (lv_at hl 0 rfl) ?_
          refine va_get (D := g.1) (ci := 8) (C := "LatticeKeysModel") (T := T_M) (N := 14) hx hb hts (wg_ft i_M) hown hK hP 0 rfl rfl 3 (by decide) (hts _ (wg_t kw_1529)) (fun _ h9 => h9) rfl dM_keys_82 ?_
          refine ty_aald4 hx hb hK hO k_mh (nxg clo_nil k_mh rfl) hP (by omega) dM_keys_85 (fun r22 kr22 => ?_)
          refine mp_v (cx := []) (wr := [(h0, .inr (8, [.int (nI 0), .int (nI tp), .int (nI rs), .int (nI ks), .ref mt, .ref mr_, .ref mk, .ref mo, .ref mh, .ref mse, .ref mhs, .ref msp, .ref msc, .ref mha])), (mse, .inl (g.2.1 0, 8, .inl fS))]) hP hD hS hA [] [0, 1] rfl rfl rfl (by decide) (va_runV (As := [.int (nI 0), .ref mt, .ref r21, .ref r22]) (rest := []) F (t_ME_keys_0 l g _ T [] pl hO hU clo_nil clo_nil msc mt r21 r22 16384 k_msc k_mt kr21 kr22 (by omega) (by omega)) (cwV 4 hts (wg_app (wg_c kw_1601 (wg_c kw_1602 (wg_c kw_1603 (wg_c kw_11 wg_n)))) kw_1604) rfl rfl rfl (by decide +kernel) ⟨by decide, by decide⟩) (pp_VT (en_ok g) (ci := 11) (kd := (23, 0)) hK hO k_msc (nxg clo_nil k_msc rfl) (fun _ h9 => ko1 h9) hP hD hS hA hE [] rfl rfl rfl) rfl rfl hl.1 rfl (lv_room (Nat.le_of_ble_eq_true rfl)) dM_keys_86 ⟨by omega, by omega⟩) (fun  pl H locs hu21 hP hD hS => ?_)
          obtain ⟨hq21, hO⟩ := hu21
          have hP : va_P g.1 vcl ([(h0, .inr (8, [.int (nI 0), .int (nI tp), .int (nI rs), .int (nI ks), .ref mt, .ref mr_, .ref mk, .ref mo, .ref mh, .ref mse, .ref mhs, .ref msp, .ref msc, .ref mha])), (mse, .inl (g.2.1 0, 8, .inl fS))] ++ pl) _ := hP
          have hD : va_D _ ([(h0, .inr (8, [.int (nI 0), .int (nI tp), .int (nI rs), .int (nI ks), .ref mt, .ref mr_, .ref mk, .ref mo, .ref mh, .ref mse, .ref mhs, .ref msp, .ref msc, .ref mha])), (mse, .inl (g.2.1 0, 8, .inl fS))] ++ pl) := hD
          refine W.widen (k := 0) (n := 0) (by omega) (by omega) ?_
          refine lv_goto (tgt := 124) hx hb dM_keys_89 (by decide) ?_
          refine lv_aload_n hx hb dM_keys_124 rfl (lv_at hl 0 rfl) ?_
          refine lv_iload_n hx hb dM_keys_125 rfl (lv_at hl 1 rfl) ?_
          refine lv_iload_n hx hb dM_keys_126 rfl (lv_at hl 1 rfl) ?_
          refine mp_i (cx := []) (wr := [(h0, .inr (8, [.int (nI 0), .int (nI tp), .int (nI rs), .int (nI ks), .ref mt, .ref mr_, .ref mk, .ref mo, .ref mh, .ref mse, .ref mhs, .ref msp, .ref msc, .ref mha])), (mse, .inl (g.2.1 0, 8, .inl fS))]) hP hD hS hA [] [0, 1] rfl rfl rfl (by decide) (va_runS (As := [.int (nI 0)]) (rest := [.int (nI 0), .ref h0]) F (t_M_hiddenSize_0 l g _ T [] pl hO hU  ) (va_cwS 1 hts (wg_app (wg_c kw_1747 (wg_c kw_1748 (wg_c kw_9 wg_n))) kw_1749) rfl rfl rfl (by decide +kernel) ⟨by decide, by decide⟩) (pp_S (en_ok g) hP hD hS hA hE [] rfl rfl) rfl rfl hl.1 rfl (lv_room (Nat.le_of_ble_eq_true rfl)) dM_keys_127 ⟨by omega, by omega⟩) (fun r23 pl H locs hu22 hP hD hS => ?_)
          obtain ⟨hq22, hO⟩ := hu22
          have hP : va_P g.1 vcl ([(h0, .inr (8, [.int (nI 0), .int (nI tp), .int (nI rs), .int (nI ks), .ref mt, .ref mr_, .ref mk, .ref mo, .ref mh, .ref mse, .ref mhs, .ref msp, .ref msc, .ref mha])), (mse, .inl (g.2.1 0, 8, .inl fS))] ++ pl) _ := hP
          have hD : va_D _ ([(h0, .inr (8, [.int (nI 0), .int (nI tp), .int (nI rs), .int (nI ks), .ref mt, .ref mr_, .ref mk, .ref mo, .ref mh, .ref mse, .ref mhs, .ref msp, .ref msc, .ref mha])), (mse, .inl (g.2.1 0, 8, .inl fS))] ++ pl) := hD
          obtain rfl := hq22
          refine W.widen (k := 0) (n := 0) (by omega) (by omega) ?_
          refine mp_i (cx := [(h0, .inr (8, [.int (nI 0), .int (nI tp), .int (nI rs), .int (nI ks), .ref mt, .ref mr_, .ref mk, .ref mo, .ref mh, .ref mse, .ref mhs, .ref msp, .ref msc, .ref mha])), (mse, .inl (g.2.1 0, 8, .inl fS))]) (wr := []) hP hD hS hA [0, 1] [] rfl rfl rfl (by decide) (va_runV (As := [.int (nI 0), .int (nI 1632)]) (rest := []) F (t_M_made l g _ T  pl hO hU  0 1632 h0 mt mr_ mk mo mh mse mhs msp msc mha tp rs ks (nI 0) fS k_mt k_mr_ k_mk k_mo k_mh k_mhs k_msp k_msc k_mha (by omega) hS5 (by omega) (by omega) (by omega)) (cwV 2 hts (wg_app (wg_c kw_1756 (wg_c kw_1758 (wg_c ks_64 (wg_c kw_9 wg_n)))) kw_1759) rfl rfl rfl (by decide +kernel) ⟨by decide, by decide⟩) (pp_V (en_ok g) (q0 := 0) hK hP hD hS hA hE [0, 1] rfl rfl rfl rfl) rfl rfl hl.1 rfl (lv_room (Nat.le_of_ble_eq_true rfl)) dM_keys_130 ⟨by omega, by omega⟩) (fun r24 u21 H locs hu23 hP hD hS => ?_)
          obtain ⟨u22, pl⟩ := u21
          obtain ⟨hq23, hO⟩ := hu23
          obtain ⟨th21, tp21, rs21, ks21, fS21⟩ := u22
          have hP : va_P g.1 vcl ([(h0, .inr (8, [.int th21, .int (nI tp21), .int (nI rs21), .int (nI ks21), .ref mt, .ref mr_, .ref mk, .ref mo, .ref mh, .ref mse, .ref mhs, .ref msp, .ref msc, .ref mha])), (mse, .inl (g.2.1 0, 8, .inl fS21))] ++ pl) _ := hP
          have hD : va_D _ ([(h0, .inr (8, [.int th21, .int (nI tp21), .int (nI rs21), .int (nI ks21), .ref mt, .ref mr_, .ref mk, .ref mo, .ref mh, .ref mse, .ref mhs, .ref msp, .ref msc, .ref mha])), (mse, .inl (g.2.1 0, 8, .inl fS21))] ++ pl) := hD
          obtain ⟨hm21, hm22, hm23, hm24⟩ := hq23
          have hm21 : tp21 ≤ 16384 := hm21
          have hm22 : rs21 ≤ 8192 := hm22
          have hm23 : ks21 ≤ 8 := hm23
          refine W.widen (k := 0) (n := 0) (by omega) (by omega) ?_
          exact mp_iret hx hb hr hlk hP hD hS ((th21, tp21, rs21, ks21, fS21), pl) ⟨⟨(by show tp21 ≤ 16384; omega), (by show rs21 ≤ 8192; omega), (by show ks21 ≤ 8; omega), hm24⟩, hO⟩ [0, 1] rfl rfl rfl (by omega) (by omega) dM_keys_133
        · refine lv_aload_n hx hb dM_keys_48 rfl (lv_at hl 0 rfl) ?_
          refine lv_iconst (v := nI 2) hx hb dM_keys_49 (by decide) ?_
          refine mp_i (cx := [(h0, .inr (8, [.int (nI 0), .int (nI tp), .int (nI rs), .int (nI ks), .ref mt, .ref mr_, .ref mk, .ref mo, .ref mh, .ref mse, .ref mhs, .ref msp, .ref msc, .ref mha])), (mse, .inl (g.2.1 0, 8, .inl fS))]) (wr := []) hP hD hS hA [0, 1] [] rfl rfl rfl (by decide) (va_runV (As := [.int (nI 2)]) (rest := []) F (t_M_fail l g _ T  pl hO hU  (nI 2) h0 mt mr_ mk mo mh mse mhs msp msc mha tp rs ks (nI 0) fS k_mt k_mr_ k_mk k_mo k_mh k_mhs k_msp k_msc k_mha (by omega) hS5) (cwV 1 hts (wg_app (wg_c kw_1577 (wg_c kw_1579 (wg_c ks_50 (wg_c kw_9 wg_n)))) kw_1580) rfl rfl rfl (by decide +kernel) ⟨by decide, by decide⟩) (pp_V (en_ok g) (q0 := 0) hK hP hD hS hA hE [0, 1] rfl rfl rfl rfl) rfl rfl hl.1 rfl (lv_room (Nat.le_of_ble_eq_true rfl)) dM_keys_50 ⟨by omega, by omega⟩) (fun r25 u23 H locs hu24 hP hD hS => ?_)
          obtain ⟨u24, pl⟩ := u23
          obtain ⟨hq24, hO⟩ := hu24
          obtain ⟨th22, tp22, rs22, ks22, fS22⟩ := u24
          have hP : va_P g.1 vcl ([(h0, .inr (8, [.int th22, .int (nI tp22), .int (nI rs22), .int (nI ks22), .ref mt, .ref mr_, .ref mk, .ref mo, .ref mh, .ref mse, .ref mhs, .ref msp, .ref msc, .ref mha])), (mse, .inl (g.2.1 0, 8, .inl fS22))] ++ pl) _ := hP
          have hD : va_D _ ([(h0, .inr (8, [.int th22, .int (nI tp22), .int (nI rs22), .int (nI ks22), .ref mt, .ref mr_, .ref mk, .ref mo, .ref mh, .ref mse, .ref mhs, .ref msp, .ref msc, .ref mha])), (mse, .inl (g.2.1 0, 8, .inl fS22))] ++ pl) := hD
          obtain ⟨-, -, -, hm29, hm30⟩ := hq24
          obtain ⟨he21, he22, he23, he24, he25⟩ := hm30
          have he21 : th22 = nI 2 := he21
          have he22 : tp22 = tp := he22
          have he23 : rs22 = rs := he23
          have he24 : ks22 = ks := he24
          obtain rfl := he25
          refine W.widen (k := 0) (n := 0) (by omega) (by omega) ?_
          exact mp_iret hx hb hr hlk hP hD hS ((th22, tp22, rs22, ks22, fS22), pl) ⟨⟨(by show tp22 ≤ 16384; omega), (by show rs22 ≤ 8192; omega), (by show ks22 ≤ 8; omega), hm29⟩, hO⟩ [0, 1] rfl rfl rfl (by omega) (by omega) dM_keys_53
      · refine lv_aload_n hx hb dM_keys_33 rfl (lv_at hl 0 rfl) ?_
        refine lv_iconst (v := nI 1) hx hb dM_keys_34 (by decide) ?_
        refine mp_i (cx := [(h0, .inr (8, [.int (nI 0), .int (nI tp), .int (nI rs), .int (nI ks), .ref mt, .ref mr_, .ref mk, .ref mo, .ref mh, .ref mse, .ref mhs, .ref msp, .ref msc, .ref mha])), (mse, .inl (g.2.1 0, 8, .inl fS))]) (wr := []) hP hD hS hA [0, 1] [] rfl rfl rfl (by decide) (va_runV (As := [.int (nI 1)]) (rest := []) F (t_M_fail l g _ T  pl hO hU  (nI 1) h0 mt mr_ mk mo mh mse mhs msp msc mha tp rs ks (nI 0) fS k_mt k_mr_ k_mk k_mo k_mh k_mhs k_msp k_msc k_mha (by omega) hS5) (cwV 1 hts (wg_app (wg_c kw_1577 (wg_c kw_1579 (wg_c ks_50 (wg_c kw_9 wg_n)))) kw_1580) rfl rfl rfl (by decide +kernel) ⟨by decide, by decide⟩) (pp_V (en_ok g) (q0 := 0) hK hP hD hS hA hE [0, 1] rfl rfl rfl rfl) rfl rfl hl.1 rfl (lv_room (Nat.le_of_ble_eq_true rfl)) dM_keys_35 ⟨by omega, by omega⟩) (fun r26 u25 H locs hu25 hP hD hS => ?_)
        obtain ⟨u26, pl⟩ := u25
        obtain ⟨hq25, hO⟩ := hu25
        obtain ⟨th23, tp23, rs23, ks23, fS23⟩ := u26
        have hP : va_P g.1 vcl ([(h0, .inr (8, [.int th23, .int (nI tp23), .int (nI rs23), .int (nI ks23), .ref mt, .ref mr_, .ref mk, .ref mo, .ref mh, .ref mse, .ref mhs, .ref msp, .ref msc, .ref mha])), (mse, .inl (g.2.1 0, 8, .inl fS23))] ++ pl) _ := hP
        have hD : va_D _ ([(h0, .inr (8, [.int th23, .int (nI tp23), .int (nI rs23), .int (nI ks23), .ref mt, .ref mr_, .ref mk, .ref mo, .ref mh, .ref mse, .ref mhs, .ref msp, .ref msc, .ref mha])), (mse, .inl (g.2.1 0, 8, .inl fS23))] ++ pl) := hD
        obtain ⟨-, -, -, hm34, hm35⟩ := hq25
        obtain ⟨he26, he27, he28, he29, he30⟩ := hm35
        have he26 : th23 = nI 1 := he26
        have he27 : tp23 = tp := he27
        have he28 : rs23 = rs := he28
        have he29 : ks23 = ks := he29
        obtain rfl := he30
        refine W.widen (k := 0) (n := 0) (by omega) (by omega) ?_
        exact mp_iret hx hb hr hlk hP hD hS ((th23, tp23, rs23, ks23, fS23), pl) ⟨⟨(by show tp23 ≤ 16384; omega), (by show rs23 ≤ 8192; omega), (by show ks23 ≤ 8; omega), hm34⟩, hO⟩ [0, 1] rfl rfl rfl (by omega) (by omega) dM_keys_38
    | 1, _ =>
      refine lv_iload_n hx hb dM_keys_5 rfl (lv_at hl 1 rfl) ?_
      refine lv_if_lt (tgt := 33) hx hb dM_keys_6 (by decide) (fun h27 => absurd h27 (by decide)) (fun h27 => ?_)
      refine lv_iload_n hx hb dM_keys_9 rfl (lv_at hl 1 rfl) ?_
      refine lv_iconst (v := nI 5) hx hb dM_keys_10 (by decide) ?_
      refine mi_gt (tgt := 33) hx hb dM_keys_11 (by decide) (by omega) (by omega) (fun h28 => absurd h28 (by omega)) (fun h28 => ?_)
      refine lv_aload_n hx hb dM_keys_14 rfl (lv_at hl 0 rfl) ?_
      refine va_get (D := g.1) (ci := 8) (C := "LatticeKeysModel") (T := T_M) (N := 14) hx hb hts (wg_ft i_M) hown hK hP 0 rfl rfl 1 (by decide) (hts _ (wg_t kw_1527)) (fun _ h9 => h9) rfl dM_keys_15 ?_
      refine lv_iload_n hx hb dM_keys_18 rfl (lv_at hl 1 rfl) ?_
      refine lv_iconst (v := nI 3) hx hb dM_keys_19 (by decide) ?_
      refine mi_ge (tgt := 28) hx hb dM_keys_20 (by decide) (by omega) (by omega) (fun h29 => absurd h29 (by omega)) (fun h29 => ?_)
      refine lv_bipush (v := nI 64) hx hb dM_keys_23 (by decide) ?_
      refine lv_goto (tgt := 30) hx hb dM_keys_25 (by decide) ?_
      refine mi_eq (tgt := 39) hx hb dM_keys_30 (by decide) (by omega) (by omega) (fun h30 => ?_) (fun h30 => ?_)
      · refine lv_aload_n hx hb dM_keys_39 rfl (lv_at hl 0 rfl) ?_
        refine va_get (D := g.1) (ci := 8) (C := "LatticeKeysModel") (T := T_M) (N := 14) hx hb hts (wg_ft i_M) hown hK hP 0 rfl rfl 3 (by decide) (hts _ (wg_t kw_1529)) (fun _ h9 => h9) rfl dM_keys_40 ?_
        refine lv_bipush (v := nI 8) hx hb dM_keys_43 (by decide) ?_
        refine mi_ne (tgt := 54) hx hb dM_keys_45 (by decide) (by omega) (by omega) (fun h31 => ?_) (fun h31 => ?_)
        · refine lv_iload_n hx hb dM_keys_54 rfl (lv_at hl 1 rfl) ?_
          refine lv_iconst (v := nI 3) hx hb dM_keys_55 (by decide) ?_
          refine mi_ge (tgt := 92) hx hb dM_keys_56 (by decide) (by omega) (by omega) (fun h32 => absurd h32 (by omega)) (fun h32 => ?_)
          refine lv_aload_n hx hb dM_keys_59 rfl (lv_at hl 0 rfl) ?_
          refine va_get (D := g.1) (ci := 8) (C := "LatticeKeysModel") (T := T_M) (N := 14) hx hb hts (wg_ft i_M) hown hK hP 0 rfl rfl 12 (by decide) (hts _ (wg_t kw_1538)) (fun _ h9 => h9) rfl dM_keys_60 ?_
          refine lv_iload_n hx hb dM_keys_63 rfl (lv_at hl 1 rfl) ?_
          refine lv_aload_n hx hb dM_keys_64 rfl (lv_at hl 0 rfl) ?_
          refine va_get (D := g.1) (ci := 8) (C := "LatticeKeysModel") (T := T_M) (N := 14) hx hb hts (wg_ft i_M) hown hK hP 0 rfl rfl 4 (by decide) (hts _ (wg_t kw_1530)) (fun _ h9 => h9) rfl dM_keys_65 ?_
          refine lv_aload_n hx hb dM_keys_68 rfl (lv_at hl 0 rfl) ?_
          refine va_get (D := g.1) (ci := 8) (C := "LatticeKeysModel") (T := T_M) (N := 14) hx hb hts (wg_ft i_M) hown hK hP 0 rfl rfl 7 (by decide) (hts _ (wg_t kw_1533)) (fun _ h9 => h9) rfl dM_keys_69 ?_
          refine lv_aload_n hx hb dM_keys_72 rfl (lv_at hl 0 rfl) ?_
          refine va_get (D := g.1) (ci := 8) (C := "LatticeKeysModel") (T := T_M) (N := 14) hx hb hts (wg_ft i_M) hown hK hP 0 rfl rfl 3 (by decide) (hts _ (wg_t kw_1529)) (fun _ h9 => h9) rfl dM_keys_73 ?_
          refine ty_aald4 hx hb hK hO k_mo (nxg clo_nil k_mo rfl) hP (by omega) dM_keys_76 (fun r27 kr23 => ?_)
          refine lv_aload_n hx hb dM_keys_77 rfl (lv_at hl 0 rfl) ?_
          refine va_get (D := g.1) (ci := 8) (C := "LatticeKeysModel") (T := T_M) (N := 14) hx hb hts (wg_ft i_M) hown hK hP 0 rfl rfl 8 (by decide) (hts _ (wg_t kw_1534)) (fun _ h9 => h9) rfl dM_keys_78 ?_
          refine lv_aload_n hx hb dM_keys_81 rfl (lv_at hl 0 rfl) ?_
          refine va_get (D := g.1) (ci := 8) (C := "LatticeKeysModel") (T := T_M) (N := 14) hx hb hts (wg_ft i_M) hown hK hP 0 rfl rfl 3 (by decide) (hts _ (wg_t kw_1529)) (fun _ h9 => h9) rfl dM_keys_82 ?_
          refine ty_aald4 hx hb hK hO k_mh (nxg clo_nil k_mh rfl) hP (by omega) dM_keys_85 (fun r28 kr24 => ?_)
          refine mp_v (cx := []) (wr := [(h0, .inr (8, [.int (nI 0), .int (nI tp), .int (nI rs), .int (nI ks), .ref mt, .ref mr_, .ref mk, .ref mo, .ref mh, .ref mse, .ref mhs, .ref msp, .ref msc, .ref mha])), (mse, .inl (g.2.1 0, 8, .inl fS))]) hP hD hS hA [] [0, 1] rfl rfl rfl (by decide) (va_runV (As := [.int (nI 1), .ref mt, .ref r27, .ref r28]) (rest := []) F (t_ME_keys_1 l g _ T [] pl hO hU clo_nil clo_nil msc mt r27 r28 16384 k_msc k_mt kr23 kr24 (by omega) (by omega)) (cwV 4 hts (wg_app (wg_c kw_1601 (wg_c kw_1602 (wg_c kw_1603 (wg_c kw_11 wg_n)))) kw_1604) rfl rfl rfl (by decide +kernel) ⟨by decide, by decide⟩) (pp_VT (en_ok g) (ci := 11) (kd := (23, 0)) hK hO k_msc (nxg clo_nil k_msc rfl) (fun _ h9 => ko1 h9) hP hD hS hA hE [] rfl rfl rfl) rfl rfl hl.1 rfl (lv_room (Nat.le_of_ble_eq_true rfl)) dM_keys_86 ⟨by omega, by omega⟩) (fun  pl H locs hu26 hP hD hS => ?_)
          obtain ⟨hq26, hO⟩ := hu26
          have hP : va_P g.1 vcl ([(h0, .inr (8, [.int (nI 0), .int (nI tp), .int (nI rs), .int (nI ks), .ref mt, .ref mr_, .ref mk, .ref mo, .ref mh, .ref mse, .ref mhs, .ref msp, .ref msc, .ref mha])), (mse, .inl (g.2.1 0, 8, .inl fS))] ++ pl) _ := hP
          have hD : va_D _ ([(h0, .inr (8, [.int (nI 0), .int (nI tp), .int (nI rs), .int (nI ks), .ref mt, .ref mr_, .ref mk, .ref mo, .ref mh, .ref mse, .ref mhs, .ref msp, .ref msc, .ref mha])), (mse, .inl (g.2.1 0, 8, .inl fS))] ++ pl) := hD
          refine W.widen (k := 0) (n := 0) (by omega) (by omega) ?_
          refine lv_goto (tgt := 124) hx hb dM_keys_89 (by decide) ?_
          refine lv_aload_n hx hb dM_keys_124 rfl (lv_at hl 0 rfl) ?_
          refine lv_iload_n hx hb dM_keys_125 rfl (lv_at hl 1 rfl) ?_
          refine lv_iload_n hx hb dM_keys_126 rfl (lv_at hl 1 rfl) ?_
          refine mp_i (cx := []) (wr := [(h0, .inr (8, [.int (nI 0), .int (nI tp), .int (nI rs), .int (nI ks), .ref mt, .ref mr_, .ref mk, .ref mo, .ref mh, .ref mse, .ref mhs, .ref msp, .ref msc, .ref mha])), (mse, .inl (g.2.1 0, 8, .inl fS))]) hP hD hS hA [] [0, 1] rfl rfl rfl (by decide) (va_runS (As := [.int (nI 1)]) (rest := [.int (nI 1), .ref h0]) F (t_M_hiddenSize_1 l g _ T [] pl hO hU  ) (va_cwS 1 hts (wg_app (wg_c kw_1747 (wg_c kw_1748 (wg_c kw_9 wg_n))) kw_1749) rfl rfl rfl (by decide +kernel) ⟨by decide, by decide⟩) (pp_S (en_ok g) hP hD hS hA hE [] rfl rfl) rfl rfl hl.1 rfl (lv_room (Nat.le_of_ble_eq_true rfl)) dM_keys_127 ⟨by omega, by omega⟩) (fun r29 pl H locs hu27 hP hD hS => ?_)
          obtain ⟨hq27, hO⟩ := hu27
          have hP : va_P g.1 vcl ([(h0, .inr (8, [.int (nI 0), .int (nI tp), .int (nI rs), .int (nI ks), .ref mt, .ref mr_, .ref mk, .ref mo, .ref mh, .ref mse, .ref mhs, .ref msp, .ref msc, .ref mha])), (mse, .inl (g.2.1 0, 8, .inl fS))] ++ pl) _ := hP
          have hD : va_D _ ([(h0, .inr (8, [.int (nI 0), .int (nI tp), .int (nI rs), .int (nI ks), .ref mt, .ref mr_, .ref mk, .ref mo, .ref mh, .ref mse, .ref mhs, .ref msp, .ref msc, .ref mha])), (mse, .inl (g.2.1 0, 8, .inl fS))] ++ pl) := hD
          obtain rfl := hq27
          refine W.widen (k := 0) (n := 0) (by omega) (by omega) ?_
          refine mp_i (cx := [(h0, .inr (8, [.int (nI 0), .int (nI tp), .int (nI rs), .int (nI ks), .ref mt, .ref mr_, .ref mk, .ref mo, .ref mh, .ref mse, .ref mhs, .ref msp, .ref msc, .ref mha])), (mse, .inl (g.2.1 0, 8, .inl fS))]) (wr := []) hP hD hS hA [0, 1] [] rfl rfl rfl (by decide) (va_runV (As := [.int (nI 1), .int (nI 2400)]) (rest := []) F (t_M_made l g _ T  pl hO hU  1 2400 h0 mt mr_ mk mo mh mse mhs msp msc mha tp rs ks (nI 0) fS k_mt k_mr_ k_mk k_mo k_mh k_mhs k_msp k_msc k_mha (by omega) hS5 (by omega) (by omega) (by omega)) (cwV 2 hts (wg_app (wg_c kw_1756 (wg_c kw_1758 (wg_c ks_64 (wg_c kw_9 wg_n)))) kw_1759) rfl rfl rfl (by decide +kernel) ⟨by decide, by decide⟩) (pp_V (en_ok g) (q0 := 0) hK hP hD hS hA hE [0, 1] rfl rfl rfl rfl) rfl rfl hl.1 rfl (lv_room (Nat.le_of_ble_eq_true rfl)) dM_keys_130 ⟨by omega, by omega⟩) (fun r30 u27 H locs hu28 hP hD hS => ?_)
          obtain ⟨u28, pl⟩ := u27
          obtain ⟨hq28, hO⟩ := hu28
          obtain ⟨th24, tp24, rs24, ks24, fS24⟩ := u28
          have hP : va_P g.1 vcl ([(h0, .inr (8, [.int th24, .int (nI tp24), .int (nI rs24), .int (nI ks24), .ref mt, .ref mr_, .ref mk, .ref mo, .ref mh, .ref mse, .ref mhs, .ref msp, .ref msc, .ref mha])), (mse, .inl (g.2.1 0, 8, .inl fS24))] ++ pl) _ := hP
          have hD : va_D _ ([(h0, .inr (8, [.int th24, .int (nI tp24), .int (nI rs24), .int (nI ks24), .ref mt, .ref mr_, .ref mk, .ref mo, .ref mh, .ref mse, .ref mhs, .ref msp, .ref msc, .ref mha])), (mse, .inl (g.2.1 0, 8, .inl fS24))] ++ pl) := hD
          obtain ⟨hm36, hm37, hm38, hm39⟩ := hq28
          have hm36 : tp24 ≤ 16384 := hm36
          have hm37 : rs24 ≤ 8192 := hm37
          have hm38 : ks24 ≤ 8 := hm38
          refine W.widen (k := 0) (n := 0) (by omega) (by omega) ?_
          exact mp_iret hx hb hr hlk hP hD hS ((th24, tp24, rs24, ks24, fS24), pl) ⟨⟨(by show tp24 ≤ 16384; omega), (by show rs24 ≤ 8192; omega), (by show ks24 ≤ 8; omega), hm39⟩, hO⟩ [0, 1] rfl rfl rfl (by omega) (by omega) dM_keys_133
        · refine lv_aload_n hx hb dM_keys_48 rfl (lv_at hl 0 rfl) ?_
          refine lv_iconst (v := nI 2) hx hb dM_keys_49 (by decide) ?_
          refine mp_i (cx := [(h0, .inr (8, [.int (nI 0), .int (nI tp), .int (nI rs), .int (nI ks), .ref mt, .ref mr_, .ref mk, .ref mo, .ref mh, .ref mse, .ref mhs, .ref msp, .ref msc, .ref mha])), (mse, .inl (g.2.1 0, 8, .inl fS))]) (wr := []) hP hD hS hA [0, 1] [] rfl rfl rfl (by decide) (va_runV (As := [.int (nI 2)]) (rest := []) F (t_M_fail l g _ T  pl hO hU  (nI 2) h0 mt mr_ mk mo mh mse mhs msp msc mha tp rs ks (nI 0) fS k_mt k_mr_ k_mk k_mo k_mh k_mhs k_msp k_msc k_mha (by omega) hS5) (cwV 1 hts (wg_app (wg_c kw_1577 (wg_c kw_1579 (wg_c ks_50 (wg_c kw_9 wg_n)))) kw_1580) rfl rfl rfl (by decide +kernel) ⟨by decide, by decide⟩) (pp_V (en_ok g) (q0 := 0) hK hP hD hS hA hE [0, 1] rfl rfl rfl rfl) rfl rfl hl.1 rfl (lv_room (Nat.le_of_ble_eq_true rfl)) dM_keys_50 ⟨by omega, by omega⟩) (fun r31 u29 H locs hu29 hP hD hS => ?_)
          obtain ⟨u30, pl⟩ := u29
          obtain ⟨hq29, hO⟩ := hu29
          obtain ⟨th25, tp25, rs25, ks25, fS25⟩ := u30
          have hP : va_P g.1 vcl ([(h0, .inr (8, [.int th25, .int (nI tp25), .int (nI rs25), .int (nI ks25), .ref mt, .ref mr_, .ref mk, .ref mo, .ref mh, .ref mse, .ref mhs, .ref msp, .ref msc, .ref mha])), (mse, .inl (g.2.1 0, 8, .inl fS25))] ++ pl) _ := hP
          have hD : va_D _ ([(h0, .inr (8, [.int th25, .int (nI tp25), .int (nI rs25), .int (nI ks25), .ref mt, .ref mr_, .ref mk, .ref mo, .ref mh, .ref mse, .ref mhs, .ref msp, .ref msc, .ref mha])), (mse, .inl (g.2.1 0, 8, .inl fS25))] ++ pl) := hD
          obtain ⟨-, -, -, hm44, hm45⟩ := hq29
          obtain ⟨he31, he32, he33, he34, he35⟩ := hm45
          have he31 : th25 = nI 2 := he31
          have he32 : tp25 = tp := he32
          have he33 : rs25 = rs := he33
          have he34 : ks25 = ks := he34
          obtain rfl := he35
          refine W.widen (k := 0) (n := 0) (by omega) (by omega) ?_
          exact mp_iret hx hb hr hlk hP hD hS ((th25, tp25, rs25, ks25, fS25), pl) ⟨⟨(by show tp25 ≤ 16384; omega), (by show rs25 ≤ 8192; omega), (by show ks25 ≤ 8; omega), hm44⟩, hO⟩ [0, 1] rfl rfl rfl (by omega) (by omega) dM_keys_53
      · refine lv_aload_n hx hb dM_keys_33 rfl (lv_at hl 0 rfl) ?_
        refine lv_iconst (v := nI 1) hx hb dM_keys_34 (by decide) ?_
        refine mp_i (cx := [(h0, .inr (8, [.int (nI 0), .int (nI tp), .int (nI rs), .int (nI ks), .ref mt, .ref mr_, .ref mk, .ref mo, .ref mh, .ref mse, .ref mhs, .ref msp, .ref msc, .ref mha])), (mse, .inl (g.2.1 0, 8, .inl fS))]) (wr := []) hP hD hS hA [0, 1] [] rfl rfl rfl (by decide) (va_runV (As := [.int (nI 1)]) (rest := []) F (t_M_fail l g _ T  pl hO hU  (nI 1) h0 mt mr_ mk mo mh mse mhs msp msc mha tp rs ks (nI 0) fS k_mt k_mr_ k_mk k_mo k_mh k_mhs k_msp k_msc k_mha (by omega) hS5) (cwV 1 hts (wg_app (wg_c kw_1577 (wg_c kw_1579 (wg_c ks_50 (wg_c kw_9 wg_n)))) kw_1580) rfl rfl rfl (by decide +kernel) ⟨by decide, by decide⟩) (pp_V (en_ok g) (q0 := 0) hK hP hD hS hA hE [0, 1] rfl rfl rfl rfl) rfl rfl hl.1 rfl (lv_room (Nat.le_of_ble_eq_true rfl)) dM_keys_35 ⟨by omega, by omega⟩) (fun r32 u31 H locs hu30 hP hD hS => ?_)
        obtain ⟨u32, pl⟩ := u31
        obtain ⟨hq30, hO⟩ := hu30
        obtain ⟨th26, tp26, rs26, ks26, fS26⟩ := u32
        have hP : va_P g.1 vcl ([(h0, .inr (8, [.int th26, .int (nI tp26), .int (nI rs26), .int (nI ks26), .ref mt, .ref mr_, .ref mk, .ref mo, .ref mh, .ref mse, .ref mhs, .ref msp, .ref msc, .ref mha])), (mse, .inl (g.2.1 0, 8, .inl fS26))] ++ pl) _ := hP
        have hD : va_D _ ([(h0, .inr (8, [.int th26, .int (nI tp26), .int (nI rs26), .int (nI ks26), .ref mt, .ref mr_, .ref mk, .ref mo, .ref mh, .ref mse, .ref mhs, .ref msp, .ref msc, .ref mha])), (mse, .inl (g.2.1 0, 8, .inl fS26))] ++ pl) := hD
        obtain ⟨-, -, -, hm49, hm50⟩ := hq30
        obtain ⟨he36, he37, he38, he39, he40⟩ := hm50
        have he36 : th26 = nI 1 := he36
        have he37 : tp26 = tp := he37
        have he38 : rs26 = rs := he38
        have he39 : ks26 = ks := he39
        obtain rfl := he40
        refine W.widen (k := 0) (n := 0) (by omega) (by omega) ?_
        exact mp_iret hx hb hr hlk hP hD hS ((th26, tp26, rs26, ks26, fS26), pl) ⟨⟨(by show tp26 ≤ 16384; omega), (by show rs26 ≤ 8192; omega), (by show ks26 ≤ 8; omega), hm49⟩, hO⟩ [0, 1] rfl rfl rfl (by omega) (by omega) dM_keys_38
    | 2, _ =>
      refine lv_iload_n hx hb dM_keys_5 rfl (lv_at hl 1 rfl) ?_
      refine lv_if_lt (tgt := 33) hx hb dM_keys_6 (by decide) (fun h33 => absurd h33 (by decide)) (fun h33 => ?_)
      refine lv_iload_n hx hb dM_keys_9 rfl (lv_at hl 1 rfl) ?_
      refine lv_iconst (v := nI 5) hx hb dM_keys_10 (by decide) ?_
      refine mi_gt (tgt := 33) hx hb dM_keys_11 (by decide) (by omega) (by omega) (fun h34 => absurd h34 (by omega)) (fun h34 => ?_)
      refine lv_aload_n hx hb dM_keys_14 rfl (lv_at hl 0 rfl) ?_
      refine va_get (D := g.1) (ci := 8) (C := "LatticeKeysModel") (T := T_M) (N := 14) hx hb hts (wg_ft i_M) hown hK hP 0 rfl rfl 1 (by decide) (hts _ (wg_t kw_1527)) (fun _ h9 => h9) rfl dM_keys_15 ?_
      refine lv_iload_n hx hb dM_keys_18 rfl (lv_at hl 1 rfl) ?_
      refine lv_iconst (v := nI 3) hx hb dM_keys_19 (by decide) ?_
      refine mi_ge (tgt := 28) hx hb dM_keys_20 (by decide) (by omega) (by omega) (fun h35 => absurd h35 (by omega)) (fun h35 => ?_)
      refine lv_bipush (v := nI 64) hx hb dM_keys_23 (by decide) ?_
      refine lv_goto (tgt := 30) hx hb dM_keys_25 (by decide) ?_
      refine mi_eq (tgt := 39) hx hb dM_keys_30 (by decide) (by omega) (by omega) (fun h36 => ?_) (fun h36 => ?_)
      · refine lv_aload_n hx hb dM_keys_39 rfl (lv_at hl 0 rfl) ?_
        refine va_get (D := g.1) (ci := 8) (C := "LatticeKeysModel") (T := T_M) (N := 14) hx hb hts (wg_ft i_M) hown hK hP 0 rfl rfl 3 (by decide) (hts _ (wg_t kw_1529)) (fun _ h9 => h9) rfl dM_keys_40 ?_
        refine lv_bipush (v := nI 8) hx hb dM_keys_43 (by decide) ?_
        refine mi_ne (tgt := 54) hx hb dM_keys_45 (by decide) (by omega) (by omega) (fun h37 => ?_) (fun h37 => ?_)
        · refine lv_iload_n hx hb dM_keys_54 rfl (lv_at hl 1 rfl) ?_
          refine lv_iconst (v := nI 3) hx hb dM_keys_55 (by decide) ?_
          refine mi_ge (tgt := 92) hx hb dM_keys_56 (by decide) (by omega) (by omega) (fun h38 => absurd h38 (by omega)) (fun h38 => ?_)
          refine lv_aload_n hx hb dM_keys_59 rfl (lv_at hl 0 rfl) ?_
          refine va_get (D := g.1) (ci := 8) (C := "LatticeKeysModel") (T := T_M) (N := 14) hx hb hts (wg_ft i_M) hown hK hP 0 rfl rfl 12 (by decide) (hts _ (wg_t kw_1538)) (fun _ h9 => h9) rfl dM_keys_60 ?_
          refine lv_iload_n hx hb dM_keys_63 rfl (lv_at hl 1 rfl) ?_
          refine lv_aload_n hx hb dM_keys_64 rfl (lv_at hl 0 rfl) ?_
          refine va_get (D := g.1) (ci := 8) (C := "LatticeKeysModel") (T := T_M) (N := 14) hx hb hts (wg_ft i_M) hown hK hP 0 rfl rfl 4 (by decide) (hts _ (wg_t kw_1530)) (fun _ h9 => h9) rfl dM_keys_65 ?_
          refine lv_aload_n hx hb dM_keys_68 rfl (lv_at hl 0 rfl) ?_
          refine va_get (D := g.1) (ci := 8) (C := "LatticeKeysModel") (T := T_M) (N := 14) hx hb hts (wg_ft i_M) hown hK hP 0 rfl rfl 7 (by decide) (hts _ (wg_t kw_1533)) (fun _ h9 => h9) rfl dM_keys_69 ?_
          refine lv_aload_n hx hb dM_keys_72 rfl (lv_at hl 0 rfl) ?_
          refine va_get (D := g.1) (ci := 8) (C := "LatticeKeysModel") (T := T_M) (N := 14) hx hb hts (wg_ft i_M) hown hK hP 0 rfl rfl 3 (by decide) (hts _ (wg_t kw_1529)) (fun _ h9 => h9) rfl dM_keys_73 ?_
          refine ty_aald4 hx hb hK hO k_mo (nxg clo_nil k_mo rfl) hP (by omega) dM_keys_76 (fun r33 kr25 => ?_)
          refine lv_aload_n hx hb dM_keys_77 rfl (lv_at hl 0 rfl) ?_
          refine va_get (D := g.1) (ci := 8) (C := "LatticeKeysModel") (T := T_M) (N := 14) hx hb hts (wg_ft i_M) hown hK hP 0 rfl rfl 8 (by decide) (hts _ (wg_t kw_1534)) (fun _ h9 => h9) rfl dM_keys_78 ?_
          refine lv_aload_n hx hb dM_keys_81 rfl (lv_at hl 0 rfl) ?_
          refine va_get (D := g.1) (ci := 8) (C := "LatticeKeysModel") (T := T_M) (N := 14) hx hb hts (wg_ft i_M) hown hK hP 0 rfl rfl 3 (by decide) (hts _ (wg_t kw_1529)) (fun _ h9 => h9) rfl dM_keys_82 ?_
          refine ty_aald4 hx hb hK hO k_mh (nxg clo_nil k_mh rfl) hP (by omega) dM_keys_85 (fun r34 kr26 => ?_)
          refine mp_v (cx := []) (wr := [(h0, .inr (8, [.int (nI 0), .int (nI tp), .int (nI rs), .int (nI ks), .ref mt, .ref mr_, .ref mk, .ref mo, .ref mh, .ref mse, .ref mhs, .ref msp, .ref msc, .ref mha])), (mse, .inl (g.2.1 0, 8, .inl fS))]) hP hD hS hA [] [0, 1] rfl rfl rfl (by decide) (va_runV (As := [.int (nI 2), .ref mt, .ref r33, .ref r34]) (rest := []) F (t_ME_keys_2 l g _ T [] pl hO hU clo_nil clo_nil msc mt r33 r34 16384 k_msc k_mt kr25 kr26 (by omega) (by omega)) (cwV 4 hts (wg_app (wg_c kw_1601 (wg_c kw_1602 (wg_c kw_1603 (wg_c kw_11 wg_n)))) kw_1604) rfl rfl rfl (by decide +kernel) ⟨by decide, by decide⟩) (pp_VT (en_ok g) (ci := 11) (kd := (23, 0)) hK hO k_msc (nxg clo_nil k_msc rfl) (fun _ h9 => ko1 h9) hP hD hS hA hE [] rfl rfl rfl) rfl rfl hl.1 rfl (lv_room (Nat.le_of_ble_eq_true rfl)) dM_keys_86 ⟨by omega, by omega⟩) (fun  pl H locs hu31 hP hD hS => ?_)
          obtain ⟨hq31, hO⟩ := hu31
          have hP : va_P g.1 vcl ([(h0, .inr (8, [.int (nI 0), .int (nI tp), .int (nI rs), .int (nI ks), .ref mt, .ref mr_, .ref mk, .ref mo, .ref mh, .ref mse, .ref mhs, .ref msp, .ref msc, .ref mha])), (mse, .inl (g.2.1 0, 8, .inl fS))] ++ pl) _ := hP
          have hD : va_D _ ([(h0, .inr (8, [.int (nI 0), .int (nI tp), .int (nI rs), .int (nI ks), .ref mt, .ref mr_, .ref mk, .ref mo, .ref mh, .ref mse, .ref mhs, .ref msp, .ref msc, .ref mha])), (mse, .inl (g.2.1 0, 8, .inl fS))] ++ pl) := hD
          refine W.widen (k := 0) (n := 0) (by omega) (by omega) ?_
          refine lv_goto (tgt := 124) hx hb dM_keys_89 (by decide) ?_
          refine lv_aload_n hx hb dM_keys_124 rfl (lv_at hl 0 rfl) ?_
          refine lv_iload_n hx hb dM_keys_125 rfl (lv_at hl 1 rfl) ?_
          refine lv_iload_n hx hb dM_keys_126 rfl (lv_at hl 1 rfl) ?_
          refine mp_i (cx := []) (wr := [(h0, .inr (8, [.int (nI 0), .int (nI tp), .int (nI rs), .int (nI ks), .ref mt, .ref mr_, .ref mk, .ref mo, .ref mh, .ref mse, .ref mhs, .ref msp, .ref msc, .ref mha])), (mse, .inl (g.2.1 0, 8, .inl fS))]) hP hD hS hA [] [0, 1] rfl rfl rfl (by decide) (va_runS (As := [.int (nI 2)]) (rest := [.int (nI 2), .ref h0]) F (t_M_hiddenSize_2 l g _ T [] pl hO hU  ) (va_cwS 1 hts (wg_app (wg_c kw_1747 (wg_c kw_1748 (wg_c kw_9 wg_n))) kw_1749) rfl rfl rfl (by decide +kernel) ⟨by decide, by decide⟩) (pp_S (en_ok g) hP hD hS hA hE [] rfl rfl) rfl rfl hl.1 rfl (lv_room (Nat.le_of_ble_eq_true rfl)) dM_keys_127 ⟨by omega, by omega⟩) (fun r35 pl H locs hu32 hP hD hS => ?_)
          obtain ⟨hq32, hO⟩ := hu32
          have hP : va_P g.1 vcl ([(h0, .inr (8, [.int (nI 0), .int (nI tp), .int (nI rs), .int (nI ks), .ref mt, .ref mr_, .ref mk, .ref mo, .ref mh, .ref mse, .ref mhs, .ref msp, .ref msc, .ref mha])), (mse, .inl (g.2.1 0, 8, .inl fS))] ++ pl) _ := hP
          have hD : va_D _ ([(h0, .inr (8, [.int (nI 0), .int (nI tp), .int (nI rs), .int (nI ks), .ref mt, .ref mr_, .ref mk, .ref mo, .ref mh, .ref mse, .ref mhs, .ref msp, .ref msc, .ref mha])), (mse, .inl (g.2.1 0, 8, .inl fS))] ++ pl) := hD
          obtain rfl := hq32
          refine W.widen (k := 0) (n := 0) (by omega) (by omega) ?_
          refine mp_i (cx := [(h0, .inr (8, [.int (nI 0), .int (nI tp), .int (nI rs), .int (nI ks), .ref mt, .ref mr_, .ref mk, .ref mo, .ref mh, .ref mse, .ref mhs, .ref msp, .ref msc, .ref mha])), (mse, .inl (g.2.1 0, 8, .inl fS))]) (wr := []) hP hD hS hA [0, 1] [] rfl rfl rfl (by decide) (va_runV (As := [.int (nI 2), .int (nI 3168)]) (rest := []) F (t_M_made l g _ T  pl hO hU  2 3168 h0 mt mr_ mk mo mh mse mhs msp msc mha tp rs ks (nI 0) fS k_mt k_mr_ k_mk k_mo k_mh k_mhs k_msp k_msc k_mha (by omega) hS5 (by omega) (by omega) (by omega)) (cwV 2 hts (wg_app (wg_c kw_1756 (wg_c kw_1758 (wg_c ks_64 (wg_c kw_9 wg_n)))) kw_1759) rfl rfl rfl (by decide +kernel) ⟨by decide, by decide⟩) (pp_V (en_ok g) (q0 := 0) hK hP hD hS hA hE [0, 1] rfl rfl rfl rfl) rfl rfl hl.1 rfl (lv_room (Nat.le_of_ble_eq_true rfl)) dM_keys_130 ⟨by omega, by omega⟩) (fun r36 u33 H locs hu33 hP hD hS => ?_)
          obtain ⟨u34, pl⟩ := u33
          obtain ⟨hq33, hO⟩ := hu33
          obtain ⟨th27, tp27, rs27, ks27, fS27⟩ := u34
          have hP : va_P g.1 vcl ([(h0, .inr (8, [.int th27, .int (nI tp27), .int (nI rs27), .int (nI ks27), .ref mt, .ref mr_, .ref mk, .ref mo, .ref mh, .ref mse, .ref mhs, .ref msp, .ref msc, .ref mha])), (mse, .inl (g.2.1 0, 8, .inl fS27))] ++ pl) _ := hP
          have hD : va_D _ ([(h0, .inr (8, [.int th27, .int (nI tp27), .int (nI rs27), .int (nI ks27), .ref mt, .ref mr_, .ref mk, .ref mo, .ref mh, .ref mse, .ref mhs, .ref msp, .ref msc, .ref mha])), (mse, .inl (g.2.1 0, 8, .inl fS27))] ++ pl) := hD
          obtain ⟨hm51, hm52, hm53, hm54⟩ := hq33
          have hm51 : tp27 ≤ 16384 := hm51
          have hm52 : rs27 ≤ 8192 := hm52
          have hm53 : ks27 ≤ 8 := hm53
          refine W.widen (k := 0) (n := 0) (by omega) (by omega) ?_
          exact mp_iret hx hb hr hlk hP hD hS ((th27, tp27, rs27, ks27, fS27), pl) ⟨⟨(by show tp27 ≤ 16384; omega), (by show rs27 ≤ 8192; omega), (by show ks27 ≤ 8; omega), hm54⟩, hO⟩ [0, 1] rfl rfl rfl (by omega) (by omega) dM_keys_133
        · refine lv_aload_n hx hb dM_keys_48 rfl (lv_at hl 0 rfl) ?_
          refine lv_iconst (v := nI 2) hx hb dM_keys_49 (by decide) ?_
          refine mp_i (cx := [(h0, .inr (8, [.int (nI 0), .int (nI tp), .int (nI rs), .int (nI ks), .ref mt, .ref mr_, .ref mk, .ref mo, .ref mh, .ref mse, .ref mhs, .ref msp, .ref msc, .ref mha])), (mse, .inl (g.2.1 0, 8, .inl fS))]) (wr := []) hP hD hS hA [0, 1] [] rfl rfl rfl (by decide) (va_runV (As := [.int (nI 2)]) (rest := []) F (t_M_fail l g _ T  pl hO hU  (nI 2) h0 mt mr_ mk mo mh mse mhs msp msc mha tp rs ks (nI 0) fS k_mt k_mr_ k_mk k_mo k_mh k_mhs k_msp k_msc k_mha (by omega) hS5) (cwV 1 hts (wg_app (wg_c kw_1577 (wg_c kw_1579 (wg_c ks_50 (wg_c kw_9 wg_n)))) kw_1580) rfl rfl rfl (by decide +kernel) ⟨by decide, by decide⟩) (pp_V (en_ok g) (q0 := 0) hK hP hD hS hA hE [0, 1] rfl rfl rfl rfl) rfl rfl hl.1 rfl (lv_room (Nat.le_of_ble_eq_true rfl)) dM_keys_50 ⟨by omega, by omega⟩) (fun r37 u35 H locs hu34 hP hD hS => ?_)
          obtain ⟨u36, pl⟩ := u35
          obtain ⟨hq34, hO⟩ := hu34
          obtain ⟨th28, tp28, rs28, ks28, fS28⟩ := u36
          have hP : va_P g.1 vcl ([(h0, .inr (8, [.int th28, .int (nI tp28), .int (nI rs28), .int (nI ks28), .ref mt, .ref mr_, .ref mk, .ref mo, .ref mh, .ref mse, .ref mhs, .ref msp, .ref msc, .ref mha])), (mse, .inl (g.2.1 0, 8, .inl fS28))] ++ pl) _ := hP
          have hD : va_D _ ([(h0, .inr (8, [.int th28, .int (nI tp28), .int (nI rs28), .int (nI ks28), .ref mt, .ref mr_, .ref mk, .ref mo, .ref mh, .ref mse, .ref mhs, .ref msp, .ref msc, .ref mha])), (mse, .inl (g.2.1 0, 8, .inl fS28))] ++ pl) := hD
          obtain ⟨-, -, -, hm59, hm60⟩ := hq34
          obtain ⟨he41, he42, he43, he44, he45⟩ := hm60
          have he41 : th28 = nI 2 := he41
          have he42 : tp28 = tp := he42
          have he43 : rs28 = rs := he43
          have he44 : ks28 = ks := he44
          obtain rfl := he45
          refine W.widen (k := 0) (n := 0) (by omega) (by omega) ?_
          exact mp_iret hx hb hr hlk hP hD hS ((th28, tp28, rs28, ks28, fS28), pl) ⟨⟨(by show tp28 ≤ 16384; omega), (by show rs28 ≤ 8192; omega), (by show ks28 ≤ 8; omega), hm59⟩, hO⟩ [0, 1] rfl rfl rfl (by omega) (by omega) dM_keys_53
      · refine lv_aload_n hx hb dM_keys_33 rfl (lv_at hl 0 rfl) ?_
        refine lv_iconst (v := nI 1) hx hb dM_keys_34 (by decide) ?_
        refine mp_i (cx := [(h0, .inr (8, [.int (nI 0), .int (nI tp), .int (nI rs), .int (nI ks), .ref mt, .ref mr_, .ref mk, .ref mo, .ref mh, .ref mse, .ref mhs, .ref msp, .ref msc, .ref mha])), (mse, .inl (g.2.1 0, 8, .inl fS))]) (wr := []) hP hD hS hA [0, 1] [] rfl rfl rfl (by decide) (va_runV (As := [.int (nI 1)]) (rest := []) F (t_M_fail l g _ T  pl hO hU  (nI 1) h0 mt mr_ mk mo mh mse mhs msp msc mha tp rs ks (nI 0) fS k_mt k_mr_ k_mk k_mo k_mh k_mhs k_msp k_msc k_mha (by omega) hS5) (cwV 1 hts (wg_app (wg_c kw_1577 (wg_c kw_1579 (wg_c ks_50 (wg_c kw_9 wg_n)))) kw_1580) rfl rfl rfl (by decide +kernel) ⟨by decide, by decide⟩) (pp_V (en_ok g) (q0 := 0) hK hP hD hS hA hE [0, 1] rfl rfl rfl rfl) rfl rfl hl.1 rfl (lv_room (Nat.le_of_ble_eq_true rfl)) dM_keys_35 ⟨by omega, by omega⟩) (fun r38 u37 H locs hu35 hP hD hS => ?_)
        obtain ⟨u38, pl⟩ := u37
        obtain ⟨hq35, hO⟩ := hu35
        obtain ⟨th29, tp29, rs29, ks29, fS29⟩ := u38
        have hP : va_P g.1 vcl ([(h0, .inr (8, [.int th29, .int (nI tp29), .int (nI rs29), .int (nI ks29), .ref mt, .ref mr_, .ref mk, .ref mo, .ref mh, .ref mse, .ref mhs, .ref msp, .ref msc, .ref mha])), (mse, .inl (g.2.1 0, 8, .inl fS29))] ++ pl) _ := hP
        have hD : va_D _ ([(h0, .inr (8, [.int th29, .int (nI tp29), .int (nI rs29), .int (nI ks29), .ref mt, .ref mr_, .ref mk, .ref mo, .ref mh, .ref mse, .ref mhs, .ref msp, .ref msc, .ref mha])), (mse, .inl (g.2.1 0, 8, .inl fS29))] ++ pl) := hD
        obtain ⟨-, -, -, hm64, hm65⟩ := hq35
        obtain ⟨he46, he47, he48, he49, he50⟩ := hm65
        have he46 : th29 = nI 1 := he46
        have he47 : tp29 = tp := he47
        have he48 : rs29 = rs := he48
        have he49 : ks29 = ks := he49
        obtain rfl := he50
        refine W.widen (k := 0) (n := 0) (by omega) (by omega) ?_
        exact mp_iret hx hb hr hlk hP hD hS ((th29, tp29, rs29, ks29, fS29), pl) ⟨⟨(by show tp29 ≤ 16384; omega), (by show rs29 ≤ 8192; omega), (by show ks29 ≤ 8; omega), hm64⟩, hO⟩ [0, 1] rfl rfl rfl (by omega) (by omega) dM_keys_38
    | 3, _ =>
      refine lv_iload_n hx hb dM_keys_5 rfl (lv_at hl 1 rfl) ?_
      refine lv_if_lt (tgt := 33) hx hb dM_keys_6 (by decide) (fun h39 => absurd h39 (by decide)) (fun h39 => ?_)
      refine lv_iload_n hx hb dM_keys_9 rfl (lv_at hl 1 rfl) ?_
      refine lv_iconst (v := nI 5) hx hb dM_keys_10 (by decide) ?_
      refine mi_gt (tgt := 33) hx hb dM_keys_11 (by decide) (by omega) (by omega) (fun h40 => absurd h40 (by omega)) (fun h40 => ?_)
      refine lv_aload_n hx hb dM_keys_14 rfl (lv_at hl 0 rfl) ?_
      refine va_get (D := g.1) (ci := 8) (C := "LatticeKeysModel") (T := T_M) (N := 14) hx hb hts (wg_ft i_M) hown hK hP 0 rfl rfl 1 (by decide) (hts _ (wg_t kw_1527)) (fun _ h9 => h9) rfl dM_keys_15 ?_
      refine lv_iload_n hx hb dM_keys_18 rfl (lv_at hl 1 rfl) ?_
      refine lv_iconst (v := nI 3) hx hb dM_keys_19 (by decide) ?_
      refine mi_ge (tgt := 28) hx hb dM_keys_20 (by decide) (by omega) (by omega) (fun h41 => ?_) (fun h41 => absurd h41 (by omega))
      refine lv_bipush (v := nI 32) hx hb dM_keys_28 (by decide) ?_
      refine mi_eq (tgt := 39) hx hb dM_keys_30 (by decide) (by omega) (by omega) (fun h42 => ?_) (fun h42 => ?_)
      · refine lv_aload_n hx hb dM_keys_39 rfl (lv_at hl 0 rfl) ?_
        refine va_get (D := g.1) (ci := 8) (C := "LatticeKeysModel") (T := T_M) (N := 14) hx hb hts (wg_ft i_M) hown hK hP 0 rfl rfl 3 (by decide) (hts _ (wg_t kw_1529)) (fun _ h9 => h9) rfl dM_keys_40 ?_
        refine lv_bipush (v := nI 8) hx hb dM_keys_43 (by decide) ?_
        refine mi_ne (tgt := 54) hx hb dM_keys_45 (by decide) (by omega) (by omega) (fun h43 => ?_) (fun h43 => ?_)
        · refine lv_iload_n hx hb dM_keys_54 rfl (lv_at hl 1 rfl) ?_
          refine lv_iconst (v := nI 3) hx hb dM_keys_55 (by decide) ?_
          refine mi_ge (tgt := 92) hx hb dM_keys_56 (by decide) (by omega) (by omega) (fun h44 => ?_) (fun h44 => absurd h44 (by omega))
          refine lv_aload_n hx hb dM_keys_92 rfl (lv_at hl 0 rfl) ?_
          refine va_get (D := g.1) (ci := 8) (C := "LatticeKeysModel") (T := T_M) (N := 14) hx hb hts (wg_ft i_M) hown hK hP 0 rfl rfl 13 (by decide) (hts _ (wg_t kw_1539)) (fun _ h9 => h9) rfl dM_keys_93 ?_
          refine lv_iload_n hx hb dM_keys_96 rfl (lv_at hl 1 rfl) ?_
          refine lv_iconst (v := nI 3) hx hb dM_keys_97 (by decide) ?_
          refine mi_isub hx hb dM_keys_98 (by omega) ?_
          refine mi_as (show nI (3 - 3) = nI 0 from rfl) ?_
          refine lv_aload_n hx hb dM_keys_99 rfl (lv_at hl 0 rfl) ?_
          refine va_get (D := g.1) (ci := 8) (C := "LatticeKeysModel") (T := T_M) (N := 14) hx hb hts (wg_ft i_M) hown hK hP 0 rfl rfl 4 (by decide) (hts _ (wg_t kw_1530)) (fun _ h9 => h9) rfl dM_keys_100 ?_
          refine lv_aload_n hx hb dM_keys_103 rfl (lv_at hl 0 rfl) ?_
          refine va_get (D := g.1) (ci := 8) (C := "LatticeKeysModel") (T := T_M) (N := 14) hx hb hts (wg_ft i_M) hown hK hP 0 rfl rfl 7 (by decide) (hts _ (wg_t kw_1533)) (fun _ h9 => h9) rfl dM_keys_104 ?_
          refine lv_aload_n hx hb dM_keys_107 rfl (lv_at hl 0 rfl) ?_
          refine va_get (D := g.1) (ci := 8) (C := "LatticeKeysModel") (T := T_M) (N := 14) hx hb hts (wg_ft i_M) hown hK hP 0 rfl rfl 3 (by decide) (hts _ (wg_t kw_1529)) (fun _ h9 => h9) rfl dM_keys_108 ?_
          refine ty_aald4 hx hb hK hO k_mo (nxg clo_nil k_mo rfl) hP (by omega) dM_keys_111 (fun r39 kr27 => ?_)
          refine lv_aload_n hx hb dM_keys_112 rfl (lv_at hl 0 rfl) ?_
          refine va_get (D := g.1) (ci := 8) (C := "LatticeKeysModel") (T := T_M) (N := 14) hx hb hts (wg_ft i_M) hown hK hP 0 rfl rfl 8 (by decide) (hts _ (wg_t kw_1534)) (fun _ h9 => h9) rfl dM_keys_113 ?_
          refine lv_aload_n hx hb dM_keys_116 rfl (lv_at hl 0 rfl) ?_
          refine va_get (D := g.1) (ci := 8) (C := "LatticeKeysModel") (T := T_M) (N := 14) hx hb hts (wg_ft i_M) hown hK hP 0 rfl rfl 3 (by decide) (hts _ (wg_t kw_1529)) (fun _ h9 => h9) rfl dM_keys_117 ?_
          refine ty_aald4 hx hb hK hO k_mh (nxg clo_nil k_mh rfl) hP (by omega) dM_keys_120 (fun r40 kr28 => ?_)
          refine mp_v (cx := []) (wr := [(h0, .inr (8, [.int (nI 0), .int (nI tp), .int (nI rs), .int (nI ks), .ref mt, .ref mr_, .ref mk, .ref mo, .ref mh, .ref mse, .ref mhs, .ref msp, .ref msc, .ref mha])), (mse, .inl (g.2.1 0, 8, .inl fS))]) hP hD hS hA [] [0, 1] rfl rfl rfl (by decide) (va_runV (As := [.int (nI 0), .ref mt, .ref r39, .ref r40]) (rest := []) F (t_MH_keys_0 l g _ T  pl hO hU  mha mt r39 r40 16384 k_mha k_mt kr27 kr28 (by omega) (by omega)) (cwV 4 hts (wg_app (wg_c kw_1698 (wg_c kw_1699 (wg_c kw_1700 (wg_c kw_13 wg_n)))) kw_1701) rfl rfl rfl (by decide +kernel) ⟨by decide, by decide⟩) (pp_VT (en_ok g) (ci := 12) (kd := (49, 0)) hK hO k_mha (nxg clo_nil k_mha rfl) (fun _ h9 => ko1 h9) hP hD hS hA hE [] rfl rfl rfl) rfl rfl hl.1 rfl (lv_room (Nat.le_of_ble_eq_true rfl)) dM_keys_121 ⟨by omega, by omega⟩) (fun  pl H locs hu36 hP hD hS => ?_)
          obtain ⟨hq36, hO⟩ := hu36
          have hP : va_P g.1 vcl ([(h0, .inr (8, [.int (nI 0), .int (nI tp), .int (nI rs), .int (nI ks), .ref mt, .ref mr_, .ref mk, .ref mo, .ref mh, .ref mse, .ref mhs, .ref msp, .ref msc, .ref mha])), (mse, .inl (g.2.1 0, 8, .inl fS))] ++ pl) _ := hP
          have hD : va_D _ ([(h0, .inr (8, [.int (nI 0), .int (nI tp), .int (nI rs), .int (nI ks), .ref mt, .ref mr_, .ref mk, .ref mo, .ref mh, .ref mse, .ref mhs, .ref msp, .ref msc, .ref mha])), (mse, .inl (g.2.1 0, 8, .inl fS))] ++ pl) := hD
          refine W.widen (k := 0) (n := 0) (by omega) (by omega) ?_
          refine lv_aload_n hx hb dM_keys_124 rfl (lv_at hl 0 rfl) ?_
          refine lv_iload_n hx hb dM_keys_125 rfl (lv_at hl 1 rfl) ?_
          refine lv_iload_n hx hb dM_keys_126 rfl (lv_at hl 1 rfl) ?_
          refine mp_i (cx := []) (wr := [(h0, .inr (8, [.int (nI 0), .int (nI tp), .int (nI rs), .int (nI ks), .ref mt, .ref mr_, .ref mk, .ref mo, .ref mh, .ref mse, .ref mhs, .ref msp, .ref msc, .ref mha])), (mse, .inl (g.2.1 0, 8, .inl fS))]) hP hD hS hA [] [0, 1] rfl rfl rfl (by decide) (va_runS (As := [.int (nI 3)]) (rest := [.int (nI 3), .ref h0]) F (t_M_hiddenSize_3 l g _ T [] pl hO hU  ) (va_cwS 1 hts (wg_app (wg_c kw_1747 (wg_c kw_1748 (wg_c kw_9 wg_n))) kw_1749) rfl rfl rfl (by decide +kernel) ⟨by decide, by decide⟩) (pp_S (en_ok g) hP hD hS hA hE [] rfl rfl) rfl rfl hl.1 rfl (lv_room (Nat.le_of_ble_eq_true rfl)) dM_keys_127 ⟨by omega, by omega⟩) (fun r41 pl H locs hu37 hP hD hS => ?_)
          obtain ⟨hq37, hO⟩ := hu37
          have hP : va_P g.1 vcl ([(h0, .inr (8, [.int (nI 0), .int (nI tp), .int (nI rs), .int (nI ks), .ref mt, .ref mr_, .ref mk, .ref mo, .ref mh, .ref mse, .ref mhs, .ref msp, .ref msc, .ref mha])), (mse, .inl (g.2.1 0, 8, .inl fS))] ++ pl) _ := hP
          have hD : va_D _ ([(h0, .inr (8, [.int (nI 0), .int (nI tp), .int (nI rs), .int (nI ks), .ref mt, .ref mr_, .ref mk, .ref mo, .ref mh, .ref mse, .ref mhs, .ref msp, .ref msc, .ref mha])), (mse, .inl (g.2.1 0, 8, .inl fS))] ++ pl) := hD
          obtain rfl := hq37
          refine W.widen (k := 0) (n := 0) (by omega) (by omega) ?_
          refine mp_i (cx := [(h0, .inr (8, [.int (nI 0), .int (nI tp), .int (nI rs), .int (nI ks), .ref mt, .ref mr_, .ref mk, .ref mo, .ref mh, .ref mse, .ref mhs, .ref msp, .ref msc, .ref mha])), (mse, .inl (g.2.1 0, 8, .inl fS))]) (wr := []) hP hD hS hA [0, 1] [] rfl rfl rfl (by decide) (va_runV (As := [.int (nI 3), .int (nI 2560)]) (rest := []) F (t_M_made l g _ T  pl hO hU  3 2560 h0 mt mr_ mk mo mh mse mhs msp msc mha tp rs ks (nI 0) fS k_mt k_mr_ k_mk k_mo k_mh k_mhs k_msp k_msc k_mha (by omega) hS5 (by omega) (by omega) (by omega)) (cwV 2 hts (wg_app (wg_c kw_1756 (wg_c kw_1758 (wg_c ks_64 (wg_c kw_9 wg_n)))) kw_1759) rfl rfl rfl (by decide +kernel) ⟨by decide, by decide⟩) (pp_V (en_ok g) (q0 := 0) hK hP hD hS hA hE [0, 1] rfl rfl rfl rfl) rfl rfl hl.1 rfl (lv_room (Nat.le_of_ble_eq_true rfl)) dM_keys_130 ⟨by omega, by omega⟩) (fun r42 u39 H locs hu38 hP hD hS => ?_)
          obtain ⟨u40, pl⟩ := u39
          obtain ⟨hq38, hO⟩ := hu38
          obtain ⟨th30, tp30, rs30, ks30, fS30⟩ := u40
          have hP : va_P g.1 vcl ([(h0, .inr (8, [.int th30, .int (nI tp30), .int (nI rs30), .int (nI ks30), .ref mt, .ref mr_, .ref mk, .ref mo, .ref mh, .ref mse, .ref mhs, .ref msp, .ref msc, .ref mha])), (mse, .inl (g.2.1 0, 8, .inl fS30))] ++ pl) _ := hP
          have hD : va_D _ ([(h0, .inr (8, [.int th30, .int (nI tp30), .int (nI rs30), .int (nI ks30), .ref mt, .ref mr_, .ref mk, .ref mo, .ref mh, .ref mse, .ref mhs, .ref msp, .ref msc, .ref mha])), (mse, .inl (g.2.1 0, 8, .inl fS30))] ++ pl) := hD
          obtain ⟨hm66, hm67, hm68, hm69⟩ := hq38
          have hm66 : tp30 ≤ 16384 := hm66
          have hm67 : rs30 ≤ 8192 := hm67
          have hm68 : ks30 ≤ 8 := hm68
          refine W.widen (k := 0) (n := 0) (by omega) (by omega) ?_
          exact mp_iret hx hb hr hlk hP hD hS ((th30, tp30, rs30, ks30, fS30), pl) ⟨⟨(by show tp30 ≤ 16384; omega), (by show rs30 ≤ 8192; omega), (by show ks30 ≤ 8; omega), hm69⟩, hO⟩ [0, 1] rfl rfl rfl (by omega) (by omega) dM_keys_133
        · refine lv_aload_n hx hb dM_keys_48 rfl (lv_at hl 0 rfl) ?_
          refine lv_iconst (v := nI 2) hx hb dM_keys_49 (by decide) ?_
          refine mp_i (cx := [(h0, .inr (8, [.int (nI 0), .int (nI tp), .int (nI rs), .int (nI ks), .ref mt, .ref mr_, .ref mk, .ref mo, .ref mh, .ref mse, .ref mhs, .ref msp, .ref msc, .ref mha])), (mse, .inl (g.2.1 0, 8, .inl fS))]) (wr := []) hP hD hS hA [0, 1] [] rfl rfl rfl (by decide) (va_runV (As := [.int (nI 2)]) (rest := []) F (t_M_fail l g _ T  pl hO hU  (nI 2) h0 mt mr_ mk mo mh mse mhs msp msc mha tp rs ks (nI 0) fS k_mt k_mr_ k_mk k_mo k_mh k_mhs k_msp k_msc k_mha (by omega) hS5) (cwV 1 hts (wg_app (wg_c kw_1577 (wg_c kw_1579 (wg_c ks_50 (wg_c kw_9 wg_n)))) kw_1580) rfl rfl rfl (by decide +kernel) ⟨by decide, by decide⟩) (pp_V (en_ok g) (q0 := 0) hK hP hD hS hA hE [0, 1] rfl rfl rfl rfl) rfl rfl hl.1 rfl (lv_room (Nat.le_of_ble_eq_true rfl)) dM_keys_50 ⟨by omega, by omega⟩) (fun r43 u41 H locs hu39 hP hD hS => ?_)
          obtain ⟨u42, pl⟩ := u41
          obtain ⟨hq39, hO⟩ := hu39
          obtain ⟨th31, tp31, rs31, ks31, fS31⟩ := u42
          have hP : va_P g.1 vcl ([(h0, .inr (8, [.int th31, .int (nI tp31), .int (nI rs31), .int (nI ks31), .ref mt, .ref mr_, .ref mk, .ref mo, .ref mh, .ref mse, .ref mhs, .ref msp, .ref msc, .ref mha])), (mse, .inl (g.2.1 0, 8, .inl fS31))] ++ pl) _ := hP
          have hD : va_D _ ([(h0, .inr (8, [.int th31, .int (nI tp31), .int (nI rs31), .int (nI ks31), .ref mt, .ref mr_, .ref mk, .ref mo, .ref mh, .ref mse, .ref mhs, .ref msp, .ref msc, .ref mha])), (mse, .inl (g.2.1 0, 8, .inl fS31))] ++ pl) := hD
          obtain ⟨-, -, -, hm74, hm75⟩ := hq39
          obtain ⟨he51, he52, he53, he54, he55⟩ := hm75
          have he51 : th31 = nI 2 := he51
          have he52 : tp31 = tp := he52
          have he53 : rs31 = rs := he53
          have he54 : ks31 = ks := he54
          obtain rfl := he55
          refine W.widen (k := 0) (n := 0) (by omega) (by omega) ?_
          exact mp_iret hx hb hr hlk hP hD hS ((th31, tp31, rs31, ks31, fS31), pl) ⟨⟨(by show tp31 ≤ 16384; omega), (by show rs31 ≤ 8192; omega), (by show ks31 ≤ 8; omega), hm74⟩, hO⟩ [0, 1] rfl rfl rfl (by omega) (by omega) dM_keys_53
      · refine lv_aload_n hx hb dM_keys_33 rfl (lv_at hl 0 rfl) ?_
        refine lv_iconst (v := nI 1) hx hb dM_keys_34 (by decide) ?_
        refine mp_i (cx := [(h0, .inr (8, [.int (nI 0), .int (nI tp), .int (nI rs), .int (nI ks), .ref mt, .ref mr_, .ref mk, .ref mo, .ref mh, .ref mse, .ref mhs, .ref msp, .ref msc, .ref mha])), (mse, .inl (g.2.1 0, 8, .inl fS))]) (wr := []) hP hD hS hA [0, 1] [] rfl rfl rfl (by decide) (va_runV (As := [.int (nI 1)]) (rest := []) F (t_M_fail l g _ T  pl hO hU  (nI 1) h0 mt mr_ mk mo mh mse mhs msp msc mha tp rs ks (nI 0) fS k_mt k_mr_ k_mk k_mo k_mh k_mhs k_msp k_msc k_mha (by omega) hS5) (cwV 1 hts (wg_app (wg_c kw_1577 (wg_c kw_1579 (wg_c ks_50 (wg_c kw_9 wg_n)))) kw_1580) rfl rfl rfl (by decide +kernel) ⟨by decide, by decide⟩) (pp_V (en_ok g) (q0 := 0) hK hP hD hS hA hE [0, 1] rfl rfl rfl rfl) rfl rfl hl.1 rfl (lv_room (Nat.le_of_ble_eq_true rfl)) dM_keys_35 ⟨by omega, by omega⟩) (fun r44 u43 H locs hu40 hP hD hS => ?_)
        obtain ⟨u44, pl⟩ := u43
        obtain ⟨hq40, hO⟩ := hu40
        obtain ⟨th32, tp32, rs32, ks32, fS32⟩ := u44
        have hP : va_P g.1 vcl ([(h0, .inr (8, [.int th32, .int (nI tp32), .int (nI rs32), .int (nI ks32), .ref mt, .ref mr_, .ref mk, .ref mo, .ref mh, .ref mse, .ref mhs, .ref msp, .ref msc, .ref mha])), (mse, .inl (g.2.1 0, 8, .inl fS32))] ++ pl) _ := hP
        have hD : va_D _ ([(h0, .inr (8, [.int th32, .int (nI tp32), .int (nI rs32), .int (nI ks32), .ref mt, .ref mr_, .ref mk, .ref mo, .ref mh, .ref mse, .ref mhs, .ref msp, .ref msc, .ref mha])), (mse, .inl (g.2.1 0, 8, .inl fS32))] ++ pl) := hD
        obtain ⟨-, -, -, hm79, hm80⟩ := hq40
        obtain ⟨he56, he57, he58, he59, he60⟩ := hm80
        have he56 : th32 = nI 1 := he56
        have he57 : tp32 = tp := he57
        have he58 : rs32 = rs := he58
        have he59 : ks32 = ks := he59
        obtain rfl := he60
        refine W.widen (k := 0) (n := 0) (by omega) (by omega) ?_
        exact mp_iret hx hb hr hlk hP hD hS ((th32, tp32, rs32, ks32, fS32), pl) ⟨⟨(by show tp32 ≤ 16384; omega), (by show rs32 ≤ 8192; omega), (by show ks32 ≤ 8; omega), hm79⟩, hO⟩ [0, 1] rfl rfl rfl (by omega) (by omega) dM_keys_38
    | 4, _ =>
      refine lv_iload_n hx hb dM_keys_5 rfl (lv_at hl 1 rfl) ?_
      refine lv_if_lt (tgt := 33) hx hb dM_keys_6 (by decide) (fun h45 => absurd h45 (by decide)) (fun h45 => ?_)
      refine lv_iload_n hx hb dM_keys_9 rfl (lv_at hl 1 rfl) ?_
      refine lv_iconst (v := nI 5) hx hb dM_keys_10 (by decide) ?_
      refine mi_gt (tgt := 33) hx hb dM_keys_11 (by decide) (by omega) (by omega) (fun h46 => absurd h46 (by omega)) (fun h46 => ?_)
      refine lv_aload_n hx hb dM_keys_14 rfl (lv_at hl 0 rfl) ?_
      refine va_get (D := g.1) (ci := 8) (C := "LatticeKeysModel") (T := T_M) (N := 14) hx hb hts (wg_ft i_M) hown hK hP 0 rfl rfl 1 (by decide) (hts _ (wg_t kw_1527)) (fun _ h9 => h9) rfl dM_keys_15 ?_
      refine lv_iload_n hx hb dM_keys_18 rfl (lv_at hl 1 rfl) ?_
      refine lv_iconst (v := nI 3) hx hb dM_keys_19 (by decide) ?_
      refine mi_ge (tgt := 28) hx hb dM_keys_20 (by decide) (by omega) (by omega) (fun h47 => ?_) (fun h47 => absurd h47 (by omega))
      refine lv_bipush (v := nI 32) hx hb dM_keys_28 (by decide) ?_
      refine mi_eq (tgt := 39) hx hb dM_keys_30 (by decide) (by omega) (by omega) (fun h48 => ?_) (fun h48 => ?_)
      · refine lv_aload_n hx hb dM_keys_39 rfl (lv_at hl 0 rfl) ?_
        refine va_get (D := g.1) (ci := 8) (C := "LatticeKeysModel") (T := T_M) (N := 14) hx hb hts (wg_ft i_M) hown hK hP 0 rfl rfl 3 (by decide) (hts _ (wg_t kw_1529)) (fun _ h9 => h9) rfl dM_keys_40 ?_
        refine lv_bipush (v := nI 8) hx hb dM_keys_43 (by decide) ?_
        refine mi_ne (tgt := 54) hx hb dM_keys_45 (by decide) (by omega) (by omega) (fun h49 => ?_) (fun h49 => ?_)
        · refine lv_iload_n hx hb dM_keys_54 rfl (lv_at hl 1 rfl) ?_
          refine lv_iconst (v := nI 3) hx hb dM_keys_55 (by decide) ?_
          refine mi_ge (tgt := 92) hx hb dM_keys_56 (by decide) (by omega) (by omega) (fun h50 => ?_) (fun h50 => absurd h50 (by omega))
          refine lv_aload_n hx hb dM_keys_92 rfl (lv_at hl 0 rfl) ?_
          refine va_get (D := g.1) (ci := 8) (C := "LatticeKeysModel") (T := T_M) (N := 14) hx hb hts (wg_ft i_M) hown hK hP 0 rfl rfl 13 (by decide) (hts _ (wg_t kw_1539)) (fun _ h9 => h9) rfl dM_keys_93 ?_
          refine lv_iload_n hx hb dM_keys_96 rfl (lv_at hl 1 rfl) ?_
          refine lv_iconst (v := nI 3) hx hb dM_keys_97 (by decide) ?_
          refine mi_isub hx hb dM_keys_98 (by omega) ?_
          refine mi_as (show nI (4 - 3) = nI 1 from rfl) ?_
          refine lv_aload_n hx hb dM_keys_99 rfl (lv_at hl 0 rfl) ?_
          refine va_get (D := g.1) (ci := 8) (C := "LatticeKeysModel") (T := T_M) (N := 14) hx hb hts (wg_ft i_M) hown hK hP 0 rfl rfl 4 (by decide) (hts _ (wg_t kw_1530)) (fun _ h9 => h9) rfl dM_keys_100 ?_
          refine lv_aload_n hx hb dM_keys_103 rfl (lv_at hl 0 rfl) ?_
          refine va_get (D := g.1) (ci := 8) (C := "LatticeKeysModel") (T := T_M) (N := 14) hx hb hts (wg_ft i_M) hown hK hP 0 rfl rfl 7 (by decide) (hts _ (wg_t kw_1533)) (fun _ h9 => h9) rfl dM_keys_104 ?_
          refine lv_aload_n hx hb dM_keys_107 rfl (lv_at hl 0 rfl) ?_
          refine va_get (D := g.1) (ci := 8) (C := "LatticeKeysModel") (T := T_M) (N := 14) hx hb hts (wg_ft i_M) hown hK hP 0 rfl rfl 3 (by decide) (hts _ (wg_t kw_1529)) (fun _ h9 => h9) rfl dM_keys_108 ?_
          refine ty_aald4 hx hb hK hO k_mo (nxg clo_nil k_mo rfl) hP (by omega) dM_keys_111 (fun r45 kr29 => ?_)
          refine lv_aload_n hx hb dM_keys_112 rfl (lv_at hl 0 rfl) ?_
          refine va_get (D := g.1) (ci := 8) (C := "LatticeKeysModel") (T := T_M) (N := 14) hx hb hts (wg_ft i_M) hown hK hP 0 rfl rfl 8 (by decide) (hts _ (wg_t kw_1534)) (fun _ h9 => h9) rfl dM_keys_113 ?_
          refine lv_aload_n hx hb dM_keys_116 rfl (lv_at hl 0 rfl) ?_
          refine va_get (D := g.1) (ci := 8) (C := "LatticeKeysModel") (T := T_M) (N := 14) hx hb hts (wg_ft i_M) hown hK hP 0 rfl rfl 3 (by decide) (hts _ (wg_t kw_1529)) (fun _ h9 => h9) rfl dM_keys_117 ?_
          refine ty_aald4 hx hb hK hO k_mh (nxg clo_nil k_mh rfl) hP (by omega) dM_keys_120 (fun r46 kr30 => ?_)
          refine mp_v (cx := []) (wr := [(h0, .inr (8, [.int (nI 0), .int (nI tp), .int (nI rs), .int (nI ks), .ref mt, .ref mr_, .ref mk, .ref mo, .ref mh, .ref mse, .ref mhs, .ref msp, .ref msc, .ref mha])), (mse, .inl (g.2.1 0, 8, .inl fS))]) hP hD hS hA [] [0, 1] rfl rfl rfl (by decide) (va_runV (As := [.int (nI 1), .ref mt, .ref r45, .ref r46]) (rest := []) F (t_MH_keys_1 l g _ T  pl hO hU  mha mt r45 r46 16384 k_mha k_mt kr29 kr30 (by omega) (by omega)) (cwV 4 hts (wg_app (wg_c kw_1698 (wg_c kw_1699 (wg_c kw_1700 (wg_c kw_13 wg_n)))) kw_1701) rfl rfl rfl (by decide +kernel) ⟨by decide, by decide⟩) (pp_VT (en_ok g) (ci := 12) (kd := (49, 0)) hK hO k_mha (nxg clo_nil k_mha rfl) (fun _ h9 => ko1 h9) hP hD hS hA hE [] rfl rfl rfl) rfl rfl hl.1 rfl (lv_room (Nat.le_of_ble_eq_true rfl)) dM_keys_121 ⟨by omega, by omega⟩) (fun  pl H locs hu41 hP hD hS => ?_)
          obtain ⟨hq41, hO⟩ := hu41
          have hP : va_P g.1 vcl ([(h0, .inr (8, [.int (nI 0), .int (nI tp), .int (nI rs), .int (nI ks), .ref mt, .ref mr_, .ref mk, .ref mo, .ref mh, .ref mse, .ref mhs, .ref msp, .ref msc, .ref mha])), (mse, .inl (g.2.1 0, 8, .inl fS))] ++ pl) _ := hP
          have hD : va_D _ ([(h0, .inr (8, [.int (nI 0), .int (nI tp), .int (nI rs), .int (nI ks), .ref mt, .ref mr_, .ref mk, .ref mo, .ref mh, .ref mse, .ref mhs, .ref msp, .ref msc, .ref mha])), (mse, .inl (g.2.1 0, 8, .inl fS))] ++ pl) := hD
          refine W.widen (k := 0) (n := 0) (by omega) (by omega) ?_
          refine lv_aload_n hx hb dM_keys_124 rfl (lv_at hl 0 rfl) ?_
          refine lv_iload_n hx hb dM_keys_125 rfl (lv_at hl 1 rfl) ?_
          refine lv_iload_n hx hb dM_keys_126 rfl (lv_at hl 1 rfl) ?_
          refine mp_i (cx := []) (wr := [(h0, .inr (8, [.int (nI 0), .int (nI tp), .int (nI rs), .int (nI ks), .ref mt, .ref mr_, .ref mk, .ref mo, .ref mh, .ref mse, .ref mhs, .ref msp, .ref msc, .ref mha])), (mse, .inl (g.2.1 0, 8, .inl fS))]) hP hD hS hA [] [0, 1] rfl rfl rfl (by decide) (va_runS (As := [.int (nI 4)]) (rest := [.int (nI 4), .ref h0]) F (t_M_hiddenSize_4 l g _ T [] pl hO hU  ) (va_cwS 1 hts (wg_app (wg_c kw_1747 (wg_c kw_1748 (wg_c kw_9 wg_n))) kw_1749) rfl rfl rfl (by decide +kernel) ⟨by decide, by decide⟩) (pp_S (en_ok g) hP hD hS hA hE [] rfl rfl) rfl rfl hl.1 rfl (lv_room (Nat.le_of_ble_eq_true rfl)) dM_keys_127 ⟨by omega, by omega⟩) (fun r47 pl H locs hu42 hP hD hS => ?_)
          obtain ⟨hq42, hO⟩ := hu42
          have hP : va_P g.1 vcl ([(h0, .inr (8, [.int (nI 0), .int (nI tp), .int (nI rs), .int (nI ks), .ref mt, .ref mr_, .ref mk, .ref mo, .ref mh, .ref mse, .ref mhs, .ref msp, .ref msc, .ref mha])), (mse, .inl (g.2.1 0, 8, .inl fS))] ++ pl) _ := hP
          have hD : va_D _ ([(h0, .inr (8, [.int (nI 0), .int (nI tp), .int (nI rs), .int (nI ks), .ref mt, .ref mr_, .ref mk, .ref mo, .ref mh, .ref mse, .ref mhs, .ref msp, .ref msc, .ref mha])), (mse, .inl (g.2.1 0, 8, .inl fS))] ++ pl) := hD
          obtain rfl := hq42
          refine W.widen (k := 0) (n := 0) (by omega) (by omega) ?_
          refine mp_i (cx := [(h0, .inr (8, [.int (nI 0), .int (nI tp), .int (nI rs), .int (nI ks), .ref mt, .ref mr_, .ref mk, .ref mo, .ref mh, .ref mse, .ref mhs, .ref msp, .ref msc, .ref mha])), (mse, .inl (g.2.1 0, 8, .inl fS))]) (wr := []) hP hD hS hA [0, 1] [] rfl rfl rfl (by decide) (va_runV (As := [.int (nI 4), .int (nI 4032)]) (rest := []) F (t_M_made l g _ T  pl hO hU  4 4032 h0 mt mr_ mk mo mh mse mhs msp msc mha tp rs ks (nI 0) fS k_mt k_mr_ k_mk k_mo k_mh k_mhs k_msp k_msc k_mha (by omega) hS5 (by omega) (by omega) (by omega)) (cwV 2 hts (wg_app (wg_c kw_1756 (wg_c kw_1758 (wg_c ks_64 (wg_c kw_9 wg_n)))) kw_1759) rfl rfl rfl (by decide +kernel) ⟨by decide, by decide⟩) (pp_V (en_ok g) (q0 := 0) hK hP hD hS hA hE [0, 1] rfl rfl rfl rfl) rfl rfl hl.1 rfl (lv_room (Nat.le_of_ble_eq_true rfl)) dM_keys_130 ⟨by omega, by omega⟩) (fun r48 u45 H locs hu43 hP hD hS => ?_)
          obtain ⟨u46, pl⟩ := u45
          obtain ⟨hq43, hO⟩ := hu43
          obtain ⟨th33, tp33, rs33, ks33, fS33⟩ := u46
          have hP : va_P g.1 vcl ([(h0, .inr (8, [.int th33, .int (nI tp33), .int (nI rs33), .int (nI ks33), .ref mt, .ref mr_, .ref mk, .ref mo, .ref mh, .ref mse, .ref mhs, .ref msp, .ref msc, .ref mha])), (mse, .inl (g.2.1 0, 8, .inl fS33))] ++ pl) _ := hP
          have hD : va_D _ ([(h0, .inr (8, [.int th33, .int (nI tp33), .int (nI rs33), .int (nI ks33), .ref mt, .ref mr_, .ref mk, .ref mo, .ref mh, .ref mse, .ref mhs, .ref msp, .ref msc, .ref mha])), (mse, .inl (g.2.1 0, 8, .inl fS33))] ++ pl) := hD
          obtain ⟨hm81, hm82, hm83, hm84⟩ := hq43
          have hm81 : tp33 ≤ 16384 := hm81
          have hm82 : rs33 ≤ 8192 := hm82
          have hm83 : ks33 ≤ 8 := hm83
          refine W.widen (k := 0) (n := 0) (by omega) (by omega) ?_
          exact mp_iret hx hb hr hlk hP hD hS ((th33, tp33, rs33, ks33, fS33), pl) ⟨⟨(by show tp33 ≤ 16384; omega), (by show rs33 ≤ 8192; omega), (by show ks33 ≤ 8; omega), hm84⟩, hO⟩ [0, 1] rfl rfl rfl (by omega) (by omega) dM_keys_133
        · refine lv_aload_n hx hb dM_keys_48 rfl (lv_at hl 0 rfl) ?_
          refine lv_iconst (v := nI 2) hx hb dM_keys_49 (by decide) ?_
          refine mp_i (cx := [(h0, .inr (8, [.int (nI 0), .int (nI tp), .int (nI rs), .int (nI ks), .ref mt, .ref mr_, .ref mk, .ref mo, .ref mh, .ref mse, .ref mhs, .ref msp, .ref msc, .ref mha])), (mse, .inl (g.2.1 0, 8, .inl fS))]) (wr := []) hP hD hS hA [0, 1] [] rfl rfl rfl (by decide) (va_runV (As := [.int (nI 2)]) (rest := []) F (t_M_fail l g _ T  pl hO hU  (nI 2) h0 mt mr_ mk mo mh mse mhs msp msc mha tp rs ks (nI 0) fS k_mt k_mr_ k_mk k_mo k_mh k_mhs k_msp k_msc k_mha (by omega) hS5) (cwV 1 hts (wg_app (wg_c kw_1577 (wg_c kw_1579 (wg_c ks_50 (wg_c kw_9 wg_n)))) kw_1580) rfl rfl rfl (by decide +kernel) ⟨by decide, by decide⟩) (pp_V (en_ok g) (q0 := 0) hK hP hD hS hA hE [0, 1] rfl rfl rfl rfl) rfl rfl hl.1 rfl (lv_room (Nat.le_of_ble_eq_true rfl)) dM_keys_50 ⟨by omega, by omega⟩) (fun r49 u47 H locs hu44 hP hD hS => ?_)
          obtain ⟨u48, pl⟩ := u47
          obtain ⟨hq44, hO⟩ := hu44
          obtain ⟨th34, tp34, rs34, ks34, fS34⟩ := u48
          have hP : va_P g.1 vcl ([(h0, .inr (8, [.int th34, .int (nI tp34), .int (nI rs34), .int (nI ks34), .ref mt, .ref mr_, .ref mk, .ref mo, .ref mh, .ref mse, .ref mhs, .ref msp, .ref msc, .ref mha])), (mse, .inl (g.2.1 0, 8, .inl fS34))] ++ pl) _ := hP
          have hD : va_D _ ([(h0, .inr (8, [.int th34, .int (nI tp34), .int (nI rs34), .int (nI ks34), .ref mt, .ref mr_, .ref mk, .ref mo, .ref mh, .ref mse, .ref mhs, .ref msp, .ref msc, .ref mha])), (mse, .inl (g.2.1 0, 8, .inl fS34))] ++ pl) := hD
          obtain ⟨-, -, -, hm89, hm90⟩ := hq44
          obtain ⟨he61, he62, he63, he64, he65⟩ := hm90
          have he61 : th34 = nI 2 := he61
          have he62 : tp34 = tp := he62
          have he63 : rs34 = rs := he63
          have he64 : ks34 = ks := he64
          obtain rfl := he65
          refine W.widen (k := 0) (n := 0) (by omega) (by omega) ?_
          exact mp_iret hx hb hr hlk hP hD hS ((th34, tp34, rs34, ks34, fS34), pl) ⟨⟨(by show tp34 ≤ 16384; omega), (by show rs34 ≤ 8192; omega), (by show ks34 ≤ 8; omega), hm89⟩, hO⟩ [0, 1] rfl rfl rfl (by omega) (by omega) dM_keys_53
      · refine lv_aload_n hx hb dM_keys_33 rfl (lv_at hl 0 rfl) ?_
        refine lv_iconst (v := nI 1) hx hb dM_keys_34 (by decide) ?_
        refine mp_i (cx := [(h0, .inr (8, [.int (nI 0), .int (nI tp), .int (nI rs), .int (nI ks), .ref mt, .ref mr_, .ref mk, .ref mo, .ref mh, .ref mse, .ref mhs, .ref msp, .ref msc, .ref mha])), (mse, .inl (g.2.1 0, 8, .inl fS))]) (wr := []) hP hD hS hA [0, 1] [] rfl rfl rfl (by decide) (va_runV (As := [.int (nI 1)]) (rest := []) F (t_M_fail l g _ T  pl hO hU  (nI 1) h0 mt mr_ mk mo mh mse mhs msp msc mha tp rs ks (nI 0) fS k_mt k_mr_ k_mk k_mo k_mh k_mhs k_msp k_msc k_mha (by omega) hS5) (cwV 1 hts (wg_app (wg_c kw_1577 (wg_c kw_1579 (wg_c ks_50 (wg_c kw_9 wg_n)))) kw_1580) rfl rfl rfl (by decide +kernel) ⟨by decide, by decide⟩) (pp_V (en_ok g) (q0 := 0) hK hP hD hS hA hE [0, 1] rfl rfl rfl rfl) rfl rfl hl.1 rfl (lv_room (Nat.le_of_ble_eq_true rfl)) dM_keys_35 ⟨by omega, by omega⟩) (fun r50 u49 H locs hu45 hP hD hS => ?_)
        obtain ⟨u50, pl⟩ := u49
        obtain ⟨hq45, hO⟩ := hu45
        obtain ⟨th35, tp35, rs35, ks35, fS35⟩ := u50
        have hP : va_P g.1 vcl ([(h0, .inr (8, [.int th35, .int (nI tp35), .int (nI rs35), .int (nI ks35), .ref mt, .ref mr_, .ref mk, .ref mo, .ref mh, .ref mse, .ref mhs, .ref msp, .ref msc, .ref mha])), (mse, .inl (g.2.1 0, 8, .inl fS35))] ++ pl) _ := hP
        have hD : va_D _ ([(h0, .inr (8, [.int th35, .int (nI tp35), .int (nI rs35), .int (nI ks35), .ref mt, .ref mr_, .ref mk, .ref mo, .ref mh, .ref mse, .ref mhs, .ref msp, .ref msc, .ref mha])), (mse, .inl (g.2.1 0, 8, .inl fS35))] ++ pl) := hD
        obtain ⟨-, -, -, hm94, hm95⟩ := hq45
        obtain ⟨he66, he67, he68, he69, he70⟩ := hm95
        have he66 : th35 = nI 1 := he66
        have he67 : tp35 = tp := he67
        have he68 : rs35 = rs := he68
        have he69 : ks35 = ks := he69
        obtain rfl := he70
        refine W.widen (k := 0) (n := 0) (by omega) (by omega) ?_
        exact mp_iret hx hb hr hlk hP hD hS ((th35, tp35, rs35, ks35, fS35), pl) ⟨⟨(by show tp35 ≤ 16384; omega), (by show rs35 ≤ 8192; omega), (by show ks35 ≤ 8; omega), hm94⟩, hO⟩ [0, 1] rfl rfl rfl (by omega) (by omega) dM_keys_38
    | 5, _ =>
      refine lv_iload_n hx hb dM_keys_5 rfl (lv_at hl 1 rfl) ?_
      refine lv_if_lt (tgt := 33) hx hb dM_keys_6 (by decide) (fun h51 => absurd h51 (by decide)) (fun h51 => ?_)
      refine lv_iload_n hx hb dM_keys_9 rfl (lv_at hl 1 rfl) ?_
      refine lv_iconst (v := nI 5) hx hb dM_keys_10 (by decide) ?_
      refine mi_gt (tgt := 33) hx hb dM_keys_11 (by decide) (by omega) (by omega) (fun h52 => absurd h52 (by omega)) (fun h52 => ?_)
      refine lv_aload_n hx hb dM_keys_14 rfl (lv_at hl 0 rfl) ?_
      refine va_get (D := g.1) (ci := 8) (C := "LatticeKeysModel") (T := T_M) (N := 14) hx hb hts (wg_ft i_M) hown hK hP 0 rfl rfl 1 (by decide) (hts _ (wg_t kw_1527)) (fun _ h9 => h9) rfl dM_keys_15 ?_
      refine lv_iload_n hx hb dM_keys_18 rfl (lv_at hl 1 rfl) ?_
      refine lv_iconst (v := nI 3) hx hb dM_keys_19 (by decide) ?_
      refine mi_ge (tgt := 28) hx hb dM_keys_20 (by decide) (by omega) (by omega) (fun h53 => ?_) (fun h53 => absurd h53 (by omega))
      refine lv_bipush (v := nI 32) hx hb dM_keys_28 (by decide) ?_
      refine mi_eq (tgt := 39) hx hb dM_keys_30 (by decide) (by omega) (by omega) (fun h54 => ?_) (fun h54 => ?_)
      · refine lv_aload_n hx hb dM_keys_39 rfl (lv_at hl 0 rfl) ?_
        refine va_get (D := g.1) (ci := 8) (C := "LatticeKeysModel") (T := T_M) (N := 14) hx hb hts (wg_ft i_M) hown hK hP 0 rfl rfl 3 (by decide) (hts _ (wg_t kw_1529)) (fun _ h9 => h9) rfl dM_keys_40 ?_
        refine lv_bipush (v := nI 8) hx hb dM_keys_43 (by decide) ?_
        refine mi_ne (tgt := 54) hx hb dM_keys_45 (by decide) (by omega) (by omega) (fun h55 => ?_) (fun h55 => ?_)
        · refine lv_iload_n hx hb dM_keys_54 rfl (lv_at hl 1 rfl) ?_
          refine lv_iconst (v := nI 3) hx hb dM_keys_55 (by decide) ?_
          refine mi_ge (tgt := 92) hx hb dM_keys_56 (by decide) (by omega) (by omega) (fun h56 => ?_) (fun h56 => absurd h56 (by omega))
          refine lv_aload_n hx hb dM_keys_92 rfl (lv_at hl 0 rfl) ?_
          refine va_get (D := g.1) (ci := 8) (C := "LatticeKeysModel") (T := T_M) (N := 14) hx hb hts (wg_ft i_M) hown hK hP 0 rfl rfl 13 (by decide) (hts _ (wg_t kw_1539)) (fun _ h9 => h9) rfl dM_keys_93 ?_
          refine lv_iload_n hx hb dM_keys_96 rfl (lv_at hl 1 rfl) ?_
          refine lv_iconst (v := nI 3) hx hb dM_keys_97 (by decide) ?_
          refine mi_isub hx hb dM_keys_98 (by omega) ?_
          refine mi_as (show nI (5 - 3) = nI 2 from rfl) ?_
          refine lv_aload_n hx hb dM_keys_99 rfl (lv_at hl 0 rfl) ?_
          refine va_get (D := g.1) (ci := 8) (C := "LatticeKeysModel") (T := T_M) (N := 14) hx hb hts (wg_ft i_M) hown hK hP 0 rfl rfl 4 (by decide) (hts _ (wg_t kw_1530)) (fun _ h9 => h9) rfl dM_keys_100 ?_
          refine lv_aload_n hx hb dM_keys_103 rfl (lv_at hl 0 rfl) ?_
          refine va_get (D := g.1) (ci := 8) (C := "LatticeKeysModel") (T := T_M) (N := 14) hx hb hts (wg_ft i_M) hown hK hP 0 rfl rfl 7 (by decide) (hts _ (wg_t kw_1533)) (fun _ h9 => h9) rfl dM_keys_104 ?_
          refine lv_aload_n hx hb dM_keys_107 rfl (lv_at hl 0 rfl) ?_
          refine va_get (D := g.1) (ci := 8) (C := "LatticeKeysModel") (T := T_M) (N := 14) hx hb hts (wg_ft i_M) hown hK hP 0 rfl rfl 3 (by decide) (hts _ (wg_t kw_1529)) (fun _ h9 => h9) rfl dM_keys_108 ?_
          refine ty_aald4 hx hb hK hO k_mo (nxg clo_nil k_mo rfl) hP (by omega) dM_keys_111 (fun r51 kr31 => ?_)
          refine lv_aload_n hx hb dM_keys_112 rfl (lv_at hl 0 rfl) ?_
          refine va_get (D := g.1) (ci := 8) (C := "LatticeKeysModel") (T := T_M) (N := 14) hx hb hts (wg_ft i_M) hown hK hP 0 rfl rfl 8 (by decide) (hts _ (wg_t kw_1534)) (fun _ h9 => h9) rfl dM_keys_113 ?_
          refine lv_aload_n hx hb dM_keys_116 rfl (lv_at hl 0 rfl) ?_
          refine va_get (D := g.1) (ci := 8) (C := "LatticeKeysModel") (T := T_M) (N := 14) hx hb hts (wg_ft i_M) hown hK hP 0 rfl rfl 3 (by decide) (hts _ (wg_t kw_1529)) (fun _ h9 => h9) rfl dM_keys_117 ?_
          refine ty_aald4 hx hb hK hO k_mh (nxg clo_nil k_mh rfl) hP (by omega) dM_keys_120 (fun r52 kr32 => ?_)
          refine mp_v (cx := []) (wr := [(h0, .inr (8, [.int (nI 0), .int (nI tp), .int (nI rs), .int (nI ks), .ref mt, .ref mr_, .ref mk, .ref mo, .ref mh, .ref mse, .ref mhs, .ref msp, .ref msc, .ref mha])), (mse, .inl (g.2.1 0, 8, .inl fS))]) hP hD hS hA [] [0, 1] rfl rfl rfl (by decide) (va_runV (As := [.int (nI 2), .ref mt, .ref r51, .ref r52]) (rest := []) F (t_MH_keys_2 l g _ T  pl hO hU  mha mt r51 r52 16384 k_mha k_mt kr31 kr32 (by omega) (by omega)) (cwV 4 hts (wg_app (wg_c kw_1698 (wg_c kw_1699 (wg_c kw_1700 (wg_c kw_13 wg_n)))) kw_1701) rfl rfl rfl (by decide +kernel) ⟨by decide, by decide⟩) (pp_VT (en_ok g) (ci := 12) (kd := (49, 0)) hK hO k_mha (nxg clo_nil k_mha rfl) (fun _ h9 => ko1 h9) hP hD hS hA hE [] rfl rfl rfl) rfl rfl hl.1 rfl (lv_room (Nat.le_of_ble_eq_true rfl)) dM_keys_121 ⟨by omega, by omega⟩) (fun  pl H locs hu46 hP hD hS => ?_)
          obtain ⟨hq46, hO⟩ := hu46
          have hP : va_P g.1 vcl ([(h0, .inr (8, [.int (nI 0), .int (nI tp), .int (nI rs), .int (nI ks), .ref mt, .ref mr_, .ref mk, .ref mo, .ref mh, .ref mse, .ref mhs, .ref msp, .ref msc, .ref mha])), (mse, .inl (g.2.1 0, 8, .inl fS))] ++ pl) _ := hP
          have hD : va_D _ ([(h0, .inr (8, [.int (nI 0), .int (nI tp), .int (nI rs), .int (nI ks), .ref mt, .ref mr_, .ref mk, .ref mo, .ref mh, .ref mse, .ref mhs, .ref msp, .ref msc, .ref mha])), (mse, .inl (g.2.1 0, 8, .inl fS))] ++ pl) := hD
          refine W.widen (k := 0) (n := 0) (by omega) (by omega) ?_
          refine lv_aload_n hx hb dM_keys_124 rfl (lv_at hl 0 rfl) ?_
          refine lv_iload_n hx hb dM_keys_125 rfl (lv_at hl 1 rfl) ?_
          refine lv_iload_n hx hb dM_keys_126 rfl (lv_at hl 1 rfl) ?_
          refine mp_i (cx := []) (wr := [(h0, .inr (8, [.int (nI 0), .int (nI tp), .int (nI rs), .int (nI ks), .ref mt, .ref mr_, .ref mk, .ref mo, .ref mh, .ref mse, .ref mhs, .ref msp, .ref msc, .ref mha])), (mse, .inl (g.2.1 0, 8, .inl fS))]) hP hD hS hA [] [0, 1] rfl rfl rfl (by decide) (va_runS (As := [.int (nI 5)]) (rest := [.int (nI 5), .ref h0]) F (t_M_hiddenSize_5 l g _ T [] pl hO hU  ) (va_cwS 1 hts (wg_app (wg_c kw_1747 (wg_c kw_1748 (wg_c kw_9 wg_n))) kw_1749) rfl rfl rfl (by decide +kernel) ⟨by decide, by decide⟩) (pp_S (en_ok g) hP hD hS hA hE [] rfl rfl) rfl rfl hl.1 rfl (lv_room (Nat.le_of_ble_eq_true rfl)) dM_keys_127 ⟨by omega, by omega⟩) (fun r53 pl H locs hu47 hP hD hS => ?_)
          obtain ⟨hq47, hO⟩ := hu47
          have hP : va_P g.1 vcl ([(h0, .inr (8, [.int (nI 0), .int (nI tp), .int (nI rs), .int (nI ks), .ref mt, .ref mr_, .ref mk, .ref mo, .ref mh, .ref mse, .ref mhs, .ref msp, .ref msc, .ref mha])), (mse, .inl (g.2.1 0, 8, .inl fS))] ++ pl) _ := hP
          have hD : va_D _ ([(h0, .inr (8, [.int (nI 0), .int (nI tp), .int (nI rs), .int (nI ks), .ref mt, .ref mr_, .ref mk, .ref mo, .ref mh, .ref mse, .ref mhs, .ref msp, .ref msc, .ref mha])), (mse, .inl (g.2.1 0, 8, .inl fS))] ++ pl) := hD
          obtain rfl := hq47
          refine W.widen (k := 0) (n := 0) (by omega) (by omega) ?_
          refine mp_i (cx := [(h0, .inr (8, [.int (nI 0), .int (nI tp), .int (nI rs), .int (nI ks), .ref mt, .ref mr_, .ref mk, .ref mo, .ref mh, .ref mse, .ref mhs, .ref msp, .ref msc, .ref mha])), (mse, .inl (g.2.1 0, 8, .inl fS))]) (wr := []) hP hD hS hA [0, 1] [] rfl rfl rfl (by decide) (va_runV (As := [.int (nI 5), .int (nI 4896)]) (rest := []) F (t_M_made l g _ T  pl hO hU  5 4896 h0 mt mr_ mk mo mh mse mhs msp msc mha tp rs ks (nI 0) fS k_mt k_mr_ k_mk k_mo k_mh k_mhs k_msp k_msc k_mha (by omega) hS5 (by omega) (by omega) (by omega)) (cwV 2 hts (wg_app (wg_c kw_1756 (wg_c kw_1758 (wg_c ks_64 (wg_c kw_9 wg_n)))) kw_1759) rfl rfl rfl (by decide +kernel) ⟨by decide, by decide⟩) (pp_V (en_ok g) (q0 := 0) hK hP hD hS hA hE [0, 1] rfl rfl rfl rfl) rfl rfl hl.1 rfl (lv_room (Nat.le_of_ble_eq_true rfl)) dM_keys_130 ⟨by omega, by omega⟩) (fun r54 u51 H locs hu48 hP hD hS => ?_)
          obtain ⟨u52, pl⟩ := u51
          obtain ⟨hq48, hO⟩ := hu48
          obtain ⟨th36, tp36, rs36, ks36, fS36⟩ := u52
          have hP : va_P g.1 vcl ([(h0, .inr (8, [.int th36, .int (nI tp36), .int (nI rs36), .int (nI ks36), .ref mt, .ref mr_, .ref mk, .ref mo, .ref mh, .ref mse, .ref mhs, .ref msp, .ref msc, .ref mha])), (mse, .inl (g.2.1 0, 8, .inl fS36))] ++ pl) _ := hP
          have hD : va_D _ ([(h0, .inr (8, [.int th36, .int (nI tp36), .int (nI rs36), .int (nI ks36), .ref mt, .ref mr_, .ref mk, .ref mo, .ref mh, .ref mse, .ref mhs, .ref msp, .ref msc, .ref mha])), (mse, .inl (g.2.1 0, 8, .inl fS36))] ++ pl) := hD
          obtain ⟨hm96, hm97, hm98, hm99⟩ := hq48
          have hm96 : tp36 ≤ 16384 := hm96
          have hm97 : rs36 ≤ 8192 := hm97
          have hm98 : ks36 ≤ 8 := hm98
          refine W.widen (k := 0) (n := 0) (by omega) (by omega) ?_
          exact mp_iret hx hb hr hlk hP hD hS ((th36, tp36, rs36, ks36, fS36), pl) ⟨⟨(by show tp36 ≤ 16384; omega), (by show rs36 ≤ 8192; omega), (by show ks36 ≤ 8; omega), hm99⟩, hO⟩ [0, 1] rfl rfl rfl (by omega) (by omega) dM_keys_133
        · refine lv_aload_n hx hb dM_keys_48 rfl (lv_at hl 0 rfl) ?_
          refine lv_iconst (v := nI 2) hx hb dM_keys_49 (by decide) ?_
          refine mp_i (cx := [(h0, .inr (8, [.int (nI 0), .int (nI tp), .int (nI rs), .int (nI ks), .ref mt, .ref mr_, .ref mk, .ref mo, .ref mh, .ref mse, .ref mhs, .ref msp, .ref msc, .ref mha])), (mse, .inl (g.2.1 0, 8, .inl fS))]) (wr := []) hP hD hS hA [0, 1] [] rfl rfl rfl (by decide) (va_runV (As := [.int (nI 2)]) (rest := []) F (t_M_fail l g _ T  pl hO hU  (nI 2) h0 mt mr_ mk mo mh mse mhs msp msc mha tp rs ks (nI 0) fS k_mt k_mr_ k_mk k_mo k_mh k_mhs k_msp k_msc k_mha (by omega) hS5) (cwV 1 hts (wg_app (wg_c kw_1577 (wg_c kw_1579 (wg_c ks_50 (wg_c kw_9 wg_n)))) kw_1580) rfl rfl rfl (by decide +kernel) ⟨by decide, by decide⟩) (pp_V (en_ok g) (q0 := 0) hK hP hD hS hA hE [0, 1] rfl rfl rfl rfl) rfl rfl hl.1 rfl (lv_room (Nat.le_of_ble_eq_true rfl)) dM_keys_50 ⟨by omega, by omega⟩) (fun r55 u53 H locs hu49 hP hD hS => ?_)
          obtain ⟨u54, pl⟩ := u53
          obtain ⟨hq49, hO⟩ := hu49
          obtain ⟨th37, tp37, rs37, ks37, fS37⟩ := u54
          have hP : va_P g.1 vcl ([(h0, .inr (8, [.int th37, .int (nI tp37), .int (nI rs37), .int (nI ks37), .ref mt, .ref mr_, .ref mk, .ref mo, .ref mh, .ref mse, .ref mhs, .ref msp, .ref msc, .ref mha])), (mse, .inl (g.2.1 0, 8, .inl fS37))] ++ pl) _ := hP
          have hD : va_D _ ([(h0, .inr (8, [.int th37, .int (nI tp37), .int (nI rs37), .int (nI ks37), .ref mt, .ref mr_, .ref mk, .ref mo, .ref mh, .ref mse, .ref mhs, .ref msp, .ref msc, .ref mha])), (mse, .inl (g.2.1 0, 8, .inl fS37))] ++ pl) := hD
          obtain ⟨-, -, -, hm104, hm105⟩ := hq49
          obtain ⟨he71, he72, he73, he74, he75⟩ := hm105
          have he71 : th37 = nI 2 := he71
          have he72 : tp37 = tp := he72
          have he73 : rs37 = rs := he73
          have he74 : ks37 = ks := he74
          obtain rfl := he75
          refine W.widen (k := 0) (n := 0) (by omega) (by omega) ?_
          exact mp_iret hx hb hr hlk hP hD hS ((th37, tp37, rs37, ks37, fS37), pl) ⟨⟨(by show tp37 ≤ 16384; omega), (by show rs37 ≤ 8192; omega), (by show ks37 ≤ 8; omega), hm104⟩, hO⟩ [0, 1] rfl rfl rfl (by omega) (by omega) dM_keys_53
      · refine lv_aload_n hx hb dM_keys_33 rfl (lv_at hl 0 rfl) ?_
        refine lv_iconst (v := nI 1) hx hb dM_keys_34 (by decide) ?_
        refine mp_i (cx := [(h0, .inr (8, [.int (nI 0), .int (nI tp), .int (nI rs), .int (nI ks), .ref mt, .ref mr_, .ref mk, .ref mo, .ref mh, .ref mse, .ref mhs, .ref msp, .ref msc, .ref mha])), (mse, .inl (g.2.1 0, 8, .inl fS))]) (wr := []) hP hD hS hA [0, 1] [] rfl rfl rfl (by decide) (va_runV (As := [.int (nI 1)]) (rest := []) F (t_M_fail l g _ T  pl hO hU  (nI 1) h0 mt mr_ mk mo mh mse mhs msp msc mha tp rs ks (nI 0) fS k_mt k_mr_ k_mk k_mo k_mh k_mhs k_msp k_msc k_mha (by omega) hS5) (cwV 1 hts (wg_app (wg_c kw_1577 (wg_c kw_1579 (wg_c ks_50 (wg_c kw_9 wg_n)))) kw_1580) rfl rfl rfl (by decide +kernel) ⟨by decide, by decide⟩) (pp_V (en_ok g) (q0 := 0) hK hP hD hS hA hE [0, 1] rfl rfl rfl rfl) rfl rfl hl.1 rfl (lv_room (Nat.le_of_ble_eq_true rfl)) dM_keys_35 ⟨by omega, by omega⟩) (fun r56 u55 H locs hu50 hP hD hS => ?_)
        obtain ⟨u56, pl⟩ := u55
        obtain ⟨hq50, hO⟩ := hu50
        obtain ⟨th38, tp38, rs38, ks38, fS38⟩ := u56
        have hP : va_P g.1 vcl ([(h0, .inr (8, [.int th38, .int (nI tp38), .int (nI rs38), .int (nI ks38), .ref mt, .ref mr_, .ref mk, .ref mo, .ref mh, .ref mse, .ref mhs, .ref msp, .ref msc, .ref mha])), (mse, .inl (g.2.1 0, 8, .inl fS38))] ++ pl) _ := hP
        have hD : va_D _ ([(h0, .inr (8, [.int th38, .int (nI tp38), .int (nI rs38), .int (nI ks38), .ref mt, .ref mr_, .ref mk, .ref mo, .ref mh, .ref mse, .ref mhs, .ref msp, .ref msc, .ref mha])), (mse, .inl (g.2.1 0, 8, .inl fS38))] ++ pl) := hD
        obtain ⟨-, -, -, hm109, hm110⟩ := hq50
        obtain ⟨he76, he77, he78, he79, he80⟩ := hm110
        have he76 : th38 = nI 1 := he76
        have he77 : tp38 = tp := he77
        have he78 : rs38 = rs := he78
        have he79 : ks38 = ks := he79
        obtain rfl := he80
        refine W.widen (k := 0) (n := 0) (by omega) (by omega) ?_
        exact mp_iret hx hb hr hlk hP hD hS ((th38, tp38, rs38, ks38, fS38), pl) ⟨⟨(by show tp38 ≤ 16384; omega), (by show rs38 ≤ 8192; omega), (by show ks38 ≤ 8; omega), hm109⟩, hO⟩ [0, 1] rfl rfl rfl (by omega) (by omega) dM_keys_38
    | _ + 6, h9 => exact absurd h9 (by omega)
  · have hbad := hb9
    refine lv_iload_n hx hb dM_keys_5 rfl (lv_at hl 1 rfl) ?_
    refine lv_if_lt (tgt := 33) hx hb dM_keys_6 (by decide) (fun h57 => ?_) (fun h57 => ?_)
    · refine lv_aload_n hx hb dM_keys_33 rfl (lv_at hl 0 rfl) ?_
      refine lv_iconst (v := nI 1) hx hb dM_keys_34 (by decide) ?_
      refine mp_i (cx := [(h0, .inr (8, [.int (nI 0), .int (nI tp), .int (nI rs), .int (nI ks), .ref mt, .ref mr_, .ref mk, .ref mo, .ref mh, .ref mse, .ref mhs, .ref msp, .ref msc, .ref mha])), (mse, .inl (g.2.1 0, 8, .inl fS))]) (wr := []) hP hD hS hA [0, 1] [] rfl rfl rfl (by decide) (va_runV (As := [.int (nI 1)]) (rest := []) F (t_M_fail l g _ T  pl hO hU  (nI 1) h0 mt mr_ mk mo mh mse mhs msp msc mha tp rs ks (nI 0) fS k_mt k_mr_ k_mk k_mo k_mh k_mhs k_msp k_msc k_mha (by omega) hS5) (cwV 1 hts (wg_app (wg_c kw_1577 (wg_c kw_1579 (wg_c ks_50 (wg_c kw_9 wg_n)))) kw_1580) rfl rfl rfl (by decide +kernel) ⟨by decide, by decide⟩) (pp_V (en_ok g) (q0 := 0) hK hP hD hS hA hE [0, 1] rfl rfl rfl rfl) rfl rfl hl.1 rfl (lv_room (Nat.le_of_ble_eq_true rfl)) dM_keys_35 ⟨by omega, by omega⟩) (fun r57 u57 H locs hu51 hP hD hS => ?_)
      obtain ⟨u58, pl⟩ := u57
      obtain ⟨hq51, hO⟩ := hu51
      obtain ⟨th39, tp39, rs39, ks39, fS39⟩ := u58
      have hP : va_P g.1 vcl ([(h0, .inr (8, [.int th39, .int (nI tp39), .int (nI rs39), .int (nI ks39), .ref mt, .ref mr_, .ref mk, .ref mo, .ref mh, .ref mse, .ref mhs, .ref msp, .ref msc, .ref mha])), (mse, .inl (g.2.1 0, 8, .inl fS39))] ++ pl) _ := hP
      have hD : va_D _ ([(h0, .inr (8, [.int th39, .int (nI tp39), .int (nI rs39), .int (nI ks39), .ref mt, .ref mr_, .ref mk, .ref mo, .ref mh, .ref mse, .ref mhs, .ref msp, .ref msc, .ref mha])), (mse, .inl (g.2.1 0, 8, .inl fS39))] ++ pl) := hD
      obtain ⟨-, -, -, hm114, hm115⟩ := hq51
      obtain ⟨he81, he82, he83, he84, he85⟩ := hm115
      have he81 : th39 = nI 1 := he81
      have he82 : tp39 = tp := he82
      have he83 : rs39 = rs := he83
      have he84 : ks39 = ks := he84
      obtain rfl := he85
      refine W.widen (k := 0) (n := 0) (by omega) (by omega) ?_
      exact mp_iret hx hb hr hlk hP hD hS ((th39, tp39, rs39, ks39, fS39), pl) ⟨⟨(by show tp39 ≤ 16384; omega), (by show rs39 ≤ 8192; omega), (by show ks39 ≤ 8; omega), hm114⟩, hO⟩ [0, 1] rfl rfl rfl (by omega) (by omega) dM_keys_38
    · refine lv_iload_n hx hb dM_keys_9 rfl (lv_at hl 1 rfl) ?_
      refine lv_iconst (v := nI 5) hx hb dM_keys_10 (by decide) ?_
      refine lv_icmp_gt (tgt := 33) hx hb dM_keys_11 (by decide) (fun h58 => ?_) (fun h58 => absurd (hbad.resolve_left h57) h58)
      refine lv_aload_n hx hb dM_keys_33 rfl (lv_at hl 0 rfl) ?_
      refine lv_iconst (v := nI 1) hx hb dM_keys_34 (by decide) ?_
      refine mp_i (cx := [(h0, .inr (8, [.int (nI 0), .int (nI tp), .int (nI rs), .int (nI ks), .ref mt, .ref mr_, .ref mk, .ref mo, .ref mh, .ref mse, .ref mhs, .ref msp, .ref msc, .ref mha])), (mse, .inl (g.2.1 0, 8, .inl fS))]) (wr := []) hP hD hS hA [0, 1] [] rfl rfl rfl (by decide) (va_runV (As := [.int (nI 1)]) (rest := []) F (t_M_fail l g _ T  pl hO hU  (nI 1) h0 mt mr_ mk mo mh mse mhs msp msc mha tp rs ks (nI 0) fS k_mt k_mr_ k_mk k_mo k_mh k_mhs k_msp k_msc k_mha (by omega) hS5) (cwV 1 hts (wg_app (wg_c kw_1577 (wg_c kw_1579 (wg_c ks_50 (wg_c kw_9 wg_n)))) kw_1580) rfl rfl rfl (by decide +kernel) ⟨by decide, by decide⟩) (pp_V (en_ok g) (q0 := 0) hK hP hD hS hA hE [0, 1] rfl rfl rfl rfl) rfl rfl hl.1 rfl (lv_room (Nat.le_of_ble_eq_true rfl)) dM_keys_35 ⟨by omega, by omega⟩) (fun r58 u59 H locs hu52 hP hD hS => ?_)
      obtain ⟨u60, pl⟩ := u59
      obtain ⟨hq52, hO⟩ := hu52
      obtain ⟨th40, tp40, rs40, ks40, fS40⟩ := u60
      have hP : va_P g.1 vcl ([(h0, .inr (8, [.int th40, .int (nI tp40), .int (nI rs40), .int (nI ks40), .ref mt, .ref mr_, .ref mk, .ref mo, .ref mh, .ref mse, .ref mhs, .ref msp, .ref msc, .ref mha])), (mse, .inl (g.2.1 0, 8, .inl fS40))] ++ pl) _ := hP
      have hD : va_D _ ([(h0, .inr (8, [.int th40, .int (nI tp40), .int (nI rs40), .int (nI ks40), .ref mt, .ref mr_, .ref mk, .ref mo, .ref mh, .ref mse, .ref mhs, .ref msp, .ref msc, .ref mha])), (mse, .inl (g.2.1 0, 8, .inl fS40))] ++ pl) := hD
      obtain ⟨-, -, -, hm119, hm120⟩ := hq52
      obtain ⟨he86, he87, he88, he89, he90⟩ := hm120
      have he86 : th40 = nI 1 := he86
      have he87 : tp40 = tp := he87
      have he88 : rs40 = rs := he88
      have he89 : ks40 = ks := he89
      obtain rfl := he90
      refine W.widen (k := 0) (n := 0) (by omega) (by omega) ?_
      exact mp_iret hx hb hr hlk hP hD hS ((th40, tp40, rs40, ks40, fS40), pl) ⟨⟨(by show tp40 ≤ 16384; omega), (by show rs40 ≤ 8192; omega), (by show ks40 ≤ 8; omega), hm119⟩, hO⟩ [0, 1] rfl rfl rfl (by omega) (by omega) dM_keys_38
set_option maxHeartbeats 4000000 in
set_option maxRecDepth 100000 in
theorem t_M_load (l : Launch) (g : Gd) (sz : Nat) (T : Ty) (pl : va_W) (hO : okx g T [] pl) (hU : uni T) (v : Int32) (sc : Int32) (h0 mt mr_ mk mo mh mse mhs msp msc mha tp rs ks : Nat) (x0 : Int32) (fS : Nat → Int32) (k_mt : T mt = some (1, 16384)) (k_mr_ : T mr_ = some (1, 8192)) (k_mk : T mk = some (1, 8192)) (k_mo : T mo = some (4, 2592)) (k_mh : T mh = some (4, 4896)) (k_mhs : T mhs = some (5, 4896)) (k_msp : T msp = some (20, 0)) (k_msc : T msc = some (23, 0)) (k_mha : T mha = some (49, 0)) (hb : tp ≤ 16384 ∧ rs ≤ 8192 ∧ ks ≤ 8) (hS5 : s5 fS)  : Met l y_M_load w_M_load ({ frames := 6, cells := 0, slots := 0, locals := 147 } : Room) (va_Pc [.ref h0, .int v, .int sc] (pr (en g) g.1 vcl sz ([(h0, .inr (8, [.int x0, .int (nI tp), .int (nI rs), .int (nI ks), .ref mt, .ref mr_, .ref mk, .ref mo, .ref mh, .ref mse, .ref mhs, .ref msp, .ref msc, .ref mha])), (mse, .inl (g.2.1 0, 8, .inl fS))] ++ pl))) (va_Qi (fun (r : Int32) (u : (Int32 × Nat × Nat × Nat × (Nat → Int32)) × va_W) => (u.1.2.1 ≤ 16384 ∧ u.1.2.2.1 ≤ 8192 ∧ u.1.2.2.2.1 ≤ 8 ∧ s5 u.1.2.2.2.2) ∧ okx g T [] u.2) (po g.1 vcl (va_A ([(h0, .inr (8, [.int x0, .int (nI tp), .int (nI rs), .int (nI ks), .ref mt, .ref mr_, .ref mk, .ref mo, .ref mh, .ref mse, .ref mhs, .ref msp, .ref msc, .ref mha])), (mse, .inl (g.2.1 0, 8, .inl fS))] ++ pl) sz) (fun (u : (Int32 × Nat × Nat × Nat × (Nat → Int32)) × va_W) => [(h0, .inr (8, [.int u.1.1, .int (nI (u.1.2.1)), .int (nI (u.1.2.2.1)), .int (nI (u.1.2.2.2.1)), .ref mt, .ref mr_, .ref mk, .ref mo, .ref mh, .ref mse, .ref mhs, .ref msp, .ref msc, .ref mha])), (mse, .inl (g.2.1 0, 8, .inl ((u.1.2.2.2.2))))] ++ u.2)) (va_A ([(h0, .inr (8, [.int x0, .int (nI tp), .int (nI rs), .int (nI ks), .ref mt, .ref mr_, .ref mk, .ref mo, .ref mh, .ref mse, .ref mhs, .ref msp, .ref msc, .ref mha])), (mse, .inl (g.2.1 0, 8, .inl fS))] ++ pl) sz)) 0 0 (va_A ([(h0, .inr (8, [.int x0, .int (nI tp), .int (nI rs), .int (nI ks), .ref mt, .ref mr_, .ref mk, .ref mo, .ref mh, .ref mse, .ref mhs, .ref msp, .ref msc, .ref mha])), (mse, .inl (g.2.1 0, 8, .inl fS))] ++ pl) sz) := by
  refine mc_entry (cc := c_M_load) (maxL := 5) (ret := (some .int)) (by decide) rfl (Nat.le_of_ble_eq_true rfl) ?_
  intro p e s m args below meth c ls F hr hlk hnm hsz hP hD hE hA hl
  obtain ⟨hx, hb, hml, hown, hts⟩ := id F
  have hK := hE.1
  generalize va_A ([(h0, .inr (8, [.int x0, .int (nI tp), .int (nI rs), .int (nI ks), .ref mt, .ref mr_, .ref mk, .ref mo, .ref mh, .ref mse, .ref mhs, .ref msp, .ref msc, .ref mha])), (mse, .inl (g.2.1 0, 8, .inl fS))] ++ pl) sz = A at hD hE hA ⊢
  have hS : va_S A s.heap s.heap [] := va_S.rf
  have hl : lv_has ls 5 [(0, .ref h0), (1, .int v), (2, .int sc)] := hl
  refine lv_aload_n hx hb dM_load_0 rfl (lv_at hl 0 rfl) ?_
  refine lv_iconst (v := nI 0) hx hb dM_load_1 (by decide) ?_
  refine va_put (D := g.1) (ci := 8) (v := .int (nI 0)) (ty := .int) (C := "LatticeKeysModel") (T := T_M) (N := 14) hx hb hts (wg_ft i_M) ty_M k_M n_M hown hK hP hD hS 0 rfl rfl 0 (by decide) (hts _ (wg_t kw_1526)) (fun _ h9 => h9) rfl (by decide +kernel) rfl rfl (Nat.le_of_ble_eq_true rfl) dM_load_2 (fun H locs hP hD hS => ?_)
  have hP : va_P g.1 vcl ([(h0, .inr (8, [.int (nI 0), .int (nI tp), .int (nI rs), .int (nI ks), .ref mt, .ref mr_, .ref mk, .ref mo, .ref mh, .ref mse, .ref mhs, .ref msp, .ref msc, .ref mha])), (mse, .inl (g.2.1 0, 8, .inl fS))] ++ pl) _ := hP
  have hD : va_D _ ([(h0, .inr (8, [.int (nI 0), .int (nI tp), .int (nI rs), .int (nI ks), .ref mt, .ref mr_, .ref mk, .ref mo, .ref mh, .ref mse, .ref mhs, .ref msp, .ref msc, .ref mha])), (mse, .inl (g.2.1 0, 8, .inl fS))] ++ pl) := hD
  rcases eq0 (v := sc) with hs9 | hs9
  · obtain rfl := hs9
    rcases rng (v := v) 5 (by decide) with hb9 | hb9
    · obtain ⟨j9, hj9, rfl⟩ := hb9
      match j9, hj9 with
      | 0, _ =>
        refine lv_iload_n hx hb dM_load_5 rfl (lv_at hl 1 rfl) ?_
        refine lv_if_lt (tgt := 44) hx hb dM_load_6 (by decide) (fun h21 => absurd h21 (by decide)) (fun h21 => ?_)
        refine lv_iload_n hx hb dM_load_9 rfl (lv_at hl 1 rfl) ?_
        refine lv_iload_n hx hb dM_load_10 rfl (lv_at hl 2 rfl) ?_
        refine lv_if_eq (tgt := 18) hx hb dM_load_11 (by decide) (fun h22 => ?_) (fun h22 => absurd h22 (by decide))
        refine lv_iconst (v := nI 5) hx hb dM_load_18 (by decide) ?_
        refine mi_gt (tgt := 44) hx hb dM_load_19 (by decide) (by omega) (by omega) (fun h23 => absurd h23 (by omega)) (fun h23 => ?_)
        refine lv_aload_n hx hb dM_load_22 rfl (lv_at hl 0 rfl) ?_
        refine va_get (D := g.1) (ci := 8) (C := "LatticeKeysModel") (T := T_M) (N := 14) hx hb hts (wg_ft i_M) hown hK hP 0 rfl rfl 1 (by decide) (hts _ (wg_t kw_1527)) (fun _ h9 => h9) rfl dM_load_23 ?_
        refine lv_iload_n hx hb dM_load_26 rfl (lv_at hl 2 rfl) ?_
        refine lv_if_eq (tgt := 37) hx hb dM_load_27 (by decide) (fun h24 => ?_) (fun h24 => absurd h24 (by decide))
        refine lv_iload_n hx hb dM_load_37 rfl (lv_at hl 1 rfl) ?_
        refine mp_i (cx := []) (wr := [(h0, .inr (8, [.int (nI 0), .int (nI tp), .int (nI rs), .int (nI ks), .ref mt, .ref mr_, .ref mk, .ref mo, .ref mh, .ref mse, .ref mhs, .ref msp, .ref msc, .ref mha])), (mse, .inl (g.2.1 0, 8, .inl fS))]) hP hD hS hA [] [0, 1] rfl rfl rfl (by decide) (va_runS (As := [.int (nI 0)]) (rest := [.int (nI tp)]) F (t_M_openSize_0 l g _ T [] pl hO hU  ) (va_cwS 1 hts (wg_app (wg_c kw_1764 (wg_c kw_1765 (wg_c kw_9 wg_n))) kw_1766) rfl rfl rfl (by decide +kernel) ⟨by decide, by decide⟩) (pp_S (en_ok g) hP hD hS hA hE [] rfl rfl) rfl rfl hl.1 rfl (lv_room (Nat.le_of_ble_eq_true rfl)) dM_load_38 ⟨by omega, by omega⟩) (fun r21 pl H locs hu21 hP hD hS => ?_)
        obtain ⟨hq21, hO⟩ := hu21
        have hP : va_P g.1 vcl ([(h0, .inr (8, [.int (nI 0), .int (nI tp), .int (nI rs), .int (nI ks), .ref mt, .ref mr_, .ref mk, .ref mo, .ref mh, .ref mse, .ref mhs, .ref msp, .ref msc, .ref mha])), (mse, .inl (g.2.1 0, 8, .inl fS))] ++ pl) _ := hP
        have hD : va_D _ ([(h0, .inr (8, [.int (nI 0), .int (nI tp), .int (nI rs), .int (nI ks), .ref mt, .ref mr_, .ref mk, .ref mo, .ref mh, .ref mse, .ref mhs, .ref msp, .ref msc, .ref mha])), (mse, .inl (g.2.1 0, 8, .inl fS))] ++ pl) := hD
        obtain rfl := hq21
        refine W.widen (k := 0) (n := 0) (by omega) (by omega) ?_
        refine mi_eq (tgt := 50) hx hb dM_load_41 (by decide) (by omega) (by omega) (fun h25 => ?_) (fun h25 => ?_)
        · refine lv_iload_n hx hb dM_load_50 rfl (lv_at hl 1 rfl) ?_
          refine lv_iconst (v := nI 3) hx hb dM_load_51 (by decide) ?_
          refine mi_ge (tgt := 98) hx hb dM_load_52 (by decide) (by omega) (by omega) (fun h26 => absurd h26 (by omega)) (fun h26 => ?_)
          refine lv_iload_n hx hb dM_load_55 rfl (lv_at hl 2 rfl) ?_
          refine lv_if_eq (tgt := 77) hx hb dM_load_56 (by decide) (fun h27 => ?_) (fun h27 => absurd h27 (by decide))
          refine lv_aload_n hx hb dM_load_77 rfl (lv_at hl 0 rfl) ?_
          refine va_get (D := g.1) (ci := 8) (C := "LatticeKeysModel") (T := T_M) (N := 14) hx hb hts (wg_ft i_M) hown hK hP 0 rfl rfl 12 (by decide) (hts _ (wg_t kw_1538)) (fun _ h9 => h9) rfl dM_load_78 ?_
          refine lv_iload_n hx hb dM_load_81 rfl (lv_at hl 1 rfl) ?_
          refine lv_aload_n hx hb dM_load_82 rfl (lv_at hl 0 rfl) ?_
          refine va_get (D := g.1) (ci := 8) (C := "LatticeKeysModel") (T := T_M) (N := 14) hx hb hts (wg_ft i_M) hown hK hP 0 rfl rfl 4 (by decide) (hts _ (wg_t kw_1530)) (fun _ h9 => h9) rfl dM_load_83 ?_
          refine mp_i (cx := []) (wr := [(h0, .inr (8, [.int (nI 0), .int (nI tp), .int (nI rs), .int (nI ks), .ref mt, .ref mr_, .ref mk, .ref mo, .ref mh, .ref mse, .ref mhs, .ref msp, .ref msc, .ref mha])), (mse, .inl (g.2.1 0, 8, .inl fS))]) hP hD hS hA [] [0, 1] rfl rfl rfl (by decide) (va_runV (As := [.int (nI 0), .ref mt]) (rest := []) F (t_ME_goodOpen_0 l g _ T [] pl hO hU clo_nil msc mt k_msc k_mt) (cwV 2 hts (wg_app (wg_c kw_1773 (wg_c kw_1774 (wg_c kw_1775 (wg_c kw_11 wg_n)))) kw_1776) rfl rfl rfl (by decide +kernel) ⟨by decide, by decide⟩) (pp_VT (en_ok g) (ci := 11) (kd := (23, 0)) hK hO k_msc (nxg clo_nil k_msc rfl) (fun _ h9 => ko1 h9) hP hD hS hA hE [] rfl rfl rfl) rfl rfl hl.1 rfl (lv_room (Nat.le_of_ble_eq_true rfl)) dM_load_86 ⟨by omega, by omega⟩) (fun r22 pl H locs hu22 hP hD hS => ?_)
          obtain ⟨hq22, hO⟩ := hu22
          have hP : va_P g.1 vcl ([(h0, .inr (8, [.int (nI 0), .int (nI tp), .int (nI rs), .int (nI ks), .ref mt, .ref mr_, .ref mk, .ref mo, .ref mh, .ref mse, .ref mhs, .ref msp, .ref msc, .ref mha])), (mse, .inl (g.2.1 0, 8, .inl fS))] ++ pl) _ := hP
          have hD : va_D _ ([(h0, .inr (8, [.int (nI 0), .int (nI tp), .int (nI rs), .int (nI ks), .ref mt, .ref mr_, .ref mk, .ref mo, .ref mh, .ref mse, .ref mhs, .ref msp, .ref msc, .ref mha])), (mse, .inl (g.2.1 0, 8, .inl fS))] ++ pl) := hD
          refine W.widen (k := 0) (n := 0) (by omega) (by omega) ?_
          refine lv_if_ne (tgt := 98) hx hb dM_load_89 (by decide) (fun h28 => ?_) (fun h28 => ?_)
          · refine lv_aload_n hx hb dM_load_98 rfl (lv_at hl 0 rfl) ?_
            refine va_get (D := g.1) (ci := 8) (C := "LatticeKeysModel") (T := T_M) (N := 14) hx hb hts (wg_ft i_M) hown hK hP 0 rfl rfl 3 (by decide) (hts _ (wg_t kw_1529)) (fun _ h9 => h9) rfl dM_load_99 ?_
            refine lv_bipush (v := nI 8) hx hb dM_load_102 (by decide) ?_
            refine mi_ne (tgt := 113) hx hb dM_load_104 (by decide) (by omega) (by omega) (fun h29 => ?_) (fun h29 => ?_)
            · refine lv_iload_n hx hb dM_load_113 rfl (lv_at hl 2 rfl) ?_
              refine lv_if_eq (tgt := 127) hx hb dM_load_114 (by decide) (fun h30 => ?_) (fun h30 => absurd h30 (by decide))
              refine lv_iconst (v := nI 0) hx hb dM_load_127 (by decide) ?_
              refine lv_istore_n (lv' := [(3, .int (nI 0)), (0, .ref h0), (1, .int (nI 0)), (2, .int (nI 0))]) hx hb dM_load_128 rfl hl (by decide) rfl (fun ls hl => ?_)
              refine lv_iconst (v := nI 0) hx hb dM_load_129 (by decide) ?_
              refine lv_istore (lv' := [(4, .int (nI 0)), (3, .int (nI 0)), (0, .ref h0), (1, .int (nI 0)), (2, .int (nI 0))]) hx hb dM_load_130 hl (by decide) rfl (fun ls hl => ?_)
              have lp21 : ∀ (n21 : Nat) (i21 : Nat) (pl : va_W) (ls : Array Slot) (H : Heap) (locs : List Loc), n21 + i21 = 800 → lv_has ls 5 [(4, .int (nI i21)), (3, .int (nI 0)), (0, .ref h0), (1, .int (nI 0)), (2, .int (nI 0))] → okx g T [] pl → va_P g.1 vcl ([(h0, .inr (8, [.int (nI 0), .int (nI tp), .int (nI rs), .int (nI ks), .ref mt, .ref mr_, .ref mk, .ref mo, .ref mh, .ref mse, .ref mhs, .ref msp, .ref msc, .ref mha])), (mse, .inl (g.2.1 0, 8, .inl fS))] ++ pl) H → va_D A ([(h0, .inr (8, [.int (nI 0), .int (nI tp), .int (nI rs), .int (nI ks), .ref mt, .ref mr_, .ref mk, .ref mo, .ref mh, .ref mse, .ref mhs, .ref msp, .ref msc, .ref mha])), (mse, .inl (g.2.1 0, 8, .inl fS))] ++ pl) → va_S A s.heap H locs → W p l e ({ frames := 6, cells := 0, slots := 0, locals := 147 } : Room) s m args below meth c H locs 0 0 (MQ below (va_Qi (fun (r : Int32) (u : (Int32 × Nat × Nat × Nat × (Nat → Int32)) × va_W) => (u.1.2.1 ≤ 16384 ∧ u.1.2.2.1 ≤ 8192 ∧ u.1.2.2.2.1 ≤ 8 ∧ s5 u.1.2.2.2.2) ∧ okx g T [] u.2) (po g.1 vcl A (fun (u : (Int32 × Nat × Nat × Nat × (Nat → Int32)) × va_W) => [(h0, .inr (8, [.int u.1.1, .int (nI (u.1.2.1)), .int (nI (u.1.2.2.1)), .int (nI (u.1.2.2.2.1)), .ref mt, .ref mr_, .ref mk, .ref mo, .ref mh, .ref mse, .ref mhs, .ref msp, .ref msc, .ref mha])), (mse, .inl (g.2.1 0, 8, .inl ((u.1.2.2.2.2))))] ++ u.2)) A) args s 0 0 A) (F0 m 132 ls []) := by
                intro n21
                induction n21 with
                | zero =>
                  intro i21 pl ls H locs hm21  hl hO hP hD hS
                  refine lv_iload hx hb dM_load_132 (lv_at hl 0 rfl) ?_
                  refine lv_iload_n hx hb dM_load_134 rfl (lv_at hl 3 rfl) ?_
                  refine mp_i (cx := []) (wr := [(h0, .inr (8, [.int (nI 0), .int (nI tp), .int (nI rs), .int (nI ks), .ref mt, .ref mr_, .ref mk, .ref mo, .ref mh, .ref mse, .ref mhs, .ref msp, .ref msc, .ref mha])), (mse, .inl (g.2.1 0, 8, .inl fS))]) hP hD hS hA [] [0, 1] rfl rfl rfl (by decide) (va_runS (As := [.int (nI 0)]) (rest := [.int (nI i21)]) F (t_M_openSize_0 l g _ T [] pl hO hU  ) (va_cwS 1 hts (wg_app (wg_c kw_1764 (wg_c kw_1765 (wg_c kw_9 wg_n))) kw_1766) rfl rfl rfl (by decide +kernel) ⟨by decide, by decide⟩) (pp_S (en_ok g) hP hD hS hA hE [] rfl rfl) rfl rfl hl.1 rfl (lv_room (Nat.le_of_ble_eq_true rfl)) dM_load_135 ⟨by omega, by omega⟩) (fun r23 pl H locs hu23 hP hD hS => ?_)
                  obtain ⟨hq23, hO⟩ := hu23
                  have hP : va_P g.1 vcl ([(h0, .inr (8, [.int (nI 0), .int (nI tp), .int (nI rs), .int (nI ks), .ref mt, .ref mr_, .ref mk, .ref mo, .ref mh, .ref mse, .ref mhs, .ref msp, .ref msc, .ref mha])), (mse, .inl (g.2.1 0, 8, .inl fS))] ++ pl) _ := hP
                  have hD : va_D _ ([(h0, .inr (8, [.int (nI 0), .int (nI tp), .int (nI rs), .int (nI ks), .ref mt, .ref mr_, .ref mk, .ref mo, .ref mh, .ref mse, .ref mhs, .ref msp, .ref msc, .ref mha])), (mse, .inl (g.2.1 0, 8, .inl fS))] ++ pl) := hD
                  obtain rfl := hq23
                  refine W.widen (k := 0) (n := 0) (by omega) (by omega) ?_
                  refine mi_ge (tgt := 168) hx hb dM_load_138 (by decide) (by omega) (by omega) (fun h31 => ?_) (fun h31 => absurd h31 (by omega))
                  refine lv_iconst (v := nI 0) hx hb dM_load_168 (by decide) ?_
                  refine lv_istore (lv' := [(4, .int (nI 0)), (3, .int (nI 0)), (0, .ref h0), (1, .int (nI 0)), (2, .int (nI 0))]) hx hb dM_load_169 hl (by decide) rfl (fun ls hl => ?_)
                  refine lv_iload_n hx hb dM_load_171 rfl (lv_at hl 4 rfl) ?_
                  refine lv_if_eq (tgt := 209) hx hb dM_load_172 (by decide) (fun h32 => ?_) (fun h32 => absurd h32 (by decide))
                  refine lv_aload_n hx hb dM_load_209 rfl (lv_at hl 2 rfl) ?_
                  refine lv_iload_n hx hb dM_load_210 rfl (lv_at hl 3 rfl) ?_
                  refine lv_iload_n hx hb dM_load_211 rfl (lv_at hl 4 rfl) ?_
                  refine lv_if_eq (tgt := 222) hx hb dM_load_212 (by decide) (fun h33 => ?_) (fun h33 => absurd h33 (by decide))
                  refine lv_iconst (v := nI 0) hx hb dM_load_222 (by decide) ?_
                  refine mp_i (cx := [(h0, .inr (8, [.int (nI 0), .int (nI tp), .int (nI rs), .int (nI ks), .ref mt, .ref mr_, .ref mk, .ref mo, .ref mh, .ref mse, .ref mhs, .ref msp, .ref msc, .ref mha])), (mse, .inl (g.2.1 0, 8, .inl fS))]) (wr := []) hP hD hS hA [0, 1] [] rfl rfl rfl (by decide) (va_runV (As := [.int (nI 0), .int (nI 0)]) (rest := []) F (t_M_made l g _ T  pl hO hU  0 0 h0 mt mr_ mk mo mh mse mhs msp msc mha tp rs ks (nI 0) fS k_mt k_mr_ k_mk k_mo k_mh k_mhs k_msp k_msc k_mha (by omega) hS5 (by omega) (by omega) (by omega)) (cwV 2 hts (wg_app (wg_c kw_1756 (wg_c kw_1758 (wg_c ks_64 (wg_c kw_9 wg_n)))) kw_1759) rfl rfl rfl (by decide +kernel) ⟨by decide, by decide⟩) (pp_V (en_ok g) (q0 := 0) hK hP hD hS hA hE [0, 1] rfl rfl rfl rfl) rfl rfl hl.1 rfl (lv_room (Nat.le_of_ble_eq_true rfl)) dM_load_223 ⟨by omega, by omega⟩) (fun r24 u21 H locs hu24 hP hD hS => ?_)
                  obtain ⟨u22, pl⟩ := u21
                  obtain ⟨hq24, hO⟩ := hu24
                  obtain ⟨th21, tp21, rs21, ks21, fS21⟩ := u22
                  have hP : va_P g.1 vcl ([(h0, .inr (8, [.int th21, .int (nI tp21), .int (nI rs21), .int (nI ks21), .ref mt, .ref mr_, .ref mk, .ref mo, .ref mh, .ref mse, .ref mhs, .ref msp, .ref msc, .ref mha])), (mse, .inl (g.2.1 0, 8, .inl fS21))] ++ pl) _ := hP
                  have hD : va_D _ ([(h0, .inr (8, [.int th21, .int (nI tp21), .int (nI rs21), .int (nI ks21), .ref mt, .ref mr_, .ref mk, .ref mo, .ref mh, .ref mse, .ref mhs, .ref msp, .ref msc, .ref mha])), (mse, .inl (g.2.1 0, 8, .inl fS21))] ++ pl) := hD
                  obtain ⟨hm22, hm23, hm24, hm25⟩ := hq24
                  have hm22 : tp21 ≤ 16384 := hm22
                  have hm23 : rs21 ≤ 8192 := hm23
                  have hm24 : ks21 ≤ 8 := hm24
                  refine W.widen (k := 0) (n := 0) (by omega) (by omega) ?_
                  exact mp_iret hx hb hr hlk hP hD hS ((th21, tp21, rs21, ks21, fS21), pl) ⟨⟨(by show tp21 ≤ 16384; omega), (by show rs21 ≤ 8192; omega), (by show ks21 ≤ 8; omega), hm25⟩, hO⟩ [0, 1] rfl rfl rfl (by omega) (by omega) dM_load_226
                | succ n21 ih21 =>
                  intro i21 pl ls H locs hm21  hl hO hP hD hS
                  refine lv_iload hx hb dM_load_132 (lv_at hl 0 rfl) ?_
                  refine lv_iload_n hx hb dM_load_134 rfl (lv_at hl 3 rfl) ?_
                  refine mp_i (cx := []) (wr := [(h0, .inr (8, [.int (nI 0), .int (nI tp), .int (nI rs), .int (nI ks), .ref mt, .ref mr_, .ref mk, .ref mo, .ref mh, .ref mse, .ref mhs, .ref msp, .ref msc, .ref mha])), (mse, .inl (g.2.1 0, 8, .inl fS))]) hP hD hS hA [] [0, 1] rfl rfl rfl (by decide) (va_runS (As := [.int (nI 0)]) (rest := [.int (nI i21)]) F (t_M_openSize_0 l g _ T [] pl hO hU  ) (va_cwS 1 hts (wg_app (wg_c kw_1764 (wg_c kw_1765 (wg_c kw_9 wg_n))) kw_1766) rfl rfl rfl (by decide +kernel) ⟨by decide, by decide⟩) (pp_S (en_ok g) hP hD hS hA hE [] rfl rfl) rfl rfl hl.1 rfl (lv_room (Nat.le_of_ble_eq_true rfl)) dM_load_135 ⟨by omega, by omega⟩) (fun r25 pl H locs hu25 hP hD hS => ?_)
                  obtain ⟨hq25, hO⟩ := hu25
                  have hP : va_P g.1 vcl ([(h0, .inr (8, [.int (nI 0), .int (nI tp), .int (nI rs), .int (nI ks), .ref mt, .ref mr_, .ref mk, .ref mo, .ref mh, .ref mse, .ref mhs, .ref msp, .ref msc, .ref mha])), (mse, .inl (g.2.1 0, 8, .inl fS))] ++ pl) _ := hP
                  have hD : va_D _ ([(h0, .inr (8, [.int (nI 0), .int (nI tp), .int (nI rs), .int (nI ks), .ref mt, .ref mr_, .ref mk, .ref mo, .ref mh, .ref mse, .ref mhs, .ref msp, .ref msc, .ref mha])), (mse, .inl (g.2.1 0, 8, .inl fS))] ++ pl) := hD
                  obtain rfl := hq25
                  refine W.widen (k := 0) (n := 0) (by omega) (by omega) ?_
                  refine mi_ge (tgt := 168) hx hb dM_load_138 (by decide) (by omega) (by omega) (fun h34 => absurd h34 (by omega)) (fun h34 => ?_)
                  refine lv_aload_n hx hb dM_load_141 rfl (lv_at hl 2 rfl) ?_
                  refine va_get (D := g.1) (ci := 8) (C := "LatticeKeysModel") (T := T_M) (N := 14) hx hb hts (wg_ft i_M) hown hK hP 0 rfl rfl 7 (by decide) (hts _ (wg_t kw_1533)) (fun _ h9 => h9) rfl dM_load_142 ?_
                  refine lv_aload_n hx hb dM_load_145 rfl (lv_at hl 2 rfl) ?_
                  refine va_get (D := g.1) (ci := 8) (C := "LatticeKeysModel") (T := T_M) (N := 14) hx hb hts (wg_ft i_M) hown hK hP 0 rfl rfl 3 (by decide) (hts _ (wg_t kw_1529)) (fun _ h9 => h9) rfl dM_load_146 ?_
                  refine ty_aald4 hx hb hK hO k_mo (nxg clo_nil k_mo rfl) hP (by omega) dM_load_149 (fun r26 kr21 => ?_)
                  refine lv_iload hx hb dM_load_150 (lv_at hl 0 rfl) ?_
                  refine lv_aload_n hx hb dM_load_152 rfl (lv_at hl 2 rfl) ?_
                  refine va_get (D := g.1) (ci := 8) (C := "LatticeKeysModel") (T := T_M) (N := 14) hx hb hts (wg_ft i_M) hown hK hP 0 rfl rfl 4 (by decide) (hts _ (wg_t kw_1530)) (fun _ h9 => h9) rfl dM_load_153 ?_
                  refine lv_iload_n hx hb dM_load_156 rfl (lv_at hl 1 rfl) ?_
                  refine lv_iload hx hb dM_load_157 (lv_at hl 0 rfl) ?_
                  refine mi_iadd hx hb dM_load_159 ?_
                  refine ty_bald hx hb hK hO k_mt (nxg clo_nil k_mt rfl) hP (vp_in_nI (by omega) (by decide)) dM_load_160 (fun z21 => ?_)
                  refine ty_bast hx hb hK hO kr21 (nxg clo_nil kr21 rfl) hP hD hS (vp_in_nI (by omega) (by decide)) dM_load_161 (fun pl H locs hO hP hD hS => ?_)
                  refine mi_iinc (k := 0) (x := i21) (d := 1) (y := i21 + 1) (lv' := [(4, .int (nI (i21 + 1))), (3, .int (nI 0)), (0, .ref h0), (1, .int (nI 0)), (2, .int (nI 0))]) hx hb dM_load_162 hl rfl (by decide) rfl (by decide) rfl (fun ls hl => ?_)
                  refine lv_goto (tgt := 132) hx hb dM_load_165 (by decide) ?_
                  exact ih21 (i21 + 1) pl ls H locs (by omega) (lv_sub hl [0, 1, 2, 3, 4] rfl) hO hP hD hS
              exact lp21 800 0 pl ls _ _ (by omega) (lv_sub hl [0, 1, 2, 3, 4] rfl) hO hP hD hS
            · refine lv_aload_n hx hb dM_load_107 rfl (lv_at hl 0 rfl) ?_
              refine lv_iconst (v := nI 3) hx hb dM_load_108 (by decide) ?_
              refine mp_i (cx := [(h0, .inr (8, [.int (nI 0), .int (nI tp), .int (nI rs), .int (nI ks), .ref mt, .ref mr_, .ref mk, .ref mo, .ref mh, .ref mse, .ref mhs, .ref msp, .ref msc, .ref mha])), (mse, .inl (g.2.1 0, 8, .inl fS))]) (wr := []) hP hD hS hA [0, 1] [] rfl rfl rfl (by decide) (va_runV (As := [.int (nI 3)]) (rest := []) F (t_M_fail l g _ T  pl hO hU  (nI 3) h0 mt mr_ mk mo mh mse mhs msp msc mha tp rs ks (nI 0) fS k_mt k_mr_ k_mk k_mo k_mh k_mhs k_msp k_msc k_mha (by omega) hS5) (cwV 1 hts (wg_app (wg_c kw_1577 (wg_c kw_1579 (wg_c ks_50 (wg_c kw_9 wg_n)))) kw_1580) rfl rfl rfl (by decide +kernel) ⟨by decide, by decide⟩) (pp_V (en_ok g) (q0 := 0) hK hP hD hS hA hE [0, 1] rfl rfl rfl rfl) rfl rfl hl.1 rfl (lv_room (Nat.le_of_ble_eq_true rfl)) dM_load_109 ⟨by omega, by omega⟩) (fun r27 u23 H locs hu26 hP hD hS => ?_)
              obtain ⟨u24, pl⟩ := u23
              obtain ⟨hq26, hO⟩ := hu26
              obtain ⟨th22, tp22, rs22, ks22, fS22⟩ := u24
              have hP : va_P g.1 vcl ([(h0, .inr (8, [.int th22, .int (nI tp22), .int (nI rs22), .int (nI ks22), .ref mt, .ref mr_, .ref mk, .ref mo, .ref mh, .ref mse, .ref mhs, .ref msp, .ref msc, .ref mha])), (mse, .inl (g.2.1 0, 8, .inl fS22))] ++ pl) _ := hP
              have hD : va_D _ ([(h0, .inr (8, [.int th22, .int (nI tp22), .int (nI rs22), .int (nI ks22), .ref mt, .ref mr_, .ref mk, .ref mo, .ref mh, .ref mse, .ref mhs, .ref msp, .ref msc, .ref mha])), (mse, .inl (g.2.1 0, 8, .inl fS22))] ++ pl) := hD
              obtain ⟨-, -, -, hm30, hm31⟩ := hq26
              obtain ⟨he21, he22, he23, he24, he25⟩ := hm31
              have he21 : th22 = nI 3 := he21
              have he22 : tp22 = tp := he22
              have he23 : rs22 = rs := he23
              have he24 : ks22 = ks := he24
              obtain rfl := he25
              refine W.widen (k := 0) (n := 0) (by omega) (by omega) ?_
              exact mp_iret hx hb hr hlk hP hD hS ((th22, tp22, rs22, ks22, fS22), pl) ⟨⟨(by show tp22 ≤ 16384; omega), (by show rs22 ≤ 8192; omega), (by show ks22 ≤ 8; omega), hm30⟩, hO⟩ [0, 1] rfl rfl rfl (by omega) (by omega) dM_load_112
          · refine lv_aload_n hx hb dM_load_92 rfl (lv_at hl 0 rfl) ?_
            refine lv_iconst (v := nI 2) hx hb dM_load_93 (by decide) ?_
            refine mp_i (cx := [(h0, .inr (8, [.int (nI 0), .int (nI tp), .int (nI rs), .int (nI ks), .ref mt, .ref mr_, .ref mk, .ref mo, .ref mh, .ref mse, .ref mhs, .ref msp, .ref msc, .ref mha])), (mse, .inl (g.2.1 0, 8, .inl fS))]) (wr := []) hP hD hS hA [0, 1] [] rfl rfl rfl (by decide) (va_runV (As := [.int (nI 2)]) (rest := []) F (t_M_fail l g _ T  pl hO hU  (nI 2) h0 mt mr_ mk mo mh mse mhs msp msc mha tp rs ks (nI 0) fS k_mt k_mr_ k_mk k_mo k_mh k_mhs k_msp k_msc k_mha (by omega) hS5) (cwV 1 hts (wg_app (wg_c kw_1577 (wg_c kw_1579 (wg_c ks_50 (wg_c kw_9 wg_n)))) kw_1580) rfl rfl rfl (by decide +kernel) ⟨by decide, by decide⟩) (pp_V (en_ok g) (q0 := 0) hK hP hD hS hA hE [0, 1] rfl rfl rfl rfl) rfl rfl hl.1 rfl (lv_room (Nat.le_of_ble_eq_true rfl)) dM_load_94 ⟨by omega, by omega⟩) (fun r28 u25 H locs hu27 hP hD hS => ?_)
            obtain ⟨u26, pl⟩ := u25
            obtain ⟨hq27, hO⟩ := hu27
            obtain ⟨th23, tp23, rs23, ks23, fS23⟩ := u26
            have hP : va_P g.1 vcl ([(h0, .inr (8, [.int th23, .int (nI tp23), .int (nI rs23), .int (nI ks23), .ref mt, .ref mr_, .ref mk, .ref mo, .ref mh, .ref mse, .ref mhs, .ref msp, .ref msc, .ref mha])), (mse, .inl (g.2.1 0, 8, .inl fS23))] ++ pl) _ := hP
            have hD : va_D _ ([(h0, .inr (8, [.int th23, .int (nI tp23), .int (nI rs23), .int (nI ks23), .ref mt, .ref mr_, .ref mk, .ref mo, .ref mh, .ref mse, .ref mhs, .ref msp, .ref msc, .ref mha])), (mse, .inl (g.2.1 0, 8, .inl fS23))] ++ pl) := hD
            obtain ⟨-, -, -, hm35, hm36⟩ := hq27
            obtain ⟨he26, he27, he28, he29, he30⟩ := hm36
            have he26 : th23 = nI 2 := he26
            have he27 : tp23 = tp := he27
            have he28 : rs23 = rs := he28
            have he29 : ks23 = ks := he29
            obtain rfl := he30
            refine W.widen (k := 0) (n := 0) (by omega) (by omega) ?_
            exact mp_iret hx hb hr hlk hP hD hS ((th23, tp23, rs23, ks23, fS23), pl) ⟨⟨(by show tp23 ≤ 16384; omega), (by show rs23 ≤ 8192; omega), (by show ks23 ≤ 8; omega), hm35⟩, hO⟩ [0, 1] rfl rfl rfl (by omega) (by omega) dM_load_97
        · refine lv_aload_n hx hb dM_load_44 rfl (lv_at hl 0 rfl) ?_
          refine lv_iconst (v := nI 1) hx hb dM_load_45 (by decide) ?_
          refine mp_i (cx := [(h0, .inr (8, [.int (nI 0), .int (nI tp), .int (nI rs), .int (nI ks), .ref mt, .ref mr_, .ref mk, .ref mo, .ref mh, .ref mse, .ref mhs, .ref msp, .ref msc, .ref mha])), (mse, .inl (g.2.1 0, 8, .inl fS))]) (wr := []) hP hD hS hA [0, 1] [] rfl rfl rfl (by decide) (va_runV (As := [.int (nI 1)]) (rest := []) F (t_M_fail l g _ T  pl hO hU  (nI 1) h0 mt mr_ mk mo mh mse mhs msp msc mha tp rs ks (nI 0) fS k_mt k_mr_ k_mk k_mo k_mh k_mhs k_msp k_msc k_mha (by omega) hS5) (cwV 1 hts (wg_app (wg_c kw_1577 (wg_c kw_1579 (wg_c ks_50 (wg_c kw_9 wg_n)))) kw_1580) rfl rfl rfl (by decide +kernel) ⟨by decide, by decide⟩) (pp_V (en_ok g) (q0 := 0) hK hP hD hS hA hE [0, 1] rfl rfl rfl rfl) rfl rfl hl.1 rfl (lv_room (Nat.le_of_ble_eq_true rfl)) dM_load_46 ⟨by omega, by omega⟩) (fun r29 u27 H locs hu28 hP hD hS => ?_)
          obtain ⟨u28, pl⟩ := u27
          obtain ⟨hq28, hO⟩ := hu28
          obtain ⟨th24, tp24, rs24, ks24, fS24⟩ := u28
          have hP : va_P g.1 vcl ([(h0, .inr (8, [.int th24, .int (nI tp24), .int (nI rs24), .int (nI ks24), .ref mt, .ref mr_, .ref mk, .ref mo, .ref mh, .ref mse, .ref mhs, .ref msp, .ref msc, .ref mha])), (mse, .inl (g.2.1 0, 8, .inl fS24))] ++ pl) _ := hP
          have hD : va_D _ ([(h0, .inr (8, [.int th24, .int (nI tp24), .int (nI rs24), .int (nI ks24), .ref mt, .ref mr_, .ref mk, .ref mo, .ref mh, .ref mse, .ref mhs, .ref msp, .ref msc, .ref mha])), (mse, .inl (g.2.1 0, 8, .inl fS24))] ++ pl) := hD
          obtain ⟨-, -, -, hm40, hm41⟩ := hq28
          obtain ⟨he31, he32, he33, he34, he35⟩ := hm41
          have he31 : th24 = nI 1 := he31
          have he32 : tp24 = tp := he32
          have he33 : rs24 = rs := he33
          have he34 : ks24 = ks := he34
          obtain rfl := he35
          refine W.widen (k := 0) (n := 0) (by omega) (by omega) ?_
          exact mp_iret hx hb hr hlk hP hD hS ((th24, tp24, rs24, ks24, fS24), pl) ⟨⟨(by show tp24 ≤ 16384; omega), (by show rs24 ≤ 8192; omega), (by show ks24 ≤ 8; omega), hm40⟩, hO⟩ [0, 1] rfl rfl rfl (by omega) (by omega) dM_load_49
      | 1, _ =>
        refine lv_iload_n hx hb dM_load_5 rfl (lv_at hl 1 rfl) ?_
        refine lv_if_lt (tgt := 44) hx hb dM_load_6 (by decide) (fun h35 => absurd h35 (by decide)) (fun h35 => ?_)
        refine lv_iload_n hx hb dM_load_9 rfl (lv_at hl 1 rfl) ?_
        refine lv_iload_n hx hb dM_load_10 rfl (lv_at hl 2 rfl) ?_
        refine lv_if_eq (tgt := 18) hx hb dM_load_11 (by decide) (fun h36 => ?_) (fun h36 => absurd h36 (by decide))
        refine lv_iconst (v := nI 5) hx hb dM_load_18 (by decide) ?_
        refine mi_gt (tgt := 44) hx hb dM_load_19 (by decide) (by omega) (by omega) (fun h37 => absurd h37 (by omega)) (fun h37 => ?_)
        refine lv_aload_n hx hb dM_load_22 rfl (lv_at hl 0 rfl) ?_
        refine va_get (D := g.1) (ci := 8) (C := "LatticeKeysModel") (T := T_M) (N := 14) hx hb hts (wg_ft i_M) hown hK hP 0 rfl rfl 1 (by decide) (hts _ (wg_t kw_1527)) (fun _ h9 => h9) rfl dM_load_23 ?_
        refine lv_iload_n hx hb dM_load_26 rfl (lv_at hl 2 rfl) ?_
        refine lv_if_eq (tgt := 37) hx hb dM_load_27 (by decide) (fun h38 => ?_) (fun h38 => absurd h38 (by decide))
        refine lv_iload_n hx hb dM_load_37 rfl (lv_at hl 1 rfl) ?_
        refine mp_i (cx := []) (wr := [(h0, .inr (8, [.int (nI 0), .int (nI tp), .int (nI rs), .int (nI ks), .ref mt, .ref mr_, .ref mk, .ref mo, .ref mh, .ref mse, .ref mhs, .ref msp, .ref msc, .ref mha])), (mse, .inl (g.2.1 0, 8, .inl fS))]) hP hD hS hA [] [0, 1] rfl rfl rfl (by decide) (va_runS (As := [.int (nI 1)]) (rest := [.int (nI tp)]) F (t_M_openSize_1 l g _ T [] pl hO hU  ) (va_cwS 1 hts (wg_app (wg_c kw_1764 (wg_c kw_1765 (wg_c kw_9 wg_n))) kw_1766) rfl rfl rfl (by decide +kernel) ⟨by decide, by decide⟩) (pp_S (en_ok g) hP hD hS hA hE [] rfl rfl) rfl rfl hl.1 rfl (lv_room (Nat.le_of_ble_eq_true rfl)) dM_load_38 ⟨by omega, by omega⟩) (fun r30 pl H locs hu29 hP hD hS => ?_)
        obtain ⟨hq29, hO⟩ := hu29
        have hP : va_P g.1 vcl ([(h0, .inr (8, [.int (nI 0), .int (nI tp), .int (nI rs), .int (nI ks), .ref mt, .ref mr_, .ref mk, .ref mo, .ref mh, .ref mse, .ref mhs, .ref msp, .ref msc, .ref mha])), (mse, .inl (g.2.1 0, 8, .inl fS))] ++ pl) _ := hP
        have hD : va_D _ ([(h0, .inr (8, [.int (nI 0), .int (nI tp), .int (nI rs), .int (nI ks), .ref mt, .ref mr_, .ref mk, .ref mo, .ref mh, .ref mse, .ref mhs, .ref msp, .ref msc, .ref mha])), (mse, .inl (g.2.1 0, 8, .inl fS))] ++ pl) := hD
        obtain rfl := hq29
        refine W.widen (k := 0) (n := 0) (by omega) (by omega) ?_
        refine mi_eq (tgt := 50) hx hb dM_load_41 (by decide) (by omega) (by omega) (fun h39 => ?_) (fun h39 => ?_)
        · refine lv_iload_n hx hb dM_load_50 rfl (lv_at hl 1 rfl) ?_
          refine lv_iconst (v := nI 3) hx hb dM_load_51 (by decide) ?_
          refine mi_ge (tgt := 98) hx hb dM_load_52 (by decide) (by omega) (by omega) (fun h40 => absurd h40 (by omega)) (fun h40 => ?_)
          refine lv_iload_n hx hb dM_load_55 rfl (lv_at hl 2 rfl) ?_
          refine lv_if_eq (tgt := 77) hx hb dM_load_56 (by decide) (fun h41 => ?_) (fun h41 => absurd h41 (by decide))
          refine lv_aload_n hx hb dM_load_77 rfl (lv_at hl 0 rfl) ?_
          refine va_get (D := g.1) (ci := 8) (C := "LatticeKeysModel") (T := T_M) (N := 14) hx hb hts (wg_ft i_M) hown hK hP 0 rfl rfl 12 (by decide) (hts _ (wg_t kw_1538)) (fun _ h9 => h9) rfl dM_load_78 ?_
          refine lv_iload_n hx hb dM_load_81 rfl (lv_at hl 1 rfl) ?_
          refine lv_aload_n hx hb dM_load_82 rfl (lv_at hl 0 rfl) ?_
          refine va_get (D := g.1) (ci := 8) (C := "LatticeKeysModel") (T := T_M) (N := 14) hx hb hts (wg_ft i_M) hown hK hP 0 rfl rfl 4 (by decide) (hts _ (wg_t kw_1530)) (fun _ h9 => h9) rfl dM_load_83 ?_
          refine mp_i (cx := []) (wr := [(h0, .inr (8, [.int (nI 0), .int (nI tp), .int (nI rs), .int (nI ks), .ref mt, .ref mr_, .ref mk, .ref mo, .ref mh, .ref mse, .ref mhs, .ref msp, .ref msc, .ref mha])), (mse, .inl (g.2.1 0, 8, .inl fS))]) hP hD hS hA [] [0, 1] rfl rfl rfl (by decide) (va_runV (As := [.int (nI 1), .ref mt]) (rest := []) F (t_ME_goodOpen_1 l g _ T [] pl hO hU clo_nil msc mt k_msc k_mt) (cwV 2 hts (wg_app (wg_c kw_1773 (wg_c kw_1774 (wg_c kw_1775 (wg_c kw_11 wg_n)))) kw_1776) rfl rfl rfl (by decide +kernel) ⟨by decide, by decide⟩) (pp_VT (en_ok g) (ci := 11) (kd := (23, 0)) hK hO k_msc (nxg clo_nil k_msc rfl) (fun _ h9 => ko1 h9) hP hD hS hA hE [] rfl rfl rfl) rfl rfl hl.1 rfl (lv_room (Nat.le_of_ble_eq_true rfl)) dM_load_86 ⟨by omega, by omega⟩) (fun r31 pl H locs hu30 hP hD hS => ?_)
          obtain ⟨hq30, hO⟩ := hu30
          have hP : va_P g.1 vcl ([(h0, .inr (8, [.int (nI 0), .int (nI tp), .int (nI rs), .int (nI ks), .ref mt, .ref mr_, .ref mk, .ref mo, .ref mh, .ref mse, .ref mhs, .ref msp, .ref msc, .ref mha])), (mse, .inl (g.2.1 0, 8, .inl fS))] ++ pl) _ := hP
          have hD : va_D _ ([(h0, .inr (8, [.int (nI 0), .int (nI tp), .int (nI rs), .int (nI ks), .ref mt, .ref mr_, .ref mk, .ref mo, .ref mh, .ref mse, .ref mhs, .ref msp, .ref msc, .ref mha])), (mse, .inl (g.2.1 0, 8, .inl fS))] ++ pl) := hD
          refine W.widen (k := 0) (n := 0) (by omega) (by omega) ?_
          refine lv_if_ne (tgt := 98) hx hb dM_load_89 (by decide) (fun h42 => ?_) (fun h42 => ?_)
          · refine lv_aload_n hx hb dM_load_98 rfl (lv_at hl 0 rfl) ?_
            refine va_get (D := g.1) (ci := 8) (C := "LatticeKeysModel") (T := T_M) (N := 14) hx hb hts (wg_ft i_M) hown hK hP 0 rfl rfl 3 (by decide) (hts _ (wg_t kw_1529)) (fun _ h9 => h9) rfl dM_load_99 ?_
            refine lv_bipush (v := nI 8) hx hb dM_load_102 (by decide) ?_
            refine mi_ne (tgt := 113) hx hb dM_load_104 (by decide) (by omega) (by omega) (fun h43 => ?_) (fun h43 => ?_)
            · refine lv_iload_n hx hb dM_load_113 rfl (lv_at hl 2 rfl) ?_
              refine lv_if_eq (tgt := 127) hx hb dM_load_114 (by decide) (fun h44 => ?_) (fun h44 => absurd h44 (by decide))
              refine lv_iconst (v := nI 0) hx hb dM_load_127 (by decide) ?_
              refine lv_istore_n (lv' := [(3, .int (nI 0)), (0, .ref h0), (1, .int (nI 1)), (2, .int (nI 0))]) hx hb dM_load_128 rfl hl (by decide) rfl (fun ls hl => ?_)
              refine lv_iconst (v := nI 0) hx hb dM_load_129 (by decide) ?_
              refine lv_istore (lv' := [(4, .int (nI 0)), (3, .int (nI 0)), (0, .ref h0), (1, .int (nI 1)), (2, .int (nI 0))]) hx hb dM_load_130 hl (by decide) rfl (fun ls hl => ?_)
              have lp22 : ∀ (n22 : Nat) (i22 : Nat) (pl : va_W) (ls : Array Slot) (H : Heap) (locs : List Loc), n22 + i22 = 1184 → lv_has ls 5 [(4, .int (nI i22)), (3, .int (nI 0)), (0, .ref h0), (1, .int (nI 1)), (2, .int (nI 0))] → okx g T [] pl → va_P g.1 vcl ([(h0, .inr (8, [.int (nI 0), .int (nI tp), .int (nI rs), .int (nI ks), .ref mt, .ref mr_, .ref mk, .ref mo, .ref mh, .ref mse, .ref mhs, .ref msp, .ref msc, .ref mha])), (mse, .inl (g.2.1 0, 8, .inl fS))] ++ pl) H → va_D A ([(h0, .inr (8, [.int (nI 0), .int (nI tp), .int (nI rs), .int (nI ks), .ref mt, .ref mr_, .ref mk, .ref mo, .ref mh, .ref mse, .ref mhs, .ref msp, .ref msc, .ref mha])), (mse, .inl (g.2.1 0, 8, .inl fS))] ++ pl) → va_S A s.heap H locs → W p l e ({ frames := 6, cells := 0, slots := 0, locals := 147 } : Room) s m args below meth c H locs 0 0 (MQ below (va_Qi (fun (r : Int32) (u : (Int32 × Nat × Nat × Nat × (Nat → Int32)) × va_W) => (u.1.2.1 ≤ 16384 ∧ u.1.2.2.1 ≤ 8192 ∧ u.1.2.2.2.1 ≤ 8 ∧ s5 u.1.2.2.2.2) ∧ okx g T [] u.2) (po g.1 vcl A (fun (u : (Int32 × Nat × Nat × Nat × (Nat → Int32)) × va_W) => [(h0, .inr (8, [.int u.1.1, .int (nI (u.1.2.1)), .int (nI (u.1.2.2.1)), .int (nI (u.1.2.2.2.1)), .ref mt, .ref mr_, .ref mk, .ref mo, .ref mh, .ref mse, .ref mhs, .ref msp, .ref msc, .ref mha])), (mse, .inl (g.2.1 0, 8, .inl ((u.1.2.2.2.2))))] ++ u.2)) A) args s 0 0 A) (F0 m 132 ls []) := by
                intro n22
                induction n22 with
                | zero =>
                  intro i22 pl ls H locs hm42  hl hO hP hD hS
                  refine lv_iload hx hb dM_load_132 (lv_at hl 0 rfl) ?_
                  refine lv_iload_n hx hb dM_load_134 rfl (lv_at hl 3 rfl) ?_
                  refine mp_i (cx := []) (wr := [(h0, .inr (8, [.int (nI 0), .int (nI tp), .int (nI rs), .int (nI ks), .ref mt, .ref mr_, .ref mk, .ref mo, .ref mh, .ref mse, .ref mhs, .ref msp, .ref msc, .ref mha])), (mse, .inl (g.2.1 0, 8, .inl fS))]) hP hD hS hA [] [0, 1] rfl rfl rfl (by decide) (va_runS (As := [.int (nI 1)]) (rest := [.int (nI i22)]) F (t_M_openSize_1 l g _ T [] pl hO hU  ) (va_cwS 1 hts (wg_app (wg_c kw_1764 (wg_c kw_1765 (wg_c kw_9 wg_n))) kw_1766) rfl rfl rfl (by decide +kernel) ⟨by decide, by decide⟩) (pp_S (en_ok g) hP hD hS hA hE [] rfl rfl) rfl rfl hl.1 rfl (lv_room (Nat.le_of_ble_eq_true rfl)) dM_load_135 ⟨by omega, by omega⟩) (fun r32 pl H locs hu31 hP hD hS => ?_)
                  obtain ⟨hq31, hO⟩ := hu31
                  have hP : va_P g.1 vcl ([(h0, .inr (8, [.int (nI 0), .int (nI tp), .int (nI rs), .int (nI ks), .ref mt, .ref mr_, .ref mk, .ref mo, .ref mh, .ref mse, .ref mhs, .ref msp, .ref msc, .ref mha])), (mse, .inl (g.2.1 0, 8, .inl fS))] ++ pl) _ := hP
                  have hD : va_D _ ([(h0, .inr (8, [.int (nI 0), .int (nI tp), .int (nI rs), .int (nI ks), .ref mt, .ref mr_, .ref mk, .ref mo, .ref mh, .ref mse, .ref mhs, .ref msp, .ref msc, .ref mha])), (mse, .inl (g.2.1 0, 8, .inl fS))] ++ pl) := hD
                  obtain rfl := hq31
                  refine W.widen (k := 0) (n := 0) (by omega) (by omega) ?_
                  refine mi_ge (tgt := 168) hx hb dM_load_138 (by decide) (by omega) (by omega) (fun h45 => ?_) (fun h45 => absurd h45 (by omega))
                  refine lv_iconst (v := nI 0) hx hb dM_load_168 (by decide) ?_
                  refine lv_istore (lv' := [(4, .int (nI 0)), (3, .int (nI 0)), (0, .ref h0), (1, .int (nI 1)), (2, .int (nI 0))]) hx hb dM_load_169 hl (by decide) rfl (fun ls hl => ?_)
                  refine lv_iload_n hx hb dM_load_171 rfl (lv_at hl 4 rfl) ?_
                  refine lv_if_eq (tgt := 209) hx hb dM_load_172 (by decide) (fun h46 => ?_) (fun h46 => absurd h46 (by decide))
                  refine lv_aload_n hx hb dM_load_209 rfl (lv_at hl 2 rfl) ?_
                  refine lv_iload_n hx hb dM_load_210 rfl (lv_at hl 3 rfl) ?_
                  refine lv_iload_n hx hb dM_load_211 rfl (lv_at hl 4 rfl) ?_
                  refine lv_if_eq (tgt := 222) hx hb dM_load_212 (by decide) (fun h47 => ?_) (fun h47 => absurd h47 (by decide))
                  refine lv_iconst (v := nI 0) hx hb dM_load_222 (by decide) ?_
                  refine mp_i (cx := [(h0, .inr (8, [.int (nI 0), .int (nI tp), .int (nI rs), .int (nI ks), .ref mt, .ref mr_, .ref mk, .ref mo, .ref mh, .ref mse, .ref mhs, .ref msp, .ref msc, .ref mha])), (mse, .inl (g.2.1 0, 8, .inl fS))]) (wr := []) hP hD hS hA [0, 1] [] rfl rfl rfl (by decide) (va_runV (As := [.int (nI 1), .int (nI 0)]) (rest := []) F (t_M_made l g _ T  pl hO hU  1 0 h0 mt mr_ mk mo mh mse mhs msp msc mha tp rs ks (nI 0) fS k_mt k_mr_ k_mk k_mo k_mh k_mhs k_msp k_msc k_mha (by omega) hS5 (by omega) (by omega) (by omega)) (cwV 2 hts (wg_app (wg_c kw_1756 (wg_c kw_1758 (wg_c ks_64 (wg_c kw_9 wg_n)))) kw_1759) rfl rfl rfl (by decide +kernel) ⟨by decide, by decide⟩) (pp_V (en_ok g) (q0 := 0) hK hP hD hS hA hE [0, 1] rfl rfl rfl rfl) rfl rfl hl.1 rfl (lv_room (Nat.le_of_ble_eq_true rfl)) dM_load_223 ⟨by omega, by omega⟩) (fun r33 u29 H locs hu32 hP hD hS => ?_)
                  obtain ⟨u30, pl⟩ := u29
                  obtain ⟨hq32, hO⟩ := hu32
                  obtain ⟨th25, tp25, rs25, ks25, fS25⟩ := u30
                  have hP : va_P g.1 vcl ([(h0, .inr (8, [.int th25, .int (nI tp25), .int (nI rs25), .int (nI ks25), .ref mt, .ref mr_, .ref mk, .ref mo, .ref mh, .ref mse, .ref mhs, .ref msp, .ref msc, .ref mha])), (mse, .inl (g.2.1 0, 8, .inl fS25))] ++ pl) _ := hP
                  have hD : va_D _ ([(h0, .inr (8, [.int th25, .int (nI tp25), .int (nI rs25), .int (nI ks25), .ref mt, .ref mr_, .ref mk, .ref mo, .ref mh, .ref mse, .ref mhs, .ref msp, .ref msc, .ref mha])), (mse, .inl (g.2.1 0, 8, .inl fS25))] ++ pl) := hD
                  obtain ⟨hm43, hm44, hm45, hm46⟩ := hq32
                  have hm43 : tp25 ≤ 16384 := hm43
                  have hm44 : rs25 ≤ 8192 := hm44
                  have hm45 : ks25 ≤ 8 := hm45
                  refine W.widen (k := 0) (n := 0) (by omega) (by omega) ?_
                  exact mp_iret hx hb hr hlk hP hD hS ((th25, tp25, rs25, ks25, fS25), pl) ⟨⟨(by show tp25 ≤ 16384; omega), (by show rs25 ≤ 8192; omega), (by show ks25 ≤ 8; omega), hm46⟩, hO⟩ [0, 1] rfl rfl rfl (by omega) (by omega) dM_load_226
                | succ n22 ih22 =>
                  intro i22 pl ls H locs hm42  hl hO hP hD hS
                  refine lv_iload hx hb dM_load_132 (lv_at hl 0 rfl) ?_
                  refine lv_iload_n hx hb dM_load_134 rfl (lv_at hl 3 rfl) ?_
                  refine mp_i (cx := []) (wr := [(h0, .inr (8, [.int (nI 0), .int (nI tp), .int (nI rs), .int (nI ks), .ref mt, .ref mr_, .ref mk, .ref mo, .ref mh, .ref mse, .ref mhs, .ref msp, .ref msc, .ref mha])), (mse, .inl (g.2.1 0, 8, .inl fS))]) hP hD hS hA [] [0, 1] rfl rfl rfl (by decide) (va_runS (As := [.int (nI 1)]) (rest := [.int (nI i22)]) F (t_M_openSize_1 l g _ T [] pl hO hU  ) (va_cwS 1 hts (wg_app (wg_c kw_1764 (wg_c kw_1765 (wg_c kw_9 wg_n))) kw_1766) rfl rfl rfl (by decide +kernel) ⟨by decide, by decide⟩) (pp_S (en_ok g) hP hD hS hA hE [] rfl rfl) rfl rfl hl.1 rfl (lv_room (Nat.le_of_ble_eq_true rfl)) dM_load_135 ⟨by omega, by omega⟩) (fun r34 pl H locs hu33 hP hD hS => ?_)
                  obtain ⟨hq33, hO⟩ := hu33
                  have hP : va_P g.1 vcl ([(h0, .inr (8, [.int (nI 0), .int (nI tp), .int (nI rs), .int (nI ks), .ref mt, .ref mr_, .ref mk, .ref mo, .ref mh, .ref mse, .ref mhs, .ref msp, .ref msc, .ref mha])), (mse, .inl (g.2.1 0, 8, .inl fS))] ++ pl) _ := hP
                  have hD : va_D _ ([(h0, .inr (8, [.int (nI 0), .int (nI tp), .int (nI rs), .int (nI ks), .ref mt, .ref mr_, .ref mk, .ref mo, .ref mh, .ref mse, .ref mhs, .ref msp, .ref msc, .ref mha])), (mse, .inl (g.2.1 0, 8, .inl fS))] ++ pl) := hD
                  obtain rfl := hq33
                  refine W.widen (k := 0) (n := 0) (by omega) (by omega) ?_
                  refine mi_ge (tgt := 168) hx hb dM_load_138 (by decide) (by omega) (by omega) (fun h48 => absurd h48 (by omega)) (fun h48 => ?_)
                  refine lv_aload_n hx hb dM_load_141 rfl (lv_at hl 2 rfl) ?_
                  refine va_get (D := g.1) (ci := 8) (C := "LatticeKeysModel") (T := T_M) (N := 14) hx hb hts (wg_ft i_M) hown hK hP 0 rfl rfl 7 (by decide) (hts _ (wg_t kw_1533)) (fun _ h9 => h9) rfl dM_load_142 ?_
                  refine lv_aload_n hx hb dM_load_145 rfl (lv_at hl 2 rfl) ?_
                  refine va_get (D := g.1) (ci := 8) (C := "LatticeKeysModel") (T := T_M) (N := 14) hx hb hts (wg_ft i_M) hown hK hP 0 rfl rfl 3 (by decide) (hts _ (wg_t kw_1529)) (fun _ h9 => h9) rfl dM_load_146 ?_
                  refine ty_aald4 hx hb hK hO k_mo (nxg clo_nil k_mo rfl) hP (by omega) dM_load_149 (fun r35 kr22 => ?_)
                  refine lv_iload hx hb dM_load_150 (lv_at hl 0 rfl) ?_
                  refine lv_aload_n hx hb dM_load_152 rfl (lv_at hl 2 rfl) ?_
                  refine va_get (D := g.1) (ci := 8) (C := "LatticeKeysModel") (T := T_M) (N := 14) hx hb hts (wg_ft i_M) hown hK hP 0 rfl rfl 4 (by decide) (hts _ (wg_t kw_1530)) (fun _ h9 => h9) rfl dM_load_153 ?_
                  refine lv_iload_n hx hb dM_load_156 rfl (lv_at hl 1 rfl) ?_
                  refine lv_iload hx hb dM_load_157 (lv_at hl 0 rfl) ?_
                  refine mi_iadd hx hb dM_load_159 ?_
                  refine ty_bald hx hb hK hO k_mt (nxg clo_nil k_mt rfl) hP (vp_in_nI (by omega) (by decide)) dM_load_160 (fun z22 => ?_)
                  refine ty_bast hx hb hK hO kr22 (nxg clo_nil kr22 rfl) hP hD hS (vp_in_nI (by omega) (by decide)) dM_load_161 (fun pl H locs hO hP hD hS => ?_)
                  refine mi_iinc (k := 0) (x := i22) (d := 1) (y := i22 + 1) (lv' := [(4, .int (nI (i22 + 1))), (3, .int (nI 0)), (0, .ref h0), (1, .int (nI 1)), (2, .int (nI 0))]) hx hb dM_load_162 hl rfl (by decide) rfl (by decide) rfl (fun ls hl => ?_)
                  refine lv_goto (tgt := 132) hx hb dM_load_165 (by decide) ?_
                  exact ih22 (i22 + 1) pl ls H locs (by omega) (lv_sub hl [0, 1, 2, 3, 4] rfl) hO hP hD hS
              exact lp22 1184 0 pl ls _ _ (by omega) (lv_sub hl [0, 1, 2, 3, 4] rfl) hO hP hD hS
            · refine lv_aload_n hx hb dM_load_107 rfl (lv_at hl 0 rfl) ?_
              refine lv_iconst (v := nI 3) hx hb dM_load_108 (by decide) ?_
              refine mp_i (cx := [(h0, .inr (8, [.int (nI 0), .int (nI tp), .int (nI rs), .int (nI ks), .ref mt, .ref mr_, .ref mk, .ref mo, .ref mh, .ref mse, .ref mhs, .ref msp, .ref msc, .ref mha])), (mse, .inl (g.2.1 0, 8, .inl fS))]) (wr := []) hP hD hS hA [0, 1] [] rfl rfl rfl (by decide) (va_runV (As := [.int (nI 3)]) (rest := []) F (t_M_fail l g _ T  pl hO hU  (nI 3) h0 mt mr_ mk mo mh mse mhs msp msc mha tp rs ks (nI 0) fS k_mt k_mr_ k_mk k_mo k_mh k_mhs k_msp k_msc k_mha (by omega) hS5) (cwV 1 hts (wg_app (wg_c kw_1577 (wg_c kw_1579 (wg_c ks_50 (wg_c kw_9 wg_n)))) kw_1580) rfl rfl rfl (by decide +kernel) ⟨by decide, by decide⟩) (pp_V (en_ok g) (q0 := 0) hK hP hD hS hA hE [0, 1] rfl rfl rfl rfl) rfl rfl hl.1 rfl (lv_room (Nat.le_of_ble_eq_true rfl)) dM_load_109 ⟨by omega, by omega⟩) (fun r36 u31 H locs hu34 hP hD hS => ?_)
              obtain ⟨u32, pl⟩ := u31
              obtain ⟨hq34, hO⟩ := hu34
              obtain ⟨th26, tp26, rs26, ks26, fS26⟩ := u32
              have hP : va_P g.1 vcl ([(h0, .inr (8, [.int th26, .int (nI tp26), .int (nI rs26), .int (nI ks26), .ref mt, .ref mr_, .ref mk, .ref mo, .ref mh, .ref mse, .ref mhs, .ref msp, .ref msc, .ref mha])), (mse, .inl (g.2.1 0, 8, .inl fS26))] ++ pl) _ := hP
              have hD : va_D _ ([(h0, .inr (8, [.int th26, .int (nI tp26), .int (nI rs26), .int (nI ks26), .ref mt, .ref mr_, .ref mk, .ref mo, .ref mh, .ref mse, .ref mhs, .ref msp, .ref msc, .ref mha])), (mse, .inl (g.2.1 0, 8, .inl fS26))] ++ pl) := hD
              obtain ⟨-, -, -, hm51, hm52⟩ := hq34
              obtain ⟨he36, he37, he38, he39, he40⟩ := hm52
              have he36 : th26 = nI 3 := he36
              have he37 : tp26 = tp := he37
              have he38 : rs26 = rs := he38
              have he39 : ks26 = ks := he39
              obtain rfl := he40
              refine W.widen (k := 0) (n := 0) (by omega) (by omega) ?_
              exact mp_iret hx hb hr hlk hP hD hS ((th26, tp26, rs26, ks26, fS26), pl) ⟨⟨(by show tp26 ≤ 16384; omega), (by show rs26 ≤ 8192; omega), (by show ks26 ≤ 8; omega), hm51⟩, hO⟩ [0, 1] rfl rfl rfl (by omega) (by omega) dM_load_112
          · refine lv_aload_n hx hb dM_load_92 rfl (lv_at hl 0 rfl) ?_
            refine lv_iconst (v := nI 2) hx hb dM_load_93 (by decide) ?_
            refine mp_i (cx := [(h0, .inr (8, [.int (nI 0), .int (nI tp), .int (nI rs), .int (nI ks), .ref mt, .ref mr_, .ref mk, .ref mo, .ref mh, .ref mse, .ref mhs, .ref msp, .ref msc, .ref mha])), (mse, .inl (g.2.1 0, 8, .inl fS))]) (wr := []) hP hD hS hA [0, 1] [] rfl rfl rfl (by decide) (va_runV (As := [.int (nI 2)]) (rest := []) F (t_M_fail l g _ T  pl hO hU  (nI 2) h0 mt mr_ mk mo mh mse mhs msp msc mha tp rs ks (nI 0) fS k_mt k_mr_ k_mk k_mo k_mh k_mhs k_msp k_msc k_mha (by omega) hS5) (cwV 1 hts (wg_app (wg_c kw_1577 (wg_c kw_1579 (wg_c ks_50 (wg_c kw_9 wg_n)))) kw_1580) rfl rfl rfl (by decide +kernel) ⟨by decide, by decide⟩) (pp_V (en_ok g) (q0 := 0) hK hP hD hS hA hE [0, 1] rfl rfl rfl rfl) rfl rfl hl.1 rfl (lv_room (Nat.le_of_ble_eq_true rfl)) dM_load_94 ⟨by omega, by omega⟩) (fun r37 u33 H locs hu35 hP hD hS => ?_)
            obtain ⟨u34, pl⟩ := u33
            obtain ⟨hq35, hO⟩ := hu35
            obtain ⟨th27, tp27, rs27, ks27, fS27⟩ := u34
            have hP : va_P g.1 vcl ([(h0, .inr (8, [.int th27, .int (nI tp27), .int (nI rs27), .int (nI ks27), .ref mt, .ref mr_, .ref mk, .ref mo, .ref mh, .ref mse, .ref mhs, .ref msp, .ref msc, .ref mha])), (mse, .inl (g.2.1 0, 8, .inl fS27))] ++ pl) _ := hP
            have hD : va_D _ ([(h0, .inr (8, [.int th27, .int (nI tp27), .int (nI rs27), .int (nI ks27), .ref mt, .ref mr_, .ref mk, .ref mo, .ref mh, .ref mse, .ref mhs, .ref msp, .ref msc, .ref mha])), (mse, .inl (g.2.1 0, 8, .inl fS27))] ++ pl) := hD
            obtain ⟨-, -, -, hm56, hm57⟩ := hq35
            obtain ⟨he41, he42, he43, he44, he45⟩ := hm57
            have he41 : th27 = nI 2 := he41
            have he42 : tp27 = tp := he42
            have he43 : rs27 = rs := he43
            have he44 : ks27 = ks := he44
            obtain rfl := he45
            refine W.widen (k := 0) (n := 0) (by omega) (by omega) ?_
            exact mp_iret hx hb hr hlk hP hD hS ((th27, tp27, rs27, ks27, fS27), pl) ⟨⟨(by show tp27 ≤ 16384; omega), (by show rs27 ≤ 8192; omega), (by show ks27 ≤ 8; omega), hm56⟩, hO⟩ [0, 1] rfl rfl rfl (by omega) (by omega) dM_load_97
        · refine lv_aload_n hx hb dM_load_44 rfl (lv_at hl 0 rfl) ?_
          refine lv_iconst (v := nI 1) hx hb dM_load_45 (by decide) ?_
          refine mp_i (cx := [(h0, .inr (8, [.int (nI 0), .int (nI tp), .int (nI rs), .int (nI ks), .ref mt, .ref mr_, .ref mk, .ref mo, .ref mh, .ref mse, .ref mhs, .ref msp, .ref msc, .ref mha])), (mse, .inl (g.2.1 0, 8, .inl fS))]) (wr := []) hP hD hS hA [0, 1] [] rfl rfl rfl (by decide) (va_runV (As := [.int (nI 1)]) (rest := []) F (t_M_fail l g _ T  pl hO hU  (nI 1) h0 mt mr_ mk mo mh mse mhs msp msc mha tp rs ks (nI 0) fS k_mt k_mr_ k_mk k_mo k_mh k_mhs k_msp k_msc k_mha (by omega) hS5) (cwV 1 hts (wg_app (wg_c kw_1577 (wg_c kw_1579 (wg_c ks_50 (wg_c kw_9 wg_n)))) kw_1580) rfl rfl rfl (by decide +kernel) ⟨by decide, by decide⟩) (pp_V (en_ok g) (q0 := 0) hK hP hD hS hA hE [0, 1] rfl rfl rfl rfl) rfl rfl hl.1 rfl (lv_room (Nat.le_of_ble_eq_true rfl)) dM_load_46 ⟨by omega, by omega⟩) (fun r38 u35 H locs hu36 hP hD hS => ?_)
          obtain ⟨u36, pl⟩ := u35
          obtain ⟨hq36, hO⟩ := hu36
          obtain ⟨th28, tp28, rs28, ks28, fS28⟩ := u36
          have hP : va_P g.1 vcl ([(h0, .inr (8, [.int th28, .int (nI tp28), .int (nI rs28), .int (nI ks28), .ref mt, .ref mr_, .ref mk, .ref mo, .ref mh, .ref mse, .ref mhs, .ref msp, .ref msc, .ref mha])), (mse, .inl (g.2.1 0, 8, .inl fS28))] ++ pl) _ := hP
          have hD : va_D _ ([(h0, .inr (8, [.int th28, .int (nI tp28), .int (nI rs28), .int (nI ks28), .ref mt, .ref mr_, .ref mk, .ref mo, .ref mh, .ref mse, .ref mhs, .ref msp, .ref msc, .ref mha])), (mse, .inl (g.2.1 0, 8, .inl fS28))] ++ pl) := hD
          obtain ⟨-, -, -, hm61, hm62⟩ := hq36
          obtain ⟨he46, he47, he48, he49, he50⟩ := hm62
          have he46 : th28 = nI 1 := he46
          have he47 : tp28 = tp := he47
          have he48 : rs28 = rs := he48
          have he49 : ks28 = ks := he49
          obtain rfl := he50
          refine W.widen (k := 0) (n := 0) (by omega) (by omega) ?_
          exact mp_iret hx hb hr hlk hP hD hS ((th28, tp28, rs28, ks28, fS28), pl) ⟨⟨(by show tp28 ≤ 16384; omega), (by show rs28 ≤ 8192; omega), (by show ks28 ≤ 8; omega), hm61⟩, hO⟩ [0, 1] rfl rfl rfl (by omega) (by omega) dM_load_49
      | 2, _ =>
        refine lv_iload_n hx hb dM_load_5 rfl (lv_at hl 1 rfl) ?_
        refine lv_if_lt (tgt := 44) hx hb dM_load_6 (by decide) (fun h49 => absurd h49 (by decide)) (fun h49 => ?_)
        refine lv_iload_n hx hb dM_load_9 rfl (lv_at hl 1 rfl) ?_
        refine lv_iload_n hx hb dM_load_10 rfl (lv_at hl 2 rfl) ?_
        refine lv_if_eq (tgt := 18) hx hb dM_load_11 (by decide) (fun h50 => ?_) (fun h50 => absurd h50 (by decide))
        refine lv_iconst (v := nI 5) hx hb dM_load_18 (by decide) ?_
        refine mi_gt (tgt := 44) hx hb dM_load_19 (by decide) (by omega) (by omega) (fun h51 => absurd h51 (by omega)) (fun h51 => ?_)
        refine lv_aload_n hx hb dM_load_22 rfl (lv_at hl 0 rfl) ?_
        refine va_get (D := g.1) (ci := 8) (C := "LatticeKeysModel") (T := T_M) (N := 14) hx hb hts (wg_ft i_M) hown hK hP 0 rfl rfl 1 (by decide) (hts _ (wg_t kw_1527)) (fun _ h9 => h9) rfl dM_load_23 ?_
        refine lv_iload_n hx hb dM_load_26 rfl (lv_at hl 2 rfl) ?_
        refine lv_if_eq (tgt := 37) hx hb dM_load_27 (by decide) (fun h52 => ?_) (fun h52 => absurd h52 (by decide))
        refine lv_iload_n hx hb dM_load_37 rfl (lv_at hl 1 rfl) ?_
        refine mp_i (cx := []) (wr := [(h0, .inr (8, [.int (nI 0), .int (nI tp), .int (nI rs), .int (nI ks), .ref mt, .ref mr_, .ref mk, .ref mo, .ref mh, .ref mse, .ref mhs, .ref msp, .ref msc, .ref mha])), (mse, .inl (g.2.1 0, 8, .inl fS))]) hP hD hS hA [] [0, 1] rfl rfl rfl (by decide) (va_runS (As := [.int (nI 2)]) (rest := [.int (nI tp)]) F (t_M_openSize_2 l g _ T [] pl hO hU  ) (va_cwS 1 hts (wg_app (wg_c kw_1764 (wg_c kw_1765 (wg_c kw_9 wg_n))) kw_1766) rfl rfl rfl (by decide +kernel) ⟨by decide, by decide⟩) (pp_S (en_ok g) hP hD hS hA hE [] rfl rfl) rfl rfl hl.1 rfl (lv_room (Nat.le_of_ble_eq_true rfl)) dM_load_38 ⟨by omega, by omega⟩) (fun r39 pl H locs hu37 hP hD hS => ?_)
        obtain ⟨hq37, hO⟩ := hu37
        have hP : va_P g.1 vcl ([(h0, .inr (8, [.int (nI 0), .int (nI tp), .int (nI rs), .int (nI ks), .ref mt, .ref mr_, .ref mk, .ref mo, .ref mh, .ref mse, .ref mhs, .ref msp, .ref msc, .ref mha])), (mse, .inl (g.2.1 0, 8, .inl fS))] ++ pl) _ := hP
        have hD : va_D _ ([(h0, .inr (8, [.int (nI 0), .int (nI tp), .int (nI rs), .int (nI ks), .ref mt, .ref mr_, .ref mk, .ref mo, .ref mh, .ref mse, .ref mhs, .ref msp, .ref msc, .ref mha])), (mse, .inl (g.2.1 0, 8, .inl fS))] ++ pl) := hD
        obtain rfl := hq37
        refine W.widen (k := 0) (n := 0) (by omega) (by omega) ?_
        refine mi_eq (tgt := 50) hx hb dM_load_41 (by decide) (by omega) (by omega) (fun h53 => ?_) (fun h53 => ?_)
        · refine lv_iload_n hx hb dM_load_50 rfl (lv_at hl 1 rfl) ?_
          refine lv_iconst (v := nI 3) hx hb dM_load_51 (by decide) ?_
          refine mi_ge (tgt := 98) hx hb dM_load_52 (by decide) (by omega) (by omega) (fun h54 => absurd h54 (by omega)) (fun h54 => ?_)
          refine lv_iload_n hx hb dM_load_55 rfl (lv_at hl 2 rfl) ?_
          refine lv_if_eq (tgt := 77) hx hb dM_load_56 (by decide) (fun h55 => ?_) (fun h55 => absurd h55 (by decide))
          refine lv_aload_n hx hb dM_load_77 rfl (lv_at hl 0 rfl) ?_
          refine va_get (D := g.1) (ci := 8) (C := "LatticeKeysModel") (T := T_M) (N := 14) hx hb hts (wg_ft i_M) hown hK hP 0 rfl rfl 12 (by decide) (hts _ (wg_t kw_1538)) (fun _ h9 => h9) rfl dM_load_78 ?_
          refine lv_iload_n hx hb dM_load_81 rfl (lv_at hl 1 rfl) ?_
          refine lv_aload_n hx hb dM_load_82 rfl (lv_at hl 0 rfl) ?_
          refine va_get (D := g.1) (ci := 8) (C := "LatticeKeysModel") (T := T_M) (N := 14) hx hb hts (wg_ft i_M) hown hK hP 0 rfl rfl 4 (by decide) (hts _ (wg_t kw_1530)) (fun _ h9 => h9) rfl dM_load_83 ?_
          refine mp_i (cx := []) (wr := [(h0, .inr (8, [.int (nI 0), .int (nI tp), .int (nI rs), .int (nI ks), .ref mt, .ref mr_, .ref mk, .ref mo, .ref mh, .ref mse, .ref mhs, .ref msp, .ref msc, .ref mha])), (mse, .inl (g.2.1 0, 8, .inl fS))]) hP hD hS hA [] [0, 1] rfl rfl rfl (by decide) (va_runV (As := [.int (nI 2), .ref mt]) (rest := []) F (t_ME_goodOpen_2 l g _ T [] pl hO hU clo_nil msc mt k_msc k_mt) (cwV 2 hts (wg_app (wg_c kw_1773 (wg_c kw_1774 (wg_c kw_1775 (wg_c kw_11 wg_n)))) kw_1776) rfl rfl rfl (by decide +kernel) ⟨by decide, by decide⟩) (pp_VT (en_ok g) (ci := 11) (kd := (23, 0)) hK hO k_msc (nxg clo_nil k_msc rfl) (fun _ h9 => ko1 h9) hP hD hS hA hE [] rfl rfl rfl) rfl rfl hl.1 rfl (lv_room (Nat.le_of_ble_eq_true rfl)) dM_load_86 ⟨by omega, by omega⟩) (fun r40 pl H locs hu38 hP hD hS => ?_)
          obtain ⟨hq38, hO⟩ := hu38
          have hP : va_P g.1 vcl ([(h0, .inr (8, [.int (nI 0), .int (nI tp), .int (nI rs), .int (nI ks), .ref mt, .ref mr_, .ref mk, .ref mo, .ref mh, .ref mse, .ref mhs, .ref msp, .ref msc, .ref mha])), (mse, .inl (g.2.1 0, 8, .inl fS))] ++ pl) _ := hP
          have hD : va_D _ ([(h0, .inr (8, [.int (nI 0), .int (nI tp), .int (nI rs), .int (nI ks), .ref mt, .ref mr_, .ref mk, .ref mo, .ref mh, .ref mse, .ref mhs, .ref msp, .ref msc, .ref mha])), (mse, .inl (g.2.1 0, 8, .inl fS))] ++ pl) := hD
          refine W.widen (k := 0) (n := 0) (by omega) (by omega) ?_
          refine lv_if_ne (tgt := 98) hx hb dM_load_89 (by decide) (fun h56 => ?_) (fun h56 => ?_)
          · refine lv_aload_n hx hb dM_load_98 rfl (lv_at hl 0 rfl) ?_
            refine va_get (D := g.1) (ci := 8) (C := "LatticeKeysModel") (T := T_M) (N := 14) hx hb hts (wg_ft i_M) hown hK hP 0 rfl rfl 3 (by decide) (hts _ (wg_t kw_1529)) (fun _ h9 => h9) rfl dM_load_99 ?_
            refine lv_bipush (v := nI 8) hx hb dM_load_102 (by decide) ?_
            refine mi_ne (tgt := 113) hx hb dM_load_104 (by decide) (by omega) (by omega) (fun h57 => ?_) (fun h57 => ?_)
            · refine lv_iload_n hx hb dM_load_113 rfl (lv_at hl 2 rfl) ?_
              refine lv_if_eq (tgt := 127) hx hb dM_load_114 (by decide) (fun h58 => ?_) (fun h58 => absurd h58 (by decide))
              refine lv_iconst (v := nI 0) hx hb dM_load_127 (by decide) ?_
              refine lv_istore_n (lv' := [(3, .int (nI 0)), (0, .ref h0), (1, .int (nI 2)), (2, .int (nI 0))]) hx hb dM_load_128 rfl hl (by decide) rfl (fun ls hl => ?_)
              refine lv_iconst (v := nI 0) hx hb dM_load_129 (by decide) ?_
              refine lv_istore (lv' := [(4, .int (nI 0)), (3, .int (nI 0)), (0, .ref h0), (1, .int (nI 2)), (2, .int (nI 0))]) hx hb dM_load_130 hl (by decide) rfl (fun ls hl => ?_)
              have lp23 : ∀ (n23 : Nat) (i23 : Nat) (pl : va_W) (ls : Array Slot) (H : Heap) (locs : List Loc), n23 + i23 = 1568 → lv_has ls 5 [(4, .int (nI i23)), (3, .int (nI 0)), (0, .ref h0), (1, .int (nI 2)), (2, .int (nI 0))] → okx g T [] pl → va_P g.1 vcl ([(h0, .inr (8, [.int (nI 0), .int (nI tp), .int (nI rs), .int (nI ks), .ref mt, .ref mr_, .ref mk, .ref mo, .ref mh, .ref mse, .ref mhs, .ref msp, .ref msc, .ref mha])), (mse, .inl (g.2.1 0, 8, .inl fS))] ++ pl) H → va_D A ([(h0, .inr (8, [.int (nI 0), .int (nI tp), .int (nI rs), .int (nI ks), .ref mt, .ref mr_, .ref mk, .ref mo, .ref mh, .ref mse, .ref mhs, .ref msp, .ref msc, .ref mha])), (mse, .inl (g.2.1 0, 8, .inl fS))] ++ pl) → va_S A s.heap H locs → W p l e ({ frames := 6, cells := 0, slots := 0, locals := 147 } : Room) s m args below meth c H locs 0 0 (MQ below (va_Qi (fun (r : Int32) (u : (Int32 × Nat × Nat × Nat × (Nat → Int32)) × va_W) => (u.1.2.1 ≤ 16384 ∧ u.1.2.2.1 ≤ 8192 ∧ u.1.2.2.2.1 ≤ 8 ∧ s5 u.1.2.2.2.2) ∧ okx g T [] u.2) (po g.1 vcl A (fun (u : (Int32 × Nat × Nat × Nat × (Nat → Int32)) × va_W) => [(h0, .inr (8, [.int u.1.1, .int (nI (u.1.2.1)), .int (nI (u.1.2.2.1)), .int (nI (u.1.2.2.2.1)), .ref mt, .ref mr_, .ref mk, .ref mo, .ref mh, .ref mse, .ref mhs, .ref msp, .ref msc, .ref mha])), (mse, .inl (g.2.1 0, 8, .inl ((u.1.2.2.2.2))))] ++ u.2)) A) args s 0 0 A) (F0 m 132 ls []) := by
                intro n23
                induction n23 with
                | zero =>
                  intro i23 pl ls H locs hm63  hl hO hP hD hS
                  refine lv_iload hx hb dM_load_132 (lv_at hl 0 rfl) ?_
                  refine lv_iload_n hx hb dM_load_134 rfl (lv_at hl 3 rfl) ?_
                  refine mp_i (cx := []) (wr := [(h0, .inr (8, [.int (nI 0), .int (nI tp), .int (nI rs), .int (nI ks), .ref mt, .ref mr_, .ref mk, .ref mo, .ref mh, .ref mse, .ref mhs, .ref msp, .ref msc, .ref mha])), (mse, .inl (g.2.1 0, 8, .inl fS))]) hP hD hS hA [] [0, 1] rfl rfl rfl (by decide) (va_runS (As := [.int (nI 2)]) (rest := [.int (nI i23)]) F (t_M_openSize_2 l g _ T [] pl hO hU  ) (va_cwS 1 hts (wg_app (wg_c kw_1764 (wg_c kw_1765 (wg_c kw_9 wg_n))) kw_1766) rfl rfl rfl (by decide +kernel) ⟨by decide, by decide⟩) (pp_S (en_ok g) hP hD hS hA hE [] rfl rfl) rfl rfl hl.1 rfl (lv_room (Nat.le_of_ble_eq_true rfl)) dM_load_135 ⟨by omega, by omega⟩) (fun r41 pl H locs hu39 hP hD hS => ?_)
                  obtain ⟨hq39, hO⟩ := hu39
                  have hP : va_P g.1 vcl ([(h0, .inr (8, [.int (nI 0), .int (nI tp), .int (nI rs), .int (nI ks), .ref mt, .ref mr_, .ref mk, .ref mo, .ref mh, .ref mse, .ref mhs, .ref msp, .ref msc, .ref mha])), (mse, .inl (g.2.1 0, 8, .inl fS))] ++ pl) _ := hP
                  have hD : va_D _ ([(h0, .inr (8, [.int (nI 0), .int (nI tp), .int (nI rs), .int (nI ks), .ref mt, .ref mr_, .ref mk, .ref mo, .ref mh, .ref mse, .ref mhs, .ref msp, .ref msc, .ref mha])), (mse, .inl (g.2.1 0, 8, .inl fS))] ++ pl) := hD
                  obtain rfl := hq39
                  refine W.widen (k := 0) (n := 0) (by omega) (by omega) ?_
                  refine mi_ge (tgt := 168) hx hb dM_load_138 (by decide) (by omega) (by omega) (fun h59 => ?_) (fun h59 => absurd h59 (by omega))
                  refine lv_iconst (v := nI 0) hx hb dM_load_168 (by decide) ?_
                  refine lv_istore (lv' := [(4, .int (nI 0)), (3, .int (nI 0)), (0, .ref h0), (1, .int (nI 2)), (2, .int (nI 0))]) hx hb dM_load_169 hl (by decide) rfl (fun ls hl => ?_)
                  refine lv_iload_n hx hb dM_load_171 rfl (lv_at hl 4 rfl) ?_
                  refine lv_if_eq (tgt := 209) hx hb dM_load_172 (by decide) (fun h60 => ?_) (fun h60 => absurd h60 (by decide))
                  refine lv_aload_n hx hb dM_load_209 rfl (lv_at hl 2 rfl) ?_
                  refine lv_iload_n hx hb dM_load_210 rfl (lv_at hl 3 rfl) ?_
                  refine lv_iload_n hx hb dM_load_211 rfl (lv_at hl 4 rfl) ?_
                  refine lv_if_eq (tgt := 222) hx hb dM_load_212 (by decide) (fun h61 => ?_) (fun h61 => absurd h61 (by decide))
                  refine lv_iconst (v := nI 0) hx hb dM_load_222 (by decide) ?_
                  refine mp_i (cx := [(h0, .inr (8, [.int (nI 0), .int (nI tp), .int (nI rs), .int (nI ks), .ref mt, .ref mr_, .ref mk, .ref mo, .ref mh, .ref mse, .ref mhs, .ref msp, .ref msc, .ref mha])), (mse, .inl (g.2.1 0, 8, .inl fS))]) (wr := []) hP hD hS hA [0, 1] [] rfl rfl rfl (by decide) (va_runV (As := [.int (nI 2), .int (nI 0)]) (rest := []) F (t_M_made l g _ T  pl hO hU  2 0 h0 mt mr_ mk mo mh mse mhs msp msc mha tp rs ks (nI 0) fS k_mt k_mr_ k_mk k_mo k_mh k_mhs k_msp k_msc k_mha (by omega) hS5 (by omega) (by omega) (by omega)) (cwV 2 hts (wg_app (wg_c kw_1756 (wg_c kw_1758 (wg_c ks_64 (wg_c kw_9 wg_n)))) kw_1759) rfl rfl rfl (by decide +kernel) ⟨by decide, by decide⟩) (pp_V (en_ok g) (q0 := 0) hK hP hD hS hA hE [0, 1] rfl rfl rfl rfl) rfl rfl hl.1 rfl (lv_room (Nat.le_of_ble_eq_true rfl)) dM_load_223 ⟨by omega, by omega⟩) (fun r42 u37 H locs hu40 hP hD hS => ?_)
                  obtain ⟨u38, pl⟩ := u37
                  obtain ⟨hq40, hO⟩ := hu40
                  obtain ⟨th29, tp29, rs29, ks29, fS29⟩ := u38
                  have hP : va_P g.1 vcl ([(h0, .inr (8, [.int th29, .int (nI tp29), .int (nI rs29), .int (nI ks29), .ref mt, .ref mr_, .ref mk, .ref mo, .ref mh, .ref mse, .ref mhs, .ref msp, .ref msc, .ref mha])), (mse, .inl (g.2.1 0, 8, .inl fS29))] ++ pl) _ := hP
                  have hD : va_D _ ([(h0, .inr (8, [.int th29, .int (nI tp29), .int (nI rs29), .int (nI ks29), .ref mt, .ref mr_, .ref mk, .ref mo, .ref mh, .ref mse, .ref mhs, .ref msp, .ref msc, .ref mha])), (mse, .inl (g.2.1 0, 8, .inl fS29))] ++ pl) := hD
                  obtain ⟨hm64, hm65, hm66, hm67⟩ := hq40
                  have hm64 : tp29 ≤ 16384 := hm64
                  have hm65 : rs29 ≤ 8192 := hm65
                  have hm66 : ks29 ≤ 8 := hm66
                  refine W.widen (k := 0) (n := 0) (by omega) (by omega) ?_
                  exact mp_iret hx hb hr hlk hP hD hS ((th29, tp29, rs29, ks29, fS29), pl) ⟨⟨(by show tp29 ≤ 16384; omega), (by show rs29 ≤ 8192; omega), (by show ks29 ≤ 8; omega), hm67⟩, hO⟩ [0, 1] rfl rfl rfl (by omega) (by omega) dM_load_226
                | succ n23 ih23 =>
                  intro i23 pl ls H locs hm63  hl hO hP hD hS
                  refine lv_iload hx hb dM_load_132 (lv_at hl 0 rfl) ?_
                  refine lv_iload_n hx hb dM_load_134 rfl (lv_at hl 3 rfl) ?_
                  refine mp_i (cx := []) (wr := [(h0, .inr (8, [.int (nI 0), .int (nI tp), .int (nI rs), .int (nI ks), .ref mt, .ref mr_, .ref mk, .ref mo, .ref mh, .ref mse, .ref mhs, .ref msp, .ref msc, .ref mha])), (mse, .inl (g.2.1 0, 8, .inl fS))]) hP hD hS hA [] [0, 1] rfl rfl rfl (by decide) (va_runS (As := [.int (nI 2)]) (rest := [.int (nI i23)]) F (t_M_openSize_2 l g _ T [] pl hO hU  ) (va_cwS 1 hts (wg_app (wg_c kw_1764 (wg_c kw_1765 (wg_c kw_9 wg_n))) kw_1766) rfl rfl rfl (by decide +kernel) ⟨by decide, by decide⟩) (pp_S (en_ok g) hP hD hS hA hE [] rfl rfl) rfl rfl hl.1 rfl (lv_room (Nat.le_of_ble_eq_true rfl)) dM_load_135 ⟨by omega, by omega⟩) (fun r43 pl H locs hu41 hP hD hS => ?_)
                  obtain ⟨hq41, hO⟩ := hu41
                  have hP : va_P g.1 vcl ([(h0, .inr (8, [.int (nI 0), .int (nI tp), .int (nI rs), .int (nI ks), .ref mt, .ref mr_, .ref mk, .ref mo, .ref mh, .ref mse, .ref mhs, .ref msp, .ref msc, .ref mha])), (mse, .inl (g.2.1 0, 8, .inl fS))] ++ pl) _ := hP
                  have hD : va_D _ ([(h0, .inr (8, [.int (nI 0), .int (nI tp), .int (nI rs), .int (nI ks), .ref mt, .ref mr_, .ref mk, .ref mo, .ref mh, .ref mse, .ref mhs, .ref msp, .ref msc, .ref mha])), (mse, .inl (g.2.1 0, 8, .inl fS))] ++ pl) := hD
                  obtain rfl := hq41
                  refine W.widen (k := 0) (n := 0) (by omega) (by omega) ?_
                  refine mi_ge (tgt := 168) hx hb dM_load_138 (by decide) (by omega) (by omega) (fun h62 => absurd h62 (by omega)) (fun h62 => ?_)
                  refine lv_aload_n hx hb dM_load_141 rfl (lv_at hl 2 rfl) ?_
                  refine va_get (D := g.1) (ci := 8) (C := "LatticeKeysModel") (T := T_M) (N := 14) hx hb hts (wg_ft i_M) hown hK hP 0 rfl rfl 7 (by decide) (hts _ (wg_t kw_1533)) (fun _ h9 => h9) rfl dM_load_142 ?_
                  refine lv_aload_n hx hb dM_load_145 rfl (lv_at hl 2 rfl) ?_
                  refine va_get (D := g.1) (ci := 8) (C := "LatticeKeysModel") (T := T_M) (N := 14) hx hb hts (wg_ft i_M) hown hK hP 0 rfl rfl 3 (by decide) (hts _ (wg_t kw_1529)) (fun _ h9 => h9) rfl dM_load_146 ?_
                  refine ty_aald4 hx hb hK hO k_mo (nxg clo_nil k_mo rfl) hP (by omega) dM_load_149 (fun r44 kr23 => ?_)
                  refine lv_iload hx hb dM_load_150 (lv_at hl 0 rfl) ?_
                  refine lv_aload_n hx hb dM_load_152 rfl (lv_at hl 2 rfl) ?_
                  refine va_get (D := g.1) (ci := 8) (C := "LatticeKeysModel") (T := T_M) (N := 14) hx hb hts (wg_ft i_M) hown hK hP 0 rfl rfl 4 (by decide) (hts _ (wg_t kw_1530)) (fun _ h9 => h9) rfl dM_load_153 ?_
                  refine lv_iload_n hx hb dM_load_156 rfl (lv_at hl 1 rfl) ?_
                  refine lv_iload hx hb dM_load_157 (lv_at hl 0 rfl) ?_
                  refine mi_iadd hx hb dM_load_159 ?_
                  refine ty_bald hx hb hK hO k_mt (nxg clo_nil k_mt rfl) hP (vp_in_nI (by omega) (by decide)) dM_load_160 (fun z23 => ?_)
                  refine ty_bast hx hb hK hO kr23 (nxg clo_nil kr23 rfl) hP hD hS (vp_in_nI (by omega) (by decide)) dM_load_161 (fun pl H locs hO hP hD hS => ?_)
                  refine mi_iinc (k := 0) (x := i23) (d := 1) (y := i23 + 1) (lv' := [(4, .int (nI (i23 + 1))), (3, .int (nI 0)), (0, .ref h0), (1, .int (nI 2)), (2, .int (nI 0))]) hx hb dM_load_162 hl rfl (by decide) rfl (by decide) rfl (fun ls hl => ?_)
                  refine lv_goto (tgt := 132) hx hb dM_load_165 (by decide) ?_
                  exact ih23 (i23 + 1) pl ls H locs (by omega) (lv_sub hl [0, 1, 2, 3, 4] rfl) hO hP hD hS
              exact lp23 1568 0 pl ls _ _ (by omega) (lv_sub hl [0, 1, 2, 3, 4] rfl) hO hP hD hS
            · refine lv_aload_n hx hb dM_load_107 rfl (lv_at hl 0 rfl) ?_
              refine lv_iconst (v := nI 3) hx hb dM_load_108 (by decide) ?_
              refine mp_i (cx := [(h0, .inr (8, [.int (nI 0), .int (nI tp), .int (nI rs), .int (nI ks), .ref mt, .ref mr_, .ref mk, .ref mo, .ref mh, .ref mse, .ref mhs, .ref msp, .ref msc, .ref mha])), (mse, .inl (g.2.1 0, 8, .inl fS))]) (wr := []) hP hD hS hA [0, 1] [] rfl rfl rfl (by decide) (va_runV (As := [.int (nI 3)]) (rest := []) F (t_M_fail l g _ T  pl hO hU  (nI 3) h0 mt mr_ mk mo mh mse mhs msp msc mha tp rs ks (nI 0) fS k_mt k_mr_ k_mk k_mo k_mh k_mhs k_msp k_msc k_mha (by omega) hS5) (cwV 1 hts (wg_app (wg_c kw_1577 (wg_c kw_1579 (wg_c ks_50 (wg_c kw_9 wg_n)))) kw_1580) rfl rfl rfl (by decide +kernel) ⟨by decide, by decide⟩) (pp_V (en_ok g) (q0 := 0) hK hP hD hS hA hE [0, 1] rfl rfl rfl rfl) rfl rfl hl.1 rfl (lv_room (Nat.le_of_ble_eq_true rfl)) dM_load_109 ⟨by omega, by omega⟩) (fun r45 u39 H locs hu42 hP hD hS => ?_)
              obtain ⟨u40, pl⟩ := u39
              obtain ⟨hq42, hO⟩ := hu42
              obtain ⟨th30, tp30, rs30, ks30, fS30⟩ := u40
              have hP : va_P g.1 vcl ([(h0, .inr (8, [.int th30, .int (nI tp30), .int (nI rs30), .int (nI ks30), .ref mt, .ref mr_, .ref mk, .ref mo, .ref mh, .ref mse, .ref mhs, .ref msp, .ref msc, .ref mha])), (mse, .inl (g.2.1 0, 8, .inl fS30))] ++ pl) _ := hP
              have hD : va_D _ ([(h0, .inr (8, [.int th30, .int (nI tp30), .int (nI rs30), .int (nI ks30), .ref mt, .ref mr_, .ref mk, .ref mo, .ref mh, .ref mse, .ref mhs, .ref msp, .ref msc, .ref mha])), (mse, .inl (g.2.1 0, 8, .inl fS30))] ++ pl) := hD
              obtain ⟨-, -, -, hm72, hm73⟩ := hq42
              obtain ⟨he51, he52, he53, he54, he55⟩ := hm73
              have he51 : th30 = nI 3 := he51
              have he52 : tp30 = tp := he52
              have he53 : rs30 = rs := he53
              have he54 : ks30 = ks := he54
              obtain rfl := he55
              refine W.widen (k := 0) (n := 0) (by omega) (by omega) ?_
              exact mp_iret hx hb hr hlk hP hD hS ((th30, tp30, rs30, ks30, fS30), pl) ⟨⟨(by show tp30 ≤ 16384; omega), (by show rs30 ≤ 8192; omega), (by show ks30 ≤ 8; omega), hm72⟩, hO⟩ [0, 1] rfl rfl rfl (by omega) (by omega) dM_load_112
          · refine lv_aload_n hx hb dM_load_92 rfl (lv_at hl 0 rfl) ?_
            refine lv_iconst (v := nI 2) hx hb dM_load_93 (by decide) ?_
            refine mp_i (cx := [(h0, .inr (8, [.int (nI 0), .int (nI tp), .int (nI rs), .int (nI ks), .ref mt, .ref mr_, .ref mk, .ref mo, .ref mh, .ref mse, .ref mhs, .ref msp, .ref msc, .ref mha])), (mse, .inl (g.2.1 0, 8, .inl fS))]) (wr := []) hP hD hS hA [0, 1] [] rfl rfl rfl (by decide) (va_runV (As := [.int (nI 2)]) (rest := []) F (t_M_fail l g _ T  pl hO hU  (nI 2) h0 mt mr_ mk mo mh mse mhs msp msc mha tp rs ks (nI 0) fS k_mt k_mr_ k_mk k_mo k_mh k_mhs k_msp k_msc k_mha (by omega) hS5) (cwV 1 hts (wg_app (wg_c kw_1577 (wg_c kw_1579 (wg_c ks_50 (wg_c kw_9 wg_n)))) kw_1580) rfl rfl rfl (by decide +kernel) ⟨by decide, by decide⟩) (pp_V (en_ok g) (q0 := 0) hK hP hD hS hA hE [0, 1] rfl rfl rfl rfl) rfl rfl hl.1 rfl (lv_room (Nat.le_of_ble_eq_true rfl)) dM_load_94 ⟨by omega, by omega⟩) (fun r46 u41 H locs hu43 hP hD hS => ?_)
            obtain ⟨u42, pl⟩ := u41
            obtain ⟨hq43, hO⟩ := hu43
            obtain ⟨th31, tp31, rs31, ks31, fS31⟩ := u42
            have hP : va_P g.1 vcl ([(h0, .inr (8, [.int th31, .int (nI tp31), .int (nI rs31), .int (nI ks31), .ref mt, .ref mr_, .ref mk, .ref mo, .ref mh, .ref mse, .ref mhs, .ref msp, .ref msc, .ref mha])), (mse, .inl (g.2.1 0, 8, .inl fS31))] ++ pl) _ := hP
            have hD : va_D _ ([(h0, .inr (8, [.int th31, .int (nI tp31), .int (nI rs31), .int (nI ks31), .ref mt, .ref mr_, .ref mk, .ref mo, .ref mh, .ref mse, .ref mhs, .ref msp, .ref msc, .ref mha])), (mse, .inl (g.2.1 0, 8, .inl fS31))] ++ pl) := hD
            obtain ⟨-, -, -, hm77, hm78⟩ := hq43
            obtain ⟨he56, he57, he58, he59, he60⟩ := hm78
            have he56 : th31 = nI 2 := he56
            have he57 : tp31 = tp := he57
            have he58 : rs31 = rs := he58
            have he59 : ks31 = ks := he59
            obtain rfl := he60
            refine W.widen (k := 0) (n := 0) (by omega) (by omega) ?_
            exact mp_iret hx hb hr hlk hP hD hS ((th31, tp31, rs31, ks31, fS31), pl) ⟨⟨(by show tp31 ≤ 16384; omega), (by show rs31 ≤ 8192; omega), (by show ks31 ≤ 8; omega), hm77⟩, hO⟩ [0, 1] rfl rfl rfl (by omega) (by omega) dM_load_97
        · refine lv_aload_n hx hb dM_load_44 rfl (lv_at hl 0 rfl) ?_
          refine lv_iconst (v := nI 1) hx hb dM_load_45 (by decide) ?_
          refine mp_i (cx := [(h0, .inr (8, [.int (nI 0), .int (nI tp), .int (nI rs), .int (nI ks), .ref mt, .ref mr_, .ref mk, .ref mo, .ref mh, .ref mse, .ref mhs, .ref msp, .ref msc, .ref mha])), (mse, .inl (g.2.1 0, 8, .inl fS))]) (wr := []) hP hD hS hA [0, 1] [] rfl rfl rfl (by decide) (va_runV (As := [.int (nI 1)]) (rest := []) F (t_M_fail l g _ T  pl hO hU  (nI 1) h0 mt mr_ mk mo mh mse mhs msp msc mha tp rs ks (nI 0) fS k_mt k_mr_ k_mk k_mo k_mh k_mhs k_msp k_msc k_mha (by omega) hS5) (cwV 1 hts (wg_app (wg_c kw_1577 (wg_c kw_1579 (wg_c ks_50 (wg_c kw_9 wg_n)))) kw_1580) rfl rfl rfl (by decide +kernel) ⟨by decide, by decide⟩) (pp_V (en_ok g) (q0 := 0) hK hP hD hS hA hE [0, 1] rfl rfl rfl rfl) rfl rfl hl.1 rfl (lv_room (Nat.le_of_ble_eq_true rfl)) dM_load_46 ⟨by omega, by omega⟩) (fun r47 u43 H locs hu44 hP hD hS => ?_)
          obtain ⟨u44, pl⟩ := u43
          obtain ⟨hq44, hO⟩ := hu44
          obtain ⟨th32, tp32, rs32, ks32, fS32⟩ := u44
          have hP : va_P g.1 vcl ([(h0, .inr (8, [.int th32, .int (nI tp32), .int (nI rs32), .int (nI ks32), .ref mt, .ref mr_, .ref mk, .ref mo, .ref mh, .ref mse, .ref mhs, .ref msp, .ref msc, .ref mha])), (mse, .inl (g.2.1 0, 8, .inl fS32))] ++ pl) _ := hP
          have hD : va_D _ ([(h0, .inr (8, [.int th32, .int (nI tp32), .int (nI rs32), .int (nI ks32), .ref mt, .ref mr_, .ref mk, .ref mo, .ref mh, .ref mse, .ref mhs, .ref msp, .ref msc, .ref mha])), (mse, .inl (g.2.1 0, 8, .inl fS32))] ++ pl) := hD
          obtain ⟨-, -, -, hm82, hm83⟩ := hq44
          obtain ⟨he61, he62, he63, he64, he65⟩ := hm83
          have he61 : th32 = nI 1 := he61
          have he62 : tp32 = tp := he62
          have he63 : rs32 = rs := he63
          have he64 : ks32 = ks := he64
          obtain rfl := he65
          refine W.widen (k := 0) (n := 0) (by omega) (by omega) ?_
          exact mp_iret hx hb hr hlk hP hD hS ((th32, tp32, rs32, ks32, fS32), pl) ⟨⟨(by show tp32 ≤ 16384; omega), (by show rs32 ≤ 8192; omega), (by show ks32 ≤ 8; omega), hm82⟩, hO⟩ [0, 1] rfl rfl rfl (by omega) (by omega) dM_load_49
      | 3, _ =>
        refine lv_iload_n hx hb dM_load_5 rfl (lv_at hl 1 rfl) ?_
        refine lv_if_lt (tgt := 44) hx hb dM_load_6 (by decide) (fun h63 => absurd h63 (by decide)) (fun h63 => ?_)
        refine lv_iload_n hx hb dM_load_9 rfl (lv_at hl 1 rfl) ?_
        refine lv_iload_n hx hb dM_load_10 rfl (lv_at hl 2 rfl) ?_
        refine lv_if_eq (tgt := 18) hx hb dM_load_11 (by decide) (fun h64 => ?_) (fun h64 => absurd h64 (by decide))
        refine lv_iconst (v := nI 5) hx hb dM_load_18 (by decide) ?_
        refine mi_gt (tgt := 44) hx hb dM_load_19 (by decide) (by omega) (by omega) (fun h65 => absurd h65 (by omega)) (fun h65 => ?_)
        refine lv_aload_n hx hb dM_load_22 rfl (lv_at hl 0 rfl) ?_
        refine va_get (D := g.1) (ci := 8) (C := "LatticeKeysModel") (T := T_M) (N := 14) hx hb hts (wg_ft i_M) hown hK hP 0 rfl rfl 1 (by decide) (hts _ (wg_t kw_1527)) (fun _ h9 => h9) rfl dM_load_23 ?_
        refine lv_iload_n hx hb dM_load_26 rfl (lv_at hl 2 rfl) ?_
        refine lv_if_eq (tgt := 37) hx hb dM_load_27 (by decide) (fun h66 => ?_) (fun h66 => absurd h66 (by decide))
        refine lv_iload_n hx hb dM_load_37 rfl (lv_at hl 1 rfl) ?_
        refine mp_i (cx := []) (wr := [(h0, .inr (8, [.int (nI 0), .int (nI tp), .int (nI rs), .int (nI ks), .ref mt, .ref mr_, .ref mk, .ref mo, .ref mh, .ref mse, .ref mhs, .ref msp, .ref msc, .ref mha])), (mse, .inl (g.2.1 0, 8, .inl fS))]) hP hD hS hA [] [0, 1] rfl rfl rfl (by decide) (va_runS (As := [.int (nI 3)]) (rest := [.int (nI tp)]) F (t_M_openSize_3 l g _ T [] pl hO hU  ) (va_cwS 1 hts (wg_app (wg_c kw_1764 (wg_c kw_1765 (wg_c kw_9 wg_n))) kw_1766) rfl rfl rfl (by decide +kernel) ⟨by decide, by decide⟩) (pp_S (en_ok g) hP hD hS hA hE [] rfl rfl) rfl rfl hl.1 rfl (lv_room (Nat.le_of_ble_eq_true rfl)) dM_load_38 ⟨by omega, by omega⟩) (fun r48 pl H locs hu45 hP hD hS => ?_)
        obtain ⟨hq45, hO⟩ := hu45
        have hP : va_P g.1 vcl ([(h0, .inr (8, [.int (nI 0), .int (nI tp), .int (nI rs), .int (nI ks), .ref mt, .ref mr_, .ref mk, .ref mo, .ref mh, .ref mse, .ref mhs, .ref msp, .ref msc, .ref mha])), (mse, .inl (g.2.1 0, 8, .inl fS))] ++ pl) _ := hP
        have hD : va_D _ ([(h0, .inr (8, [.int (nI 0), .int (nI tp), .int (nI rs), .int (nI ks), .ref mt, .ref mr_, .ref mk, .ref mo, .ref mh, .ref mse, .ref mhs, .ref msp, .ref msc, .ref mha])), (mse, .inl (g.2.1 0, 8, .inl fS))] ++ pl) := hD
        obtain rfl := hq45
        refine W.widen (k := 0) (n := 0) (by omega) (by omega) ?_
        refine mi_eq (tgt := 50) hx hb dM_load_41 (by decide) (by omega) (by omega) (fun h67 => ?_) (fun h67 => ?_)
        · refine lv_iload_n hx hb dM_load_50 rfl (lv_at hl 1 rfl) ?_
          refine lv_iconst (v := nI 3) hx hb dM_load_51 (by decide) ?_
          refine mi_ge (tgt := 98) hx hb dM_load_52 (by decide) (by omega) (by omega) (fun h68 => ?_) (fun h68 => absurd h68 (by omega))
          refine lv_aload_n hx hb dM_load_98 rfl (lv_at hl 0 rfl) ?_
          refine va_get (D := g.1) (ci := 8) (C := "LatticeKeysModel") (T := T_M) (N := 14) hx hb hts (wg_ft i_M) hown hK hP 0 rfl rfl 3 (by decide) (hts _ (wg_t kw_1529)) (fun _ h9 => h9) rfl dM_load_99 ?_
          refine lv_bipush (v := nI 8) hx hb dM_load_102 (by decide) ?_
          refine mi_ne (tgt := 113) hx hb dM_load_104 (by decide) (by omega) (by omega) (fun h69 => ?_) (fun h69 => ?_)
          · refine lv_iload_n hx hb dM_load_113 rfl (lv_at hl 2 rfl) ?_
            refine lv_if_eq (tgt := 127) hx hb dM_load_114 (by decide) (fun h70 => ?_) (fun h70 => absurd h70 (by decide))
            refine lv_iconst (v := nI 0) hx hb dM_load_127 (by decide) ?_
            refine lv_istore_n (lv' := [(3, .int (nI 0)), (0, .ref h0), (1, .int (nI 3)), (2, .int (nI 0))]) hx hb dM_load_128 rfl hl (by decide) rfl (fun ls hl => ?_)
            refine lv_iconst (v := nI 0) hx hb dM_load_129 (by decide) ?_
            refine lv_istore (lv' := [(4, .int (nI 0)), (3, .int (nI 0)), (0, .ref h0), (1, .int (nI 3)), (2, .int (nI 0))]) hx hb dM_load_130 hl (by decide) rfl (fun ls hl => ?_)
            have lp24 : ∀ (n24 : Nat) (i24 : Nat) (pl : va_W) (ls : Array Slot) (H : Heap) (locs : List Loc), n24 + i24 = 1312 → lv_has ls 5 [(4, .int (nI i24)), (3, .int (nI 0)), (0, .ref h0), (1, .int (nI 3)), (2, .int (nI 0))] → okx g T [] pl → va_P g.1 vcl ([(h0, .inr (8, [.int (nI 0), .int (nI tp), .int (nI rs), .int (nI ks), .ref mt, .ref mr_, .ref mk, .ref mo, .ref mh, .ref mse, .ref mhs, .ref msp, .ref msc, .ref mha])), (mse, .inl (g.2.1 0, 8, .inl fS))] ++ pl) H → va_D A ([(h0, .inr (8, [.int (nI 0), .int (nI tp), .int (nI rs), .int (nI ks), .ref mt, .ref mr_, .ref mk, .ref mo, .ref mh, .ref mse, .ref mhs, .ref msp, .ref msc, .ref mha])), (mse, .inl (g.2.1 0, 8, .inl fS))] ++ pl) → va_S A s.heap H locs → W p l e ({ frames := 6, cells := 0, slots := 0, locals := 147 } : Room) s m args below meth c H locs 0 0 (MQ below (va_Qi (fun (r : Int32) (u : (Int32 × Nat × Nat × Nat × (Nat → Int32)) × va_W) => (u.1.2.1 ≤ 16384 ∧ u.1.2.2.1 ≤ 8192 ∧ u.1.2.2.2.1 ≤ 8 ∧ s5 u.1.2.2.2.2) ∧ okx g T [] u.2) (po g.1 vcl A (fun (u : (Int32 × Nat × Nat × Nat × (Nat → Int32)) × va_W) => [(h0, .inr (8, [.int u.1.1, .int (nI (u.1.2.1)), .int (nI (u.1.2.2.1)), .int (nI (u.1.2.2.2.1)), .ref mt, .ref mr_, .ref mk, .ref mo, .ref mh, .ref mse, .ref mhs, .ref msp, .ref msc, .ref mha])), (mse, .inl (g.2.1 0, 8, .inl ((u.1.2.2.2.2))))] ++ u.2)) A) args s 0 0 A) (F0 m 132 ls []) := by
              intro n24
              induction n24 with
              | zero =>
                intro i24 pl ls H locs hm84  hl hO hP hD hS
                refine lv_iload hx hb dM_load_132 (lv_at hl 0 rfl) ?_
                refine lv_iload_n hx hb dM_load_134 rfl (lv_at hl 3 rfl) ?_
                refine mp_i (cx := []) (wr := [(h0, .inr (8, [.int (nI 0), .int (nI tp), .int (nI rs), .int (nI ks), .ref mt, .ref mr_, .ref mk, .ref mo, .ref mh, .ref mse, .ref mhs, .ref msp, .ref msc, .ref mha])), (mse, .inl (g.2.1 0, 8, .inl fS))]) hP hD hS hA [] [0, 1] rfl rfl rfl (by decide) (va_runS (As := [.int (nI 3)]) (rest := [.int (nI i24)]) F (t_M_openSize_3 l g _ T [] pl hO hU  ) (va_cwS 1 hts (wg_app (wg_c kw_1764 (wg_c kw_1765 (wg_c kw_9 wg_n))) kw_1766) rfl rfl rfl (by decide +kernel) ⟨by decide, by decide⟩) (pp_S (en_ok g) hP hD hS hA hE [] rfl rfl) rfl rfl hl.1 rfl (lv_room (Nat.le_of_ble_eq_true rfl)) dM_load_135 ⟨by omega, by omega⟩) (fun r49 pl H locs hu46 hP hD hS => ?_)
                obtain ⟨hq46, hO⟩ := hu46
                have hP : va_P g.1 vcl ([(h0, .inr (8, [.int (nI 0), .int (nI tp), .int (nI rs), .int (nI ks), .ref mt, .ref mr_, .ref mk, .ref mo, .ref mh, .ref mse, .ref mhs, .ref msp, .ref msc, .ref mha])), (mse, .inl (g.2.1 0, 8, .inl fS))] ++ pl) _ := hP
                have hD : va_D _ ([(h0, .inr (8, [.int (nI 0), .int (nI tp), .int (nI rs), .int (nI ks), .ref mt, .ref mr_, .ref mk, .ref mo, .ref mh, .ref mse, .ref mhs, .ref msp, .ref msc, .ref mha])), (mse, .inl (g.2.1 0, 8, .inl fS))] ++ pl) := hD
                obtain rfl := hq46
                refine W.widen (k := 0) (n := 0) (by omega) (by omega) ?_
                refine mi_ge (tgt := 168) hx hb dM_load_138 (by decide) (by omega) (by omega) (fun h71 => ?_) (fun h71 => absurd h71 (by omega))
                refine lv_iconst (v := nI 0) hx hb dM_load_168 (by decide) ?_
                refine lv_istore (lv' := [(4, .int (nI 0)), (3, .int (nI 0)), (0, .ref h0), (1, .int (nI 3)), (2, .int (nI 0))]) hx hb dM_load_169 hl (by decide) rfl (fun ls hl => ?_)
                refine lv_iload_n hx hb dM_load_171 rfl (lv_at hl 4 rfl) ?_
                refine lv_if_eq (tgt := 209) hx hb dM_load_172 (by decide) (fun h72 => ?_) (fun h72 => absurd h72 (by decide))
                refine lv_aload_n hx hb dM_load_209 rfl (lv_at hl 2 rfl) ?_
                refine lv_iload_n hx hb dM_load_210 rfl (lv_at hl 3 rfl) ?_
                refine lv_iload_n hx hb dM_load_211 rfl (lv_at hl 4 rfl) ?_
                refine lv_if_eq (tgt := 222) hx hb dM_load_212 (by decide) (fun h73 => ?_) (fun h73 => absurd h73 (by decide))
                refine lv_iconst (v := nI 0) hx hb dM_load_222 (by decide) ?_
                refine mp_i (cx := [(h0, .inr (8, [.int (nI 0), .int (nI tp), .int (nI rs), .int (nI ks), .ref mt, .ref mr_, .ref mk, .ref mo, .ref mh, .ref mse, .ref mhs, .ref msp, .ref msc, .ref mha])), (mse, .inl (g.2.1 0, 8, .inl fS))]) (wr := []) hP hD hS hA [0, 1] [] rfl rfl rfl (by decide) (va_runV (As := [.int (nI 3), .int (nI 0)]) (rest := []) F (t_M_made l g _ T  pl hO hU  3 0 h0 mt mr_ mk mo mh mse mhs msp msc mha tp rs ks (nI 0) fS k_mt k_mr_ k_mk k_mo k_mh k_mhs k_msp k_msc k_mha (by omega) hS5 (by omega) (by omega) (by omega)) (cwV 2 hts (wg_app (wg_c kw_1756 (wg_c kw_1758 (wg_c ks_64 (wg_c kw_9 wg_n)))) kw_1759) rfl rfl rfl (by decide +kernel) ⟨by decide, by decide⟩) (pp_V (en_ok g) (q0 := 0) hK hP hD hS hA hE [0, 1] rfl rfl rfl rfl) rfl rfl hl.1 rfl (lv_room (Nat.le_of_ble_eq_true rfl)) dM_load_223 ⟨by omega, by omega⟩) (fun r50 u45 H locs hu47 hP hD hS => ?_)
                obtain ⟨u46, pl⟩ := u45
                obtain ⟨hq47, hO⟩ := hu47
                obtain ⟨th33, tp33, rs33, ks33, fS33⟩ := u46
                have hP : va_P g.1 vcl ([(h0, .inr (8, [.int th33, .int (nI tp33), .int (nI rs33), .int (nI ks33), .ref mt, .ref mr_, .ref mk, .ref mo, .ref mh, .ref mse, .ref mhs, .ref msp, .ref msc, .ref mha])), (mse, .inl (g.2.1 0, 8, .inl fS33))] ++ pl) _ := hP
                have hD : va_D _ ([(h0, .inr (8, [.int th33, .int (nI tp33), .int (nI rs33), .int (nI ks33), .ref mt, .ref mr_, .ref mk, .ref mo, .ref mh, .ref mse, .ref mhs, .ref msp, .ref msc, .ref mha])), (mse, .inl (g.2.1 0, 8, .inl fS33))] ++ pl) := hD
                obtain ⟨hm85, hm86, hm87, hm88⟩ := hq47
                have hm85 : tp33 ≤ 16384 := hm85
                have hm86 : rs33 ≤ 8192 := hm86
                have hm87 : ks33 ≤ 8 := hm87
                refine W.widen (k := 0) (n := 0) (by omega) (by omega) ?_
                exact mp_iret hx hb hr hlk hP hD hS ((th33, tp33, rs33, ks33, fS33), pl) ⟨⟨(by show tp33 ≤ 16384; omega), (by show rs33 ≤ 8192; omega), (by show ks33 ≤ 8; omega), hm88⟩, hO⟩ [0, 1] rfl rfl rfl (by omega) (by omega) dM_load_226
              | succ n24 ih24 =>
                intro i24 pl ls H locs hm84  hl hO hP hD hS
                refine lv_iload hx hb dM_load_132 (lv_at hl 0 rfl) ?_
                refine lv_iload_n hx hb dM_load_134 rfl (lv_at hl 3 rfl) ?_
                refine mp_i (cx := []) (wr := [(h0, .inr (8, [.int (nI 0), .int (nI tp), .int (nI rs), .int (nI ks), .ref mt, .ref mr_, .ref mk, .ref mo, .ref mh, .ref mse, .ref mhs, .ref msp, .ref msc, .ref mha])), (mse, .inl (g.2.1 0, 8, .inl fS))]) hP hD hS hA [] [0, 1] rfl rfl rfl (by decide) (va_runS (As := [.int (nI 3)]) (rest := [.int (nI i24)]) F (t_M_openSize_3 l g _ T [] pl hO hU  ) (va_cwS 1 hts (wg_app (wg_c kw_1764 (wg_c kw_1765 (wg_c kw_9 wg_n))) kw_1766) rfl rfl rfl (by decide +kernel) ⟨by decide, by decide⟩) (pp_S (en_ok g) hP hD hS hA hE [] rfl rfl) rfl rfl hl.1 rfl (lv_room (Nat.le_of_ble_eq_true rfl)) dM_load_135 ⟨by omega, by omega⟩) (fun r51 pl H locs hu48 hP hD hS => ?_)
                obtain ⟨hq48, hO⟩ := hu48
                have hP : va_P g.1 vcl ([(h0, .inr (8, [.int (nI 0), .int (nI tp), .int (nI rs), .int (nI ks), .ref mt, .ref mr_, .ref mk, .ref mo, .ref mh, .ref mse, .ref mhs, .ref msp, .ref msc, .ref mha])), (mse, .inl (g.2.1 0, 8, .inl fS))] ++ pl) _ := hP
                have hD : va_D _ ([(h0, .inr (8, [.int (nI 0), .int (nI tp), .int (nI rs), .int (nI ks), .ref mt, .ref mr_, .ref mk, .ref mo, .ref mh, .ref mse, .ref mhs, .ref msp, .ref msc, .ref mha])), (mse, .inl (g.2.1 0, 8, .inl fS))] ++ pl) := hD
                obtain rfl := hq48
                refine W.widen (k := 0) (n := 0) (by omega) (by omega) ?_
                refine mi_ge (tgt := 168) hx hb dM_load_138 (by decide) (by omega) (by omega) (fun h74 => absurd h74 (by omega)) (fun h74 => ?_)
                refine lv_aload_n hx hb dM_load_141 rfl (lv_at hl 2 rfl) ?_
                refine va_get (D := g.1) (ci := 8) (C := "LatticeKeysModel") (T := T_M) (N := 14) hx hb hts (wg_ft i_M) hown hK hP 0 rfl rfl 7 (by decide) (hts _ (wg_t kw_1533)) (fun _ h9 => h9) rfl dM_load_142 ?_
                refine lv_aload_n hx hb dM_load_145 rfl (lv_at hl 2 rfl) ?_
                refine va_get (D := g.1) (ci := 8) (C := "LatticeKeysModel") (T := T_M) (N := 14) hx hb hts (wg_ft i_M) hown hK hP 0 rfl rfl 3 (by decide) (hts _ (wg_t kw_1529)) (fun _ h9 => h9) rfl dM_load_146 ?_
                refine ty_aald4 hx hb hK hO k_mo (nxg clo_nil k_mo rfl) hP (by omega) dM_load_149 (fun r52 kr24 => ?_)
                refine lv_iload hx hb dM_load_150 (lv_at hl 0 rfl) ?_
                refine lv_aload_n hx hb dM_load_152 rfl (lv_at hl 2 rfl) ?_
                refine va_get (D := g.1) (ci := 8) (C := "LatticeKeysModel") (T := T_M) (N := 14) hx hb hts (wg_ft i_M) hown hK hP 0 rfl rfl 4 (by decide) (hts _ (wg_t kw_1530)) (fun _ h9 => h9) rfl dM_load_153 ?_
                refine lv_iload_n hx hb dM_load_156 rfl (lv_at hl 1 rfl) ?_
                refine lv_iload hx hb dM_load_157 (lv_at hl 0 rfl) ?_
                refine mi_iadd hx hb dM_load_159 ?_
                refine ty_bald hx hb hK hO k_mt (nxg clo_nil k_mt rfl) hP (vp_in_nI (by omega) (by decide)) dM_load_160 (fun z24 => ?_)
                refine ty_bast hx hb hK hO kr24 (nxg clo_nil kr24 rfl) hP hD hS (vp_in_nI (by omega) (by decide)) dM_load_161 (fun pl H locs hO hP hD hS => ?_)
                refine mi_iinc (k := 0) (x := i24) (d := 1) (y := i24 + 1) (lv' := [(4, .int (nI (i24 + 1))), (3, .int (nI 0)), (0, .ref h0), (1, .int (nI 3)), (2, .int (nI 0))]) hx hb dM_load_162 hl rfl (by decide) rfl (by decide) rfl (fun ls hl => ?_)
                refine lv_goto (tgt := 132) hx hb dM_load_165 (by decide) ?_
                exact ih24 (i24 + 1) pl ls H locs (by omega) (lv_sub hl [0, 1, 2, 3, 4] rfl) hO hP hD hS
            exact lp24 1312 0 pl ls _ _ (by omega) (lv_sub hl [0, 1, 2, 3, 4] rfl) hO hP hD hS
          · refine lv_aload_n hx hb dM_load_107 rfl (lv_at hl 0 rfl) ?_
            refine lv_iconst (v := nI 3) hx hb dM_load_108 (by decide) ?_
            refine mp_i (cx := [(h0, .inr (8, [.int (nI 0), .int (nI tp), .int (nI rs), .int (nI ks), .ref mt, .ref mr_, .ref mk, .ref mo, .ref mh, .ref mse, .ref mhs, .ref msp, .ref msc, .ref mha])), (mse, .inl (g.2.1 0, 8, .inl fS))]) (wr := []) hP hD hS hA [0, 1] [] rfl rfl rfl (by decide) (va_runV (As := [.int (nI 3)]) (rest := []) F (t_M_fail l g _ T  pl hO hU  (nI 3) h0 mt mr_ mk mo mh mse mhs msp msc mha tp rs ks (nI 0) fS k_mt k_mr_ k_mk k_mo k_mh k_mhs k_msp k_msc k_mha (by omega) hS5) (cwV 1 hts (wg_app (wg_c kw_1577 (wg_c kw_1579 (wg_c ks_50 (wg_c kw_9 wg_n)))) kw_1580) rfl rfl rfl (by decide +kernel) ⟨by decide, by decide⟩) (pp_V (en_ok g) (q0 := 0) hK hP hD hS hA hE [0, 1] rfl rfl rfl rfl) rfl rfl hl.1 rfl (lv_room (Nat.le_of_ble_eq_true rfl)) dM_load_109 ⟨by omega, by omega⟩) (fun r53 u47 H locs hu49 hP hD hS => ?_)
            obtain ⟨u48, pl⟩ := u47
            obtain ⟨hq49, hO⟩ := hu49
            obtain ⟨th34, tp34, rs34, ks34, fS34⟩ := u48
            have hP : va_P g.1 vcl ([(h0, .inr (8, [.int th34, .int (nI tp34), .int (nI rs34), .int (nI ks34), .ref mt, .ref mr_, .ref mk, .ref mo, .ref mh, .ref mse, .ref mhs, .ref msp, .ref msc, .ref mha])), (mse, .inl (g.2.1 0, 8, .inl fS34))] ++ pl) _ := hP
            have hD : va_D _ ([(h0, .inr (8, [.int th34, .int (nI tp34), .int (nI rs34), .int (nI ks34), .ref mt, .ref mr_, .ref mk, .ref mo, .ref mh, .ref mse, .ref mhs, .ref msp, .ref msc, .ref mha])), (mse, .inl (g.2.1 0, 8, .inl fS34))] ++ pl) := hD
            obtain ⟨-, -, -, hm93, hm94⟩ := hq49
            obtain ⟨he66, he67, he68, he69, he70⟩ := hm94
            have he66 : th34 = nI 3 := he66
            have he67 : tp34 = tp := he67
            have he68 : rs34 = rs := he68
            have he69 : ks34 = ks := he69
            obtain rfl := he70
            refine W.widen (k := 0) (n := 0) (by omega) (by omega) ?_
            exact mp_iret hx hb hr hlk hP hD hS ((th34, tp34, rs34, ks34, fS34), pl) ⟨⟨(by show tp34 ≤ 16384; omega), (by show rs34 ≤ 8192; omega), (by show ks34 ≤ 8; omega), hm93⟩, hO⟩ [0, 1] rfl rfl rfl (by omega) (by omega) dM_load_112
        · refine lv_aload_n hx hb dM_load_44 rfl (lv_at hl 0 rfl) ?_
          refine lv_iconst (v := nI 1) hx hb dM_load_45 (by decide) ?_
          refine mp_i (cx := [(h0, .inr (8, [.int (nI 0), .int (nI tp), .int (nI rs), .int (nI ks), .ref mt, .ref mr_, .ref mk, .ref mo, .ref mh, .ref mse, .ref mhs, .ref msp, .ref msc, .ref mha])), (mse, .inl (g.2.1 0, 8, .inl fS))]) (wr := []) hP hD hS hA [0, 1] [] rfl rfl rfl (by decide) (va_runV (As := [.int (nI 1)]) (rest := []) F (t_M_fail l g _ T  pl hO hU  (nI 1) h0 mt mr_ mk mo mh mse mhs msp msc mha tp rs ks (nI 0) fS k_mt k_mr_ k_mk k_mo k_mh k_mhs k_msp k_msc k_mha (by omega) hS5) (cwV 1 hts (wg_app (wg_c kw_1577 (wg_c kw_1579 (wg_c ks_50 (wg_c kw_9 wg_n)))) kw_1580) rfl rfl rfl (by decide +kernel) ⟨by decide, by decide⟩) (pp_V (en_ok g) (q0 := 0) hK hP hD hS hA hE [0, 1] rfl rfl rfl rfl) rfl rfl hl.1 rfl (lv_room (Nat.le_of_ble_eq_true rfl)) dM_load_46 ⟨by omega, by omega⟩) (fun r54 u49 H locs hu50 hP hD hS => ?_)
          obtain ⟨u50, pl⟩ := u49
          obtain ⟨hq50, hO⟩ := hu50
          obtain ⟨th35, tp35, rs35, ks35, fS35⟩ := u50
          have hP : va_P g.1 vcl ([(h0, .inr (8, [.int th35, .int (nI tp35), .int (nI rs35), .int (nI ks35), .ref mt, .ref mr_, .ref mk, .ref mo, .ref mh, .ref mse, .ref mhs, .ref msp, .ref msc, .ref mha])), (mse, .inl (g.2.1 0, 8, .inl fS35))] ++ pl) _ := hP
          have hD : va_D _ ([(h0, .inr (8, [.int th35, .int (nI tp35), .int (nI rs35), .int (nI ks35), .ref mt, .ref mr_, .ref mk, .ref mo, .ref mh, .ref mse, .ref mhs, .ref msp, .ref msc, .ref mha])), (mse, .inl (g.2.1 0, 8, .inl fS35))] ++ pl) := hD
          obtain ⟨-, -, -, hm98, hm99⟩ := hq50
          obtain ⟨he71, he72, he73, he74, he75⟩ := hm99
          have he71 : th35 = nI 1 := he71
          have he72 : tp35 = tp := he72
          have he73 : rs35 = rs := he73
          have he74 : ks35 = ks := he74
          obtain rfl := he75
          refine W.widen (k := 0) (n := 0) (by omega) (by omega) ?_
          exact mp_iret hx hb hr hlk hP hD hS ((th35, tp35, rs35, ks35, fS35), pl) ⟨⟨(by show tp35 ≤ 16384; omega), (by show rs35 ≤ 8192; omega), (by show ks35 ≤ 8; omega), hm98⟩, hO⟩ [0, 1] rfl rfl rfl (by omega) (by omega) dM_load_49
      | 4, _ =>
        refine lv_iload_n hx hb dM_load_5 rfl (lv_at hl 1 rfl) ?_
        refine lv_if_lt (tgt := 44) hx hb dM_load_6 (by decide) (fun h75 => absurd h75 (by decide)) (fun h75 => ?_)
        refine lv_iload_n hx hb dM_load_9 rfl (lv_at hl 1 rfl) ?_
        refine lv_iload_n hx hb dM_load_10 rfl (lv_at hl 2 rfl) ?_
        refine lv_if_eq (tgt := 18) hx hb dM_load_11 (by decide) (fun h76 => ?_) (fun h76 => absurd h76 (by decide))
        refine lv_iconst (v := nI 5) hx hb dM_load_18 (by decide) ?_
        refine mi_gt (tgt := 44) hx hb dM_load_19 (by decide) (by omega) (by omega) (fun h77 => absurd h77 (by omega)) (fun h77 => ?_)
        refine lv_aload_n hx hb dM_load_22 rfl (lv_at hl 0 rfl) ?_
        refine va_get (D := g.1) (ci := 8) (C := "LatticeKeysModel") (T := T_M) (N := 14) hx hb hts (wg_ft i_M) hown hK hP 0 rfl rfl 1 (by decide) (hts _ (wg_t kw_1527)) (fun _ h9 => h9) rfl dM_load_23 ?_
        refine lv_iload_n hx hb dM_load_26 rfl (lv_at hl 2 rfl) ?_
        refine lv_if_eq (tgt := 37) hx hb dM_load_27 (by decide) (fun h78 => ?_) (fun h78 => absurd h78 (by decide))
        refine lv_iload_n hx hb dM_load_37 rfl (lv_at hl 1 rfl) ?_
        refine mp_i (cx := []) (wr := [(h0, .inr (8, [.int (nI 0), .int (nI tp), .int (nI rs), .int (nI ks), .ref mt, .ref mr_, .ref mk, .ref mo, .ref mh, .ref mse, .ref mhs, .ref msp, .ref msc, .ref mha])), (mse, .inl (g.2.1 0, 8, .inl fS))]) hP hD hS hA [] [0, 1] rfl rfl rfl (by decide) (va_runS (As := [.int (nI 4)]) (rest := [.int (nI tp)]) F (t_M_openSize_4 l g _ T [] pl hO hU  ) (va_cwS 1 hts (wg_app (wg_c kw_1764 (wg_c kw_1765 (wg_c kw_9 wg_n))) kw_1766) rfl rfl rfl (by decide +kernel) ⟨by decide, by decide⟩) (pp_S (en_ok g) hP hD hS hA hE [] rfl rfl) rfl rfl hl.1 rfl (lv_room (Nat.le_of_ble_eq_true rfl)) dM_load_38 ⟨by omega, by omega⟩) (fun r55 pl H locs hu51 hP hD hS => ?_)
        obtain ⟨hq51, hO⟩ := hu51
        have hP : va_P g.1 vcl ([(h0, .inr (8, [.int (nI 0), .int (nI tp), .int (nI rs), .int (nI ks), .ref mt, .ref mr_, .ref mk, .ref mo, .ref mh, .ref mse, .ref mhs, .ref msp, .ref msc, .ref mha])), (mse, .inl (g.2.1 0, 8, .inl fS))] ++ pl) _ := hP
        have hD : va_D _ ([(h0, .inr (8, [.int (nI 0), .int (nI tp), .int (nI rs), .int (nI ks), .ref mt, .ref mr_, .ref mk, .ref mo, .ref mh, .ref mse, .ref mhs, .ref msp, .ref msc, .ref mha])), (mse, .inl (g.2.1 0, 8, .inl fS))] ++ pl) := hD
        obtain rfl := hq51
        refine W.widen (k := 0) (n := 0) (by omega) (by omega) ?_
        refine mi_eq (tgt := 50) hx hb dM_load_41 (by decide) (by omega) (by omega) (fun h79 => ?_) (fun h79 => ?_)
        · refine lv_iload_n hx hb dM_load_50 rfl (lv_at hl 1 rfl) ?_
          refine lv_iconst (v := nI 3) hx hb dM_load_51 (by decide) ?_
          refine mi_ge (tgt := 98) hx hb dM_load_52 (by decide) (by omega) (by omega) (fun h80 => ?_) (fun h80 => absurd h80 (by omega))
          refine lv_aload_n hx hb dM_load_98 rfl (lv_at hl 0 rfl) ?_
          refine va_get (D := g.1) (ci := 8) (C := "LatticeKeysModel") (T := T_M) (N := 14) hx hb hts (wg_ft i_M) hown hK hP 0 rfl rfl 3 (by decide) (hts _ (wg_t kw_1529)) (fun _ h9 => h9) rfl dM_load_99 ?_
          refine lv_bipush (v := nI 8) hx hb dM_load_102 (by decide) ?_
          refine mi_ne (tgt := 113) hx hb dM_load_104 (by decide) (by omega) (by omega) (fun h81 => ?_) (fun h81 => ?_)
          · refine lv_iload_n hx hb dM_load_113 rfl (lv_at hl 2 rfl) ?_
            refine lv_if_eq (tgt := 127) hx hb dM_load_114 (by decide) (fun h82 => ?_) (fun h82 => absurd h82 (by decide))
            refine lv_iconst (v := nI 0) hx hb dM_load_127 (by decide) ?_
            refine lv_istore_n (lv' := [(3, .int (nI 0)), (0, .ref h0), (1, .int (nI 4)), (2, .int (nI 0))]) hx hb dM_load_128 rfl hl (by decide) rfl (fun ls hl => ?_)
            refine lv_iconst (v := nI 0) hx hb dM_load_129 (by decide) ?_
            refine lv_istore (lv' := [(4, .int (nI 0)), (3, .int (nI 0)), (0, .ref h0), (1, .int (nI 4)), (2, .int (nI 0))]) hx hb dM_load_130 hl (by decide) rfl (fun ls hl => ?_)
            have lp25 : ∀ (n25 : Nat) (i25 : Nat) (pl : va_W) (ls : Array Slot) (H : Heap) (locs : List Loc), n25 + i25 = 1952 → lv_has ls 5 [(4, .int (nI i25)), (3, .int (nI 0)), (0, .ref h0), (1, .int (nI 4)), (2, .int (nI 0))] → okx g T [] pl → va_P g.1 vcl ([(h0, .inr (8, [.int (nI 0), .int (nI tp), .int (nI rs), .int (nI ks), .ref mt, .ref mr_, .ref mk, .ref mo, .ref mh, .ref mse, .ref mhs, .ref msp, .ref msc, .ref mha])), (mse, .inl (g.2.1 0, 8, .inl fS))] ++ pl) H → va_D A ([(h0, .inr (8, [.int (nI 0), .int (nI tp), .int (nI rs), .int (nI ks), .ref mt, .ref mr_, .ref mk, .ref mo, .ref mh, .ref mse, .ref mhs, .ref msp, .ref msc, .ref mha])), (mse, .inl (g.2.1 0, 8, .inl fS))] ++ pl) → va_S A s.heap H locs → W p l e ({ frames := 6, cells := 0, slots := 0, locals := 147 } : Room) s m args below meth c H locs 0 0 (MQ below (va_Qi (fun (r : Int32) (u : (Int32 × Nat × Nat × Nat × (Nat → Int32)) × va_W) => (u.1.2.1 ≤ 16384 ∧ u.1.2.2.1 ≤ 8192 ∧ u.1.2.2.2.1 ≤ 8 ∧ s5 u.1.2.2.2.2) ∧ okx g T [] u.2) (po g.1 vcl A (fun (u : (Int32 × Nat × Nat × Nat × (Nat → Int32)) × va_W) => [(h0, .inr (8, [.int u.1.1, .int (nI (u.1.2.1)), .int (nI (u.1.2.2.1)), .int (nI (u.1.2.2.2.1)), .ref mt, .ref mr_, .ref mk, .ref mo, .ref mh, .ref mse, .ref mhs, .ref msp, .ref msc, .ref mha])), (mse, .inl (g.2.1 0, 8, .inl ((u.1.2.2.2.2))))] ++ u.2)) A) args s 0 0 A) (F0 m 132 ls []) := by
              intro n25
              induction n25 with
              | zero =>
                intro i25 pl ls H locs hm100  hl hO hP hD hS
                refine lv_iload hx hb dM_load_132 (lv_at hl 0 rfl) ?_
                refine lv_iload_n hx hb dM_load_134 rfl (lv_at hl 3 rfl) ?_
                refine mp_i (cx := []) (wr := [(h0, .inr (8, [.int (nI 0), .int (nI tp), .int (nI rs), .int (nI ks), .ref mt, .ref mr_, .ref mk, .ref mo, .ref mh, .ref mse, .ref mhs, .ref msp, .ref msc, .ref mha])), (mse, .inl (g.2.1 0, 8, .inl fS))]) hP hD hS hA [] [0, 1] rfl rfl rfl (by decide) (va_runS (As := [.int (nI 4)]) (rest := [.int (nI i25)]) F (t_M_openSize_4 l g _ T [] pl hO hU  ) (va_cwS 1 hts (wg_app (wg_c kw_1764 (wg_c kw_1765 (wg_c kw_9 wg_n))) kw_1766) rfl rfl rfl (by decide +kernel) ⟨by decide, by decide⟩) (pp_S (en_ok g) hP hD hS hA hE [] rfl rfl) rfl rfl hl.1 rfl (lv_room (Nat.le_of_ble_eq_true rfl)) dM_load_135 ⟨by omega, by omega⟩) (fun r56 pl H locs hu52 hP hD hS => ?_)
                obtain ⟨hq52, hO⟩ := hu52
                have hP : va_P g.1 vcl ([(h0, .inr (8, [.int (nI 0), .int (nI tp), .int (nI rs), .int (nI ks), .ref mt, .ref mr_, .ref mk, .ref mo, .ref mh, .ref mse, .ref mhs, .ref msp, .ref msc, .ref mha])), (mse, .inl (g.2.1 0, 8, .inl fS))] ++ pl) _ := hP
                have hD : va_D _ ([(h0, .inr (8, [.int (nI 0), .int (nI tp), .int (nI rs), .int (nI ks), .ref mt, .ref mr_, .ref mk, .ref mo, .ref mh, .ref mse, .ref mhs, .ref msp, .ref msc, .ref mha])), (mse, .inl (g.2.1 0, 8, .inl fS))] ++ pl) := hD
                obtain rfl := hq52
                refine W.widen (k := 0) (n := 0) (by omega) (by omega) ?_
                refine mi_ge (tgt := 168) hx hb dM_load_138 (by decide) (by omega) (by omega) (fun h83 => ?_) (fun h83 => absurd h83 (by omega))
                refine lv_iconst (v := nI 0) hx hb dM_load_168 (by decide) ?_
                refine lv_istore (lv' := [(4, .int (nI 0)), (3, .int (nI 0)), (0, .ref h0), (1, .int (nI 4)), (2, .int (nI 0))]) hx hb dM_load_169 hl (by decide) rfl (fun ls hl => ?_)
                refine lv_iload_n hx hb dM_load_171 rfl (lv_at hl 4 rfl) ?_
                refine lv_if_eq (tgt := 209) hx hb dM_load_172 (by decide) (fun h84 => ?_) (fun h84 => absurd h84 (by decide))
                refine lv_aload_n hx hb dM_load_209 rfl (lv_at hl 2 rfl) ?_
                refine lv_iload_n hx hb dM_load_210 rfl (lv_at hl 3 rfl) ?_
                refine lv_iload_n hx hb dM_load_211 rfl (lv_at hl 4 rfl) ?_
                refine lv_if_eq (tgt := 222) hx hb dM_load_212 (by decide) (fun h85 => ?_) (fun h85 => absurd h85 (by decide))
                refine lv_iconst (v := nI 0) hx hb dM_load_222 (by decide) ?_
                refine mp_i (cx := [(h0, .inr (8, [.int (nI 0), .int (nI tp), .int (nI rs), .int (nI ks), .ref mt, .ref mr_, .ref mk, .ref mo, .ref mh, .ref mse, .ref mhs, .ref msp, .ref msc, .ref mha])), (mse, .inl (g.2.1 0, 8, .inl fS))]) (wr := []) hP hD hS hA [0, 1] [] rfl rfl rfl (by decide) (va_runV (As := [.int (nI 4), .int (nI 0)]) (rest := []) F (t_M_made l g _ T  pl hO hU  4 0 h0 mt mr_ mk mo mh mse mhs msp msc mha tp rs ks (nI 0) fS k_mt k_mr_ k_mk k_mo k_mh k_mhs k_msp k_msc k_mha (by omega) hS5 (by omega) (by omega) (by omega)) (cwV 2 hts (wg_app (wg_c kw_1756 (wg_c kw_1758 (wg_c ks_64 (wg_c kw_9 wg_n)))) kw_1759) rfl rfl rfl (by decide +kernel) ⟨by decide, by decide⟩) (pp_V (en_ok g) (q0 := 0) hK hP hD hS hA hE [0, 1] rfl rfl rfl rfl) rfl rfl hl.1 rfl (lv_room (Nat.le_of_ble_eq_true rfl)) dM_load_223 ⟨by omega, by omega⟩) (fun r57 u51 H locs hu53 hP hD hS => ?_)
                obtain ⟨u52, pl⟩ := u51
                obtain ⟨hq53, hO⟩ := hu53
                obtain ⟨th36, tp36, rs36, ks36, fS36⟩ := u52
                have hP : va_P g.1 vcl ([(h0, .inr (8, [.int th36, .int (nI tp36), .int (nI rs36), .int (nI ks36), .ref mt, .ref mr_, .ref mk, .ref mo, .ref mh, .ref mse, .ref mhs, .ref msp, .ref msc, .ref mha])), (mse, .inl (g.2.1 0, 8, .inl fS36))] ++ pl) _ := hP
                have hD : va_D _ ([(h0, .inr (8, [.int th36, .int (nI tp36), .int (nI rs36), .int (nI ks36), .ref mt, .ref mr_, .ref mk, .ref mo, .ref mh, .ref mse, .ref mhs, .ref msp, .ref msc, .ref mha])), (mse, .inl (g.2.1 0, 8, .inl fS36))] ++ pl) := hD
                obtain ⟨hm101, hm102, hm103, hm104⟩ := hq53
                have hm101 : tp36 ≤ 16384 := hm101
                have hm102 : rs36 ≤ 8192 := hm102
                have hm103 : ks36 ≤ 8 := hm103
                refine W.widen (k := 0) (n := 0) (by omega) (by omega) ?_
                exact mp_iret hx hb hr hlk hP hD hS ((th36, tp36, rs36, ks36, fS36), pl) ⟨⟨(by show tp36 ≤ 16384; omega), (by show rs36 ≤ 8192; omega), (by show ks36 ≤ 8; omega), hm104⟩, hO⟩ [0, 1] rfl rfl rfl (by omega) (by omega) dM_load_226
              | succ n25 ih25 =>
                intro i25 pl ls H locs hm100  hl hO hP hD hS
                refine lv_iload hx hb dM_load_132 (lv_at hl 0 rfl) ?_
                refine lv_iload_n hx hb dM_load_134 rfl (lv_at hl 3 rfl) ?_
                refine mp_i (cx := []) (wr := [(h0, .inr (8, [.int (nI 0), .int (nI tp), .int (nI rs), .int (nI ks), .ref mt, .ref mr_, .ref mk, .ref mo, .ref mh, .ref mse, .ref mhs, .ref msp, .ref msc, .ref mha])), (mse, .inl (g.2.1 0, 8, .inl fS))]) hP hD hS hA [] [0, 1] rfl rfl rfl (by decide) (va_runS (As := [.int (nI 4)]) (rest := [.int (nI i25)]) F (t_M_openSize_4 l g _ T [] pl hO hU  ) (va_cwS 1 hts (wg_app (wg_c kw_1764 (wg_c kw_1765 (wg_c kw_9 wg_n))) kw_1766) rfl rfl rfl (by decide +kernel) ⟨by decide, by decide⟩) (pp_S (en_ok g) hP hD hS hA hE [] rfl rfl) rfl rfl hl.1 rfl (lv_room (Nat.le_of_ble_eq_true rfl)) dM_load_135 ⟨by omega, by omega⟩) (fun r58 pl H locs hu54 hP hD hS => ?_)
                obtain ⟨hq54, hO⟩ := hu54
                have hP : va_P g.1 vcl ([(h0, .inr (8, [.int (nI 0), .int (nI tp), .int (nI rs), .int (nI ks), .ref mt, .ref mr_, .ref mk, .ref mo, .ref mh, .ref mse, .ref mhs, .ref msp, .ref msc, .ref mha])), (mse, .inl (g.2.1 0, 8, .inl fS))] ++ pl) _ := hP
                have hD : va_D _ ([(h0, .inr (8, [.int (nI 0), .int (nI tp), .int (nI rs), .int (nI ks), .ref mt, .ref mr_, .ref mk, .ref mo, .ref mh, .ref mse, .ref mhs, .ref msp, .ref msc, .ref mha])), (mse, .inl (g.2.1 0, 8, .inl fS))] ++ pl) := hD
                obtain rfl := hq54
                refine W.widen (k := 0) (n := 0) (by omega) (by omega) ?_
                refine mi_ge (tgt := 168) hx hb dM_load_138 (by decide) (by omega) (by omega) (fun h86 => absurd h86 (by omega)) (fun h86 => ?_)
                refine lv_aload_n hx hb dM_load_141 rfl (lv_at hl 2 rfl) ?_
                refine va_get (D := g.1) (ci := 8) (C := "LatticeKeysModel") (T := T_M) (N := 14) hx hb hts (wg_ft i_M) hown hK hP 0 rfl rfl 7 (by decide) (hts _ (wg_t kw_1533)) (fun _ h9 => h9) rfl dM_load_142 ?_
                refine lv_aload_n hx hb dM_load_145 rfl (lv_at hl 2 rfl) ?_
                refine va_get (D := g.1) (ci := 8) (C := "LatticeKeysModel") (T := T_M) (N := 14) hx hb hts (wg_ft i_M) hown hK hP 0 rfl rfl 3 (by decide) (hts _ (wg_t kw_1529)) (fun _ h9 => h9) rfl dM_load_146 ?_
                refine ty_aald4 hx hb hK hO k_mo (nxg clo_nil k_mo rfl) hP (by omega) dM_load_149 (fun r59 kr25 => ?_)
                refine lv_iload hx hb dM_load_150 (lv_at hl 0 rfl) ?_
                refine lv_aload_n hx hb dM_load_152 rfl (lv_at hl 2 rfl) ?_
                refine va_get (D := g.1) (ci := 8) (C := "LatticeKeysModel") (T := T_M) (N := 14) hx hb hts (wg_ft i_M) hown hK hP 0 rfl rfl 4 (by decide) (hts _ (wg_t kw_1530)) (fun _ h9 => h9) rfl dM_load_153 ?_
                refine lv_iload_n hx hb dM_load_156 rfl (lv_at hl 1 rfl) ?_
                refine lv_iload hx hb dM_load_157 (lv_at hl 0 rfl) ?_
                refine mi_iadd hx hb dM_load_159 ?_
                refine ty_bald hx hb hK hO k_mt (nxg clo_nil k_mt rfl) hP (vp_in_nI (by omega) (by decide)) dM_load_160 (fun z25 => ?_)
                refine ty_bast hx hb hK hO kr25 (nxg clo_nil kr25 rfl) hP hD hS (vp_in_nI (by omega) (by decide)) dM_load_161 (fun pl H locs hO hP hD hS => ?_)
                refine mi_iinc (k := 0) (x := i25) (d := 1) (y := i25 + 1) (lv' := [(4, .int (nI (i25 + 1))), (3, .int (nI 0)), (0, .ref h0), (1, .int (nI 4)), (2, .int (nI 0))]) hx hb dM_load_162 hl rfl (by decide) rfl (by decide) rfl (fun ls hl => ?_)
                refine lv_goto (tgt := 132) hx hb dM_load_165 (by decide) ?_
                exact ih25 (i25 + 1) pl ls H locs (by omega) (lv_sub hl [0, 1, 2, 3, 4] rfl) hO hP hD hS
            exact lp25 1952 0 pl ls _ _ (by omega) (lv_sub hl [0, 1, 2, 3, 4] rfl) hO hP hD hS
          · refine lv_aload_n hx hb dM_load_107 rfl (lv_at hl 0 rfl) ?_
            refine lv_iconst (v := nI 3) hx hb dM_load_108 (by decide) ?_
            refine mp_i (cx := [(h0, .inr (8, [.int (nI 0), .int (nI tp), .int (nI rs), .int (nI ks), .ref mt, .ref mr_, .ref mk, .ref mo, .ref mh, .ref mse, .ref mhs, .ref msp, .ref msc, .ref mha])), (mse, .inl (g.2.1 0, 8, .inl fS))]) (wr := []) hP hD hS hA [0, 1] [] rfl rfl rfl (by decide) (va_runV (As := [.int (nI 3)]) (rest := []) F (t_M_fail l g _ T  pl hO hU  (nI 3) h0 mt mr_ mk mo mh mse mhs msp msc mha tp rs ks (nI 0) fS k_mt k_mr_ k_mk k_mo k_mh k_mhs k_msp k_msc k_mha (by omega) hS5) (cwV 1 hts (wg_app (wg_c kw_1577 (wg_c kw_1579 (wg_c ks_50 (wg_c kw_9 wg_n)))) kw_1580) rfl rfl rfl (by decide +kernel) ⟨by decide, by decide⟩) (pp_V (en_ok g) (q0 := 0) hK hP hD hS hA hE [0, 1] rfl rfl rfl rfl) rfl rfl hl.1 rfl (lv_room (Nat.le_of_ble_eq_true rfl)) dM_load_109 ⟨by omega, by omega⟩) (fun r60 u53 H locs hu55 hP hD hS => ?_)
            obtain ⟨u54, pl⟩ := u53
            obtain ⟨hq55, hO⟩ := hu55
            obtain ⟨th37, tp37, rs37, ks37, fS37⟩ := u54
            have hP : va_P g.1 vcl ([(h0, .inr (8, [.int th37, .int (nI tp37), .int (nI rs37), .int (nI ks37), .ref mt, .ref mr_, .ref mk, .ref mo, .ref mh, .ref mse, .ref mhs, .ref msp, .ref msc, .ref mha])), (mse, .inl (g.2.1 0, 8, .inl fS37))] ++ pl) _ := hP
            have hD : va_D _ ([(h0, .inr (8, [.int th37, .int (nI tp37), .int (nI rs37), .int (nI ks37), .ref mt, .ref mr_, .ref mk, .ref mo, .ref mh, .ref mse, .ref mhs, .ref msp, .ref msc, .ref mha])), (mse, .inl (g.2.1 0, 8, .inl fS37))] ++ pl) := hD
            obtain ⟨-, -, -, hm109, hm110⟩ := hq55
            obtain ⟨he76, he77, he78, he79, he80⟩ := hm110
            have he76 : th37 = nI 3 := he76
            have he77 : tp37 = tp := he77
            have he78 : rs37 = rs := he78
            have he79 : ks37 = ks := he79
            obtain rfl := he80
            refine W.widen (k := 0) (n := 0) (by omega) (by omega) ?_
            exact mp_iret hx hb hr hlk hP hD hS ((th37, tp37, rs37, ks37, fS37), pl) ⟨⟨(by show tp37 ≤ 16384; omega), (by show rs37 ≤ 8192; omega), (by show ks37 ≤ 8; omega), hm109⟩, hO⟩ [0, 1] rfl rfl rfl (by omega) (by omega) dM_load_112
        · refine lv_aload_n hx hb dM_load_44 rfl (lv_at hl 0 rfl) ?_
          refine lv_iconst (v := nI 1) hx hb dM_load_45 (by decide) ?_
          refine mp_i (cx := [(h0, .inr (8, [.int (nI 0), .int (nI tp), .int (nI rs), .int (nI ks), .ref mt, .ref mr_, .ref mk, .ref mo, .ref mh, .ref mse, .ref mhs, .ref msp, .ref msc, .ref mha])), (mse, .inl (g.2.1 0, 8, .inl fS))]) (wr := []) hP hD hS hA [0, 1] [] rfl rfl rfl (by decide) (va_runV (As := [.int (nI 1)]) (rest := []) F (t_M_fail l g _ T  pl hO hU  (nI 1) h0 mt mr_ mk mo mh mse mhs msp msc mha tp rs ks (nI 0) fS k_mt k_mr_ k_mk k_mo k_mh k_mhs k_msp k_msc k_mha (by omega) hS5) (cwV 1 hts (wg_app (wg_c kw_1577 (wg_c kw_1579 (wg_c ks_50 (wg_c kw_9 wg_n)))) kw_1580) rfl rfl rfl (by decide +kernel) ⟨by decide, by decide⟩) (pp_V (en_ok g) (q0 := 0) hK hP hD hS hA hE [0, 1] rfl rfl rfl rfl) rfl rfl hl.1 rfl (lv_room (Nat.le_of_ble_eq_true rfl)) dM_load_46 ⟨by omega, by omega⟩) (fun r61 u55 H locs hu56 hP hD hS => ?_)
          obtain ⟨u56, pl⟩ := u55
          obtain ⟨hq56, hO⟩ := hu56
          obtain ⟨th38, tp38, rs38, ks38, fS38⟩ := u56
          have hP : va_P g.1 vcl ([(h0, .inr (8, [.int th38, .int (nI tp38), .int (nI rs38), .int (nI ks38), .ref mt, .ref mr_, .ref mk, .ref mo, .ref mh, .ref mse, .ref mhs, .ref msp, .ref msc, .ref mha])), (mse, .inl (g.2.1 0, 8, .inl fS38))] ++ pl) _ := hP
          have hD : va_D _ ([(h0, .inr (8, [.int th38, .int (nI tp38), .int (nI rs38), .int (nI ks38), .ref mt, .ref mr_, .ref mk, .ref mo, .ref mh, .ref mse, .ref mhs, .ref msp, .ref msc, .ref mha])), (mse, .inl (g.2.1 0, 8, .inl fS38))] ++ pl) := hD
          obtain ⟨-, -, -, hm114, hm115⟩ := hq56
          obtain ⟨he81, he82, he83, he84, he85⟩ := hm115
          have he81 : th38 = nI 1 := he81
          have he82 : tp38 = tp := he82
          have he83 : rs38 = rs := he83
          have he84 : ks38 = ks := he84
          obtain rfl := he85
          refine W.widen (k := 0) (n := 0) (by omega) (by omega) ?_
          exact mp_iret hx hb hr hlk hP hD hS ((th38, tp38, rs38, ks38, fS38), pl) ⟨⟨(by show tp38 ≤ 16384; omega), (by show rs38 ≤ 8192; omega), (by show ks38 ≤ 8; omega), hm114⟩, hO⟩ [0, 1] rfl rfl rfl (by omega) (by omega) dM_load_49
      | 5, _ =>
        refine lv_iload_n hx hb dM_load_5 rfl (lv_at hl 1 rfl) ?_
        refine lv_if_lt (tgt := 44) hx hb dM_load_6 (by decide) (fun h87 => absurd h87 (by decide)) (fun h87 => ?_)
        refine lv_iload_n hx hb dM_load_9 rfl (lv_at hl 1 rfl) ?_
        refine lv_iload_n hx hb dM_load_10 rfl (lv_at hl 2 rfl) ?_
        refine lv_if_eq (tgt := 18) hx hb dM_load_11 (by decide) (fun h88 => ?_) (fun h88 => absurd h88 (by decide))
        refine lv_iconst (v := nI 5) hx hb dM_load_18 (by decide) ?_
        refine mi_gt (tgt := 44) hx hb dM_load_19 (by decide) (by omega) (by omega) (fun h89 => absurd h89 (by omega)) (fun h89 => ?_)
        refine lv_aload_n hx hb dM_load_22 rfl (lv_at hl 0 rfl) ?_
        refine va_get (D := g.1) (ci := 8) (C := "LatticeKeysModel") (T := T_M) (N := 14) hx hb hts (wg_ft i_M) hown hK hP 0 rfl rfl 1 (by decide) (hts _ (wg_t kw_1527)) (fun _ h9 => h9) rfl dM_load_23 ?_
        refine lv_iload_n hx hb dM_load_26 rfl (lv_at hl 2 rfl) ?_
        refine lv_if_eq (tgt := 37) hx hb dM_load_27 (by decide) (fun h90 => ?_) (fun h90 => absurd h90 (by decide))
        refine lv_iload_n hx hb dM_load_37 rfl (lv_at hl 1 rfl) ?_
        refine mp_i (cx := []) (wr := [(h0, .inr (8, [.int (nI 0), .int (nI tp), .int (nI rs), .int (nI ks), .ref mt, .ref mr_, .ref mk, .ref mo, .ref mh, .ref mse, .ref mhs, .ref msp, .ref msc, .ref mha])), (mse, .inl (g.2.1 0, 8, .inl fS))]) hP hD hS hA [] [0, 1] rfl rfl rfl (by decide) (va_runS (As := [.int (nI 5)]) (rest := [.int (nI tp)]) F (t_M_openSize_5 l g _ T [] pl hO hU  ) (va_cwS 1 hts (wg_app (wg_c kw_1764 (wg_c kw_1765 (wg_c kw_9 wg_n))) kw_1766) rfl rfl rfl (by decide +kernel) ⟨by decide, by decide⟩) (pp_S (en_ok g) hP hD hS hA hE [] rfl rfl) rfl rfl hl.1 rfl (lv_room (Nat.le_of_ble_eq_true rfl)) dM_load_38 ⟨by omega, by omega⟩) (fun r62 pl H locs hu57 hP hD hS => ?_)
        obtain ⟨hq57, hO⟩ := hu57
        have hP : va_P g.1 vcl ([(h0, .inr (8, [.int (nI 0), .int (nI tp), .int (nI rs), .int (nI ks), .ref mt, .ref mr_, .ref mk, .ref mo, .ref mh, .ref mse, .ref mhs, .ref msp, .ref msc, .ref mha])), (mse, .inl (g.2.1 0, 8, .inl fS))] ++ pl) _ := hP
        have hD : va_D _ ([(h0, .inr (8, [.int (nI 0), .int (nI tp), .int (nI rs), .int (nI ks), .ref mt, .ref mr_, .ref mk, .ref mo, .ref mh, .ref mse, .ref mhs, .ref msp, .ref msc, .ref mha])), (mse, .inl (g.2.1 0, 8, .inl fS))] ++ pl) := hD
        obtain rfl := hq57
        refine W.widen (k := 0) (n := 0) (by omega) (by omega) ?_
        refine mi_eq (tgt := 50) hx hb dM_load_41 (by decide) (by omega) (by omega) (fun h91 => ?_) (fun h91 => ?_)
        · refine lv_iload_n hx hb dM_load_50 rfl (lv_at hl 1 rfl) ?_
          refine lv_iconst (v := nI 3) hx hb dM_load_51 (by decide) ?_
          refine mi_ge (tgt := 98) hx hb dM_load_52 (by decide) (by omega) (by omega) (fun h92 => ?_) (fun h92 => absurd h92 (by omega))
          refine lv_aload_n hx hb dM_load_98 rfl (lv_at hl 0 rfl) ?_
          refine va_get (D := g.1) (ci := 8) (C := "LatticeKeysModel") (T := T_M) (N := 14) hx hb hts (wg_ft i_M) hown hK hP 0 rfl rfl 3 (by decide) (hts _ (wg_t kw_1529)) (fun _ h9 => h9) rfl dM_load_99 ?_
          refine lv_bipush (v := nI 8) hx hb dM_load_102 (by decide) ?_
          refine mi_ne (tgt := 113) hx hb dM_load_104 (by decide) (by omega) (by omega) (fun h93 => ?_) (fun h93 => ?_)
          · refine lv_iload_n hx hb dM_load_113 rfl (lv_at hl 2 rfl) ?_
            refine lv_if_eq (tgt := 127) hx hb dM_load_114 (by decide) (fun h94 => ?_) (fun h94 => absurd h94 (by decide))
            refine lv_iconst (v := nI 0) hx hb dM_load_127 (by decide) ?_
            refine lv_istore_n (lv' := [(3, .int (nI 0)), (0, .ref h0), (1, .int (nI 5)), (2, .int (nI 0))]) hx hb dM_load_128 rfl hl (by decide) rfl (fun ls hl => ?_)
            refine lv_iconst (v := nI 0) hx hb dM_load_129 (by decide) ?_
            refine lv_istore (lv' := [(4, .int (nI 0)), (3, .int (nI 0)), (0, .ref h0), (1, .int (nI 5)), (2, .int (nI 0))]) hx hb dM_load_130 hl (by decide) rfl (fun ls hl => ?_)
            have lp26 : ∀ (n26 : Nat) (i26 : Nat) (pl : va_W) (ls : Array Slot) (H : Heap) (locs : List Loc), n26 + i26 = 2592 → lv_has ls 5 [(4, .int (nI i26)), (3, .int (nI 0)), (0, .ref h0), (1, .int (nI 5)), (2, .int (nI 0))] → okx g T [] pl → va_P g.1 vcl ([(h0, .inr (8, [.int (nI 0), .int (nI tp), .int (nI rs), .int (nI ks), .ref mt, .ref mr_, .ref mk, .ref mo, .ref mh, .ref mse, .ref mhs, .ref msp, .ref msc, .ref mha])), (mse, .inl (g.2.1 0, 8, .inl fS))] ++ pl) H → va_D A ([(h0, .inr (8, [.int (nI 0), .int (nI tp), .int (nI rs), .int (nI ks), .ref mt, .ref mr_, .ref mk, .ref mo, .ref mh, .ref mse, .ref mhs, .ref msp, .ref msc, .ref mha])), (mse, .inl (g.2.1 0, 8, .inl fS))] ++ pl) → va_S A s.heap H locs → W p l e ({ frames := 6, cells := 0, slots := 0, locals := 147 } : Room) s m args below meth c H locs 0 0 (MQ below (va_Qi (fun (r : Int32) (u : (Int32 × Nat × Nat × Nat × (Nat → Int32)) × va_W) => (u.1.2.1 ≤ 16384 ∧ u.1.2.2.1 ≤ 8192 ∧ u.1.2.2.2.1 ≤ 8 ∧ s5 u.1.2.2.2.2) ∧ okx g T [] u.2) (po g.1 vcl A (fun (u : (Int32 × Nat × Nat × Nat × (Nat → Int32)) × va_W) => [(h0, .inr (8, [.int u.1.1, .int (nI (u.1.2.1)), .int (nI (u.1.2.2.1)), .int (nI (u.1.2.2.2.1)), .ref mt, .ref mr_, .ref mk, .ref mo, .ref mh, .ref mse, .ref mhs, .ref msp, .ref msc, .ref mha])), (mse, .inl (g.2.1 0, 8, .inl ((u.1.2.2.2.2))))] ++ u.2)) A) args s 0 0 A) (F0 m 132 ls []) := by
              intro n26
              induction n26 with
              | zero =>
                intro i26 pl ls H locs hm116  hl hO hP hD hS
                refine lv_iload hx hb dM_load_132 (lv_at hl 0 rfl) ?_
                refine lv_iload_n hx hb dM_load_134 rfl (lv_at hl 3 rfl) ?_
                refine mp_i (cx := []) (wr := [(h0, .inr (8, [.int (nI 0), .int (nI tp), .int (nI rs), .int (nI ks), .ref mt, .ref mr_, .ref mk, .ref mo, .ref mh, .ref mse, .ref mhs, .ref msp, .ref msc, .ref mha])), (mse, .inl (g.2.1 0, 8, .inl fS))]) hP hD hS hA [] [0, 1] rfl rfl rfl (by decide) (va_runS (As := [.int (nI 5)]) (rest := [.int (nI i26)]) F (t_M_openSize_5 l g _ T [] pl hO hU  ) (va_cwS 1 hts (wg_app (wg_c kw_1764 (wg_c kw_1765 (wg_c kw_9 wg_n))) kw_1766) rfl rfl rfl (by decide +kernel) ⟨by decide, by decide⟩) (pp_S (en_ok g) hP hD hS hA hE [] rfl rfl) rfl rfl hl.1 rfl (lv_room (Nat.le_of_ble_eq_true rfl)) dM_load_135 ⟨by omega, by omega⟩) (fun r63 pl H locs hu58 hP hD hS => ?_)
                obtain ⟨hq58, hO⟩ := hu58
                have hP : va_P g.1 vcl ([(h0, .inr (8, [.int (nI 0), .int (nI tp), .int (nI rs), .int (nI ks), .ref mt, .ref mr_, .ref mk, .ref mo, .ref mh, .ref mse, .ref mhs, .ref msp, .ref msc, .ref mha])), (mse, .inl (g.2.1 0, 8, .inl fS))] ++ pl) _ := hP
                have hD : va_D _ ([(h0, .inr (8, [.int (nI 0), .int (nI tp), .int (nI rs), .int (nI ks), .ref mt, .ref mr_, .ref mk, .ref mo, .ref mh, .ref mse, .ref mhs, .ref msp, .ref msc, .ref mha])), (mse, .inl (g.2.1 0, 8, .inl fS))] ++ pl) := hD
                obtain rfl := hq58
                refine W.widen (k := 0) (n := 0) (by omega) (by omega) ?_
                refine mi_ge (tgt := 168) hx hb dM_load_138 (by decide) (by omega) (by omega) (fun h95 => ?_) (fun h95 => absurd h95 (by omega))
                refine lv_iconst (v := nI 0) hx hb dM_load_168 (by decide) ?_
                refine lv_istore (lv' := [(4, .int (nI 0)), (3, .int (nI 0)), (0, .ref h0), (1, .int (nI 5)), (2, .int (nI 0))]) hx hb dM_load_169 hl (by decide) rfl (fun ls hl => ?_)
                refine lv_iload_n hx hb dM_load_171 rfl (lv_at hl 4 rfl) ?_
                refine lv_if_eq (tgt := 209) hx hb dM_load_172 (by decide) (fun h96 => ?_) (fun h96 => absurd h96 (by decide))
                refine lv_aload_n hx hb dM_load_209 rfl (lv_at hl 2 rfl) ?_
                refine lv_iload_n hx hb dM_load_210 rfl (lv_at hl 3 rfl) ?_
                refine lv_iload_n hx hb dM_load_211 rfl (lv_at hl 4 rfl) ?_
                refine lv_if_eq (tgt := 222) hx hb dM_load_212 (by decide) (fun h97 => ?_) (fun h97 => absurd h97 (by decide))
                refine lv_iconst (v := nI 0) hx hb dM_load_222 (by decide) ?_
                refine mp_i (cx := [(h0, .inr (8, [.int (nI 0), .int (nI tp), .int (nI rs), .int (nI ks), .ref mt, .ref mr_, .ref mk, .ref mo, .ref mh, .ref mse, .ref mhs, .ref msp, .ref msc, .ref mha])), (mse, .inl (g.2.1 0, 8, .inl fS))]) (wr := []) hP hD hS hA [0, 1] [] rfl rfl rfl (by decide) (va_runV (As := [.int (nI 5), .int (nI 0)]) (rest := []) F (t_M_made l g _ T  pl hO hU  5 0 h0 mt mr_ mk mo mh mse mhs msp msc mha tp rs ks (nI 0) fS k_mt k_mr_ k_mk k_mo k_mh k_mhs k_msp k_msc k_mha (by omega) hS5 (by omega) (by omega) (by omega)) (cwV 2 hts (wg_app (wg_c kw_1756 (wg_c kw_1758 (wg_c ks_64 (wg_c kw_9 wg_n)))) kw_1759) rfl rfl rfl (by decide +kernel) ⟨by decide, by decide⟩) (pp_V (en_ok g) (q0 := 0) hK hP hD hS hA hE [0, 1] rfl rfl rfl rfl) rfl rfl hl.1 rfl (lv_room (Nat.le_of_ble_eq_true rfl)) dM_load_223 ⟨by omega, by omega⟩) (fun r64 u57 H locs hu59 hP hD hS => ?_)
                obtain ⟨u58, pl⟩ := u57
                obtain ⟨hq59, hO⟩ := hu59
                obtain ⟨th39, tp39, rs39, ks39, fS39⟩ := u58
                have hP : va_P g.1 vcl ([(h0, .inr (8, [.int th39, .int (nI tp39), .int (nI rs39), .int (nI ks39), .ref mt, .ref mr_, .ref mk, .ref mo, .ref mh, .ref mse, .ref mhs, .ref msp, .ref msc, .ref mha])), (mse, .inl (g.2.1 0, 8, .inl fS39))] ++ pl) _ := hP
                have hD : va_D _ ([(h0, .inr (8, [.int th39, .int (nI tp39), .int (nI rs39), .int (nI ks39), .ref mt, .ref mr_, .ref mk, .ref mo, .ref mh, .ref mse, .ref mhs, .ref msp, .ref msc, .ref mha])), (mse, .inl (g.2.1 0, 8, .inl fS39))] ++ pl) := hD
                obtain ⟨hm117, hm118, hm119, hm120⟩ := hq59
                have hm117 : tp39 ≤ 16384 := hm117
                have hm118 : rs39 ≤ 8192 := hm118
                have hm119 : ks39 ≤ 8 := hm119
                refine W.widen (k := 0) (n := 0) (by omega) (by omega) ?_
                exact mp_iret hx hb hr hlk hP hD hS ((th39, tp39, rs39, ks39, fS39), pl) ⟨⟨(by show tp39 ≤ 16384; omega), (by show rs39 ≤ 8192; omega), (by show ks39 ≤ 8; omega), hm120⟩, hO⟩ [0, 1] rfl rfl rfl (by omega) (by omega) dM_load_226
              | succ n26 ih26 =>
                intro i26 pl ls H locs hm116  hl hO hP hD hS
                refine lv_iload hx hb dM_load_132 (lv_at hl 0 rfl) ?_
                refine lv_iload_n hx hb dM_load_134 rfl (lv_at hl 3 rfl) ?_
                refine mp_i (cx := []) (wr := [(h0, .inr (8, [.int (nI 0), .int (nI tp), .int (nI rs), .int (nI ks), .ref mt, .ref mr_, .ref mk, .ref mo, .ref mh, .ref mse, .ref mhs, .ref msp, .ref msc, .ref mha])), (mse, .inl (g.2.1 0, 8, .inl fS))]) hP hD hS hA [] [0, 1] rfl rfl rfl (by decide) (va_runS (As := [.int (nI 5)]) (rest := [.int (nI i26)]) F (t_M_openSize_5 l g _ T [] pl hO hU  ) (va_cwS 1 hts (wg_app (wg_c kw_1764 (wg_c kw_1765 (wg_c kw_9 wg_n))) kw_1766) rfl rfl rfl (by decide +kernel) ⟨by decide, by decide⟩) (pp_S (en_ok g) hP hD hS hA hE [] rfl rfl) rfl rfl hl.1 rfl (lv_room (Nat.le_of_ble_eq_true rfl)) dM_load_135 ⟨by omega, by omega⟩) (fun r65 pl H locs hu60 hP hD hS => ?_)
                obtain ⟨hq60, hO⟩ := hu60
                have hP : va_P g.1 vcl ([(h0, .inr (8, [.int (nI 0), .int (nI tp), .int (nI rs), .int (nI ks), .ref mt, .ref mr_, .ref mk, .ref mo, .ref mh, .ref mse, .ref mhs, .ref msp, .ref msc, .ref mha])), (mse, .inl (g.2.1 0, 8, .inl fS))] ++ pl) _ := hP
                have hD : va_D _ ([(h0, .inr (8, [.int (nI 0), .int (nI tp), .int (nI rs), .int (nI ks), .ref mt, .ref mr_, .ref mk, .ref mo, .ref mh, .ref mse, .ref mhs, .ref msp, .ref msc, .ref mha])), (mse, .inl (g.2.1 0, 8, .inl fS))] ++ pl) := hD
                obtain rfl := hq60
                refine W.widen (k := 0) (n := 0) (by omega) (by omega) ?_
                refine mi_ge (tgt := 168) hx hb dM_load_138 (by decide) (by omega) (by omega) (fun h98 => absurd h98 (by omega)) (fun h98 => ?_)
                refine lv_aload_n hx hb dM_load_141 rfl (lv_at hl 2 rfl) ?_
                refine va_get (D := g.1) (ci := 8) (C := "LatticeKeysModel") (T := T_M) (N := 14) hx hb hts (wg_ft i_M) hown hK hP 0 rfl rfl 7 (by decide) (hts _ (wg_t kw_1533)) (fun _ h9 => h9) rfl dM_load_142 ?_
                refine lv_aload_n hx hb dM_load_145 rfl (lv_at hl 2 rfl) ?_
                refine va_get (D := g.1) (ci := 8) (C := "LatticeKeysModel") (T := T_M) (N := 14) hx hb hts (wg_ft i_M) hown hK hP 0 rfl rfl 3 (by decide) (hts _ (wg_t kw_1529)) (fun _ h9 => h9) rfl dM_load_146 ?_
                refine ty_aald4 hx hb hK hO k_mo (nxg clo_nil k_mo rfl) hP (by omega) dM_load_149 (fun r66 kr26 => ?_)
                refine lv_iload hx hb dM_load_150 (lv_at hl 0 rfl) ?_
                refine lv_aload_n hx hb dM_load_152 rfl (lv_at hl 2 rfl) ?_
                refine va_get (D := g.1) (ci := 8) (C := "LatticeKeysModel") (T := T_M) (N := 14) hx hb hts (wg_ft i_M) hown hK hP 0 rfl rfl 4 (by decide) (hts _ (wg_t kw_1530)) (fun _ h9 => h9) rfl dM_load_153 ?_
                refine lv_iload_n hx hb dM_load_156 rfl (lv_at hl 1 rfl) ?_
                refine lv_iload hx hb dM_load_157 (lv_at hl 0 rfl) ?_
                refine mi_iadd hx hb dM_load_159 ?_
                refine ty_bald hx hb hK hO k_mt (nxg clo_nil k_mt rfl) hP (vp_in_nI (by omega) (by decide)) dM_load_160 (fun z26 => ?_)
                refine ty_bast hx hb hK hO kr26 (nxg clo_nil kr26 rfl) hP hD hS (vp_in_nI (by omega) (by decide)) dM_load_161 (fun pl H locs hO hP hD hS => ?_)
                refine mi_iinc (k := 0) (x := i26) (d := 1) (y := i26 + 1) (lv' := [(4, .int (nI (i26 + 1))), (3, .int (nI 0)), (0, .ref h0), (1, .int (nI 5)), (2, .int (nI 0))]) hx hb dM_load_162 hl rfl (by decide) rfl (by decide) rfl (fun ls hl => ?_)
                refine lv_goto (tgt := 132) hx hb dM_load_165 (by decide) ?_
                exact ih26 (i26 + 1) pl ls H locs (by omega) (lv_sub hl [0, 1, 2, 3, 4] rfl) hO hP hD hS
            exact lp26 2592 0 pl ls _ _ (by omega) (lv_sub hl [0, 1, 2, 3, 4] rfl) hO hP hD hS
          · refine lv_aload_n hx hb dM_load_107 rfl (lv_at hl 0 rfl) ?_
            refine lv_iconst (v := nI 3) hx hb dM_load_108 (by decide) ?_
            refine mp_i (cx := [(h0, .inr (8, [.int (nI 0), .int (nI tp), .int (nI rs), .int (nI ks), .ref mt, .ref mr_, .ref mk, .ref mo, .ref mh, .ref mse, .ref mhs, .ref msp, .ref msc, .ref mha])), (mse, .inl (g.2.1 0, 8, .inl fS))]) (wr := []) hP hD hS hA [0, 1] [] rfl rfl rfl (by decide) (va_runV (As := [.int (nI 3)]) (rest := []) F (t_M_fail l g _ T  pl hO hU  (nI 3) h0 mt mr_ mk mo mh mse mhs msp msc mha tp rs ks (nI 0) fS k_mt k_mr_ k_mk k_mo k_mh k_mhs k_msp k_msc k_mha (by omega) hS5) (cwV 1 hts (wg_app (wg_c kw_1577 (wg_c kw_1579 (wg_c ks_50 (wg_c kw_9 wg_n)))) kw_1580) rfl rfl rfl (by decide +kernel) ⟨by decide, by decide⟩) (pp_V (en_ok g) (q0 := 0) hK hP hD hS hA hE [0, 1] rfl rfl rfl rfl) rfl rfl hl.1 rfl (lv_room (Nat.le_of_ble_eq_true rfl)) dM_load_109 ⟨by omega, by omega⟩) (fun r67 u59 H locs hu61 hP hD hS => ?_)
            obtain ⟨u60, pl⟩ := u59
            obtain ⟨hq61, hO⟩ := hu61
            obtain ⟨th40, tp40, rs40, ks40, fS40⟩ := u60
            have hP : va_P g.1 vcl ([(h0, .inr (8, [.int th40, .int (nI tp40), .int (nI rs40), .int (nI ks40), .ref mt, .ref mr_, .ref mk, .ref mo, .ref mh, .ref mse, .ref mhs, .ref msp, .ref msc, .ref mha])), (mse, .inl (g.2.1 0, 8, .inl fS40))] ++ pl) _ := hP
            have hD : va_D _ ([(h0, .inr (8, [.int th40, .int (nI tp40), .int (nI rs40), .int (nI ks40), .ref mt, .ref mr_, .ref mk, .ref mo, .ref mh, .ref mse, .ref mhs, .ref msp, .ref msc, .ref mha])), (mse, .inl (g.2.1 0, 8, .inl fS40))] ++ pl) := hD
            obtain ⟨-, -, -, hm125, hm126⟩ := hq61
            obtain ⟨he86, he87, he88, he89, he90⟩ := hm126
            have he86 : th40 = nI 3 := he86
            have he87 : tp40 = tp := he87
            have he88 : rs40 = rs := he88
            have he89 : ks40 = ks := he89
            obtain rfl := he90
            refine W.widen (k := 0) (n := 0) (by omega) (by omega) ?_
            exact mp_iret hx hb hr hlk hP hD hS ((th40, tp40, rs40, ks40, fS40), pl) ⟨⟨(by show tp40 ≤ 16384; omega), (by show rs40 ≤ 8192; omega), (by show ks40 ≤ 8; omega), hm125⟩, hO⟩ [0, 1] rfl rfl rfl (by omega) (by omega) dM_load_112
        · refine lv_aload_n hx hb dM_load_44 rfl (lv_at hl 0 rfl) ?_
          refine lv_iconst (v := nI 1) hx hb dM_load_45 (by decide) ?_
          refine mp_i (cx := [(h0, .inr (8, [.int (nI 0), .int (nI tp), .int (nI rs), .int (nI ks), .ref mt, .ref mr_, .ref mk, .ref mo, .ref mh, .ref mse, .ref mhs, .ref msp, .ref msc, .ref mha])), (mse, .inl (g.2.1 0, 8, .inl fS))]) (wr := []) hP hD hS hA [0, 1] [] rfl rfl rfl (by decide) (va_runV (As := [.int (nI 1)]) (rest := []) F (t_M_fail l g _ T  pl hO hU  (nI 1) h0 mt mr_ mk mo mh mse mhs msp msc mha tp rs ks (nI 0) fS k_mt k_mr_ k_mk k_mo k_mh k_mhs k_msp k_msc k_mha (by omega) hS5) (cwV 1 hts (wg_app (wg_c kw_1577 (wg_c kw_1579 (wg_c ks_50 (wg_c kw_9 wg_n)))) kw_1580) rfl rfl rfl (by decide +kernel) ⟨by decide, by decide⟩) (pp_V (en_ok g) (q0 := 0) hK hP hD hS hA hE [0, 1] rfl rfl rfl rfl) rfl rfl hl.1 rfl (lv_room (Nat.le_of_ble_eq_true rfl)) dM_load_46 ⟨by omega, by omega⟩) (fun r68 u61 H locs hu62 hP hD hS => ?_)
          obtain ⟨u62, pl⟩ := u61
          obtain ⟨hq62, hO⟩ := hu62
          obtain ⟨th41, tp41, rs41, ks41, fS41⟩ := u62
          have hP : va_P g.1 vcl ([(h0, .inr (8, [.int th41, .int (nI tp41), .int (nI rs41), .int (nI ks41), .ref mt, .ref mr_, .ref mk, .ref mo, .ref mh, .ref mse, .ref mhs, .ref msp, .ref msc, .ref mha])), (mse, .inl (g.2.1 0, 8, .inl fS41))] ++ pl) _ := hP
          have hD : va_D _ ([(h0, .inr (8, [.int th41, .int (nI tp41), .int (nI rs41), .int (nI ks41), .ref mt, .ref mr_, .ref mk, .ref mo, .ref mh, .ref mse, .ref mhs, .ref msp, .ref msc, .ref mha])), (mse, .inl (g.2.1 0, 8, .inl fS41))] ++ pl) := hD
          obtain ⟨-, -, -, hm130, hm131⟩ := hq62
          obtain ⟨he91, he92, he93, he94, he95⟩ := hm131
          have he91 : th41 = nI 1 := he91
          have he92 : tp41 = tp := he92
          have he93 : rs41 = rs := he93
          have he94 : ks41 = ks := he94
          obtain rfl := he95
          refine W.widen (k := 0) (n := 0) (by omega) (by omega) ?_
          exact mp_iret hx hb hr hlk hP hD hS ((th41, tp41, rs41, ks41, fS41), pl) ⟨⟨(by show tp41 ≤ 16384; omega), (by show rs41 ≤ 8192; omega), (by show ks41 ≤ 8; omega), hm130⟩, hO⟩ [0, 1] rfl rfl rfl (by omega) (by omega) dM_load_49
      | _ + 6, h9 => exact absurd h9 (by omega)
    · have hbad := hb9
      refine lv_iload_n hx hb dM_load_5 rfl (lv_at hl 1 rfl) ?_
      refine lv_if_lt (tgt := 44) hx hb dM_load_6 (by decide) (fun h99 => ?_) (fun h99 => ?_)
      · refine lv_aload_n hx hb dM_load_44 rfl (lv_at hl 0 rfl) ?_
        refine lv_iconst (v := nI 1) hx hb dM_load_45 (by decide) ?_
        refine mp_i (cx := [(h0, .inr (8, [.int (nI 0), .int (nI tp), .int (nI rs), .int (nI ks), .ref mt, .ref mr_, .ref mk, .ref mo, .ref mh, .ref mse, .ref mhs, .ref msp, .ref msc, .ref mha])), (mse, .inl (g.2.1 0, 8, .inl fS))]) (wr := []) hP hD hS hA [0, 1] [] rfl rfl rfl (by decide) (va_runV (As := [.int (nI 1)]) (rest := []) F (t_M_fail l g _ T  pl hO hU  (nI 1) h0 mt mr_ mk mo mh mse mhs msp msc mha tp rs ks (nI 0) fS k_mt k_mr_ k_mk k_mo k_mh k_mhs k_msp k_msc k_mha (by omega) hS5) (cwV 1 hts (wg_app (wg_c kw_1577 (wg_c kw_1579 (wg_c ks_50 (wg_c kw_9 wg_n)))) kw_1580) rfl rfl rfl (by decide +kernel) ⟨by decide, by decide⟩) (pp_V (en_ok g) (q0 := 0) hK hP hD hS hA hE [0, 1] rfl rfl rfl rfl) rfl rfl hl.1 rfl (lv_room (Nat.le_of_ble_eq_true rfl)) dM_load_46 ⟨by omega, by omega⟩) (fun r69 u63 H locs hu63 hP hD hS => ?_)
        obtain ⟨u64, pl⟩ := u63
        obtain ⟨hq63, hO⟩ := hu63
        obtain ⟨th42, tp42, rs42, ks42, fS42⟩ := u64
        have hP : va_P g.1 vcl ([(h0, .inr (8, [.int th42, .int (nI tp42), .int (nI rs42), .int (nI ks42), .ref mt, .ref mr_, .ref mk, .ref mo, .ref mh, .ref mse, .ref mhs, .ref msp, .ref msc, .ref mha])), (mse, .inl (g.2.1 0, 8, .inl fS42))] ++ pl) _ := hP
        have hD : va_D _ ([(h0, .inr (8, [.int th42, .int (nI tp42), .int (nI rs42), .int (nI ks42), .ref mt, .ref mr_, .ref mk, .ref mo, .ref mh, .ref mse, .ref mhs, .ref msp, .ref msc, .ref mha])), (mse, .inl (g.2.1 0, 8, .inl fS42))] ++ pl) := hD
        obtain ⟨-, -, -, hm135, hm136⟩ := hq63
        obtain ⟨he96, he97, he98, he99, he100⟩ := hm136
        have he96 : th42 = nI 1 := he96
        have he97 : tp42 = tp := he97
        have he98 : rs42 = rs := he98
        have he99 : ks42 = ks := he99
        obtain rfl := he100
        refine W.widen (k := 0) (n := 0) (by omega) (by omega) ?_
        exact mp_iret hx hb hr hlk hP hD hS ((th42, tp42, rs42, ks42, fS42), pl) ⟨⟨(by show tp42 ≤ 16384; omega), (by show rs42 ≤ 8192; omega), (by show ks42 ≤ 8; omega), hm135⟩, hO⟩ [0, 1] rfl rfl rfl (by omega) (by omega) dM_load_49
      · refine lv_iload_n hx hb dM_load_9 rfl (lv_at hl 1 rfl) ?_
        refine lv_iload_n hx hb dM_load_10 rfl (lv_at hl 2 rfl) ?_
        refine lv_if_eq (tgt := 18) hx hb dM_load_11 (by decide) (fun h100 => ?_) (fun h100 => absurd h100 (by decide))
        refine lv_iconst (v := nI 5) hx hb dM_load_18 (by decide) ?_
        refine lv_icmp_gt (tgt := 44) hx hb dM_load_19 (by decide) (fun h101 => ?_) (fun h101 => absurd (hbad.resolve_left h99) h101)
        refine lv_aload_n hx hb dM_load_44 rfl (lv_at hl 0 rfl) ?_
        refine lv_iconst (v := nI 1) hx hb dM_load_45 (by decide) ?_
        refine mp_i (cx := [(h0, .inr (8, [.int (nI 0), .int (nI tp), .int (nI rs), .int (nI ks), .ref mt, .ref mr_, .ref mk, .ref mo, .ref mh, .ref mse, .ref mhs, .ref msp, .ref msc, .ref mha])), (mse, .inl (g.2.1 0, 8, .inl fS))]) (wr := []) hP hD hS hA [0, 1] [] rfl rfl rfl (by decide) (va_runV (As := [.int (nI 1)]) (rest := []) F (t_M_fail l g _ T  pl hO hU  (nI 1) h0 mt mr_ mk mo mh mse mhs msp msc mha tp rs ks (nI 0) fS k_mt k_mr_ k_mk k_mo k_mh k_mhs k_msp k_msc k_mha (by omega) hS5) (cwV 1 hts (wg_app (wg_c kw_1577 (wg_c kw_1579 (wg_c ks_50 (wg_c kw_9 wg_n)))) kw_1580) rfl rfl rfl (by decide +kernel) ⟨by decide, by decide⟩) (pp_V (en_ok g) (q0 := 0) hK hP hD hS hA hE [0, 1] rfl rfl rfl rfl) rfl rfl hl.1 rfl (lv_room (Nat.le_of_ble_eq_true rfl)) dM_load_46 ⟨by omega, by omega⟩) (fun r70 u65 H locs hu64 hP hD hS => ?_)
        obtain ⟨u66, pl⟩ := u65
        obtain ⟨hq64, hO⟩ := hu64
        obtain ⟨th43, tp43, rs43, ks43, fS43⟩ := u66
        have hP : va_P g.1 vcl ([(h0, .inr (8, [.int th43, .int (nI tp43), .int (nI rs43), .int (nI ks43), .ref mt, .ref mr_, .ref mk, .ref mo, .ref mh, .ref mse, .ref mhs, .ref msp, .ref msc, .ref mha])), (mse, .inl (g.2.1 0, 8, .inl fS43))] ++ pl) _ := hP
        have hD : va_D _ ([(h0, .inr (8, [.int th43, .int (nI tp43), .int (nI rs43), .int (nI ks43), .ref mt, .ref mr_, .ref mk, .ref mo, .ref mh, .ref mse, .ref mhs, .ref msp, .ref msc, .ref mha])), (mse, .inl (g.2.1 0, 8, .inl fS43))] ++ pl) := hD
        obtain ⟨-, -, -, hm140, hm141⟩ := hq64
        obtain ⟨he101, he102, he103, he104, he105⟩ := hm141
        have he101 : th43 = nI 1 := he101
        have he102 : tp43 = tp := he102
        have he103 : rs43 = rs := he103
        have he104 : ks43 = ks := he104
        obtain rfl := he105
        refine W.widen (k := 0) (n := 0) (by omega) (by omega) ?_
        exact mp_iret hx hb hr hlk hP hD hS ((th43, tp43, rs43, ks43, fS43), pl) ⟨⟨(by show tp43 ≤ 16384; omega), (by show rs43 ≤ 8192; omega), (by show ks43 ≤ 8; omega), hm140⟩, hO⟩ [0, 1] rfl rfl rfl (by omega) (by omega) dM_load_49
  · have hsc := hs9
    rcases rng (v := v) 5 (by decide) with hb9 | hb9
    · obtain ⟨j9, hj9, rfl⟩ := hb9
      match j9, hj9 with
      | 0, _ =>
        refine lv_iload_n hx hb dM_load_5 rfl (lv_at hl 1 rfl) ?_
        refine lv_if_lt (tgt := 44) hx hb dM_load_6 (by decide) (fun h102 => absurd h102 (by decide)) (fun h102 => ?_)
        refine lv_iload_n hx hb dM_load_9 rfl (lv_at hl 1 rfl) ?_
        refine lv_iload_n hx hb dM_load_10 rfl (lv_at hl 2 rfl) ?_
        refine lv_if_eq (tgt := 18) hx hb dM_load_11 (by decide) (fun h9 => absurd h9 hsc) (fun h9 => ?_)
        refine lv_iconst (v := nI 2) hx hb dM_load_14 (by decide) ?_
        refine lv_goto (tgt := 19) hx hb dM_load_15 (by decide) ?_
        refine mi_gt (tgt := 44) hx hb dM_load_19 (by decide) (by omega) (by omega) (fun h103 => absurd h103 (by omega)) (fun h103 => ?_)
        refine lv_aload_n hx hb dM_load_22 rfl (lv_at hl 0 rfl) ?_
        refine va_get (D := g.1) (ci := 8) (C := "LatticeKeysModel") (T := T_M) (N := 14) hx hb hts (wg_ft i_M) hown hK hP 0 rfl rfl 1 (by decide) (hts _ (wg_t kw_1527)) (fun _ h9 => h9) rfl dM_load_23 ?_
        refine lv_iload_n hx hb dM_load_26 rfl (lv_at hl 2 rfl) ?_
        refine lv_if_eq (tgt := 37) hx hb dM_load_27 (by decide) (fun h9 => absurd h9 hsc) (fun h9 => ?_)
        refine lv_iload_n hx hb dM_load_30 rfl (lv_at hl 1 rfl) ?_
        refine mp_i (cx := []) (wr := [(h0, .inr (8, [.int (nI 0), .int (nI tp), .int (nI rs), .int (nI ks), .ref mt, .ref mr_, .ref mk, .ref mo, .ref mh, .ref mse, .ref mhs, .ref msp, .ref msc, .ref mha])), (mse, .inl (g.2.1 0, 8, .inl fS))]) hP hD hS hA [] [0, 1] rfl rfl rfl (by decide) (va_runS (As := [.int (nI 0)]) (rest := [.int (nI tp)]) F (t_M_hiddenSize_0 l g _ T [] pl hO hU  ) (va_cwS 1 hts (wg_app (wg_c kw_1747 (wg_c kw_1748 (wg_c kw_9 wg_n))) kw_1749) rfl rfl rfl (by decide +kernel) ⟨by decide, by decide⟩) (pp_S (en_ok g) hP hD hS hA hE [] rfl rfl) rfl rfl hl.1 rfl (lv_room (Nat.le_of_ble_eq_true rfl)) dM_load_31 ⟨by omega, by omega⟩) (fun r71 pl H locs hu65 hP hD hS => ?_)
        obtain ⟨hq65, hO⟩ := hu65
        have hP : va_P g.1 vcl ([(h0, .inr (8, [.int (nI 0), .int (nI tp), .int (nI rs), .int (nI ks), .ref mt, .ref mr_, .ref mk, .ref mo, .ref mh, .ref mse, .ref mhs, .ref msp, .ref msc, .ref mha])), (mse, .inl (g.2.1 0, 8, .inl fS))] ++ pl) _ := hP
        have hD : va_D _ ([(h0, .inr (8, [.int (nI 0), .int (nI tp), .int (nI rs), .int (nI ks), .ref mt, .ref mr_, .ref mk, .ref mo, .ref mh, .ref mse, .ref mhs, .ref msp, .ref msc, .ref mha])), (mse, .inl (g.2.1 0, 8, .inl fS))] ++ pl) := hD
        obtain rfl := hq65
        refine W.widen (k := 0) (n := 0) (by omega) (by omega) ?_
        refine lv_goto (tgt := 41) hx hb dM_load_34 (by decide) ?_
        refine mi_eq (tgt := 50) hx hb dM_load_41 (by decide) (by omega) (by omega) (fun h104 => ?_) (fun h104 => ?_)
        · refine lv_iload_n hx hb dM_load_50 rfl (lv_at hl 1 rfl) ?_
          refine lv_iconst (v := nI 3) hx hb dM_load_51 (by decide) ?_
          refine mi_ge (tgt := 98) hx hb dM_load_52 (by decide) (by omega) (by omega) (fun h105 => absurd h105 (by omega)) (fun h105 => ?_)
          refine lv_iload_n hx hb dM_load_55 rfl (lv_at hl 2 rfl) ?_
          refine lv_if_eq (tgt := 77) hx hb dM_load_56 (by decide) (fun h9 => absurd h9 hsc) (fun h9 => ?_)
          refine lv_aload_n hx hb dM_load_59 rfl (lv_at hl 0 rfl) ?_
          refine va_get (D := g.1) (ci := 8) (C := "LatticeKeysModel") (T := T_M) (N := 14) hx hb hts (wg_ft i_M) hown hK hP 0 rfl rfl 12 (by decide) (hts _ (wg_t kw_1538)) (fun _ h9 => h9) rfl dM_load_60 ?_
          refine lv_iload_n hx hb dM_load_63 rfl (lv_at hl 1 rfl) ?_
          refine lv_aload_n hx hb dM_load_64 rfl (lv_at hl 0 rfl) ?_
          refine va_get (D := g.1) (ci := 8) (C := "LatticeKeysModel") (T := T_M) (N := 14) hx hb hts (wg_ft i_M) hown hK hP 0 rfl rfl 4 (by decide) (hts _ (wg_t kw_1530)) (fun _ h9 => h9) rfl dM_load_65 ?_
          refine mp_i (cx := []) (wr := [(h0, .inr (8, [.int (nI 0), .int (nI tp), .int (nI rs), .int (nI ks), .ref mt, .ref mr_, .ref mk, .ref mo, .ref mh, .ref mse, .ref mhs, .ref msp, .ref msc, .ref mha])), (mse, .inl (g.2.1 0, 8, .inl fS))]) hP hD hS hA [] [0, 1] rfl rfl rfl (by decide) (va_runV (As := [.int (nI 0), .ref mt]) (rest := []) F (t_ME_goodHidden_0 l g _ T [] pl hO hU clo_nil clo_nil msc mt k_msc k_mt) (cwV 2 hts (wg_app (wg_c kw_1769 (wg_c kw_1770 (wg_c kw_1771 (wg_c kw_11 wg_n)))) kw_1772) rfl rfl rfl (by decide +kernel) ⟨by decide, by decide⟩) (pp_VT (en_ok g) (ci := 11) (kd := (23, 0)) hK hO k_msc (nxg clo_nil k_msc rfl) (fun _ h9 => ko1 h9) hP hD hS hA hE [] rfl rfl rfl) rfl rfl hl.1 rfl (lv_room (Nat.le_of_ble_eq_true rfl)) dM_load_68 ⟨by omega, by omega⟩) (fun r72 pl H locs hu66 hP hD hS => ?_)
          obtain ⟨hq66, hO⟩ := hu66
          have hP : va_P g.1 vcl ([(h0, .inr (8, [.int (nI 0), .int (nI tp), .int (nI rs), .int (nI ks), .ref mt, .ref mr_, .ref mk, .ref mo, .ref mh, .ref mse, .ref mhs, .ref msp, .ref msc, .ref mha])), (mse, .inl (g.2.1 0, 8, .inl fS))] ++ pl) _ := hP
          have hD : va_D _ ([(h0, .inr (8, [.int (nI 0), .int (nI tp), .int (nI rs), .int (nI ks), .ref mt, .ref mr_, .ref mk, .ref mo, .ref mh, .ref mse, .ref mhs, .ref msp, .ref msc, .ref mha])), (mse, .inl (g.2.1 0, 8, .inl fS))] ++ pl) := hD
          refine W.widen (k := 0) (n := 0) (by omega) (by omega) ?_
          refine lv_if_eq (tgt := 92) hx hb dM_load_71 (by decide) (fun h106 => ?_) (fun h106 => ?_)
          · refine lv_aload_n hx hb dM_load_92 rfl (lv_at hl 0 rfl) ?_
            refine lv_iconst (v := nI 2) hx hb dM_load_93 (by decide) ?_
            refine mp_i (cx := [(h0, .inr (8, [.int (nI 0), .int (nI tp), .int (nI rs), .int (nI ks), .ref mt, .ref mr_, .ref mk, .ref mo, .ref mh, .ref mse, .ref mhs, .ref msp, .ref msc, .ref mha])), (mse, .inl (g.2.1 0, 8, .inl fS))]) (wr := []) hP hD hS hA [0, 1] [] rfl rfl rfl (by decide) (va_runV (As := [.int (nI 2)]) (rest := []) F (t_M_fail l g _ T  pl hO hU  (nI 2) h0 mt mr_ mk mo mh mse mhs msp msc mha tp rs ks (nI 0) fS k_mt k_mr_ k_mk k_mo k_mh k_mhs k_msp k_msc k_mha (by omega) hS5) (cwV 1 hts (wg_app (wg_c kw_1577 (wg_c kw_1579 (wg_c ks_50 (wg_c kw_9 wg_n)))) kw_1580) rfl rfl rfl (by decide +kernel) ⟨by decide, by decide⟩) (pp_V (en_ok g) (q0 := 0) hK hP hD hS hA hE [0, 1] rfl rfl rfl rfl) rfl rfl hl.1 rfl (lv_room (Nat.le_of_ble_eq_true rfl)) dM_load_94 ⟨by omega, by omega⟩) (fun r73 u67 H locs hu67 hP hD hS => ?_)
            obtain ⟨u68, pl⟩ := u67
            obtain ⟨hq67, hO⟩ := hu67
            obtain ⟨th44, tp44, rs44, ks44, fS44⟩ := u68
            have hP : va_P g.1 vcl ([(h0, .inr (8, [.int th44, .int (nI tp44), .int (nI rs44), .int (nI ks44), .ref mt, .ref mr_, .ref mk, .ref mo, .ref mh, .ref mse, .ref mhs, .ref msp, .ref msc, .ref mha])), (mse, .inl (g.2.1 0, 8, .inl fS44))] ++ pl) _ := hP
            have hD : va_D _ ([(h0, .inr (8, [.int th44, .int (nI tp44), .int (nI rs44), .int (nI ks44), .ref mt, .ref mr_, .ref mk, .ref mo, .ref mh, .ref mse, .ref mhs, .ref msp, .ref msc, .ref mha])), (mse, .inl (g.2.1 0, 8, .inl fS44))] ++ pl) := hD
            obtain ⟨-, -, -, hm145, hm146⟩ := hq67
            obtain ⟨he106, he107, he108, he109, he110⟩ := hm146
            have he106 : th44 = nI 2 := he106
            have he107 : tp44 = tp := he107
            have he108 : rs44 = rs := he108
            have he109 : ks44 = ks := he109
            obtain rfl := he110
            refine W.widen (k := 0) (n := 0) (by omega) (by omega) ?_
            exact mp_iret hx hb hr hlk hP hD hS ((th44, tp44, rs44, ks44, fS44), pl) ⟨⟨(by show tp44 ≤ 16384; omega), (by show rs44 ≤ 8192; omega), (by show ks44 ≤ 8; omega), hm145⟩, hO⟩ [0, 1] rfl rfl rfl (by omega) (by omega) dM_load_97
          · refine lv_goto (tgt := 98) hx hb dM_load_74 (by decide) ?_
            refine lv_aload_n hx hb dM_load_98 rfl (lv_at hl 0 rfl) ?_
            refine va_get (D := g.1) (ci := 8) (C := "LatticeKeysModel") (T := T_M) (N := 14) hx hb hts (wg_ft i_M) hown hK hP 0 rfl rfl 3 (by decide) (hts _ (wg_t kw_1529)) (fun _ h9 => h9) rfl dM_load_99 ?_
            refine lv_bipush (v := nI 8) hx hb dM_load_102 (by decide) ?_
            refine mi_ne (tgt := 113) hx hb dM_load_104 (by decide) (by omega) (by omega) (fun h107 => ?_) (fun h107 => ?_)
            · refine lv_iload_n hx hb dM_load_113 rfl (lv_at hl 2 rfl) ?_
              refine lv_if_eq (tgt := 127) hx hb dM_load_114 (by decide) (fun h9 => absurd h9 hsc) (fun h9 => ?_)
              refine lv_iload_n hx hb dM_load_117 rfl (lv_at hl 1 rfl) ?_
              refine mp_i (cx := []) (wr := [(h0, .inr (8, [.int (nI 0), .int (nI tp), .int (nI rs), .int (nI ks), .ref mt, .ref mr_, .ref mk, .ref mo, .ref mh, .ref mse, .ref mhs, .ref msp, .ref msc, .ref mha])), (mse, .inl (g.2.1 0, 8, .inl fS))]) hP hD hS hA [] [0, 1] rfl rfl rfl (by decide) (va_runS (As := [.int (nI 0)]) (rest := []) F (t_M_openSize_0 l g _ T [] pl hO hU  ) (va_cwS 1 hts (wg_app (wg_c kw_1764 (wg_c kw_1765 (wg_c kw_9 wg_n))) kw_1766) rfl rfl rfl (by decide +kernel) ⟨by decide, by decide⟩) (pp_S (en_ok g) hP hD hS hA hE [] rfl rfl) rfl rfl hl.1 rfl (lv_room (Nat.le_of_ble_eq_true rfl)) dM_load_118 ⟨by omega, by omega⟩) (fun r74 pl H locs hu68 hP hD hS => ?_)
              obtain ⟨hq68, hO⟩ := hu68
              have hP : va_P g.1 vcl ([(h0, .inr (8, [.int (nI 0), .int (nI tp), .int (nI rs), .int (nI ks), .ref mt, .ref mr_, .ref mk, .ref mo, .ref mh, .ref mse, .ref mhs, .ref msp, .ref msc, .ref mha])), (mse, .inl (g.2.1 0, 8, .inl fS))] ++ pl) _ := hP
              have hD : va_D _ ([(h0, .inr (8, [.int (nI 0), .int (nI tp), .int (nI rs), .int (nI ks), .ref mt, .ref mr_, .ref mk, .ref mo, .ref mh, .ref mse, .ref mhs, .ref msp, .ref msc, .ref mha])), (mse, .inl (g.2.1 0, 8, .inl fS))] ++ pl) := hD
              obtain rfl := hq68
              refine W.widen (k := 0) (n := 0) (by omega) (by omega) ?_
              refine lv_bipush (v := nI 32) hx hb dM_load_121 (by decide) ?_
              refine mi_isub hx hb dM_load_123 (by omega) ?_
              refine mi_as (show nI (800 - 32) = nI 768 from rfl) ?_
              refine lv_goto (tgt := 128) hx hb dM_load_124 (by decide) ?_
              refine lv_istore_n (lv' := [(3, .int (nI 768)), (0, .ref h0), (1, .int (nI 0)), (2, .int sc)]) hx hb dM_load_128 rfl hl (by decide) rfl (fun ls hl => ?_)
              refine lv_iconst (v := nI 0) hx hb dM_load_129 (by decide) ?_
              refine lv_istore (lv' := [(4, .int (nI 0)), (3, .int (nI 768)), (0, .ref h0), (1, .int (nI 0)), (2, .int sc)]) hx hb dM_load_130 hl (by decide) rfl (fun ls hl => ?_)
              have lp27 : ∀ (n27 : Nat) (i27 : Nat) (pl : va_W) (ls : Array Slot) (H : Heap) (locs : List Loc), n27 + i27 = 800 → lv_has ls 5 [(4, .int (nI i27)), (3, .int (nI 768)), (0, .ref h0), (1, .int (nI 0)), (2, .int sc)] → okx g T [] pl → va_P g.1 vcl ([(h0, .inr (8, [.int (nI 0), .int (nI tp), .int (nI rs), .int (nI ks), .ref mt, .ref mr_, .ref mk, .ref mo, .ref mh, .ref mse, .ref mhs, .ref msp, .ref msc, .ref mha])), (mse, .inl (g.2.1 0, 8, .inl fS))] ++ pl) H → va_D A ([(h0, .inr (8, [.int (nI 0), .int (nI tp), .int (nI rs), .int (nI ks), .ref mt, .ref mr_, .ref mk, .ref mo, .ref mh, .ref mse, .ref mhs, .ref msp, .ref msc, .ref mha])), (mse, .inl (g.2.1 0, 8, .inl fS))] ++ pl) → va_S A s.heap H locs → W p l e ({ frames := 6, cells := 0, slots := 0, locals := 147 } : Room) s m args below meth c H locs 0 0 (MQ below (va_Qi (fun (r : Int32) (u : (Int32 × Nat × Nat × Nat × (Nat → Int32)) × va_W) => (u.1.2.1 ≤ 16384 ∧ u.1.2.2.1 ≤ 8192 ∧ u.1.2.2.2.1 ≤ 8 ∧ s5 u.1.2.2.2.2) ∧ okx g T [] u.2) (po g.1 vcl A (fun (u : (Int32 × Nat × Nat × Nat × (Nat → Int32)) × va_W) => [(h0, .inr (8, [.int u.1.1, .int (nI (u.1.2.1)), .int (nI (u.1.2.2.1)), .int (nI (u.1.2.2.2.1)), .ref mt, .ref mr_, .ref mk, .ref mo, .ref mh, .ref mse, .ref mhs, .ref msp, .ref msc, .ref mha])), (mse, .inl (g.2.1 0, 8, .inl ((u.1.2.2.2.2))))] ++ u.2)) A) args s 0 0 A) (F0 m 132 ls []) := by
                intro n27
                induction n27 with
                | zero =>
                  intro i27 pl ls H locs hm147  hl hO hP hD hS
                  refine lv_iload hx hb dM_load_132 (lv_at hl 0 rfl) ?_
                  refine lv_iload_n hx hb dM_load_134 rfl (lv_at hl 3 rfl) ?_
                  refine mp_i (cx := []) (wr := [(h0, .inr (8, [.int (nI 0), .int (nI tp), .int (nI rs), .int (nI ks), .ref mt, .ref mr_, .ref mk, .ref mo, .ref mh, .ref mse, .ref mhs, .ref msp, .ref msc, .ref mha])), (mse, .inl (g.2.1 0, 8, .inl fS))]) hP hD hS hA [] [0, 1] rfl rfl rfl (by decide) (va_runS (As := [.int (nI 0)]) (rest := [.int (nI i27)]) F (t_M_openSize_0 l g _ T [] pl hO hU  ) (va_cwS 1 hts (wg_app (wg_c kw_1764 (wg_c kw_1765 (wg_c kw_9 wg_n))) kw_1766) rfl rfl rfl (by decide +kernel) ⟨by decide, by decide⟩) (pp_S (en_ok g) hP hD hS hA hE [] rfl rfl) rfl rfl hl.1 rfl (lv_room (Nat.le_of_ble_eq_true rfl)) dM_load_135 ⟨by omega, by omega⟩) (fun r75 pl H locs hu69 hP hD hS => ?_)
                  obtain ⟨hq69, hO⟩ := hu69
                  have hP : va_P g.1 vcl ([(h0, .inr (8, [.int (nI 0), .int (nI tp), .int (nI rs), .int (nI ks), .ref mt, .ref mr_, .ref mk, .ref mo, .ref mh, .ref mse, .ref mhs, .ref msp, .ref msc, .ref mha])), (mse, .inl (g.2.1 0, 8, .inl fS))] ++ pl) _ := hP
                  have hD : va_D _ ([(h0, .inr (8, [.int (nI 0), .int (nI tp), .int (nI rs), .int (nI ks), .ref mt, .ref mr_, .ref mk, .ref mo, .ref mh, .ref mse, .ref mhs, .ref msp, .ref msc, .ref mha])), (mse, .inl (g.2.1 0, 8, .inl fS))] ++ pl) := hD
                  obtain rfl := hq69
                  refine W.widen (k := 0) (n := 0) (by omega) (by omega) ?_
                  refine mi_ge (tgt := 168) hx hb dM_load_138 (by decide) (by omega) (by omega) (fun h108 => ?_) (fun h108 => absurd h108 (by omega))
                  refine lv_iconst (v := nI 0) hx hb dM_load_168 (by decide) ?_
                  refine lv_istore (lv' := [(4, .int (nI 0)), (3, .int (nI 768)), (0, .ref h0), (1, .int (nI 0)), (2, .int sc)]) hx hb dM_load_169 hl (by decide) rfl (fun ls hl => ?_)
                  have lp28 : ∀ (n28 : Nat) (i28 : Nat) (pl : va_W) (ls : Array Slot) (H : Heap) (locs : List Loc), n28 + i28 = tp → lv_has ls 5 [(4, .int (nI i28)), (0, .ref h0), (1, .int (nI 0)), (2, .int sc)] → okx g T [] pl → va_P g.1 vcl ([(h0, .inr (8, [.int (nI 0), .int (nI tp), .int (nI rs), .int (nI ks), .ref mt, .ref mr_, .ref mk, .ref mo, .ref mh, .ref mse, .ref mhs, .ref msp, .ref msc, .ref mha])), (mse, .inl (g.2.1 0, 8, .inl fS))] ++ pl) H → va_D A ([(h0, .inr (8, [.int (nI 0), .int (nI tp), .int (nI rs), .int (nI ks), .ref mt, .ref mr_, .ref mk, .ref mo, .ref mh, .ref mse, .ref mhs, .ref msp, .ref msc, .ref mha])), (mse, .inl (g.2.1 0, 8, .inl fS))] ++ pl) → va_S A s.heap H locs → W p l e ({ frames := 6, cells := 0, slots := 0, locals := 147 } : Room) s m args below meth c H locs 0 0 (MQ below (va_Qi (fun (r : Int32) (u : (Int32 × Nat × Nat × Nat × (Nat → Int32)) × va_W) => (u.1.2.1 ≤ 16384 ∧ u.1.2.2.1 ≤ 8192 ∧ u.1.2.2.2.1 ≤ 8 ∧ s5 u.1.2.2.2.2) ∧ okx g T [] u.2) (po g.1 vcl A (fun (u : (Int32 × Nat × Nat × Nat × (Nat → Int32)) × va_W) => [(h0, .inr (8, [.int u.1.1, .int (nI (u.1.2.1)), .int (nI (u.1.2.2.1)), .int (nI (u.1.2.2.2.1)), .ref mt, .ref mr_, .ref mk, .ref mo, .ref mh, .ref mse, .ref mhs, .ref msp, .ref msc, .ref mha])), (mse, .inl (g.2.1 0, 8, .inl ((u.1.2.2.2.2))))] ++ u.2)) A) args s 0 0 A) (F0 m 171 ls []) := by
                    intro n28
                    induction n28 with
                    | zero =>
                      intro i28 pl ls H locs hm148  hl hO hP hD hS
                      refine lv_iload_n hx hb dM_load_171 rfl (lv_at hl 3 rfl) ?_
                      refine lv_if_eq (tgt := 209) hx hb dM_load_172 (by decide) (fun h9 => absurd h9 hsc) (fun h9 => ?_)
                      refine lv_iload hx hb dM_load_175 (lv_at hl 0 rfl) ?_
                      refine lv_aload_n hx hb dM_load_177 rfl (lv_at hl 1 rfl) ?_
                      refine va_get (D := g.1) (ci := 8) (C := "LatticeKeysModel") (T := T_M) (N := 14) hx hb hts (wg_ft i_M) hown hK hP 0 rfl rfl 1 (by decide) (hts _ (wg_t kw_1527)) (fun _ h9 => h9) rfl dM_load_178 ?_
                      refine mi_ge (tgt := 209) hx hb dM_load_181 (by decide) (by omega) (by omega) (fun h109 => ?_) (fun h109 => absurd h109 (by omega))
                      refine lv_aload_n hx hb dM_load_209 rfl (lv_at hl 1 rfl) ?_
                      refine lv_iload_n hx hb dM_load_210 rfl (lv_at hl 2 rfl) ?_
                      refine lv_iload_n hx hb dM_load_211 rfl (lv_at hl 3 rfl) ?_
                      refine lv_if_eq (tgt := 222) hx hb dM_load_212 (by decide) (fun h9 => absurd h9 hsc) (fun h9 => ?_)
                      refine lv_aload_n hx hb dM_load_215 rfl (lv_at hl 1 rfl) ?_
                      refine va_get (D := g.1) (ci := 8) (C := "LatticeKeysModel") (T := T_M) (N := 14) hx hb hts (wg_ft i_M) hown hK hP 0 rfl rfl 1 (by decide) (hts _ (wg_t kw_1527)) (fun _ h9 => h9) rfl dM_load_216 ?_
                      refine lv_goto (tgt := 223) hx hb dM_load_219 (by decide) ?_
                      refine mp_i (cx := [(h0, .inr (8, [.int (nI 0), .int (nI tp), .int (nI rs), .int (nI ks), .ref mt, .ref mr_, .ref mk, .ref mo, .ref mh, .ref mse, .ref mhs, .ref msp, .ref msc, .ref mha])), (mse, .inl (g.2.1 0, 8, .inl fS))]) (wr := []) hP hD hS hA [0, 1] [] rfl rfl rfl (by decide) (va_runV (As := [.int (nI 0), .int (nI tp)]) (rest := []) F (t_M_made l g _ T  pl hO hU  0 tp h0 mt mr_ mk mo mh mse mhs msp msc mha tp rs ks (nI 0) fS k_mt k_mr_ k_mk k_mo k_mh k_mhs k_msp k_msc k_mha (by omega) hS5 (by omega) (by omega) (by omega)) (cwV 2 hts (wg_app (wg_c kw_1756 (wg_c kw_1758 (wg_c ks_64 (wg_c kw_9 wg_n)))) kw_1759) rfl rfl rfl (by decide +kernel) ⟨by decide, by decide⟩) (pp_V (en_ok g) (q0 := 0) hK hP hD hS hA hE [0, 1] rfl rfl rfl rfl) rfl rfl hl.1 rfl (lv_room (Nat.le_of_ble_eq_true rfl)) dM_load_223 ⟨by omega, by omega⟩) (fun r76 u69 H locs hu70 hP hD hS => ?_)
                      obtain ⟨u70, pl⟩ := u69
                      obtain ⟨hq70, hO⟩ := hu70
                      obtain ⟨th45, tp45, rs45, ks45, fS45⟩ := u70
                      have hP : va_P g.1 vcl ([(h0, .inr (8, [.int th45, .int (nI tp45), .int (nI rs45), .int (nI ks45), .ref mt, .ref mr_, .ref mk, .ref mo, .ref mh, .ref mse, .ref mhs, .ref msp, .ref msc, .ref mha])), (mse, .inl (g.2.1 0, 8, .inl fS45))] ++ pl) _ := hP
                      have hD : va_D _ ([(h0, .inr (8, [.int th45, .int (nI tp45), .int (nI rs45), .int (nI ks45), .ref mt, .ref mr_, .ref mk, .ref mo, .ref mh, .ref mse, .ref mhs, .ref msp, .ref msc, .ref mha])), (mse, .inl (g.2.1 0, 8, .inl fS45))] ++ pl) := hD
                      obtain ⟨hm149, hm150, hm151, hm152⟩ := hq70
                      have hm149 : tp45 ≤ 16384 := hm149
                      have hm150 : rs45 ≤ 8192 := hm150
                      have hm151 : ks45 ≤ 8 := hm151
                      refine W.widen (k := 0) (n := 0) (by omega) (by omega) ?_
                      exact mp_iret hx hb hr hlk hP hD hS ((th45, tp45, rs45, ks45, fS45), pl) ⟨⟨(by show tp45 ≤ 16384; omega), (by show rs45 ≤ 8192; omega), (by show ks45 ≤ 8; omega), hm152⟩, hO⟩ [0, 1] rfl rfl rfl (by omega) (by omega) dM_load_226
                    | succ n28 ih28 =>
                      intro i28 pl ls H locs hm148  hl hO hP hD hS
                      refine lv_iload_n hx hb dM_load_171 rfl (lv_at hl 3 rfl) ?_
                      refine lv_if_eq (tgt := 209) hx hb dM_load_172 (by decide) (fun h9 => absurd h9 hsc) (fun h9 => ?_)
                      refine lv_iload hx hb dM_load_175 (lv_at hl 0 rfl) ?_
                      refine lv_aload_n hx hb dM_load_177 rfl (lv_at hl 1 rfl) ?_
                      refine va_get (D := g.1) (ci := 8) (C := "LatticeKeysModel") (T := T_M) (N := 14) hx hb hts (wg_ft i_M) hown hK hP 0 rfl rfl 1 (by decide) (hts _ (wg_t kw_1527)) (fun _ h9 => h9) rfl dM_load_178 ?_
                      refine mi_ge (tgt := 209) hx hb dM_load_181 (by decide) (by omega) (by omega) (fun h110 => absurd h110 (by omega)) (fun h110 => ?_)
                      refine lv_aload_n hx hb dM_load_184 rfl (lv_at hl 1 rfl) ?_
                      refine va_get (D := g.1) (ci := 8) (C := "LatticeKeysModel") (T := T_M) (N := 14) hx hb hts (wg_ft i_M) hown hK hP 0 rfl rfl 8 (by decide) (hts _ (wg_t kw_1534)) (fun _ h9 => h9) rfl dM_load_185 ?_
                      refine lv_aload_n hx hb dM_load_188 rfl (lv_at hl 1 rfl) ?_
                      refine va_get (D := g.1) (ci := 8) (C := "LatticeKeysModel") (T := T_M) (N := 14) hx hb hts (wg_ft i_M) hown hK hP 0 rfl rfl 3 (by decide) (hts _ (wg_t kw_1529)) (fun _ h9 => h9) rfl dM_load_189 ?_
                      refine ty_aald4 hx hb hK hO k_mh (nxg clo_nil k_mh rfl) hP (by omega) dM_load_192 (fun r77 kr27 => ?_)
                      refine lv_iload hx hb dM_load_193 (lv_at hl 0 rfl) ?_
                      refine lv_aload_n hx hb dM_load_195 rfl (lv_at hl 1 rfl) ?_
                      refine va_get (D := g.1) (ci := 8) (C := "LatticeKeysModel") (T := T_M) (N := 14) hx hb hts (wg_ft i_M) hown hK hP 0 rfl rfl 4 (by decide) (hts _ (wg_t kw_1530)) (fun _ h9 => h9) rfl dM_load_196 ?_
                      refine lv_iload hx hb dM_load_199 (lv_at hl 0 rfl) ?_
                      refine ty_bald hx hb hK hO k_mt (nxg clo_nil k_mt rfl) hP (vp_in_nI (by omega) (by decide)) dM_load_201 (fun z27 => ?_)
                      refine ty_bast hx hb hK hO kr27 (nxg clo_nil kr27 rfl) hP hD hS (vp_in_nI (by omega) (by decide)) dM_load_202 (fun pl H locs hO hP hD hS => ?_)
                      refine mi_iinc (k := 0) (x := i28) (d := 1) (y := i28 + 1) (lv' := [(4, .int (nI (i28 + 1))), (0, .ref h0), (1, .int (nI 0)), (2, .int sc)]) hx hb dM_load_203 hl rfl (by decide) rfl (by decide) rfl (fun ls hl => ?_)
                      refine lv_goto (tgt := 171) hx hb dM_load_206 (by decide) ?_
                      exact ih28 (i28 + 1) pl ls H locs (by omega) (lv_sub hl [0, 1, 2, 3] rfl) hO hP hD hS
                  exact lp28 tp 0 pl ls _ _ (by omega) (lv_sub hl [0, 2, 3, 4] rfl) hO hP hD hS
                | succ n27 ih27 =>
                  intro i27 pl ls H locs hm147  hl hO hP hD hS
                  refine lv_iload hx hb dM_load_132 (lv_at hl 0 rfl) ?_
                  refine lv_iload_n hx hb dM_load_134 rfl (lv_at hl 3 rfl) ?_
                  refine mp_i (cx := []) (wr := [(h0, .inr (8, [.int (nI 0), .int (nI tp), .int (nI rs), .int (nI ks), .ref mt, .ref mr_, .ref mk, .ref mo, .ref mh, .ref mse, .ref mhs, .ref msp, .ref msc, .ref mha])), (mse, .inl (g.2.1 0, 8, .inl fS))]) hP hD hS hA [] [0, 1] rfl rfl rfl (by decide) (va_runS (As := [.int (nI 0)]) (rest := [.int (nI i27)]) F (t_M_openSize_0 l g _ T [] pl hO hU  ) (va_cwS 1 hts (wg_app (wg_c kw_1764 (wg_c kw_1765 (wg_c kw_9 wg_n))) kw_1766) rfl rfl rfl (by decide +kernel) ⟨by decide, by decide⟩) (pp_S (en_ok g) hP hD hS hA hE [] rfl rfl) rfl rfl hl.1 rfl (lv_room (Nat.le_of_ble_eq_true rfl)) dM_load_135 ⟨by omega, by omega⟩) (fun r78 pl H locs hu71 hP hD hS => ?_)
                  obtain ⟨hq71, hO⟩ := hu71
                  have hP : va_P g.1 vcl ([(h0, .inr (8, [.int (nI 0), .int (nI tp), .int (nI rs), .int (nI ks), .ref mt, .ref mr_, .ref mk, .ref mo, .ref mh, .ref mse, .ref mhs, .ref msp, .ref msc, .ref mha])), (mse, .inl (g.2.1 0, 8, .inl fS))] ++ pl) _ := hP
                  have hD : va_D _ ([(h0, .inr (8, [.int (nI 0), .int (nI tp), .int (nI rs), .int (nI ks), .ref mt, .ref mr_, .ref mk, .ref mo, .ref mh, .ref mse, .ref mhs, .ref msp, .ref msc, .ref mha])), (mse, .inl (g.2.1 0, 8, .inl fS))] ++ pl) := hD
                  obtain rfl := hq71
                  refine W.widen (k := 0) (n := 0) (by omega) (by omega) ?_
                  refine mi_ge (tgt := 168) hx hb dM_load_138 (by decide) (by omega) (by omega) (fun h111 => absurd h111 (by omega)) (fun h111 => ?_)
                  refine lv_aload_n hx hb dM_load_141 rfl (lv_at hl 2 rfl) ?_
                  refine va_get (D := g.1) (ci := 8) (C := "LatticeKeysModel") (T := T_M) (N := 14) hx hb hts (wg_ft i_M) hown hK hP 0 rfl rfl 7 (by decide) (hts _ (wg_t kw_1533)) (fun _ h9 => h9) rfl dM_load_142 ?_
                  refine lv_aload_n hx hb dM_load_145 rfl (lv_at hl 2 rfl) ?_
                  refine va_get (D := g.1) (ci := 8) (C := "LatticeKeysModel") (T := T_M) (N := 14) hx hb hts (wg_ft i_M) hown hK hP 0 rfl rfl 3 (by decide) (hts _ (wg_t kw_1529)) (fun _ h9 => h9) rfl dM_load_146 ?_
                  refine ty_aald4 hx hb hK hO k_mo (nxg clo_nil k_mo rfl) hP (by omega) dM_load_149 (fun r79 kr28 => ?_)
                  refine lv_iload hx hb dM_load_150 (lv_at hl 0 rfl) ?_
                  refine lv_aload_n hx hb dM_load_152 rfl (lv_at hl 2 rfl) ?_
                  refine va_get (D := g.1) (ci := 8) (C := "LatticeKeysModel") (T := T_M) (N := 14) hx hb hts (wg_ft i_M) hown hK hP 0 rfl rfl 4 (by decide) (hts _ (wg_t kw_1530)) (fun _ h9 => h9) rfl dM_load_153 ?_
                  refine lv_iload_n hx hb dM_load_156 rfl (lv_at hl 1 rfl) ?_
                  refine lv_iload hx hb dM_load_157 (lv_at hl 0 rfl) ?_
                  refine mi_iadd hx hb dM_load_159 ?_
                  refine ty_bald hx hb hK hO k_mt (nxg clo_nil k_mt rfl) hP (vp_in_nI (by omega) (by decide)) dM_load_160 (fun z28 => ?_)
                  refine ty_bast hx hb hK hO kr28 (nxg clo_nil kr28 rfl) hP hD hS (vp_in_nI (by omega) (by decide)) dM_load_161 (fun pl H locs hO hP hD hS => ?_)
                  refine mi_iinc (k := 0) (x := i27) (d := 1) (y := i27 + 1) (lv' := [(4, .int (nI (i27 + 1))), (3, .int (nI 768)), (0, .ref h0), (1, .int (nI 0)), (2, .int sc)]) hx hb dM_load_162 hl rfl (by decide) rfl (by decide) rfl (fun ls hl => ?_)
                  refine lv_goto (tgt := 132) hx hb dM_load_165 (by decide) ?_
                  exact ih27 (i27 + 1) pl ls H locs (by omega) (lv_sub hl [0, 1, 2, 3, 4] rfl) hO hP hD hS
              exact lp27 800 0 pl ls _ _ (by omega) (lv_sub hl [0, 1, 2, 3, 4] rfl) hO hP hD hS
            · refine lv_aload_n hx hb dM_load_107 rfl (lv_at hl 0 rfl) ?_
              refine lv_iconst (v := nI 3) hx hb dM_load_108 (by decide) ?_
              refine mp_i (cx := [(h0, .inr (8, [.int (nI 0), .int (nI tp), .int (nI rs), .int (nI ks), .ref mt, .ref mr_, .ref mk, .ref mo, .ref mh, .ref mse, .ref mhs, .ref msp, .ref msc, .ref mha])), (mse, .inl (g.2.1 0, 8, .inl fS))]) (wr := []) hP hD hS hA [0, 1] [] rfl rfl rfl (by decide) (va_runV (As := [.int (nI 3)]) (rest := []) F (t_M_fail l g _ T  pl hO hU  (nI 3) h0 mt mr_ mk mo mh mse mhs msp msc mha tp rs ks (nI 0) fS k_mt k_mr_ k_mk k_mo k_mh k_mhs k_msp k_msc k_mha (by omega) hS5) (cwV 1 hts (wg_app (wg_c kw_1577 (wg_c kw_1579 (wg_c ks_50 (wg_c kw_9 wg_n)))) kw_1580) rfl rfl rfl (by decide +kernel) ⟨by decide, by decide⟩) (pp_V (en_ok g) (q0 := 0) hK hP hD hS hA hE [0, 1] rfl rfl rfl rfl) rfl rfl hl.1 rfl (lv_room (Nat.le_of_ble_eq_true rfl)) dM_load_109 ⟨by omega, by omega⟩) (fun r80 u71 H locs hu72 hP hD hS => ?_)
              obtain ⟨u72, pl⟩ := u71
              obtain ⟨hq72, hO⟩ := hu72
              obtain ⟨th46, tp46, rs46, ks46, fS46⟩ := u72
              have hP : va_P g.1 vcl ([(h0, .inr (8, [.int th46, .int (nI tp46), .int (nI rs46), .int (nI ks46), .ref mt, .ref mr_, .ref mk, .ref mo, .ref mh, .ref mse, .ref mhs, .ref msp, .ref msc, .ref mha])), (mse, .inl (g.2.1 0, 8, .inl fS46))] ++ pl) _ := hP
              have hD : va_D _ ([(h0, .inr (8, [.int th46, .int (nI tp46), .int (nI rs46), .int (nI ks46), .ref mt, .ref mr_, .ref mk, .ref mo, .ref mh, .ref mse, .ref mhs, .ref msp, .ref msc, .ref mha])), (mse, .inl (g.2.1 0, 8, .inl fS46))] ++ pl) := hD
              obtain ⟨-, -, -, hm157, hm158⟩ := hq72
              obtain ⟨he111, he112, he113, he114, he115⟩ := hm158
              have he111 : th46 = nI 3 := he111
              have he112 : tp46 = tp := he112
              have he113 : rs46 = rs := he113
              have he114 : ks46 = ks := he114
              obtain rfl := he115
              refine W.widen (k := 0) (n := 0) (by omega) (by omega) ?_
              exact mp_iret hx hb hr hlk hP hD hS ((th46, tp46, rs46, ks46, fS46), pl) ⟨⟨(by show tp46 ≤ 16384; omega), (by show rs46 ≤ 8192; omega), (by show ks46 ≤ 8; omega), hm157⟩, hO⟩ [0, 1] rfl rfl rfl (by omega) (by omega) dM_load_112
        · refine lv_aload_n hx hb dM_load_44 rfl (lv_at hl 0 rfl) ?_
          refine lv_iconst (v := nI 1) hx hb dM_load_45 (by decide) ?_
          refine mp_i (cx := [(h0, .inr (8, [.int (nI 0), .int (nI tp), .int (nI rs), .int (nI ks), .ref mt, .ref mr_, .ref mk, .ref mo, .ref mh, .ref mse, .ref mhs, .ref msp, .ref msc, .ref mha])), (mse, .inl (g.2.1 0, 8, .inl fS))]) (wr := []) hP hD hS hA [0, 1] [] rfl rfl rfl (by decide) (va_runV (As := [.int (nI 1)]) (rest := []) F (t_M_fail l g _ T  pl hO hU  (nI 1) h0 mt mr_ mk mo mh mse mhs msp msc mha tp rs ks (nI 0) fS k_mt k_mr_ k_mk k_mo k_mh k_mhs k_msp k_msc k_mha (by omega) hS5) (cwV 1 hts (wg_app (wg_c kw_1577 (wg_c kw_1579 (wg_c ks_50 (wg_c kw_9 wg_n)))) kw_1580) rfl rfl rfl (by decide +kernel) ⟨by decide, by decide⟩) (pp_V (en_ok g) (q0 := 0) hK hP hD hS hA hE [0, 1] rfl rfl rfl rfl) rfl rfl hl.1 rfl (lv_room (Nat.le_of_ble_eq_true rfl)) dM_load_46 ⟨by omega, by omega⟩) (fun r81 u73 H locs hu73 hP hD hS => ?_)
          obtain ⟨u74, pl⟩ := u73
          obtain ⟨hq73, hO⟩ := hu73
          obtain ⟨th47, tp47, rs47, ks47, fS47⟩ := u74
          have hP : va_P g.1 vcl ([(h0, .inr (8, [.int th47, .int (nI tp47), .int (nI rs47), .int (nI ks47), .ref mt, .ref mr_, .ref mk, .ref mo, .ref mh, .ref mse, .ref mhs, .ref msp, .ref msc, .ref mha])), (mse, .inl (g.2.1 0, 8, .inl fS47))] ++ pl) _ := hP
          have hD : va_D _ ([(h0, .inr (8, [.int th47, .int (nI tp47), .int (nI rs47), .int (nI ks47), .ref mt, .ref mr_, .ref mk, .ref mo, .ref mh, .ref mse, .ref mhs, .ref msp, .ref msc, .ref mha])), (mse, .inl (g.2.1 0, 8, .inl fS47))] ++ pl) := hD
          obtain ⟨-, -, -, hm162, hm163⟩ := hq73
          obtain ⟨he116, he117, he118, he119, he120⟩ := hm163
          have he116 : th47 = nI 1 := he116
          have he117 : tp47 = tp := he117
          have he118 : rs47 = rs := he118
          have he119 : ks47 = ks := he119
          obtain rfl := he120
          refine W.widen (k := 0) (n := 0) (by omega) (by omega) ?_
          exact mp_iret hx hb hr hlk hP hD hS ((th47, tp47, rs47, ks47, fS47), pl) ⟨⟨(by show tp47 ≤ 16384; omega), (by show rs47 ≤ 8192; omega), (by show ks47 ≤ 8; omega), hm162⟩, hO⟩ [0, 1] rfl rfl rfl (by omega) (by omega) dM_load_49
      | 1, _ =>
        refine lv_iload_n hx hb dM_load_5 rfl (lv_at hl 1 rfl) ?_
        refine lv_if_lt (tgt := 44) hx hb dM_load_6 (by decide) (fun h112 => absurd h112 (by decide)) (fun h112 => ?_)
        refine lv_iload_n hx hb dM_load_9 rfl (lv_at hl 1 rfl) ?_
        refine lv_iload_n hx hb dM_load_10 rfl (lv_at hl 2 rfl) ?_
        refine lv_if_eq (tgt := 18) hx hb dM_load_11 (by decide) (fun h9 => absurd h9 hsc) (fun h9 => ?_)
        refine lv_iconst (v := nI 2) hx hb dM_load_14 (by decide) ?_
        refine lv_goto (tgt := 19) hx hb dM_load_15 (by decide) ?_
        refine mi_gt (tgt := 44) hx hb dM_load_19 (by decide) (by omega) (by omega) (fun h113 => absurd h113 (by omega)) (fun h113 => ?_)
        refine lv_aload_n hx hb dM_load_22 rfl (lv_at hl 0 rfl) ?_
        refine va_get (D := g.1) (ci := 8) (C := "LatticeKeysModel") (T := T_M) (N := 14) hx hb hts (wg_ft i_M) hown hK hP 0 rfl rfl 1 (by decide) (hts _ (wg_t kw_1527)) (fun _ h9 => h9) rfl dM_load_23 ?_
        refine lv_iload_n hx hb dM_load_26 rfl (lv_at hl 2 rfl) ?_
        refine lv_if_eq (tgt := 37) hx hb dM_load_27 (by decide) (fun h9 => absurd h9 hsc) (fun h9 => ?_)
        refine lv_iload_n hx hb dM_load_30 rfl (lv_at hl 1 rfl) ?_
        refine mp_i (cx := []) (wr := [(h0, .inr (8, [.int (nI 0), .int (nI tp), .int (nI rs), .int (nI ks), .ref mt, .ref mr_, .ref mk, .ref mo, .ref mh, .ref mse, .ref mhs, .ref msp, .ref msc, .ref mha])), (mse, .inl (g.2.1 0, 8, .inl fS))]) hP hD hS hA [] [0, 1] rfl rfl rfl (by decide) (va_runS (As := [.int (nI 1)]) (rest := [.int (nI tp)]) F (t_M_hiddenSize_1 l g _ T [] pl hO hU  ) (va_cwS 1 hts (wg_app (wg_c kw_1747 (wg_c kw_1748 (wg_c kw_9 wg_n))) kw_1749) rfl rfl rfl (by decide +kernel) ⟨by decide, by decide⟩) (pp_S (en_ok g) hP hD hS hA hE [] rfl rfl) rfl rfl hl.1 rfl (lv_room (Nat.le_of_ble_eq_true rfl)) dM_load_31 ⟨by omega, by omega⟩) (fun r82 pl H locs hu74 hP hD hS => ?_)
        obtain ⟨hq74, hO⟩ := hu74
        have hP : va_P g.1 vcl ([(h0, .inr (8, [.int (nI 0), .int (nI tp), .int (nI rs), .int (nI ks), .ref mt, .ref mr_, .ref mk, .ref mo, .ref mh, .ref mse, .ref mhs, .ref msp, .ref msc, .ref mha])), (mse, .inl (g.2.1 0, 8, .inl fS))] ++ pl) _ := hP
        have hD : va_D _ ([(h0, .inr (8, [.int (nI 0), .int (nI tp), .int (nI rs), .int (nI ks), .ref mt, .ref mr_, .ref mk, .ref mo, .ref mh, .ref mse, .ref mhs, .ref msp, .ref msc, .ref mha])), (mse, .inl (g.2.1 0, 8, .inl fS))] ++ pl) := hD
        obtain rfl := hq74
        refine W.widen (k := 0) (n := 0) (by omega) (by omega) ?_
        refine lv_goto (tgt := 41) hx hb dM_load_34 (by decide) ?_
        refine mi_eq (tgt := 50) hx hb dM_load_41 (by decide) (by omega) (by omega) (fun h114 => ?_) (fun h114 => ?_)
        · refine lv_iload_n hx hb dM_load_50 rfl (lv_at hl 1 rfl) ?_
          refine lv_iconst (v := nI 3) hx hb dM_load_51 (by decide) ?_
          refine mi_ge (tgt := 98) hx hb dM_load_52 (by decide) (by omega) (by omega) (fun h115 => absurd h115 (by omega)) (fun h115 => ?_)
          refine lv_iload_n hx hb dM_load_55 rfl (lv_at hl 2 rfl) ?_
          refine lv_if_eq (tgt := 77) hx hb dM_load_56 (by decide) (fun h9 => absurd h9 hsc) (fun h9 => ?_)
          refine lv_aload_n hx hb dM_load_59 rfl (lv_at hl 0 rfl) ?_
          refine va_get (D := g.1) (ci := 8) (C := "LatticeKeysModel") (T := T_M) (N := 14) hx hb hts (wg_ft i_M) hown hK hP 0 rfl rfl 12 (by decide) (hts _ (wg_t kw_1538)) (fun _ h9 => h9) rfl dM_load_60 ?_
          refine lv_iload_n hx hb dM_load_63 rfl (lv_at hl 1 rfl) ?_
          refine lv_aload_n hx hb dM_load_64 rfl (lv_at hl 0 rfl) ?_
          refine va_get (D := g.1) (ci := 8) (C := "LatticeKeysModel") (T := T_M) (N := 14) hx hb hts (wg_ft i_M) hown hK hP 0 rfl rfl 4 (by decide) (hts _ (wg_t kw_1530)) (fun _ h9 => h9) rfl dM_load_65 ?_
          refine mp_i (cx := []) (wr := [(h0, .inr (8, [.int (nI 0), .int (nI tp), .int (nI rs), .int (nI ks), .ref mt, .ref mr_, .ref mk, .ref mo, .ref mh, .ref mse, .ref mhs, .ref msp, .ref msc, .ref mha])), (mse, .inl (g.2.1 0, 8, .inl fS))]) hP hD hS hA [] [0, 1] rfl rfl rfl (by decide) (va_runV (As := [.int (nI 1), .ref mt]) (rest := []) F (t_ME_goodHidden_1 l g _ T [] pl hO hU clo_nil clo_nil msc mt k_msc k_mt) (cwV 2 hts (wg_app (wg_c kw_1769 (wg_c kw_1770 (wg_c kw_1771 (wg_c kw_11 wg_n)))) kw_1772) rfl rfl rfl (by decide +kernel) ⟨by decide, by decide⟩) (pp_VT (en_ok g) (ci := 11) (kd := (23, 0)) hK hO k_msc (nxg clo_nil k_msc rfl) (fun _ h9 => ko1 h9) hP hD hS hA hE [] rfl rfl rfl) rfl rfl hl.1 rfl (lv_room (Nat.le_of_ble_eq_true rfl)) dM_load_68 ⟨by omega, by omega⟩) (fun r83 pl H locs hu75 hP hD hS => ?_)
          obtain ⟨hq75, hO⟩ := hu75
          have hP : va_P g.1 vcl ([(h0, .inr (8, [.int (nI 0), .int (nI tp), .int (nI rs), .int (nI ks), .ref mt, .ref mr_, .ref mk, .ref mo, .ref mh, .ref mse, .ref mhs, .ref msp, .ref msc, .ref mha])), (mse, .inl (g.2.1 0, 8, .inl fS))] ++ pl) _ := hP
          have hD : va_D _ ([(h0, .inr (8, [.int (nI 0), .int (nI tp), .int (nI rs), .int (nI ks), .ref mt, .ref mr_, .ref mk, .ref mo, .ref mh, .ref mse, .ref mhs, .ref msp, .ref msc, .ref mha])), (mse, .inl (g.2.1 0, 8, .inl fS))] ++ pl) := hD
          refine W.widen (k := 0) (n := 0) (by omega) (by omega) ?_
          refine lv_if_eq (tgt := 92) hx hb dM_load_71 (by decide) (fun h116 => ?_) (fun h116 => ?_)
          · refine lv_aload_n hx hb dM_load_92 rfl (lv_at hl 0 rfl) ?_
            refine lv_iconst (v := nI 2) hx hb dM_load_93 (by decide) ?_
            refine mp_i (cx := [(h0, .inr (8, [.int (nI 0), .int (nI tp), .int (nI rs), .int (nI ks), .ref mt, .ref mr_, .ref mk, .ref mo, .ref mh, .ref mse, .ref mhs, .ref msp, .ref msc, .ref mha])), (mse, .inl (g.2.1 0, 8, .inl fS))]) (wr := []) hP hD hS hA [0, 1] [] rfl rfl rfl (by decide) (va_runV (As := [.int (nI 2)]) (rest := []) F (t_M_fail l g _ T  pl hO hU  (nI 2) h0 mt mr_ mk mo mh mse mhs msp msc mha tp rs ks (nI 0) fS k_mt k_mr_ k_mk k_mo k_mh k_mhs k_msp k_msc k_mha (by omega) hS5) (cwV 1 hts (wg_app (wg_c kw_1577 (wg_c kw_1579 (wg_c ks_50 (wg_c kw_9 wg_n)))) kw_1580) rfl rfl rfl (by decide +kernel) ⟨by decide, by decide⟩) (pp_V (en_ok g) (q0 := 0) hK hP hD hS hA hE [0, 1] rfl rfl rfl rfl) rfl rfl hl.1 rfl (lv_room (Nat.le_of_ble_eq_true rfl)) dM_load_94 ⟨by omega, by omega⟩) (fun r84 u75 H locs hu76 hP hD hS => ?_)
            obtain ⟨u76, pl⟩ := u75
            obtain ⟨hq76, hO⟩ := hu76
            obtain ⟨th48, tp48, rs48, ks48, fS48⟩ := u76
            have hP : va_P g.1 vcl ([(h0, .inr (8, [.int th48, .int (nI tp48), .int (nI rs48), .int (nI ks48), .ref mt, .ref mr_, .ref mk, .ref mo, .ref mh, .ref mse, .ref mhs, .ref msp, .ref msc, .ref mha])), (mse, .inl (g.2.1 0, 8, .inl fS48))] ++ pl) _ := hP
            have hD : va_D _ ([(h0, .inr (8, [.int th48, .int (nI tp48), .int (nI rs48), .int (nI ks48), .ref mt, .ref mr_, .ref mk, .ref mo, .ref mh, .ref mse, .ref mhs, .ref msp, .ref msc, .ref mha])), (mse, .inl (g.2.1 0, 8, .inl fS48))] ++ pl) := hD
            obtain ⟨-, -, -, hm167, hm168⟩ := hq76
            obtain ⟨he121, he122, he123, he124, he125⟩ := hm168
            have he121 : th48 = nI 2 := he121
            have he122 : tp48 = tp := he122
            have he123 : rs48 = rs := he123
            have he124 : ks48 = ks := he124
            obtain rfl := he125
            refine W.widen (k := 0) (n := 0) (by omega) (by omega) ?_
            exact mp_iret hx hb hr hlk hP hD hS ((th48, tp48, rs48, ks48, fS48), pl) ⟨⟨(by show tp48 ≤ 16384; omega), (by show rs48 ≤ 8192; omega), (by show ks48 ≤ 8; omega), hm167⟩, hO⟩ [0, 1] rfl rfl rfl (by omega) (by omega) dM_load_97
          · refine lv_goto (tgt := 98) hx hb dM_load_74 (by decide) ?_
            refine lv_aload_n hx hb dM_load_98 rfl (lv_at hl 0 rfl) ?_
            refine va_get (D := g.1) (ci := 8) (C := "LatticeKeysModel") (T := T_M) (N := 14) hx hb hts (wg_ft i_M) hown hK hP 0 rfl rfl 3 (by decide) (hts _ (wg_t kw_1529)) (fun _ h9 => h9) rfl dM_load_99 ?_
            refine lv_bipush (v := nI 8) hx hb dM_load_102 (by decide) ?_
            refine mi_ne (tgt := 113) hx hb dM_load_104 (by decide) (by omega) (by omega) (fun h117 => ?_) (fun h117 => ?_)
            · refine lv_iload_n hx hb dM_load_113 rfl (lv_at hl 2 rfl) ?_
              refine lv_if_eq (tgt := 127) hx hb dM_load_114 (by decide) (fun h9 => absurd h9 hsc) (fun h9 => ?_)
              refine lv_iload_n hx hb dM_load_117 rfl (lv_at hl 1 rfl) ?_
              refine mp_i (cx := []) (wr := [(h0, .inr (8, [.int (nI 0), .int (nI tp), .int (nI rs), .int (nI ks), .ref mt, .ref mr_, .ref mk, .ref mo, .ref mh, .ref mse, .ref mhs, .ref msp, .ref msc, .ref mha])), (mse, .inl (g.2.1 0, 8, .inl fS))]) hP hD hS hA [] [0, 1] rfl rfl rfl (by decide) (va_runS (As := [.int (nI 1)]) (rest := []) F (t_M_openSize_1 l g _ T [] pl hO hU  ) (va_cwS 1 hts (wg_app (wg_c kw_1764 (wg_c kw_1765 (wg_c kw_9 wg_n))) kw_1766) rfl rfl rfl (by decide +kernel) ⟨by decide, by decide⟩) (pp_S (en_ok g) hP hD hS hA hE [] rfl rfl) rfl rfl hl.1 rfl (lv_room (Nat.le_of_ble_eq_true rfl)) dM_load_118 ⟨by omega, by omega⟩) (fun r85 pl H locs hu77 hP hD hS => ?_)
              obtain ⟨hq77, hO⟩ := hu77
              have hP : va_P g.1 vcl ([(h0, .inr (8, [.int (nI 0), .int (nI tp), .int (nI rs), .int (nI ks), .ref mt, .ref mr_, .ref mk, .ref mo, .ref mh, .ref mse, .ref mhs, .ref msp, .ref msc, .ref mha])), (mse, .inl (g.2.1 0, 8, .inl fS))] ++ pl) _ := hP
              have hD : va_D _ ([(h0, .inr (8, [.int (nI 0), .int (nI tp), .int (nI rs), .int (nI ks), .ref mt, .ref mr_, .ref mk, .ref mo, .ref mh, .ref mse, .ref mhs, .ref msp, .ref msc, .ref mha])), (mse, .inl (g.2.1 0, 8, .inl fS))] ++ pl) := hD
              obtain rfl := hq77
              refine W.widen (k := 0) (n := 0) (by omega) (by omega) ?_
              refine lv_bipush (v := nI 32) hx hb dM_load_121 (by decide) ?_
              refine mi_isub hx hb dM_load_123 (by omega) ?_
              refine mi_as (show nI (1184 - 32) = nI 1152 from rfl) ?_
              refine lv_goto (tgt := 128) hx hb dM_load_124 (by decide) ?_
              refine lv_istore_n (lv' := [(3, .int (nI 1152)), (0, .ref h0), (1, .int (nI 1)), (2, .int sc)]) hx hb dM_load_128 rfl hl (by decide) rfl (fun ls hl => ?_)
              refine lv_iconst (v := nI 0) hx hb dM_load_129 (by decide) ?_
              refine lv_istore (lv' := [(4, .int (nI 0)), (3, .int (nI 1152)), (0, .ref h0), (1, .int (nI 1)), (2, .int sc)]) hx hb dM_load_130 hl (by decide) rfl (fun ls hl => ?_)
              have lp29 : ∀ (n29 : Nat) (i29 : Nat) (pl : va_W) (ls : Array Slot) (H : Heap) (locs : List Loc), n29 + i29 = 1184 → lv_has ls 5 [(4, .int (nI i29)), (3, .int (nI 1152)), (0, .ref h0), (1, .int (nI 1)), (2, .int sc)] → okx g T [] pl → va_P g.1 vcl ([(h0, .inr (8, [.int (nI 0), .int (nI tp), .int (nI rs), .int (nI ks), .ref mt, .ref mr_, .ref mk, .ref mo, .ref mh, .ref mse, .ref mhs, .ref msp, .ref msc, .ref mha])), (mse, .inl (g.2.1 0, 8, .inl fS))] ++ pl) H → va_D A ([(h0, .inr (8, [.int (nI 0), .int (nI tp), .int (nI rs), .int (nI ks), .ref mt, .ref mr_, .ref mk, .ref mo, .ref mh, .ref mse, .ref mhs, .ref msp, .ref msc, .ref mha])), (mse, .inl (g.2.1 0, 8, .inl fS))] ++ pl) → va_S A s.heap H locs → W p l e ({ frames := 6, cells := 0, slots := 0, locals := 147 } : Room) s m args below meth c H locs 0 0 (MQ below (va_Qi (fun (r : Int32) (u : (Int32 × Nat × Nat × Nat × (Nat → Int32)) × va_W) => (u.1.2.1 ≤ 16384 ∧ u.1.2.2.1 ≤ 8192 ∧ u.1.2.2.2.1 ≤ 8 ∧ s5 u.1.2.2.2.2) ∧ okx g T [] u.2) (po g.1 vcl A (fun (u : (Int32 × Nat × Nat × Nat × (Nat → Int32)) × va_W) => [(h0, .inr (8, [.int u.1.1, .int (nI (u.1.2.1)), .int (nI (u.1.2.2.1)), .int (nI (u.1.2.2.2.1)), .ref mt, .ref mr_, .ref mk, .ref mo, .ref mh, .ref mse, .ref mhs, .ref msp, .ref msc, .ref mha])), (mse, .inl (g.2.1 0, 8, .inl ((u.1.2.2.2.2))))] ++ u.2)) A) args s 0 0 A) (F0 m 132 ls []) := by
                intro n29
                induction n29 with
                | zero =>
                  intro i29 pl ls H locs hm169  hl hO hP hD hS
                  refine lv_iload hx hb dM_load_132 (lv_at hl 0 rfl) ?_
                  refine lv_iload_n hx hb dM_load_134 rfl (lv_at hl 3 rfl) ?_
                  refine mp_i (cx := []) (wr := [(h0, .inr (8, [.int (nI 0), .int (nI tp), .int (nI rs), .int (nI ks), .ref mt, .ref mr_, .ref mk, .ref mo, .ref mh, .ref mse, .ref mhs, .ref msp, .ref msc, .ref mha])), (mse, .inl (g.2.1 0, 8, .inl fS))]) hP hD hS hA [] [0, 1] rfl rfl rfl (by decide) (va_runS (As := [.int (nI 1)]) (rest := [.int (nI i29)]) F (t_M_openSize_1 l g _ T [] pl hO hU  ) (va_cwS 1 hts (wg_app (wg_c kw_1764 (wg_c kw_1765 (wg_c kw_9 wg_n))) kw_1766) rfl rfl rfl (by decide +kernel) ⟨by decide, by decide⟩) (pp_S (en_ok g) hP hD hS hA hE [] rfl rfl) rfl rfl hl.1 rfl (lv_room (Nat.le_of_ble_eq_true rfl)) dM_load_135 ⟨by omega, by omega⟩) (fun r86 pl H locs hu78 hP hD hS => ?_)
                  obtain ⟨hq78, hO⟩ := hu78
                  have hP : va_P g.1 vcl ([(h0, .inr (8, [.int (nI 0), .int (nI tp), .int (nI rs), .int (nI ks), .ref mt, .ref mr_, .ref mk, .ref mo, .ref mh, .ref mse, .ref mhs, .ref msp, .ref msc, .ref mha])), (mse, .inl (g.2.1 0, 8, .inl fS))] ++ pl) _ := hP
                  have hD : va_D _ ([(h0, .inr (8, [.int (nI 0), .int (nI tp), .int (nI rs), .int (nI ks), .ref mt, .ref mr_, .ref mk, .ref mo, .ref mh, .ref mse, .ref mhs, .ref msp, .ref msc, .ref mha])), (mse, .inl (g.2.1 0, 8, .inl fS))] ++ pl) := hD
                  obtain rfl := hq78
                  refine W.widen (k := 0) (n := 0) (by omega) (by omega) ?_
                  refine mi_ge (tgt := 168) hx hb dM_load_138 (by decide) (by omega) (by omega) (fun h118 => ?_) (fun h118 => absurd h118 (by omega))
                  refine lv_iconst (v := nI 0) hx hb dM_load_168 (by decide) ?_
                  refine lv_istore (lv' := [(4, .int (nI 0)), (3, .int (nI 1152)), (0, .ref h0), (1, .int (nI 1)), (2, .int sc)]) hx hb dM_load_169 hl (by decide) rfl (fun ls hl => ?_)
                  have lp30 : ∀ (n30 : Nat) (i30 : Nat) (pl : va_W) (ls : Array Slot) (H : Heap) (locs : List Loc), n30 + i30 = tp → lv_has ls 5 [(4, .int (nI i30)), (0, .ref h0), (1, .int (nI 1)), (2, .int sc)] → okx g T [] pl → va_P g.1 vcl ([(h0, .inr (8, [.int (nI 0), .int (nI tp), .int (nI rs), .int (nI ks), .ref mt, .ref mr_, .ref mk, .ref mo, .ref mh, .ref mse, .ref mhs, .ref msp, .ref msc, .ref mha])), (mse, .inl (g.2.1 0, 8, .inl fS))] ++ pl) H → va_D A ([(h0, .inr (8, [.int (nI 0), .int (nI tp), .int (nI rs), .int (nI ks), .ref mt, .ref mr_, .ref mk, .ref mo, .ref mh, .ref mse, .ref mhs, .ref msp, .ref msc, .ref mha])), (mse, .inl (g.2.1 0, 8, .inl fS))] ++ pl) → va_S A s.heap H locs → W p l e ({ frames := 6, cells := 0, slots := 0, locals := 147 } : Room) s m args below meth c H locs 0 0 (MQ below (va_Qi (fun (r : Int32) (u : (Int32 × Nat × Nat × Nat × (Nat → Int32)) × va_W) => (u.1.2.1 ≤ 16384 ∧ u.1.2.2.1 ≤ 8192 ∧ u.1.2.2.2.1 ≤ 8 ∧ s5 u.1.2.2.2.2) ∧ okx g T [] u.2) (po g.1 vcl A (fun (u : (Int32 × Nat × Nat × Nat × (Nat → Int32)) × va_W) => [(h0, .inr (8, [.int u.1.1, .int (nI (u.1.2.1)), .int (nI (u.1.2.2.1)), .int (nI (u.1.2.2.2.1)), .ref mt, .ref mr_, .ref mk, .ref mo, .ref mh, .ref mse, .ref mhs, .ref msp, .ref msc, .ref mha])), (mse, .inl (g.2.1 0, 8, .inl ((u.1.2.2.2.2))))] ++ u.2)) A) args s 0 0 A) (F0 m 171 ls []) := by
                    intro n30
                    induction n30 with
                    | zero =>
                      intro i30 pl ls H locs hm170  hl hO hP hD hS
                      refine lv_iload_n hx hb dM_load_171 rfl (lv_at hl 3 rfl) ?_
                      refine lv_if_eq (tgt := 209) hx hb dM_load_172 (by decide) (fun h9 => absurd h9 hsc) (fun h9 => ?_)
                      refine lv_iload hx hb dM_load_175 (lv_at hl 0 rfl) ?_
                      refine lv_aload_n hx hb dM_load_177 rfl (lv_at hl 1 rfl) ?_
                      refine va_get (D := g.1) (ci := 8) (C := "LatticeKeysModel") (T := T_M) (N := 14) hx hb hts (wg_ft i_M) hown hK hP 0 rfl rfl 1 (by decide) (hts _ (wg_t kw_1527)) (fun _ h9 => h9) rfl dM_load_178 ?_
                      refine mi_ge (tgt := 209) hx hb dM_load_181 (by decide) (by omega) (by omega) (fun h119 => ?_) (fun h119 => absurd h119 (by omega))
                      refine lv_aload_n hx hb dM_load_209 rfl (lv_at hl 1 rfl) ?_
                      refine lv_iload_n hx hb dM_load_210 rfl (lv_at hl 2 rfl) ?_
                      refine lv_iload_n hx hb dM_load_211 rfl (lv_at hl 3 rfl) ?_
                      refine lv_if_eq (tgt := 222) hx hb dM_load_212 (by decide) (fun h9 => absurd h9 hsc) (fun h9 => ?_)
                      refine lv_aload_n hx hb dM_load_215 rfl (lv_at hl 1 rfl) ?_
                      refine va_get (D := g.1) (ci := 8) (C := "LatticeKeysModel") (T := T_M) (N := 14) hx hb hts (wg_ft i_M) hown hK hP 0 rfl rfl 1 (by decide) (hts _ (wg_t kw_1527)) (fun _ h9 => h9) rfl dM_load_216 ?_
                      refine lv_goto (tgt := 223) hx hb dM_load_219 (by decide) ?_
                      refine mp_i (cx := [(h0, .inr (8, [.int (nI 0), .int (nI tp), .int (nI rs), .int (nI ks), .ref mt, .ref mr_, .ref mk, .ref mo, .ref mh, .ref mse, .ref mhs, .ref msp, .ref msc, .ref mha])), (mse, .inl (g.2.1 0, 8, .inl fS))]) (wr := []) hP hD hS hA [0, 1] [] rfl rfl rfl (by decide) (va_runV (As := [.int (nI 1), .int (nI tp)]) (rest := []) F (t_M_made l g _ T  pl hO hU  1 tp h0 mt mr_ mk mo mh mse mhs msp msc mha tp rs ks (nI 0) fS k_mt k_mr_ k_mk k_mo k_mh k_mhs k_msp k_msc k_mha (by omega) hS5 (by omega) (by omega) (by omega)) (cwV 2 hts (wg_app (wg_c kw_1756 (wg_c kw_1758 (wg_c ks_64 (wg_c kw_9 wg_n)))) kw_1759) rfl rfl rfl (by decide +kernel) ⟨by decide, by decide⟩) (pp_V (en_ok g) (q0 := 0) hK hP hD hS hA hE [0, 1] rfl rfl rfl rfl) rfl rfl hl.1 rfl (lv_room (Nat.le_of_ble_eq_true rfl)) dM_load_223 ⟨by omega, by omega⟩) (fun r87 u77 H locs hu79 hP hD hS => ?_)
                      obtain ⟨u78, pl⟩ := u77
                      obtain ⟨hq79, hO⟩ := hu79
                      obtain ⟨th49, tp49, rs49, ks49, fS49⟩ := u78
                      have hP : va_P g.1 vcl ([(h0, .inr (8, [.int th49, .int (nI tp49), .int (nI rs49), .int (nI ks49), .ref mt, .ref mr_, .ref mk, .ref mo, .ref mh, .ref mse, .ref mhs, .ref msp, .ref msc, .ref mha])), (mse, .inl (g.2.1 0, 8, .inl fS49))] ++ pl) _ := hP
                      have hD : va_D _ ([(h0, .inr (8, [.int th49, .int (nI tp49), .int (nI rs49), .int (nI ks49), .ref mt, .ref mr_, .ref mk, .ref mo, .ref mh, .ref mse, .ref mhs, .ref msp, .ref msc, .ref mha])), (mse, .inl (g.2.1 0, 8, .inl fS49))] ++ pl) := hD
                      obtain ⟨hm171, hm172, hm173, hm174⟩ := hq79
                      have hm171 : tp49 ≤ 16384 := hm171
                      have hm172 : rs49 ≤ 8192 := hm172
                      have hm173 : ks49 ≤ 8 := hm173
                      refine W.widen (k := 0) (n := 0) (by omega) (by omega) ?_
                      exact mp_iret hx hb hr hlk hP hD hS ((th49, tp49, rs49, ks49, fS49), pl) ⟨⟨(by show tp49 ≤ 16384; omega), (by show rs49 ≤ 8192; omega), (by show ks49 ≤ 8; omega), hm174⟩, hO⟩ [0, 1] rfl rfl rfl (by omega) (by omega) dM_load_226
                    | succ n30 ih30 =>
                      intro i30 pl ls H locs hm170  hl hO hP hD hS
                      refine lv_iload_n hx hb dM_load_171 rfl (lv_at hl 3 rfl) ?_
                      refine lv_if_eq (tgt := 209) hx hb dM_load_172 (by decide) (fun h9 => absurd h9 hsc) (fun h9 => ?_)
                      refine lv_iload hx hb dM_load_175 (lv_at hl 0 rfl) ?_
                      refine lv_aload_n hx hb dM_load_177 rfl (lv_at hl 1 rfl) ?_
                      refine va_get (D := g.1) (ci := 8) (C := "LatticeKeysModel") (T := T_M) (N := 14) hx hb hts (wg_ft i_M) hown hK hP 0 rfl rfl 1 (by decide) (hts _ (wg_t kw_1527)) (fun _ h9 => h9) rfl dM_load_178 ?_
                      refine mi_ge (tgt := 209) hx hb dM_load_181 (by decide) (by omega) (by omega) (fun h120 => absurd h120 (by omega)) (fun h120 => ?_)
                      refine lv_aload_n hx hb dM_load_184 rfl (lv_at hl 1 rfl) ?_
                      refine va_get (D := g.1) (ci := 8) (C := "LatticeKeysModel") (T := T_M) (N := 14) hx hb hts (wg_ft i_M) hown hK hP 0 rfl rfl 8 (by decide) (hts _ (wg_t kw_1534)) (fun _ h9 => h9) rfl dM_load_185 ?_
                      refine lv_aload_n hx hb dM_load_188 rfl (lv_at hl 1 rfl) ?_
                      refine va_get (D := g.1) (ci := 8) (C := "LatticeKeysModel") (T := T_M) (N := 14) hx hb hts (wg_ft i_M) hown hK hP 0 rfl rfl 3 (by decide) (hts _ (wg_t kw_1529)) (fun _ h9 => h9) rfl dM_load_189 ?_
                      refine ty_aald4 hx hb hK hO k_mh (nxg clo_nil k_mh rfl) hP (by omega) dM_load_192 (fun r88 kr29 => ?_)
                      refine lv_iload hx hb dM_load_193 (lv_at hl 0 rfl) ?_
                      refine lv_aload_n hx hb dM_load_195 rfl (lv_at hl 1 rfl) ?_
                      refine va_get (D := g.1) (ci := 8) (C := "LatticeKeysModel") (T := T_M) (N := 14) hx hb hts (wg_ft i_M) hown hK hP 0 rfl rfl 4 (by decide) (hts _ (wg_t kw_1530)) (fun _ h9 => h9) rfl dM_load_196 ?_
                      refine lv_iload hx hb dM_load_199 (lv_at hl 0 rfl) ?_
                      refine ty_bald hx hb hK hO k_mt (nxg clo_nil k_mt rfl) hP (vp_in_nI (by omega) (by decide)) dM_load_201 (fun z29 => ?_)
                      refine ty_bast hx hb hK hO kr29 (nxg clo_nil kr29 rfl) hP hD hS (vp_in_nI (by omega) (by decide)) dM_load_202 (fun pl H locs hO hP hD hS => ?_)
                      refine mi_iinc (k := 0) (x := i30) (d := 1) (y := i30 + 1) (lv' := [(4, .int (nI (i30 + 1))), (0, .ref h0), (1, .int (nI 1)), (2, .int sc)]) hx hb dM_load_203 hl rfl (by decide) rfl (by decide) rfl (fun ls hl => ?_)
                      refine lv_goto (tgt := 171) hx hb dM_load_206 (by decide) ?_
                      exact ih30 (i30 + 1) pl ls H locs (by omega) (lv_sub hl [0, 1, 2, 3] rfl) hO hP hD hS
                  exact lp30 tp 0 pl ls _ _ (by omega) (lv_sub hl [0, 2, 3, 4] rfl) hO hP hD hS
                | succ n29 ih29 =>
                  intro i29 pl ls H locs hm169  hl hO hP hD hS
                  refine lv_iload hx hb dM_load_132 (lv_at hl 0 rfl) ?_
                  refine lv_iload_n hx hb dM_load_134 rfl (lv_at hl 3 rfl) ?_
                  refine mp_i (cx := []) (wr := [(h0, .inr (8, [.int (nI 0), .int (nI tp), .int (nI rs), .int (nI ks), .ref mt, .ref mr_, .ref mk, .ref mo, .ref mh, .ref mse, .ref mhs, .ref msp, .ref msc, .ref mha])), (mse, .inl (g.2.1 0, 8, .inl fS))]) hP hD hS hA [] [0, 1] rfl rfl rfl (by decide) (va_runS (As := [.int (nI 1)]) (rest := [.int (nI i29)]) F (t_M_openSize_1 l g _ T [] pl hO hU  ) (va_cwS 1 hts (wg_app (wg_c kw_1764 (wg_c kw_1765 (wg_c kw_9 wg_n))) kw_1766) rfl rfl rfl (by decide +kernel) ⟨by decide, by decide⟩) (pp_S (en_ok g) hP hD hS hA hE [] rfl rfl) rfl rfl hl.1 rfl (lv_room (Nat.le_of_ble_eq_true rfl)) dM_load_135 ⟨by omega, by omega⟩) (fun r89 pl H locs hu80 hP hD hS => ?_)
                  obtain ⟨hq80, hO⟩ := hu80
                  have hP : va_P g.1 vcl ([(h0, .inr (8, [.int (nI 0), .int (nI tp), .int (nI rs), .int (nI ks), .ref mt, .ref mr_, .ref mk, .ref mo, .ref mh, .ref mse, .ref mhs, .ref msp, .ref msc, .ref mha])), (mse, .inl (g.2.1 0, 8, .inl fS))] ++ pl) _ := hP
                  have hD : va_D _ ([(h0, .inr (8, [.int (nI 0), .int (nI tp), .int (nI rs), .int (nI ks), .ref mt, .ref mr_, .ref mk, .ref mo, .ref mh, .ref mse, .ref mhs, .ref msp, .ref msc, .ref mha])), (mse, .inl (g.2.1 0, 8, .inl fS))] ++ pl) := hD
                  obtain rfl := hq80
                  refine W.widen (k := 0) (n := 0) (by omega) (by omega) ?_
                  refine mi_ge (tgt := 168) hx hb dM_load_138 (by decide) (by omega) (by omega) (fun h121 => absurd h121 (by omega)) (fun h121 => ?_)
                  refine lv_aload_n hx hb dM_load_141 rfl (lv_at hl 2 rfl) ?_
                  refine va_get (D := g.1) (ci := 8) (C := "LatticeKeysModel") (T := T_M) (N := 14) hx hb hts (wg_ft i_M) hown hK hP 0 rfl rfl 7 (by decide) (hts _ (wg_t kw_1533)) (fun _ h9 => h9) rfl dM_load_142 ?_
                  refine lv_aload_n hx hb dM_load_145 rfl (lv_at hl 2 rfl) ?_
                  refine va_get (D := g.1) (ci := 8) (C := "LatticeKeysModel") (T := T_M) (N := 14) hx hb hts (wg_ft i_M) hown hK hP 0 rfl rfl 3 (by decide) (hts _ (wg_t kw_1529)) (fun _ h9 => h9) rfl dM_load_146 ?_
                  refine ty_aald4 hx hb hK hO k_mo (nxg clo_nil k_mo rfl) hP (by omega) dM_load_149 (fun r90 kr30 => ?_)
                  refine lv_iload hx hb dM_load_150 (lv_at hl 0 rfl) ?_
                  refine lv_aload_n hx hb dM_load_152 rfl (lv_at hl 2 rfl) ?_
                  refine va_get (D := g.1) (ci := 8) (C := "LatticeKeysModel") (T := T_M) (N := 14) hx hb hts (wg_ft i_M) hown hK hP 0 rfl rfl 4 (by decide) (hts _ (wg_t kw_1530)) (fun _ h9 => h9) rfl dM_load_153 ?_
                  refine lv_iload_n hx hb dM_load_156 rfl (lv_at hl 1 rfl) ?_
                  refine lv_iload hx hb dM_load_157 (lv_at hl 0 rfl) ?_
                  refine mi_iadd hx hb dM_load_159 ?_
                  refine ty_bald hx hb hK hO k_mt (nxg clo_nil k_mt rfl) hP (vp_in_nI (by omega) (by decide)) dM_load_160 (fun z30 => ?_)
                  refine ty_bast hx hb hK hO kr30 (nxg clo_nil kr30 rfl) hP hD hS (vp_in_nI (by omega) (by decide)) dM_load_161 (fun pl H locs hO hP hD hS => ?_)
                  refine mi_iinc (k := 0) (x := i29) (d := 1) (y := i29 + 1) (lv' := [(4, .int (nI (i29 + 1))), (3, .int (nI 1152)), (0, .ref h0), (1, .int (nI 1)), (2, .int sc)]) hx hb dM_load_162 hl rfl (by decide) rfl (by decide) rfl (fun ls hl => ?_)
                  refine lv_goto (tgt := 132) hx hb dM_load_165 (by decide) ?_
                  exact ih29 (i29 + 1) pl ls H locs (by omega) (lv_sub hl [0, 1, 2, 3, 4] rfl) hO hP hD hS
              exact lp29 1184 0 pl ls _ _ (by omega) (lv_sub hl [0, 1, 2, 3, 4] rfl) hO hP hD hS
            · refine lv_aload_n hx hb dM_load_107 rfl (lv_at hl 0 rfl) ?_
              refine lv_iconst (v := nI 3) hx hb dM_load_108 (by decide) ?_
              refine mp_i (cx := [(h0, .inr (8, [.int (nI 0), .int (nI tp), .int (nI rs), .int (nI ks), .ref mt, .ref mr_, .ref mk, .ref mo, .ref mh, .ref mse, .ref mhs, .ref msp, .ref msc, .ref mha])), (mse, .inl (g.2.1 0, 8, .inl fS))]) (wr := []) hP hD hS hA [0, 1] [] rfl rfl rfl (by decide) (va_runV (As := [.int (nI 3)]) (rest := []) F (t_M_fail l g _ T  pl hO hU  (nI 3) h0 mt mr_ mk mo mh mse mhs msp msc mha tp rs ks (nI 0) fS k_mt k_mr_ k_mk k_mo k_mh k_mhs k_msp k_msc k_mha (by omega) hS5) (cwV 1 hts (wg_app (wg_c kw_1577 (wg_c kw_1579 (wg_c ks_50 (wg_c kw_9 wg_n)))) kw_1580) rfl rfl rfl (by decide +kernel) ⟨by decide, by decide⟩) (pp_V (en_ok g) (q0 := 0) hK hP hD hS hA hE [0, 1] rfl rfl rfl rfl) rfl rfl hl.1 rfl (lv_room (Nat.le_of_ble_eq_true rfl)) dM_load_109 ⟨by omega, by omega⟩) (fun r91 u79 H locs hu81 hP hD hS => ?_)
              obtain ⟨u80, pl⟩ := u79
              obtain ⟨hq81, hO⟩ := hu81
              obtain ⟨th50, tp50, rs50, ks50, fS50⟩ := u80
              have hP : va_P g.1 vcl ([(h0, .inr (8, [.int th50, .int (nI tp50), .int (nI rs50), .int (nI ks50), .ref mt, .ref mr_, .ref mk, .ref mo, .ref mh, .ref mse, .ref mhs, .ref msp, .ref msc, .ref mha])), (mse, .inl (g.2.1 0, 8, .inl fS50))] ++ pl) _ := hP
              have hD : va_D _ ([(h0, .inr (8, [.int th50, .int (nI tp50), .int (nI rs50), .int (nI ks50), .ref mt, .ref mr_, .ref mk, .ref mo, .ref mh, .ref mse, .ref mhs, .ref msp, .ref msc, .ref mha])), (mse, .inl (g.2.1 0, 8, .inl fS50))] ++ pl) := hD
              obtain ⟨-, -, -, hm179, hm180⟩ := hq81
              obtain ⟨he126, he127, he128, he129, he130⟩ := hm180
              have he126 : th50 = nI 3 := he126
              have he127 : tp50 = tp := he127
              have he128 : rs50 = rs := he128
              have he129 : ks50 = ks := he129
              obtain rfl := he130
              refine W.widen (k := 0) (n := 0) (by omega) (by omega) ?_
              exact mp_iret hx hb hr hlk hP hD hS ((th50, tp50, rs50, ks50, fS50), pl) ⟨⟨(by show tp50 ≤ 16384; omega), (by show rs50 ≤ 8192; omega), (by show ks50 ≤ 8; omega), hm179⟩, hO⟩ [0, 1] rfl rfl rfl (by omega) (by omega) dM_load_112
        · refine lv_aload_n hx hb dM_load_44 rfl (lv_at hl 0 rfl) ?_
          refine lv_iconst (v := nI 1) hx hb dM_load_45 (by decide) ?_
          refine mp_i (cx := [(h0, .inr (8, [.int (nI 0), .int (nI tp), .int (nI rs), .int (nI ks), .ref mt, .ref mr_, .ref mk, .ref mo, .ref mh, .ref mse, .ref mhs, .ref msp, .ref msc, .ref mha])), (mse, .inl (g.2.1 0, 8, .inl fS))]) (wr := []) hP hD hS hA [0, 1] [] rfl rfl rfl (by decide) (va_runV (As := [.int (nI 1)]) (rest := []) F (t_M_fail l g _ T  pl hO hU  (nI 1) h0 mt mr_ mk mo mh mse mhs msp msc mha tp rs ks (nI 0) fS k_mt k_mr_ k_mk k_mo k_mh k_mhs k_msp k_msc k_mha (by omega) hS5) (cwV 1 hts (wg_app (wg_c kw_1577 (wg_c kw_1579 (wg_c ks_50 (wg_c kw_9 wg_n)))) kw_1580) rfl rfl rfl (by decide +kernel) ⟨by decide, by decide⟩) (pp_V (en_ok g) (q0 := 0) hK hP hD hS hA hE [0, 1] rfl rfl rfl rfl) rfl rfl hl.1 rfl (lv_room (Nat.le_of_ble_eq_true rfl)) dM_load_46 ⟨by omega, by omega⟩) (fun r92 u81 H locs hu82 hP hD hS => ?_)
          obtain ⟨u82, pl⟩ := u81
          obtain ⟨hq82, hO⟩ := hu82
          obtain ⟨th51, tp51, rs51, ks51, fS51⟩ := u82
          have hP : va_P g.1 vcl ([(h0, .inr (8, [.int th51, .int (nI tp51), .int (nI rs51), .int (nI ks51), .ref mt, .ref mr_, .ref mk, .ref mo, .ref mh, .ref mse, .ref mhs, .ref msp, .ref msc, .ref mha])), (mse, .inl (g.2.1 0, 8, .inl fS51))] ++ pl) _ := hP
          have hD : va_D _ ([(h0, .inr (8, [.int th51, .int (nI tp51), .int (nI rs51), .int (nI ks51), .ref mt, .ref mr_, .ref mk, .ref mo, .ref mh, .ref mse, .ref mhs, .ref msp, .ref msc, .ref mha])), (mse, .inl (g.2.1 0, 8, .inl fS51))] ++ pl) := hD
          obtain ⟨-, -, -, hm184, hm185⟩ := hq82
          obtain ⟨he131, he132, he133, he134, he135⟩ := hm185
          have he131 : th51 = nI 1 := he131
          have he132 : tp51 = tp := he132
          have he133 : rs51 = rs := he133
          have he134 : ks51 = ks := he134
          obtain rfl := he135
          refine W.widen (k := 0) (n := 0) (by omega) (by omega) ?_
          exact mp_iret hx hb hr hlk hP hD hS ((th51, tp51, rs51, ks51, fS51), pl) ⟨⟨(by show tp51 ≤ 16384; omega), (by show rs51 ≤ 8192; omega), (by show ks51 ≤ 8; omega), hm184⟩, hO⟩ [0, 1] rfl rfl rfl (by omega) (by omega) dM_load_49
      | 2, _ =>
        refine lv_iload_n hx hb dM_load_5 rfl (lv_at hl 1 rfl) ?_
        refine lv_if_lt (tgt := 44) hx hb dM_load_6 (by decide) (fun h122 => absurd h122 (by decide)) (fun h122 => ?_)
        refine lv_iload_n hx hb dM_load_9 rfl (lv_at hl 1 rfl) ?_
        refine lv_iload_n hx hb dM_load_10 rfl (lv_at hl 2 rfl) ?_
        refine lv_if_eq (tgt := 18) hx hb dM_load_11 (by decide) (fun h9 => absurd h9 hsc) (fun h9 => ?_)
        refine lv_iconst (v := nI 2) hx hb dM_load_14 (by decide) ?_
        refine lv_goto (tgt := 19) hx hb dM_load_15 (by decide) ?_
        refine mi_gt (tgt := 44) hx hb dM_load_19 (by decide) (by omega) (by omega) (fun h123 => absurd h123 (by omega)) (fun h123 => ?_)
        refine lv_aload_n hx hb dM_load_22 rfl (lv_at hl 0 rfl) ?_
        refine va_get (D := g.1) (ci := 8) (C := "LatticeKeysModel") (T := T_M) (N := 14) hx hb hts (wg_ft i_M) hown hK hP 0 rfl rfl 1 (by decide) (hts _ (wg_t kw_1527)) (fun _ h9 => h9) rfl dM_load_23 ?_
        refine lv_iload_n hx hb dM_load_26 rfl (lv_at hl 2 rfl) ?_
        refine lv_if_eq (tgt := 37) hx hb dM_load_27 (by decide) (fun h9 => absurd h9 hsc) (fun h9 => ?_)
        refine lv_iload_n hx hb dM_load_30 rfl (lv_at hl 1 rfl) ?_
        refine mp_i (cx := []) (wr := [(h0, .inr (8, [.int (nI 0), .int (nI tp), .int (nI rs), .int (nI ks), .ref mt, .ref mr_, .ref mk, .ref mo, .ref mh, .ref mse, .ref mhs, .ref msp, .ref msc, .ref mha])), (mse, .inl (g.2.1 0, 8, .inl fS))]) hP hD hS hA [] [0, 1] rfl rfl rfl (by decide) (va_runS (As := [.int (nI 2)]) (rest := [.int (nI tp)]) F (t_M_hiddenSize_2 l g _ T [] pl hO hU  ) (va_cwS 1 hts (wg_app (wg_c kw_1747 (wg_c kw_1748 (wg_c kw_9 wg_n))) kw_1749) rfl rfl rfl (by decide +kernel) ⟨by decide, by decide⟩) (pp_S (en_ok g) hP hD hS hA hE [] rfl rfl) rfl rfl hl.1 rfl (lv_room (Nat.le_of_ble_eq_true rfl)) dM_load_31 ⟨by omega, by omega⟩) (fun r93 pl H locs hu83 hP hD hS => ?_)
        obtain ⟨hq83, hO⟩ := hu83
        have hP : va_P g.1 vcl ([(h0, .inr (8, [.int (nI 0), .int (nI tp), .int (nI rs), .int (nI ks), .ref mt, .ref mr_, .ref mk, .ref mo, .ref mh, .ref mse, .ref mhs, .ref msp, .ref msc, .ref mha])), (mse, .inl (g.2.1 0, 8, .inl fS))] ++ pl) _ := hP
        have hD : va_D _ ([(h0, .inr (8, [.int (nI 0), .int (nI tp), .int (nI rs), .int (nI ks), .ref mt, .ref mr_, .ref mk, .ref mo, .ref mh, .ref mse, .ref mhs, .ref msp, .ref msc, .ref mha])), (mse, .inl (g.2.1 0, 8, .inl fS))] ++ pl) := hD
        obtain rfl := hq83
        refine W.widen (k := 0) (n := 0) (by omega) (by omega) ?_
        refine lv_goto (tgt := 41) hx hb dM_load_34 (by decide) ?_
        refine mi_eq (tgt := 50) hx hb dM_load_41 (by decide) (by omega) (by omega) (fun h124 => ?_) (fun h124 => ?_)
        · refine lv_iload_n hx hb dM_load_50 rfl (lv_at hl 1 rfl) ?_
          refine lv_iconst (v := nI 3) hx hb dM_load_51 (by decide) ?_
          refine mi_ge (tgt := 98) hx hb dM_load_52 (by decide) (by omega) (by omega) (fun h125 => absurd h125 (by omega)) (fun h125 => ?_)
          refine lv_iload_n hx hb dM_load_55 rfl (lv_at hl 2 rfl) ?_
          refine lv_if_eq (tgt := 77) hx hb dM_load_56 (by decide) (fun h9 => absurd h9 hsc) (fun h9 => ?_)
          refine lv_aload_n hx hb dM_load_59 rfl (lv_at hl 0 rfl) ?_
          refine va_get (D := g.1) (ci := 8) (C := "LatticeKeysModel") (T := T_M) (N := 14) hx hb hts (wg_ft i_M) hown hK hP 0 rfl rfl 12 (by decide) (hts _ (wg_t kw_1538)) (fun _ h9 => h9) rfl dM_load_60 ?_
          refine lv_iload_n hx hb dM_load_63 rfl (lv_at hl 1 rfl) ?_
          refine lv_aload_n hx hb dM_load_64 rfl (lv_at hl 0 rfl) ?_
          refine va_get (D := g.1) (ci := 8) (C := "LatticeKeysModel") (T := T_M) (N := 14) hx hb hts (wg_ft i_M) hown hK hP 0 rfl rfl 4 (by decide) (hts _ (wg_t kw_1530)) (fun _ h9 => h9) rfl dM_load_65 ?_
          refine mp_i (cx := []) (wr := [(h0, .inr (8, [.int (nI 0), .int (nI tp), .int (nI rs), .int (nI ks), .ref mt, .ref mr_, .ref mk, .ref mo, .ref mh, .ref mse, .ref mhs, .ref msp, .ref msc, .ref mha])), (mse, .inl (g.2.1 0, 8, .inl fS))]) hP hD hS hA [] [0, 1] rfl rfl rfl (by decide) (va_runV (As := [.int (nI 2), .ref mt]) (rest := []) F (t_ME_goodHidden_2 l g _ T [] pl hO hU clo_nil clo_nil msc mt k_msc k_mt) (cwV 2 hts (wg_app (wg_c kw_1769 (wg_c kw_1770 (wg_c kw_1771 (wg_c kw_11 wg_n)))) kw_1772) rfl rfl rfl (by decide +kernel) ⟨by decide, by decide⟩) (pp_VT (en_ok g) (ci := 11) (kd := (23, 0)) hK hO k_msc (nxg clo_nil k_msc rfl) (fun _ h9 => ko1 h9) hP hD hS hA hE [] rfl rfl rfl) rfl rfl hl.1 rfl (lv_room (Nat.le_of_ble_eq_true rfl)) dM_load_68 ⟨by omega, by omega⟩) (fun r94 pl H locs hu84 hP hD hS => ?_)
          obtain ⟨hq84, hO⟩ := hu84
          have hP : va_P g.1 vcl ([(h0, .inr (8, [.int (nI 0), .int (nI tp), .int (nI rs), .int (nI ks), .ref mt, .ref mr_, .ref mk, .ref mo, .ref mh, .ref mse, .ref mhs, .ref msp, .ref msc, .ref mha])), (mse, .inl (g.2.1 0, 8, .inl fS))] ++ pl) _ := hP
          have hD : va_D _ ([(h0, .inr (8, [.int (nI 0), .int (nI tp), .int (nI rs), .int (nI ks), .ref mt, .ref mr_, .ref mk, .ref mo, .ref mh, .ref mse, .ref mhs, .ref msp, .ref msc, .ref mha])), (mse, .inl (g.2.1 0, 8, .inl fS))] ++ pl) := hD
          refine W.widen (k := 0) (n := 0) (by omega) (by omega) ?_
          refine lv_if_eq (tgt := 92) hx hb dM_load_71 (by decide) (fun h126 => ?_) (fun h126 => ?_)
          · refine lv_aload_n hx hb dM_load_92 rfl (lv_at hl 0 rfl) ?_
            refine lv_iconst (v := nI 2) hx hb dM_load_93 (by decide) ?_
            refine mp_i (cx := [(h0, .inr (8, [.int (nI 0), .int (nI tp), .int (nI rs), .int (nI ks), .ref mt, .ref mr_, .ref mk, .ref mo, .ref mh, .ref mse, .ref mhs, .ref msp, .ref msc, .ref mha])), (mse, .inl (g.2.1 0, 8, .inl fS))]) (wr := []) hP hD hS hA [0, 1] [] rfl rfl rfl (by decide) (va_runV (As := [.int (nI 2)]) (rest := []) F (t_M_fail l g _ T  pl hO hU  (nI 2) h0 mt mr_ mk mo mh mse mhs msp msc mha tp rs ks (nI 0) fS k_mt k_mr_ k_mk k_mo k_mh k_mhs k_msp k_msc k_mha (by omega) hS5) (cwV 1 hts (wg_app (wg_c kw_1577 (wg_c kw_1579 (wg_c ks_50 (wg_c kw_9 wg_n)))) kw_1580) rfl rfl rfl (by decide +kernel) ⟨by decide, by decide⟩) (pp_V (en_ok g) (q0 := 0) hK hP hD hS hA hE [0, 1] rfl rfl rfl rfl) rfl rfl hl.1 rfl (lv_room (Nat.le_of_ble_eq_true rfl)) dM_load_94 ⟨by omega, by omega⟩) (fun r95 u83 H locs hu85 hP hD hS => ?_)
            obtain ⟨u84, pl⟩ := u83
            obtain ⟨hq85, hO⟩ := hu85
            obtain ⟨th52, tp52, rs52, ks52, fS52⟩ := u84
            have hP : va_P g.1 vcl ([(h0, .inr (8, [.int th52, .int (nI tp52), .int (nI rs52), .int (nI ks52), .ref mt, .ref mr_, .ref mk, .ref mo, .ref mh, .ref mse, .ref mhs, .ref msp, .ref msc, .ref mha])), (mse, .inl (g.2.1 0, 8, .inl fS52))] ++ pl) _ := hP
            have hD : va_D _ ([(h0, .inr (8, [.int th52, .int (nI tp52), .int (nI rs52), .int (nI ks52), .ref mt, .ref mr_, .ref mk, .ref mo, .ref mh, .ref mse, .ref mhs, .ref msp, .ref msc, .ref mha])), (mse, .inl (g.2.1 0, 8, .inl fS52))] ++ pl) := hD
            obtain ⟨-, -, -, hm189, hm190⟩ := hq85
            obtain ⟨he136, he137, he138, he139, he140⟩ := hm190
            have he136 : th52 = nI 2 := he136
            have he137 : tp52 = tp := he137
            have he138 : rs52 = rs := he138
            have he139 : ks52 = ks := he139
            obtain rfl := he140
            refine W.widen (k := 0) (n := 0) (by omega) (by omega) ?_
            exact mp_iret hx hb hr hlk hP hD hS ((th52, tp52, rs52, ks52, fS52), pl) ⟨⟨(by show tp52 ≤ 16384; omega), (by show rs52 ≤ 8192; omega), (by show ks52 ≤ 8; omega), hm189⟩, hO⟩ [0, 1] rfl rfl rfl (by omega) (by omega) dM_load_97
          · refine lv_goto (tgt := 98) hx hb dM_load_74 (by decide) ?_
            refine lv_aload_n hx hb dM_load_98 rfl (lv_at hl 0 rfl) ?_
            refine va_get (D := g.1) (ci := 8) (C := "LatticeKeysModel") (T := T_M) (N := 14) hx hb hts (wg_ft i_M) hown hK hP 0 rfl rfl 3 (by decide) (hts _ (wg_t kw_1529)) (fun _ h9 => h9) rfl dM_load_99 ?_
            refine lv_bipush (v := nI 8) hx hb dM_load_102 (by decide) ?_
            refine mi_ne (tgt := 113) hx hb dM_load_104 (by decide) (by omega) (by omega) (fun h127 => ?_) (fun h127 => ?_)
            · refine lv_iload_n hx hb dM_load_113 rfl (lv_at hl 2 rfl) ?_
              refine lv_if_eq (tgt := 127) hx hb dM_load_114 (by decide) (fun h9 => absurd h9 hsc) (fun h9 => ?_)
              refine lv_iload_n hx hb dM_load_117 rfl (lv_at hl 1 rfl) ?_
              refine mp_i (cx := []) (wr := [(h0, .inr (8, [.int (nI 0), .int (nI tp), .int (nI rs), .int (nI ks), .ref mt, .ref mr_, .ref mk, .ref mo, .ref mh, .ref mse, .ref mhs, .ref msp, .ref msc, .ref mha])), (mse, .inl (g.2.1 0, 8, .inl fS))]) hP hD hS hA [] [0, 1] rfl rfl rfl (by decide) (va_runS (As := [.int (nI 2)]) (rest := []) F (t_M_openSize_2 l g _ T [] pl hO hU  ) (va_cwS 1 hts (wg_app (wg_c kw_1764 (wg_c kw_1765 (wg_c kw_9 wg_n))) kw_1766) rfl rfl rfl (by decide +kernel) ⟨by decide, by decide⟩) (pp_S (en_ok g) hP hD hS hA hE [] rfl rfl) rfl rfl hl.1 rfl (lv_room (Nat.le_of_ble_eq_true rfl)) dM_load_118 ⟨by omega, by omega⟩) (fun r96 pl H locs hu86 hP hD hS => ?_)
              obtain ⟨hq86, hO⟩ := hu86
              have hP : va_P g.1 vcl ([(h0, .inr (8, [.int (nI 0), .int (nI tp), .int (nI rs), .int (nI ks), .ref mt, .ref mr_, .ref mk, .ref mo, .ref mh, .ref mse, .ref mhs, .ref msp, .ref msc, .ref mha])), (mse, .inl (g.2.1 0, 8, .inl fS))] ++ pl) _ := hP
              have hD : va_D _ ([(h0, .inr (8, [.int (nI 0), .int (nI tp), .int (nI rs), .int (nI ks), .ref mt, .ref mr_, .ref mk, .ref mo, .ref mh, .ref mse, .ref mhs, .ref msp, .ref msc, .ref mha])), (mse, .inl (g.2.1 0, 8, .inl fS))] ++ pl) := hD
              obtain rfl := hq86
              refine W.widen (k := 0) (n := 0) (by omega) (by omega) ?_
              refine lv_bipush (v := nI 32) hx hb dM_load_121 (by decide) ?_
              refine mi_isub hx hb dM_load_123 (by omega) ?_
              refine mi_as (show nI (1568 - 32) = nI 1536 from rfl) ?_
              refine lv_goto (tgt := 128) hx hb dM_load_124 (by decide) ?_
              refine lv_istore_n (lv' := [(3, .int (nI 1536)), (0, .ref h0), (1, .int (nI 2)), (2, .int sc)]) hx hb dM_load_128 rfl hl (by decide) rfl (fun ls hl => ?_)
              refine lv_iconst (v := nI 0) hx hb dM_load_129 (by decide) ?_
              refine lv_istore (lv' := [(4, .int (nI 0)), (3, .int (nI 1536)), (0, .ref h0), (1, .int (nI 2)), (2, .int sc)]) hx hb dM_load_130 hl (by decide) rfl (fun ls hl => ?_)
              have lp31 : ∀ (n31 : Nat) (i31 : Nat) (pl : va_W) (ls : Array Slot) (H : Heap) (locs : List Loc), n31 + i31 = 1568 → lv_has ls 5 [(4, .int (nI i31)), (3, .int (nI 1536)), (0, .ref h0), (1, .int (nI 2)), (2, .int sc)] → okx g T [] pl → va_P g.1 vcl ([(h0, .inr (8, [.int (nI 0), .int (nI tp), .int (nI rs), .int (nI ks), .ref mt, .ref mr_, .ref mk, .ref mo, .ref mh, .ref mse, .ref mhs, .ref msp, .ref msc, .ref mha])), (mse, .inl (g.2.1 0, 8, .inl fS))] ++ pl) H → va_D A ([(h0, .inr (8, [.int (nI 0), .int (nI tp), .int (nI rs), .int (nI ks), .ref mt, .ref mr_, .ref mk, .ref mo, .ref mh, .ref mse, .ref mhs, .ref msp, .ref msc, .ref mha])), (mse, .inl (g.2.1 0, 8, .inl fS))] ++ pl) → va_S A s.heap H locs → W p l e ({ frames := 6, cells := 0, slots := 0, locals := 147 } : Room) s m args below meth c H locs 0 0 (MQ below (va_Qi (fun (r : Int32) (u : (Int32 × Nat × Nat × Nat × (Nat → Int32)) × va_W) => (u.1.2.1 ≤ 16384 ∧ u.1.2.2.1 ≤ 8192 ∧ u.1.2.2.2.1 ≤ 8 ∧ s5 u.1.2.2.2.2) ∧ okx g T [] u.2) (po g.1 vcl A (fun (u : (Int32 × Nat × Nat × Nat × (Nat → Int32)) × va_W) => [(h0, .inr (8, [.int u.1.1, .int (nI (u.1.2.1)), .int (nI (u.1.2.2.1)), .int (nI (u.1.2.2.2.1)), .ref mt, .ref mr_, .ref mk, .ref mo, .ref mh, .ref mse, .ref mhs, .ref msp, .ref msc, .ref mha])), (mse, .inl (g.2.1 0, 8, .inl ((u.1.2.2.2.2))))] ++ u.2)) A) args s 0 0 A) (F0 m 132 ls []) := by
                intro n31
                induction n31 with
                | zero =>
                  intro i31 pl ls H locs hm191  hl hO hP hD hS
                  refine lv_iload hx hb dM_load_132 (lv_at hl 0 rfl) ?_
                  refine lv_iload_n hx hb dM_load_134 rfl (lv_at hl 3 rfl) ?_
                  refine mp_i (cx := []) (wr := [(h0, .inr (8, [.int (nI 0), .int (nI tp), .int (nI rs), .int (nI ks), .ref mt, .ref mr_, .ref mk, .ref mo, .ref mh, .ref mse, .ref mhs, .ref msp, .ref msc, .ref mha])), (mse, .inl (g.2.1 0, 8, .inl fS))]) hP hD hS hA [] [0, 1] rfl rfl rfl (by decide) (va_runS (As := [.int (nI 2)]) (rest := [.int (nI i31)]) F (t_M_openSize_2 l g _ T [] pl hO hU  ) (va_cwS 1 hts (wg_app (wg_c kw_1764 (wg_c kw_1765 (wg_c kw_9 wg_n))) kw_1766) rfl rfl rfl (by decide +kernel) ⟨by decide, by decide⟩) (pp_S (en_ok g) hP hD hS hA hE [] rfl rfl) rfl rfl hl.1 rfl (lv_room (Nat.le_of_ble_eq_true rfl)) dM_load_135 ⟨by omega, by omega⟩) (fun r97 pl H locs hu87 hP hD hS => ?_)
                  obtain ⟨hq87, hO⟩ := hu87
                  have hP : va_P g.1 vcl ([(h0, .inr (8, [.int (nI 0), .int (nI tp), .int (nI rs), .int (nI ks), .ref mt, .ref mr_, .ref mk, .ref mo, .ref mh, .ref mse, .ref mhs, .ref msp, .ref msc, .ref mha])), (mse, .inl (g.2.1 0, 8, .inl fS))] ++ pl) _ := hP
                  have hD : va_D _ ([(h0, .inr (8, [.int (nI 0), .int (nI tp), .int (nI rs), .int (nI ks), .ref mt, .ref mr_, .ref mk, .ref mo, .ref mh, .ref mse, .ref mhs, .ref msp, .ref msc, .ref mha])), (mse, .inl (g.2.1 0, 8, .inl fS))] ++ pl) := hD
                  obtain rfl := hq87
                  refine W.widen (k := 0) (n := 0) (by omega) (by omega) ?_
                  refine mi_ge (tgt := 168) hx hb dM_load_138 (by decide) (by omega) (by omega) (fun h128 => ?_) (fun h128 => absurd h128 (by omega))
                  refine lv_iconst (v := nI 0) hx hb dM_load_168 (by decide) ?_
                  refine lv_istore (lv' := [(4, .int (nI 0)), (3, .int (nI 1536)), (0, .ref h0), (1, .int (nI 2)), (2, .int sc)]) hx hb dM_load_169 hl (by decide) rfl (fun ls hl => ?_)
                  have lp32 : ∀ (n32 : Nat) (i32 : Nat) (pl : va_W) (ls : Array Slot) (H : Heap) (locs : List Loc), n32 + i32 = tp → lv_has ls 5 [(4, .int (nI i32)), (0, .ref h0), (1, .int (nI 2)), (2, .int sc)] → okx g T [] pl → va_P g.1 vcl ([(h0, .inr (8, [.int (nI 0), .int (nI tp), .int (nI rs), .int (nI ks), .ref mt, .ref mr_, .ref mk, .ref mo, .ref mh, .ref mse, .ref mhs, .ref msp, .ref msc, .ref mha])), (mse, .inl (g.2.1 0, 8, .inl fS))] ++ pl) H → va_D A ([(h0, .inr (8, [.int (nI 0), .int (nI tp), .int (nI rs), .int (nI ks), .ref mt, .ref mr_, .ref mk, .ref mo, .ref mh, .ref mse, .ref mhs, .ref msp, .ref msc, .ref mha])), (mse, .inl (g.2.1 0, 8, .inl fS))] ++ pl) → va_S A s.heap H locs → W p l e ({ frames := 6, cells := 0, slots := 0, locals := 147 } : Room) s m args below meth c H locs 0 0 (MQ below (va_Qi (fun (r : Int32) (u : (Int32 × Nat × Nat × Nat × (Nat → Int32)) × va_W) => (u.1.2.1 ≤ 16384 ∧ u.1.2.2.1 ≤ 8192 ∧ u.1.2.2.2.1 ≤ 8 ∧ s5 u.1.2.2.2.2) ∧ okx g T [] u.2) (po g.1 vcl A (fun (u : (Int32 × Nat × Nat × Nat × (Nat → Int32)) × va_W) => [(h0, .inr (8, [.int u.1.1, .int (nI (u.1.2.1)), .int (nI (u.1.2.2.1)), .int (nI (u.1.2.2.2.1)), .ref mt, .ref mr_, .ref mk, .ref mo, .ref mh, .ref mse, .ref mhs, .ref msp, .ref msc, .ref mha])), (mse, .inl (g.2.1 0, 8, .inl ((u.1.2.2.2.2))))] ++ u.2)) A) args s 0 0 A) (F0 m 171 ls []) := by
                    intro n32
                    induction n32 with
                    | zero =>
                      intro i32 pl ls H locs hm192  hl hO hP hD hS
                      refine lv_iload_n hx hb dM_load_171 rfl (lv_at hl 3 rfl) ?_
                      refine lv_if_eq (tgt := 209) hx hb dM_load_172 (by decide) (fun h9 => absurd h9 hsc) (fun h9 => ?_)
                      refine lv_iload hx hb dM_load_175 (lv_at hl 0 rfl) ?_
                      refine lv_aload_n hx hb dM_load_177 rfl (lv_at hl 1 rfl) ?_
                      refine va_get (D := g.1) (ci := 8) (C := "LatticeKeysModel") (T := T_M) (N := 14) hx hb hts (wg_ft i_M) hown hK hP 0 rfl rfl 1 (by decide) (hts _ (wg_t kw_1527)) (fun _ h9 => h9) rfl dM_load_178 ?_
                      refine mi_ge (tgt := 209) hx hb dM_load_181 (by decide) (by omega) (by omega) (fun h129 => ?_) (fun h129 => absurd h129 (by omega))
                      refine lv_aload_n hx hb dM_load_209 rfl (lv_at hl 1 rfl) ?_
                      refine lv_iload_n hx hb dM_load_210 rfl (lv_at hl 2 rfl) ?_
                      refine lv_iload_n hx hb dM_load_211 rfl (lv_at hl 3 rfl) ?_
                      refine lv_if_eq (tgt := 222) hx hb dM_load_212 (by decide) (fun h9 => absurd h9 hsc) (fun h9 => ?_)
                      refine lv_aload_n hx hb dM_load_215 rfl (lv_at hl 1 rfl) ?_
                      refine va_get (D := g.1) (ci := 8) (C := "LatticeKeysModel") (T := T_M) (N := 14) hx hb hts (wg_ft i_M) hown hK hP 0 rfl rfl 1 (by decide) (hts _ (wg_t kw_1527)) (fun _ h9 => h9) rfl dM_load_216 ?_
                      refine lv_goto (tgt := 223) hx hb dM_load_219 (by decide) ?_
                      refine mp_i (cx := [(h0, .inr (8, [.int (nI 0), .int (nI tp), .int (nI rs), .int (nI ks), .ref mt, .ref mr_, .ref mk, .ref mo, .ref mh, .ref mse, .ref mhs, .ref msp, .ref msc, .ref mha])), (mse, .inl (g.2.1 0, 8, .inl fS))]) (wr := []) hP hD hS hA [0, 1] [] rfl rfl rfl (by decide) (va_runV (As := [.int (nI 2), .int (nI tp)]) (rest := []) F (t_M_made l g _ T  pl hO hU  2 tp h0 mt mr_ mk mo mh mse mhs msp msc mha tp rs ks (nI 0) fS k_mt k_mr_ k_mk k_mo k_mh k_mhs k_msp k_msc k_mha (by omega) hS5 (by omega) (by omega) (by omega)) (cwV 2 hts (wg_app (wg_c kw_1756 (wg_c kw_1758 (wg_c ks_64 (wg_c kw_9 wg_n)))) kw_1759) rfl rfl rfl (by decide +kernel) ⟨by decide, by decide⟩) (pp_V (en_ok g) (q0 := 0) hK hP hD hS hA hE [0, 1] rfl rfl rfl rfl) rfl rfl hl.1 rfl (lv_room (Nat.le_of_ble_eq_true rfl)) dM_load_223 ⟨by omega, by omega⟩) (fun r98 u85 H locs hu88 hP hD hS => ?_)
                      obtain ⟨u86, pl⟩ := u85
                      obtain ⟨hq88, hO⟩ := hu88
                      obtain ⟨th53, tp53, rs53, ks53, fS53⟩ := u86
                      have hP : va_P g.1 vcl ([(h0, .inr (8, [.int th53, .int (nI tp53), .int (nI rs53), .int (nI ks53), .ref mt, .ref mr_, .ref mk, .ref mo, .ref mh, .ref mse, .ref mhs, .ref msp, .ref msc, .ref mha])), (mse, .inl (g.2.1 0, 8, .inl fS53))] ++ pl) _ := hP
                      have hD : va_D _ ([(h0, .inr (8, [.int th53, .int (nI tp53), .int (nI rs53), .int (nI ks53), .ref mt, .ref mr_, .ref mk, .ref mo, .ref mh, .ref mse, .ref mhs, .ref msp, .ref msc, .ref mha])), (mse, .inl (g.2.1 0, 8, .inl fS53))] ++ pl) := hD
                      obtain ⟨hm193, hm194, hm195, hm196⟩ := hq88
                      have hm193 : tp53 ≤ 16384 := hm193
                      have hm194 : rs53 ≤ 8192 := hm194
                      have hm195 : ks53 ≤ 8 := hm195
                      refine W.widen (k := 0) (n := 0) (by omega) (by omega) ?_
                      exact mp_iret hx hb hr hlk hP hD hS ((th53, tp53, rs53, ks53, fS53), pl) ⟨⟨(by show tp53 ≤ 16384; omega), (by show rs53 ≤ 8192; omega), (by show ks53 ≤ 8; omega), hm196⟩, hO⟩ [0, 1] rfl rfl rfl (by omega) (by omega) dM_load_226
                    | succ n32 ih32 =>
                      intro i32 pl ls H locs hm192  hl hO hP hD hS
                      refine lv_iload_n hx hb dM_load_171 rfl (lv_at hl 3 rfl) ?_
                      refine lv_if_eq (tgt := 209) hx hb dM_load_172 (by decide) (fun h9 => absurd h9 hsc) (fun h9 => ?_)
                      refine lv_iload hx hb dM_load_175 (lv_at hl 0 rfl) ?_
                      refine lv_aload_n hx hb dM_load_177 rfl (lv_at hl 1 rfl) ?_
                      refine va_get (D := g.1) (ci := 8) (C := "LatticeKeysModel") (T := T_M) (N := 14) hx hb hts (wg_ft i_M) hown hK hP 0 rfl rfl 1 (by decide) (hts _ (wg_t kw_1527)) (fun _ h9 => h9) rfl dM_load_178 ?_
                      refine mi_ge (tgt := 209) hx hb dM_load_181 (by decide) (by omega) (by omega) (fun h130 => absurd h130 (by omega)) (fun h130 => ?_)
                      refine lv_aload_n hx hb dM_load_184 rfl (lv_at hl 1 rfl) ?_
                      refine va_get (D := g.1) (ci := 8) (C := "LatticeKeysModel") (T := T_M) (N := 14) hx hb hts (wg_ft i_M) hown hK hP 0 rfl rfl 8 (by decide) (hts _ (wg_t kw_1534)) (fun _ h9 => h9) rfl dM_load_185 ?_
                      refine lv_aload_n hx hb dM_load_188 rfl (lv_at hl 1 rfl) ?_
                      refine va_get (D := g.1) (ci := 8) (C := "LatticeKeysModel") (T := T_M) (N := 14) hx hb hts (wg_ft i_M) hown hK hP 0 rfl rfl 3 (by decide) (hts _ (wg_t kw_1529)) (fun _ h9 => h9) rfl dM_load_189 ?_
                      refine ty_aald4 hx hb hK hO k_mh (nxg clo_nil k_mh rfl) hP (by omega) dM_load_192 (fun r99 kr31 => ?_)
                      refine lv_iload hx hb dM_load_193 (lv_at hl 0 rfl) ?_
                      refine lv_aload_n hx hb dM_load_195 rfl (lv_at hl 1 rfl) ?_
                      refine va_get (D := g.1) (ci := 8) (C := "LatticeKeysModel") (T := T_M) (N := 14) hx hb hts (wg_ft i_M) hown hK hP 0 rfl rfl 4 (by decide) (hts _ (wg_t kw_1530)) (fun _ h9 => h9) rfl dM_load_196 ?_
                      refine lv_iload hx hb dM_load_199 (lv_at hl 0 rfl) ?_
                      refine ty_bald hx hb hK hO k_mt (nxg clo_nil k_mt rfl) hP (vp_in_nI (by omega) (by decide)) dM_load_201 (fun z31 => ?_)
                      refine ty_bast hx hb hK hO kr31 (nxg clo_nil kr31 rfl) hP hD hS (vp_in_nI (by omega) (by decide)) dM_load_202 (fun pl H locs hO hP hD hS => ?_)
                      refine mi_iinc (k := 0) (x := i32) (d := 1) (y := i32 + 1) (lv' := [(4, .int (nI (i32 + 1))), (0, .ref h0), (1, .int (nI 2)), (2, .int sc)]) hx hb dM_load_203 hl rfl (by decide) rfl (by decide) rfl (fun ls hl => ?_)
                      refine lv_goto (tgt := 171) hx hb dM_load_206 (by decide) ?_
                      exact ih32 (i32 + 1) pl ls H locs (by omega) (lv_sub hl [0, 1, 2, 3] rfl) hO hP hD hS
                  exact lp32 tp 0 pl ls _ _ (by omega) (lv_sub hl [0, 2, 3, 4] rfl) hO hP hD hS
                | succ n31 ih31 =>
                  intro i31 pl ls H locs hm191  hl hO hP hD hS
                  refine lv_iload hx hb dM_load_132 (lv_at hl 0 rfl) ?_
                  refine lv_iload_n hx hb dM_load_134 rfl (lv_at hl 3 rfl) ?_
                  refine mp_i (cx := []) (wr := [(h0, .inr (8, [.int (nI 0), .int (nI tp), .int (nI rs), .int (nI ks), .ref mt, .ref mr_, .ref mk, .ref mo, .ref mh, .ref mse, .ref mhs, .ref msp, .ref msc, .ref mha])), (mse, .inl (g.2.1 0, 8, .inl fS))]) hP hD hS hA [] [0, 1] rfl rfl rfl (by decide) (va_runS (As := [.int (nI 2)]) (rest := [.int (nI i31)]) F (t_M_openSize_2 l g _ T [] pl hO hU  ) (va_cwS 1 hts (wg_app (wg_c kw_1764 (wg_c kw_1765 (wg_c kw_9 wg_n))) kw_1766) rfl rfl rfl (by decide +kernel) ⟨by decide, by decide⟩) (pp_S (en_ok g) hP hD hS hA hE [] rfl rfl) rfl rfl hl.1 rfl (lv_room (Nat.le_of_ble_eq_true rfl)) dM_load_135 ⟨by omega, by omega⟩) (fun r100 pl H locs hu89 hP hD hS => ?_)
                  obtain ⟨hq89, hO⟩ := hu89
                  have hP : va_P g.1 vcl ([(h0, .inr (8, [.int (nI 0), .int (nI tp), .int (nI rs), .int (nI ks), .ref mt, .ref mr_, .ref mk, .ref mo, .ref mh, .ref mse, .ref mhs, .ref msp, .ref msc, .ref mha])), (mse, .inl (g.2.1 0, 8, .inl fS))] ++ pl) _ := hP
                  have hD : va_D _ ([(h0, .inr (8, [.int (nI 0), .int (nI tp), .int (nI rs), .int (nI ks), .ref mt, .ref mr_, .ref mk, .ref mo, .ref mh, .ref mse, .ref mhs, .ref msp, .ref msc, .ref mha])), (mse, .inl (g.2.1 0, 8, .inl fS))] ++ pl) := hD
                  obtain rfl := hq89
                  refine W.widen (k := 0) (n := 0) (by omega) (by omega) ?_
                  refine mi_ge (tgt := 168) hx hb dM_load_138 (by decide) (by omega) (by omega) (fun h131 => absurd h131 (by omega)) (fun h131 => ?_)
                  refine lv_aload_n hx hb dM_load_141 rfl (lv_at hl 2 rfl) ?_
                  refine va_get (D := g.1) (ci := 8) (C := "LatticeKeysModel") (T := T_M) (N := 14) hx hb hts (wg_ft i_M) hown hK hP 0 rfl rfl 7 (by decide) (hts _ (wg_t kw_1533)) (fun _ h9 => h9) rfl dM_load_142 ?_
                  refine lv_aload_n hx hb dM_load_145 rfl (lv_at hl 2 rfl) ?_
                  refine va_get (D := g.1) (ci := 8) (C := "LatticeKeysModel") (T := T_M) (N := 14) hx hb hts (wg_ft i_M) hown hK hP 0 rfl rfl 3 (by decide) (hts _ (wg_t kw_1529)) (fun _ h9 => h9) rfl dM_load_146 ?_
                  refine ty_aald4 hx hb hK hO k_mo (nxg clo_nil k_mo rfl) hP (by omega) dM_load_149 (fun r101 kr32 => ?_)
                  refine lv_iload hx hb dM_load_150 (lv_at hl 0 rfl) ?_
                  refine lv_aload_n hx hb dM_load_152 rfl (lv_at hl 2 rfl) ?_
                  refine va_get (D := g.1) (ci := 8) (C := "LatticeKeysModel") (T := T_M) (N := 14) hx hb hts (wg_ft i_M) hown hK hP 0 rfl rfl 4 (by decide) (hts _ (wg_t kw_1530)) (fun _ h9 => h9) rfl dM_load_153 ?_
                  refine lv_iload_n hx hb dM_load_156 rfl (lv_at hl 1 rfl) ?_
                  refine lv_iload hx hb dM_load_157 (lv_at hl 0 rfl) ?_
                  refine mi_iadd hx hb dM_load_159 ?_
                  refine ty_bald hx hb hK hO k_mt (nxg clo_nil k_mt rfl) hP (vp_in_nI (by omega) (by decide)) dM_load_160 (fun z32 => ?_)
                  refine ty_bast hx hb hK hO kr32 (nxg clo_nil kr32 rfl) hP hD hS (vp_in_nI (by omega) (by decide)) dM_load_161 (fun pl H locs hO hP hD hS => ?_)
                  refine mi_iinc (k := 0) (x := i31) (d := 1) (y := i31 + 1) (lv' := [(4, .int (nI (i31 + 1))), (3, .int (nI 1536)), (0, .ref h0), (1, .int (nI 2)), (2, .int sc)]) hx hb dM_load_162 hl rfl (by decide) rfl (by decide) rfl (fun ls hl => ?_)
                  refine lv_goto (tgt := 132) hx hb dM_load_165 (by decide) ?_
                  exact ih31 (i31 + 1) pl ls H locs (by omega) (lv_sub hl [0, 1, 2, 3, 4] rfl) hO hP hD hS
              exact lp31 1568 0 pl ls _ _ (by omega) (lv_sub hl [0, 1, 2, 3, 4] rfl) hO hP hD hS
            · refine lv_aload_n hx hb dM_load_107 rfl (lv_at hl 0 rfl) ?_
              refine lv_iconst (v := nI 3) hx hb dM_load_108 (by decide) ?_
              refine mp_i (cx := [(h0, .inr (8, [.int (nI 0), .int (nI tp), .int (nI rs), .int (nI ks), .ref mt, .ref mr_, .ref mk, .ref mo, .ref mh, .ref mse, .ref mhs, .ref msp, .ref msc, .ref mha])), (mse, .inl (g.2.1 0, 8, .inl fS))]) (wr := []) hP hD hS hA [0, 1] [] rfl rfl rfl (by decide) (va_runV (As := [.int (nI 3)]) (rest := []) F (t_M_fail l g _ T  pl hO hU  (nI 3) h0 mt mr_ mk mo mh mse mhs msp msc mha tp rs ks (nI 0) fS k_mt k_mr_ k_mk k_mo k_mh k_mhs k_msp k_msc k_mha (by omega) hS5) (cwV 1 hts (wg_app (wg_c kw_1577 (wg_c kw_1579 (wg_c ks_50 (wg_c kw_9 wg_n)))) kw_1580) rfl rfl rfl (by decide +kernel) ⟨by decide, by decide⟩) (pp_V (en_ok g) (q0 := 0) hK hP hD hS hA hE [0, 1] rfl rfl rfl rfl) rfl rfl hl.1 rfl (lv_room (Nat.le_of_ble_eq_true rfl)) dM_load_109 ⟨by omega, by omega⟩) (fun r102 u87 H locs hu90 hP hD hS => ?_)
              obtain ⟨u88, pl⟩ := u87
              obtain ⟨hq90, hO⟩ := hu90
              obtain ⟨th54, tp54, rs54, ks54, fS54⟩ := u88
              have hP : va_P g.1 vcl ([(h0, .inr (8, [.int th54, .int (nI tp54), .int (nI rs54), .int (nI ks54), .ref mt, .ref mr_, .ref mk, .ref mo, .ref mh, .ref mse, .ref mhs, .ref msp, .ref msc, .ref mha])), (mse, .inl (g.2.1 0, 8, .inl fS54))] ++ pl) _ := hP
              have hD : va_D _ ([(h0, .inr (8, [.int th54, .int (nI tp54), .int (nI rs54), .int (nI ks54), .ref mt, .ref mr_, .ref mk, .ref mo, .ref mh, .ref mse, .ref mhs, .ref msp, .ref msc, .ref mha])), (mse, .inl (g.2.1 0, 8, .inl fS54))] ++ pl) := hD
              obtain ⟨-, -, -, hm201, hm202⟩ := hq90
              obtain ⟨he141, he142, he143, he144, he145⟩ := hm202
              have he141 : th54 = nI 3 := he141
              have he142 : tp54 = tp := he142
              have he143 : rs54 = rs := he143
              have he144 : ks54 = ks := he144
              obtain rfl := he145
              refine W.widen (k := 0) (n := 0) (by omega) (by omega) ?_
              exact mp_iret hx hb hr hlk hP hD hS ((th54, tp54, rs54, ks54, fS54), pl) ⟨⟨(by show tp54 ≤ 16384; omega), (by show rs54 ≤ 8192; omega), (by show ks54 ≤ 8; omega), hm201⟩, hO⟩ [0, 1] rfl rfl rfl (by omega) (by omega) dM_load_112
        · refine lv_aload_n hx hb dM_load_44 rfl (lv_at hl 0 rfl) ?_
          refine lv_iconst (v := nI 1) hx hb dM_load_45 (by decide) ?_
          refine mp_i (cx := [(h0, .inr (8, [.int (nI 0), .int (nI tp), .int (nI rs), .int (nI ks), .ref mt, .ref mr_, .ref mk, .ref mo, .ref mh, .ref mse, .ref mhs, .ref msp, .ref msc, .ref mha])), (mse, .inl (g.2.1 0, 8, .inl fS))]) (wr := []) hP hD hS hA [0, 1] [] rfl rfl rfl (by decide) (va_runV (As := [.int (nI 1)]) (rest := []) F (t_M_fail l g _ T  pl hO hU  (nI 1) h0 mt mr_ mk mo mh mse mhs msp msc mha tp rs ks (nI 0) fS k_mt k_mr_ k_mk k_mo k_mh k_mhs k_msp k_msc k_mha (by omega) hS5) (cwV 1 hts (wg_app (wg_c kw_1577 (wg_c kw_1579 (wg_c ks_50 (wg_c kw_9 wg_n)))) kw_1580) rfl rfl rfl (by decide +kernel) ⟨by decide, by decide⟩) (pp_V (en_ok g) (q0 := 0) hK hP hD hS hA hE [0, 1] rfl rfl rfl rfl) rfl rfl hl.1 rfl (lv_room (Nat.le_of_ble_eq_true rfl)) dM_load_46 ⟨by omega, by omega⟩) (fun r103 u89 H locs hu91 hP hD hS => ?_)
          obtain ⟨u90, pl⟩ := u89
          obtain ⟨hq91, hO⟩ := hu91
          obtain ⟨th55, tp55, rs55, ks55, fS55⟩ := u90
          have hP : va_P g.1 vcl ([(h0, .inr (8, [.int th55, .int (nI tp55), .int (nI rs55), .int (nI ks55), .ref mt, .ref mr_, .ref mk, .ref mo, .ref mh, .ref mse, .ref mhs, .ref msp, .ref msc, .ref mha])), (mse, .inl (g.2.1 0, 8, .inl fS55))] ++ pl) _ := hP
          have hD : va_D _ ([(h0, .inr (8, [.int th55, .int (nI tp55), .int (nI rs55), .int (nI ks55), .ref mt, .ref mr_, .ref mk, .ref mo, .ref mh, .ref mse, .ref mhs, .ref msp, .ref msc, .ref mha])), (mse, .inl (g.2.1 0, 8, .inl fS55))] ++ pl) := hD
          obtain ⟨-, -, -, hm206, hm207⟩ := hq91
          obtain ⟨he146, he147, he148, he149, he150⟩ := hm207
          have he146 : th55 = nI 1 := he146
          have he147 : tp55 = tp := he147
          have he148 : rs55 = rs := he148
          have he149 : ks55 = ks := he149
          obtain rfl := he150
          refine W.widen (k := 0) (n := 0) (by omega) (by omega) ?_
          exact mp_iret hx hb hr hlk hP hD hS ((th55, tp55, rs55, ks55, fS55), pl) ⟨⟨(by show tp55 ≤ 16384; omega), (by show rs55 ≤ 8192; omega), (by show ks55 ≤ 8; omega), hm206⟩, hO⟩ [0, 1] rfl rfl rfl (by omega) (by omega) dM_load_49
      | 3, _ =>
        refine lv_iload_n hx hb dM_load_5 rfl (lv_at hl 1 rfl) ?_
        refine lv_if_lt (tgt := 44) hx hb dM_load_6 (by decide) (fun h132 => absurd h132 (by decide)) (fun h132 => ?_)
        refine lv_iload_n hx hb dM_load_9 rfl (lv_at hl 1 rfl) ?_
        refine lv_iload_n hx hb dM_load_10 rfl (lv_at hl 2 rfl) ?_
        refine lv_if_eq (tgt := 18) hx hb dM_load_11 (by decide) (fun h9 => absurd h9 hsc) (fun h9 => ?_)
        refine lv_iconst (v := nI 2) hx hb dM_load_14 (by decide) ?_
        refine lv_goto (tgt := 19) hx hb dM_load_15 (by decide) ?_
        refine mi_gt (tgt := 44) hx hb dM_load_19 (by decide) (by omega) (by omega) (fun h133 => ?_) (fun h133 => absurd h133 (by omega))
        refine lv_aload_n hx hb dM_load_44 rfl (lv_at hl 0 rfl) ?_
        refine lv_iconst (v := nI 1) hx hb dM_load_45 (by decide) ?_
        refine mp_i (cx := [(h0, .inr (8, [.int (nI 0), .int (nI tp), .int (nI rs), .int (nI ks), .ref mt, .ref mr_, .ref mk, .ref mo, .ref mh, .ref mse, .ref mhs, .ref msp, .ref msc, .ref mha])), (mse, .inl (g.2.1 0, 8, .inl fS))]) (wr := []) hP hD hS hA [0, 1] [] rfl rfl rfl (by decide) (va_runV (As := [.int (nI 1)]) (rest := []) F (t_M_fail l g _ T  pl hO hU  (nI 1) h0 mt mr_ mk mo mh mse mhs msp msc mha tp rs ks (nI 0) fS k_mt k_mr_ k_mk k_mo k_mh k_mhs k_msp k_msc k_mha (by omega) hS5) (cwV 1 hts (wg_app (wg_c kw_1577 (wg_c kw_1579 (wg_c ks_50 (wg_c kw_9 wg_n)))) kw_1580) rfl rfl rfl (by decide +kernel) ⟨by decide, by decide⟩) (pp_V (en_ok g) (q0 := 0) hK hP hD hS hA hE [0, 1] rfl rfl rfl rfl) rfl rfl hl.1 rfl (lv_room (Nat.le_of_ble_eq_true rfl)) dM_load_46 ⟨by omega, by omega⟩) (fun r104 u91 H locs hu92 hP hD hS => ?_)
        obtain ⟨u92, pl⟩ := u91
        obtain ⟨hq92, hO⟩ := hu92
        obtain ⟨th56, tp56, rs56, ks56, fS56⟩ := u92
        have hP : va_P g.1 vcl ([(h0, .inr (8, [.int th56, .int (nI tp56), .int (nI rs56), .int (nI ks56), .ref mt, .ref mr_, .ref mk, .ref mo, .ref mh, .ref mse, .ref mhs, .ref msp, .ref msc, .ref mha])), (mse, .inl (g.2.1 0, 8, .inl fS56))] ++ pl) _ := hP
        have hD : va_D _ ([(h0, .inr (8, [.int th56, .int (nI tp56), .int (nI rs56), .int (nI ks56), .ref mt, .ref mr_, .ref mk, .ref mo, .ref mh, .ref mse, .ref mhs, .ref msp, .ref msc, .ref mha])), (mse, .inl (g.2.1 0, 8, .inl fS56))] ++ pl) := hD
        obtain ⟨-, -, -, hm211, hm212⟩ := hq92
        obtain ⟨he151, he152, he153, he154, he155⟩ := hm212
        have he151 : th56 = nI 1 := he151
        have he152 : tp56 = tp := he152
        have he153 : rs56 = rs := he153
        have he154 : ks56 = ks := he154
        obtain rfl := he155
        refine W.widen (k := 0) (n := 0) (by omega) (by omega) ?_
        exact mp_iret hx hb hr hlk hP hD hS ((th56, tp56, rs56, ks56, fS56), pl) ⟨⟨(by show tp56 ≤ 16384; omega), (by show rs56 ≤ 8192; omega), (by show ks56 ≤ 8; omega), hm211⟩, hO⟩ [0, 1] rfl rfl rfl (by omega) (by omega) dM_load_49
      | 4, _ =>
        refine lv_iload_n hx hb dM_load_5 rfl (lv_at hl 1 rfl) ?_
        refine lv_if_lt (tgt := 44) hx hb dM_load_6 (by decide) (fun h134 => absurd h134 (by decide)) (fun h134 => ?_)
        refine lv_iload_n hx hb dM_load_9 rfl (lv_at hl 1 rfl) ?_
        refine lv_iload_n hx hb dM_load_10 rfl (lv_at hl 2 rfl) ?_
        refine lv_if_eq (tgt := 18) hx hb dM_load_11 (by decide) (fun h9 => absurd h9 hsc) (fun h9 => ?_)
        refine lv_iconst (v := nI 2) hx hb dM_load_14 (by decide) ?_
        refine lv_goto (tgt := 19) hx hb dM_load_15 (by decide) ?_
        refine mi_gt (tgt := 44) hx hb dM_load_19 (by decide) (by omega) (by omega) (fun h135 => ?_) (fun h135 => absurd h135 (by omega))
        refine lv_aload_n hx hb dM_load_44 rfl (lv_at hl 0 rfl) ?_
        refine lv_iconst (v := nI 1) hx hb dM_load_45 (by decide) ?_
        refine mp_i (cx := [(h0, .inr (8, [.int (nI 0), .int (nI tp), .int (nI rs), .int (nI ks), .ref mt, .ref mr_, .ref mk, .ref mo, .ref mh, .ref mse, .ref mhs, .ref msp, .ref msc, .ref mha])), (mse, .inl (g.2.1 0, 8, .inl fS))]) (wr := []) hP hD hS hA [0, 1] [] rfl rfl rfl (by decide) (va_runV (As := [.int (nI 1)]) (rest := []) F (t_M_fail l g _ T  pl hO hU  (nI 1) h0 mt mr_ mk mo mh mse mhs msp msc mha tp rs ks (nI 0) fS k_mt k_mr_ k_mk k_mo k_mh k_mhs k_msp k_msc k_mha (by omega) hS5) (cwV 1 hts (wg_app (wg_c kw_1577 (wg_c kw_1579 (wg_c ks_50 (wg_c kw_9 wg_n)))) kw_1580) rfl rfl rfl (by decide +kernel) ⟨by decide, by decide⟩) (pp_V (en_ok g) (q0 := 0) hK hP hD hS hA hE [0, 1] rfl rfl rfl rfl) rfl rfl hl.1 rfl (lv_room (Nat.le_of_ble_eq_true rfl)) dM_load_46 ⟨by omega, by omega⟩) (fun r105 u93 H locs hu93 hP hD hS => ?_)
        obtain ⟨u94, pl⟩ := u93
        obtain ⟨hq93, hO⟩ := hu93
        obtain ⟨th57, tp57, rs57, ks57, fS57⟩ := u94
        have hP : va_P g.1 vcl ([(h0, .inr (8, [.int th57, .int (nI tp57), .int (nI rs57), .int (nI ks57), .ref mt, .ref mr_, .ref mk, .ref mo, .ref mh, .ref mse, .ref mhs, .ref msp, .ref msc, .ref mha])), (mse, .inl (g.2.1 0, 8, .inl fS57))] ++ pl) _ := hP
        have hD : va_D _ ([(h0, .inr (8, [.int th57, .int (nI tp57), .int (nI rs57), .int (nI ks57), .ref mt, .ref mr_, .ref mk, .ref mo, .ref mh, .ref mse, .ref mhs, .ref msp, .ref msc, .ref mha])), (mse, .inl (g.2.1 0, 8, .inl fS57))] ++ pl) := hD
        obtain ⟨-, -, -, hm216, hm217⟩ := hq93
        obtain ⟨he156, he157, he158, he159, he160⟩ := hm217
        have he156 : th57 = nI 1 := he156
        have he157 : tp57 = tp := he157
        have he158 : rs57 = rs := he158
        have he159 : ks57 = ks := he159
        obtain rfl := he160
        refine W.widen (k := 0) (n := 0) (by omega) (by omega) ?_
        exact mp_iret hx hb hr hlk hP hD hS ((th57, tp57, rs57, ks57, fS57), pl) ⟨⟨(by show tp57 ≤ 16384; omega), (by show rs57 ≤ 8192; omega), (by show ks57 ≤ 8; omega), hm216⟩, hO⟩ [0, 1] rfl rfl rfl (by omega) (by omega) dM_load_49
      | 5, _ =>
        refine lv_iload_n hx hb dM_load_5 rfl (lv_at hl 1 rfl) ?_
        refine lv_if_lt (tgt := 44) hx hb dM_load_6 (by decide) (fun h136 => absurd h136 (by decide)) (fun h136 => ?_)
        refine lv_iload_n hx hb dM_load_9 rfl (lv_at hl 1 rfl) ?_
        refine lv_iload_n hx hb dM_load_10 rfl (lv_at hl 2 rfl) ?_
        refine lv_if_eq (tgt := 18) hx hb dM_load_11 (by decide) (fun h9 => absurd h9 hsc) (fun h9 => ?_)
        refine lv_iconst (v := nI 2) hx hb dM_load_14 (by decide) ?_
        refine lv_goto (tgt := 19) hx hb dM_load_15 (by decide) ?_
        refine mi_gt (tgt := 44) hx hb dM_load_19 (by decide) (by omega) (by omega) (fun h137 => ?_) (fun h137 => absurd h137 (by omega))
        refine lv_aload_n hx hb dM_load_44 rfl (lv_at hl 0 rfl) ?_
        refine lv_iconst (v := nI 1) hx hb dM_load_45 (by decide) ?_
        refine mp_i (cx := [(h0, .inr (8, [.int (nI 0), .int (nI tp), .int (nI rs), .int (nI ks), .ref mt, .ref mr_, .ref mk, .ref mo, .ref mh, .ref mse, .ref mhs, .ref msp, .ref msc, .ref mha])), (mse, .inl (g.2.1 0, 8, .inl fS))]) (wr := []) hP hD hS hA [0, 1] [] rfl rfl rfl (by decide) (va_runV (As := [.int (nI 1)]) (rest := []) F (t_M_fail l g _ T  pl hO hU  (nI 1) h0 mt mr_ mk mo mh mse mhs msp msc mha tp rs ks (nI 0) fS k_mt k_mr_ k_mk k_mo k_mh k_mhs k_msp k_msc k_mha (by omega) hS5) (cwV 1 hts (wg_app (wg_c kw_1577 (wg_c kw_1579 (wg_c ks_50 (wg_c kw_9 wg_n)))) kw_1580) rfl rfl rfl (by decide +kernel) ⟨by decide, by decide⟩) (pp_V (en_ok g) (q0 := 0) hK hP hD hS hA hE [0, 1] rfl rfl rfl rfl) rfl rfl hl.1 rfl (lv_room (Nat.le_of_ble_eq_true rfl)) dM_load_46 ⟨by omega, by omega⟩) (fun r106 u95 H locs hu94 hP hD hS => ?_)
        obtain ⟨u96, pl⟩ := u95
        obtain ⟨hq94, hO⟩ := hu94
        obtain ⟨th58, tp58, rs58, ks58, fS58⟩ := u96
        have hP : va_P g.1 vcl ([(h0, .inr (8, [.int th58, .int (nI tp58), .int (nI rs58), .int (nI ks58), .ref mt, .ref mr_, .ref mk, .ref mo, .ref mh, .ref mse, .ref mhs, .ref msp, .ref msc, .ref mha])), (mse, .inl (g.2.1 0, 8, .inl fS58))] ++ pl) _ := hP
        have hD : va_D _ ([(h0, .inr (8, [.int th58, .int (nI tp58), .int (nI rs58), .int (nI ks58), .ref mt, .ref mr_, .ref mk, .ref mo, .ref mh, .ref mse, .ref mhs, .ref msp, .ref msc, .ref mha])), (mse, .inl (g.2.1 0, 8, .inl fS58))] ++ pl) := hD
        obtain ⟨-, -, -, hm221, hm222⟩ := hq94
        obtain ⟨he161, he162, he163, he164, he165⟩ := hm222
        have he161 : th58 = nI 1 := he161
        have he162 : tp58 = tp := he162
        have he163 : rs58 = rs := he163
        have he164 : ks58 = ks := he164
        obtain rfl := he165
        refine W.widen (k := 0) (n := 0) (by omega) (by omega) ?_
        exact mp_iret hx hb hr hlk hP hD hS ((th58, tp58, rs58, ks58, fS58), pl) ⟨⟨(by show tp58 ≤ 16384; omega), (by show rs58 ≤ 8192; omega), (by show ks58 ≤ 8; omega), hm221⟩, hO⟩ [0, 1] rfl rfl rfl (by omega) (by omega) dM_load_49
      | _ + 6, h9 => exact absurd h9 (by omega)
    · have hbad := hb9
      refine lv_iload_n hx hb dM_load_5 rfl (lv_at hl 1 rfl) ?_
      refine lv_if_lt (tgt := 44) hx hb dM_load_6 (by decide) (fun h138 => ?_) (fun h138 => ?_)
      · refine lv_aload_n hx hb dM_load_44 rfl (lv_at hl 0 rfl) ?_
        refine lv_iconst (v := nI 1) hx hb dM_load_45 (by decide) ?_
        refine mp_i (cx := [(h0, .inr (8, [.int (nI 0), .int (nI tp), .int (nI rs), .int (nI ks), .ref mt, .ref mr_, .ref mk, .ref mo, .ref mh, .ref mse, .ref mhs, .ref msp, .ref msc, .ref mha])), (mse, .inl (g.2.1 0, 8, .inl fS))]) (wr := []) hP hD hS hA [0, 1] [] rfl rfl rfl (by decide) (va_runV (As := [.int (nI 1)]) (rest := []) F (t_M_fail l g _ T  pl hO hU  (nI 1) h0 mt mr_ mk mo mh mse mhs msp msc mha tp rs ks (nI 0) fS k_mt k_mr_ k_mk k_mo k_mh k_mhs k_msp k_msc k_mha (by omega) hS5) (cwV 1 hts (wg_app (wg_c kw_1577 (wg_c kw_1579 (wg_c ks_50 (wg_c kw_9 wg_n)))) kw_1580) rfl rfl rfl (by decide +kernel) ⟨by decide, by decide⟩) (pp_V (en_ok g) (q0 := 0) hK hP hD hS hA hE [0, 1] rfl rfl rfl rfl) rfl rfl hl.1 rfl (lv_room (Nat.le_of_ble_eq_true rfl)) dM_load_46 ⟨by omega, by omega⟩) (fun r107 u97 H locs hu95 hP hD hS => ?_)
        obtain ⟨u98, pl⟩ := u97
        obtain ⟨hq95, hO⟩ := hu95
        obtain ⟨th59, tp59, rs59, ks59, fS59⟩ := u98
        have hP : va_P g.1 vcl ([(h0, .inr (8, [.int th59, .int (nI tp59), .int (nI rs59), .int (nI ks59), .ref mt, .ref mr_, .ref mk, .ref mo, .ref mh, .ref mse, .ref mhs, .ref msp, .ref msc, .ref mha])), (mse, .inl (g.2.1 0, 8, .inl fS59))] ++ pl) _ := hP
        have hD : va_D _ ([(h0, .inr (8, [.int th59, .int (nI tp59), .int (nI rs59), .int (nI ks59), .ref mt, .ref mr_, .ref mk, .ref mo, .ref mh, .ref mse, .ref mhs, .ref msp, .ref msc, .ref mha])), (mse, .inl (g.2.1 0, 8, .inl fS59))] ++ pl) := hD
        obtain ⟨-, -, -, hm226, hm227⟩ := hq95
        obtain ⟨he166, he167, he168, he169, he170⟩ := hm227
        have he166 : th59 = nI 1 := he166
        have he167 : tp59 = tp := he167
        have he168 : rs59 = rs := he168
        have he169 : ks59 = ks := he169
        obtain rfl := he170
        refine W.widen (k := 0) (n := 0) (by omega) (by omega) ?_
        exact mp_iret hx hb hr hlk hP hD hS ((th59, tp59, rs59, ks59, fS59), pl) ⟨⟨(by show tp59 ≤ 16384; omega), (by show rs59 ≤ 8192; omega), (by show ks59 ≤ 8; omega), hm226⟩, hO⟩ [0, 1] rfl rfl rfl (by omega) (by omega) dM_load_49
      · refine lv_iload_n hx hb dM_load_9 rfl (lv_at hl 1 rfl) ?_
        refine lv_iload_n hx hb dM_load_10 rfl (lv_at hl 2 rfl) ?_
        refine lv_if_eq (tgt := 18) hx hb dM_load_11 (by decide) (fun h9 => absurd h9 hsc) (fun h9 => ?_)
        refine lv_iconst (v := nI 2) hx hb dM_load_14 (by decide) ?_
        refine lv_goto (tgt := 19) hx hb dM_load_15 (by decide) ?_
        refine lv_icmp_gt (tgt := 44) hx hb dM_load_19 (by decide) (fun h139 => ?_) (fun h139 => absurd (Int32.lt_trans (show nI 2 < nI 5 by decide) (hbad.resolve_left h138)) h139)
        refine lv_aload_n hx hb dM_load_44 rfl (lv_at hl 0 rfl) ?_
        refine lv_iconst (v := nI 1) hx hb dM_load_45 (by decide) ?_
        refine mp_i (cx := [(h0, .inr (8, [.int (nI 0), .int (nI tp), .int (nI rs), .int (nI ks), .ref mt, .ref mr_, .ref mk, .ref mo, .ref mh, .ref mse, .ref mhs, .ref msp, .ref msc, .ref mha])), (mse, .inl (g.2.1 0, 8, .inl fS))]) (wr := []) hP hD hS hA [0, 1] [] rfl rfl rfl (by decide) (va_runV (As := [.int (nI 1)]) (rest := []) F (t_M_fail l g _ T  pl hO hU  (nI 1) h0 mt mr_ mk mo mh mse mhs msp msc mha tp rs ks (nI 0) fS k_mt k_mr_ k_mk k_mo k_mh k_mhs k_msp k_msc k_mha (by omega) hS5) (cwV 1 hts (wg_app (wg_c kw_1577 (wg_c kw_1579 (wg_c ks_50 (wg_c kw_9 wg_n)))) kw_1580) rfl rfl rfl (by decide +kernel) ⟨by decide, by decide⟩) (pp_V (en_ok g) (q0 := 0) hK hP hD hS hA hE [0, 1] rfl rfl rfl rfl) rfl rfl hl.1 rfl (lv_room (Nat.le_of_ble_eq_true rfl)) dM_load_46 ⟨by omega, by omega⟩) (fun r108 u99 H locs hu96 hP hD hS => ?_)
        obtain ⟨u100, pl⟩ := u99
        obtain ⟨hq96, hO⟩ := hu96
        obtain ⟨th60, tp60, rs60, ks60, fS60⟩ := u100
        have hP : va_P g.1 vcl ([(h0, .inr (8, [.int th60, .int (nI tp60), .int (nI rs60), .int (nI ks60), .ref mt, .ref mr_, .ref mk, .ref mo, .ref mh, .ref mse, .ref mhs, .ref msp, .ref msc, .ref mha])), (mse, .inl (g.2.1 0, 8, .inl fS60))] ++ pl) _ := hP
        have hD : va_D _ ([(h0, .inr (8, [.int th60, .int (nI tp60), .int (nI rs60), .int (nI ks60), .ref mt, .ref mr_, .ref mk, .ref mo, .ref mh, .ref mse, .ref mhs, .ref msp, .ref msc, .ref mha])), (mse, .inl (g.2.1 0, 8, .inl fS60))] ++ pl) := hD
        obtain ⟨-, -, -, hm231, hm232⟩ := hq96
        obtain ⟨he171, he172, he173, he174, he175⟩ := hm232
        have he171 : th60 = nI 1 := he171
        have he172 : tp60 = tp := he172
        have he173 : rs60 = rs := he173
        have he174 : ks60 = ks := he174
        obtain rfl := he175
        refine W.widen (k := 0) (n := 0) (by omega) (by omega) ?_
        exact mp_iret hx hb hr hlk hP hD hS ((th60, tp60, rs60, ks60, fS60), pl) ⟨⟨(by show tp60 ≤ 16384; omega), (by show rs60 ≤ 8192; omega), (by show ks60 ≤ 8; omega), hm231⟩, hO⟩ [0, 1] rfl rfl rfl (by omega) (by omega) dM_load_49
set_option maxHeartbeats 4000000 in
set_option maxRecDepth 100000 in
theorem t_M_seal (l : Launch) (g : Gd) (sz : Nat) (T : Ty) (pl : va_W) (hO : okx g T [] pl) (hU : uni T) (v : Int32) (h0 mt mr_ mk mo mh mse mhs msp msc mha tp rs ks : Nat) (x0 : Int32) (fS : Nat → Int32) (k_mt : T mt = some (1, 16384)) (k_mr_ : T mr_ = some (1, 8192)) (k_mk : T mk = some (1, 8192)) (k_mo : T mo = some (4, 2592)) (k_mh : T mh = some (4, 4896)) (k_mhs : T mhs = some (5, 4896)) (k_msp : T msp = some (20, 0)) (k_msc : T msc = some (23, 0)) (k_mha : T mha = some (49, 0)) (hb : tp ≤ 16384 ∧ rs ≤ 8192 ∧ ks ≤ 8) (hS5 : s5 fS)  : Met l y_M_seal w_M_seal ({ frames := 7, cells := 0, slots := 0, locals := 180 } : Room) (va_Pc [.ref h0, .int v] (pr (en g) g.1 vcl sz ([(h0, .inr (8, [.int x0, .int (nI tp), .int (nI rs), .int (nI ks), .ref mt, .ref mr_, .ref mk, .ref mo, .ref mh, .ref mse, .ref mhs, .ref msp, .ref msc, .ref mha])), (mse, .inl (g.2.1 0, 8, .inl fS))] ++ pl))) (va_Qi (fun (r : Int32) (u : (Int32 × Nat × Nat × Nat × (Nat → Int32)) × va_W) => (u.1.2.1 ≤ 16384 ∧ u.1.2.2.1 ≤ 8192 ∧ u.1.2.2.2.1 ≤ 8 ∧ s5 u.1.2.2.2.2) ∧ okx g T [] u.2) (po g.1 vcl (va_A ([(h0, .inr (8, [.int x0, .int (nI tp), .int (nI rs), .int (nI ks), .ref mt, .ref mr_, .ref mk, .ref mo, .ref mh, .ref mse, .ref mhs, .ref msp, .ref msc, .ref mha])), (mse, .inl (g.2.1 0, 8, .inl fS))] ++ pl) sz) (fun (u : (Int32 × Nat × Nat × Nat × (Nat → Int32)) × va_W) => [(h0, .inr (8, [.int u.1.1, .int (nI (u.1.2.1)), .int (nI (u.1.2.2.1)), .int (nI (u.1.2.2.2.1)), .ref mt, .ref mr_, .ref mk, .ref mo, .ref mh, .ref mse, .ref mhs, .ref msp, .ref msc, .ref mha])), (mse, .inl (g.2.1 0, 8, .inl ((u.1.2.2.2.2))))] ++ u.2)) (va_A ([(h0, .inr (8, [.int x0, .int (nI tp), .int (nI rs), .int (nI ks), .ref mt, .ref mr_, .ref mk, .ref mo, .ref mh, .ref mse, .ref mhs, .ref msp, .ref msc, .ref mha])), (mse, .inl (g.2.1 0, 8, .inl fS))] ++ pl) sz)) 0 0 (va_A ([(h0, .inr (8, [.int x0, .int (nI tp), .int (nI rs), .int (nI ks), .ref mt, .ref mr_, .ref mk, .ref mo, .ref mh, .ref mse, .ref mhs, .ref msp, .ref msc, .ref mha])), (mse, .inl (g.2.1 0, 8, .inl fS))] ++ pl) sz) := by
  refine mc_entry (cc := c_M_seal) (maxL := 2) (ret := (some .int)) (by decide) rfl (Nat.le_of_ble_eq_true rfl) ?_
  intro p e s m args below meth c ls F hr hlk hnm hsz hP hD hE hA hl
  obtain ⟨hx, hb, hml, hown, hts⟩ := id F
  have hK := hE.1
  generalize va_A ([(h0, .inr (8, [.int x0, .int (nI tp), .int (nI rs), .int (nI ks), .ref mt, .ref mr_, .ref mk, .ref mo, .ref mh, .ref mse, .ref mhs, .ref msp, .ref msc, .ref mha])), (mse, .inl (g.2.1 0, 8, .inl fS))] ++ pl) sz = A at hD hE hA ⊢
  have hS : va_S A s.heap s.heap [] := va_S.rf
  have hl : lv_has ls 2 [(0, .ref h0), (1, .int v)] := hl
  refine lv_aload_n hx hb dM_seal_0 rfl (lv_at hl 0 rfl) ?_
  refine lv_iconst (v := nI 0) hx hb dM_seal_1 (by decide) ?_
  refine va_put (D := g.1) (ci := 8) (v := .int (nI 0)) (ty := .int) (C := "LatticeKeysModel") (T := T_M) (N := 14) hx hb hts (wg_ft i_M) ty_M k_M n_M hown hK hP hD hS 0 rfl rfl 0 (by decide) (hts _ (wg_t kw_1526)) (fun _ h9 => h9) rfl (by decide +kernel) rfl rfl (Nat.le_of_ble_eq_true rfl) dM_seal_2 (fun H locs hP hD hS => ?_)
  have hP : va_P g.1 vcl ([(h0, .inr (8, [.int (nI 0), .int (nI tp), .int (nI rs), .int (nI ks), .ref mt, .ref mr_, .ref mk, .ref mo, .ref mh, .ref mse, .ref mhs, .ref msp, .ref msc, .ref mha])), (mse, .inl (g.2.1 0, 8, .inl fS))] ++ pl) _ := hP
  have hD : va_D _ ([(h0, .inr (8, [.int (nI 0), .int (nI tp), .int (nI rs), .int (nI ks), .ref mt, .ref mr_, .ref mk, .ref mo, .ref mh, .ref mse, .ref mhs, .ref msp, .ref msc, .ref mha])), (mse, .inl (g.2.1 0, 8, .inl fS))] ++ pl) := hD
  refine lv_aload_n hx hb dM_seal_5 rfl (lv_at hl 0 rfl) ?_
  refine lv_iload_n hx hb dM_seal_6 rfl (lv_at hl 1 rfl) ?_
  refine mp_i (cx := [(h0, .inr (8, [.int (nI 0), .int (nI tp), .int (nI rs), .int (nI ks), .ref mt, .ref mr_, .ref mk, .ref mo, .ref mh, .ref mse, .ref mhs, .ref msp, .ref msc, .ref mha])), (mse, .inl (g.2.1 0, 8, .inl fS))]) (wr := []) hP hD hS hA [0, 1] [] rfl rfl rfl (by decide) (va_runV (As := [.int v]) (rest := []) F (t_M_none l g _ T  pl hO hU  v h0 mt mr_ mk mo mh mse mhs msp msc mha tp rs ks (nI 0) fS k_mt k_mr_ k_mk k_mo k_mh k_mhs k_msp k_msc k_mha (by omega) hS5) (cwV 1 hts (wg_app (wg_c kw_1781 (wg_c kw_1783 (wg_c ks_65 (wg_c kw_9 wg_n)))) kw_1784) rfl rfl rfl (by decide +kernel) ⟨by decide, by decide⟩) (pp_V (en_ok g) (q0 := 0) hK hP hD hS hA hE [0, 1] rfl rfl rfl rfl) rfl rfl hl.1 rfl (lv_room (Nat.le_of_ble_eq_true rfl)) dM_seal_7 ⟨by omega, by omega⟩) (fun r21 pl H locs hu21 hP hD hS => ?_)
  obtain ⟨hq21, hO⟩ := hu21
  have hP : va_P g.1 vcl ([(h0, .inr (8, [.int (nI 0), .int (nI tp), .int (nI rs), .int (nI ks), .ref mt, .ref mr_, .ref mk, .ref mo, .ref mh, .ref mse, .ref mhs, .ref msp, .ref msc, .ref mha])), (mse, .inl (g.2.1 0, 8, .inl fS))] ++ pl) _ := hP
  have hD : va_D _ ([(h0, .inr (8, [.int (nI 0), .int (nI tp), .int (nI rs), .int (nI ks), .ref mt, .ref mr_, .ref mk, .ref mo, .ref mh, .ref mse, .ref mhs, .ref msp, .ref msc, .ref mha])), (mse, .inl (g.2.1 0, 8, .inl fS))] ++ pl) := hD
  refine W.widen (k := 0) (n := 0) (by omega) (by omega) ?_
  rcases hq21 with hq21 | hq21
  · obtain rfl := hq21
    refine lv_if_ne (tgt := 23) hx hb dM_seal_10 (by decide) (fun h21 => ?_) (fun h21 => absurd h21 (by decide))
    refine lv_aload_n hx hb dM_seal_23 rfl (lv_at hl 0 rfl) ?_
    refine lv_iconst (v := nI 1) hx hb dM_seal_24 (by decide) ?_
    refine mp_i (cx := [(h0, .inr (8, [.int (nI 0), .int (nI tp), .int (nI rs), .int (nI ks), .ref mt, .ref mr_, .ref mk, .ref mo, .ref mh, .ref mse, .ref mhs, .ref msp, .ref msc, .ref mha])), (mse, .inl (g.2.1 0, 8, .inl fS))]) (wr := []) hP hD hS hA [0, 1] [] rfl rfl rfl (by decide) (va_runV (As := [.int (nI 1)]) (rest := []) F (t_M_fail l g _ T  pl hO hU  (nI 1) h0 mt mr_ mk mo mh mse mhs msp msc mha tp rs ks (nI 0) fS k_mt k_mr_ k_mk k_mo k_mh k_mhs k_msp k_msc k_mha (by omega) hS5) (cwV 1 hts (wg_app (wg_c kw_1577 (wg_c kw_1579 (wg_c ks_50 (wg_c kw_9 wg_n)))) kw_1580) rfl rfl rfl (by decide +kernel) ⟨by decide, by decide⟩) (pp_V (en_ok g) (q0 := 0) hK hP hD hS hA hE [0, 1] rfl rfl rfl rfl) rfl rfl hl.1 rfl (lv_room (Nat.le_of_ble_eq_true rfl)) dM_seal_25 ⟨by omega, by omega⟩) (fun r22 u21 H locs hu22 hP hD hS => ?_)
    obtain ⟨u22, pl⟩ := u21
    obtain ⟨hq22, hO⟩ := hu22
    obtain ⟨th21, tp21, rs21, ks21, fS21⟩ := u22
    have hP : va_P g.1 vcl ([(h0, .inr (8, [.int th21, .int (nI tp21), .int (nI rs21), .int (nI ks21), .ref mt, .ref mr_, .ref mk, .ref mo, .ref mh, .ref mse, .ref mhs, .ref msp, .ref msc, .ref mha])), (mse, .inl (g.2.1 0, 8, .inl fS21))] ++ pl) _ := hP
    have hD : va_D _ ([(h0, .inr (8, [.int th21, .int (nI tp21), .int (nI rs21), .int (nI ks21), .ref mt, .ref mr_, .ref mk, .ref mo, .ref mh, .ref mse, .ref mhs, .ref msp, .ref msc, .ref mha])), (mse, .inl (g.2.1 0, 8, .inl fS21))] ++ pl) := hD
    obtain ⟨-, -, -, hm24, hm25⟩ := hq22
    obtain ⟨he21, he22, he23, he24, he25⟩ := hm25
    have he21 : th21 = nI 1 := he21
    have he22 : tp21 = tp := he22
    have he23 : rs21 = rs := he23
    have he24 : ks21 = ks := he24
    obtain rfl := he25
    refine W.widen (k := 0) (n := 0) (by omega) (by omega) ?_
    exact mp_iret hx hb hr hlk hP hD hS ((th21, tp21, rs21, ks21, fS21), pl) ⟨⟨(by show tp21 ≤ 16384; omega), (by show rs21 ≤ 8192; omega), (by show ks21 ≤ 8; omega), hm24⟩, hO⟩ [0, 1] rfl rfl rfl (by omega) (by omega) dM_seal_28
  · obtain ⟨rfl, z21, hz21, rfl⟩ := hq21
    refine lv_if_ne (tgt := 23) hx hb dM_seal_10 (by decide) (fun h22 => absurd h22 (by decide)) (fun h22 => ?_)
    refine lv_aload_n hx hb dM_seal_13 rfl (lv_at hl 0 rfl) ?_
    refine va_get (D := g.1) (ci := 8) (C := "LatticeKeysModel") (T := T_M) (N := 14) hx hb hts (wg_ft i_M) hown hK hP 0 rfl rfl 9 (by decide) (hts _ (wg_t kw_1535)) (fun _ h9 => h9) rfl dM_seal_14 ?_
    refine lv_iload_n hx hb dM_seal_17 rfl (lv_at hl 1 rfl) ?_
    refine mp_iald hx hb hK hP 1 0 rfl rfl (by omega) (by decide) dM_seal_18 ?_
    obtain ⟨y21, hy21, ey21⟩ := hS5 z21 (by omega)
    match y21, hy21, ey21 with
    | 0, _, ey21 =>
      refine mi_as ey21 ?_
      refine lv_iconst (v := nI 2) hx hb dM_seal_19 (by decide) ?_
      refine mi_le (tgt := 29) hx hb dM_seal_20 (by decide) (by omega) (by omega) (fun h23 => ?_) (fun h23 => absurd h23 (by omega))
      refine lv_aload_n hx hb dM_seal_29 rfl (lv_at hl 0 rfl) ?_
      refine va_get (D := g.1) (ci := 8) (C := "LatticeKeysModel") (T := T_M) (N := 14) hx hb hts (wg_ft i_M) hown hK hP 0 rfl rfl 1 (by decide) (hts _ (wg_t kw_1527)) (fun _ h9 => h9) rfl dM_seal_30 ?_
      refine lv_bipush (v := nI 32) hx hb dM_seal_33 (by decide) ?_
      refine mi_eq (tgt := 44) hx hb dM_seal_35 (by decide) (by omega) (by omega) (fun h24 => ?_) (fun h24 => ?_)
      · refine lv_aload_n hx hb dM_seal_44 rfl (lv_at hl 0 rfl) ?_
        refine lv_iconst (v := nI 0) hx hb dM_seal_45 (by decide) ?_
        refine va_put (D := g.1) (ci := 8) (v := .int (nI 0)) (ty := .int) (C := "LatticeKeysModel") (T := T_M) (N := 14) hx hb hts (wg_ft i_M) ty_M k_M n_M hown hK hP hD hS 0 rfl rfl 1 (by decide) (hts _ (wg_t kw_1527)) (fun _ h9 => h9) rfl (by decide +kernel) rfl rfl (Nat.le_of_ble_eq_true rfl) dM_seal_46 (fun H locs hP hD hS => ?_)
        have hP : va_P g.1 vcl ([(h0, .inr (8, [.int (nI 0), .int (nI 0), .int (nI rs), .int (nI ks), .ref mt, .ref mr_, .ref mk, .ref mo, .ref mh, .ref mse, .ref mhs, .ref msp, .ref msc, .ref mha])), (mse, .inl (g.2.1 0, 8, .inl fS))] ++ pl) _ := hP
        have hD : va_D _ ([(h0, .inr (8, [.int (nI 0), .int (nI 0), .int (nI rs), .int (nI ks), .ref mt, .ref mr_, .ref mk, .ref mo, .ref mh, .ref mse, .ref mhs, .ref msp, .ref msc, .ref mha])), (mse, .inl (g.2.1 0, 8, .inl fS))] ++ pl) := hD
        refine lv_aload_n hx hb dM_seal_49 rfl (lv_at hl 0 rfl) ?_
        refine lv_aload_n hx hb dM_seal_50 rfl (lv_at hl 0 rfl) ?_
        refine va_get (D := g.1) (ci := 8) (C := "LatticeKeysModel") (T := T_M) (N := 14) hx hb hts (wg_ft i_M) hown hK hP 0 rfl rfl 12 (by decide) (hts _ (wg_t kw_1538)) (fun _ h9 => h9) rfl dM_seal_51 ?_
        refine lv_aload_n hx hb dM_seal_54 rfl (lv_at hl 0 rfl) ?_
        refine va_get (D := g.1) (ci := 8) (C := "LatticeKeysModel") (T := T_M) (N := 14) hx hb hts (wg_ft i_M) hown hK hP 0 rfl rfl 9 (by decide) (hts _ (wg_t kw_1535)) (fun _ h9 => h9) rfl dM_seal_55 ?_
        refine lv_iload_n hx hb dM_seal_58 rfl (lv_at hl 1 rfl) ?_
        refine mp_iald hx hb hK hP 1 0 rfl rfl (by omega) (by decide) dM_seal_59 ?_
        refine mi_as ey21 ?_
        refine lv_aload_n hx hb dM_seal_60 rfl (lv_at hl 0 rfl) ?_
        refine va_get (D := g.1) (ci := 8) (C := "LatticeKeysModel") (T := T_M) (N := 14) hx hb hts (wg_ft i_M) hown hK hP 0 rfl rfl 7 (by decide) (hts _ (wg_t kw_1533)) (fun _ h9 => h9) rfl dM_seal_61 ?_
        refine lv_iload_n hx hb dM_seal_64 rfl (lv_at hl 1 rfl) ?_
        refine ty_aald4 hx hb hK hO k_mo (nxg clo_nil k_mo rfl) hP (by omega) dM_seal_65 (fun r23 kr21 => ?_)
        refine lv_aload_n hx hb dM_seal_66 rfl (lv_at hl 0 rfl) ?_
        refine va_get (D := g.1) (ci := 8) (C := "LatticeKeysModel") (T := T_M) (N := 14) hx hb hts (wg_ft i_M) hown hK hP 0 rfl rfl 4 (by decide) (hts _ (wg_t kw_1530)) (fun _ h9 => h9) rfl dM_seal_67 ?_
        refine lv_aload_n hx hb dM_seal_70 rfl (lv_at hl 0 rfl) ?_
        refine va_get (D := g.1) (ci := 8) (C := "LatticeKeysModel") (T := T_M) (N := 14) hx hb hts (wg_ft i_M) hown hK hP 0 rfl rfl 5 (by decide) (hts _ (wg_t kw_1531)) (fun _ h9 => h9) rfl dM_seal_71 ?_
        refine mp_i (cx := []) (wr := [(h0, .inr (8, [.int (nI 0), .int (nI 0), .int (nI rs), .int (nI ks), .ref mt, .ref mr_, .ref mk, .ref mo, .ref mh, .ref mse, .ref mhs, .ref msp, .ref msc, .ref mha])), (mse, .inl (g.2.1 0, 8, .inl fS))]) hP hD hS hA [] [0, 1] rfl rfl rfl (by decide) (va_runV (As := [.int (nI 0), .ref r23, .ref mt, .ref mr_]) (rest := [.ref h0]) F (t_ME_seal_0 l g _ T [] pl hO hU clo_nil clo_nil msc r23 mt mr_ k_msc kr21 k_mt k_mr_) (cwV 4 hts (wg_app (wg_c kw_1801 (wg_c kw_1802 (wg_c kw_1803 (wg_c kw_11 wg_n)))) kw_1804) rfl rfl rfl (by decide +kernel) ⟨by decide, by decide⟩) (pp_VT (en_ok g) (ci := 11) (kd := (23, 0)) hK hO k_msc (nxg clo_nil k_msc rfl) (fun _ h9 => ko1 h9) hP hD hS hA hE [] rfl rfl rfl) rfl rfl hl.1 rfl (lv_room (Nat.le_of_ble_eq_true rfl)) dM_seal_74 ⟨by omega, by omega⟩) (fun r24 pl H locs hu23 hP hD hS => ?_)
        obtain ⟨hq23, hO⟩ := hu23
        have hP : va_P g.1 vcl ([(h0, .inr (8, [.int (nI 0), .int (nI 0), .int (nI rs), .int (nI ks), .ref mt, .ref mr_, .ref mk, .ref mo, .ref mh, .ref mse, .ref mhs, .ref msp, .ref msc, .ref mha])), (mse, .inl (g.2.1 0, 8, .inl fS))] ++ pl) _ := hP
        have hD : va_D _ ([(h0, .inr (8, [.int (nI 0), .int (nI 0), .int (nI rs), .int (nI ks), .ref mt, .ref mr_, .ref mk, .ref mo, .ref mh, .ref mse, .ref mhs, .ref msp, .ref msc, .ref mha])), (mse, .inl (g.2.1 0, 8, .inl fS))] ++ pl) := hD
        obtain rfl := hq23
        refine W.widen (k := 0) (n := 0) (by omega) (by omega) ?_
        refine va_put (D := g.1) (ci := 8) (v := .int (nI 800)) (ty := .int) (C := "LatticeKeysModel") (T := T_M) (N := 14) hx hb hts (wg_ft i_M) ty_M k_M n_M hown hK hP hD hS 0 rfl rfl 2 (by decide) (hts _ (wg_t kw_1528)) (fun _ h9 => h9) rfl (by decide +kernel) rfl rfl (Nat.le_of_ble_eq_true rfl) dM_seal_77 (fun H locs hP hD hS => ?_)
        have hP : va_P g.1 vcl ([(h0, .inr (8, [.int (nI 0), .int (nI 0), .int (nI 800), .int (nI ks), .ref mt, .ref mr_, .ref mk, .ref mo, .ref mh, .ref mse, .ref mhs, .ref msp, .ref msc, .ref mha])), (mse, .inl (g.2.1 0, 8, .inl fS))] ++ pl) _ := hP
        have hD : va_D _ ([(h0, .inr (8, [.int (nI 0), .int (nI 0), .int (nI 800), .int (nI ks), .ref mt, .ref mr_, .ref mk, .ref mo, .ref mh, .ref mse, .ref mhs, .ref msp, .ref msc, .ref mha])), (mse, .inl (g.2.1 0, 8, .inl fS))] ++ pl) := hD
        refine lv_aload_n hx hb dM_seal_80 rfl (lv_at hl 0 rfl) ?_
        refine va_get (D := g.1) (ci := 8) (C := "LatticeKeysModel") (T := T_M) (N := 14) hx hb hts (wg_ft i_M) hown hK hP 0 rfl rfl 2 (by decide) (hts _ (wg_t kw_1528)) (fun _ h9 => h9) rfl dM_seal_81 ?_
        exact mp_iret hx hb hr hlk hP hD hS ((nI 0, 0, 800, ks, fS), pl) ⟨⟨(by show 0 ≤ 16384; omega), (by show 800 ≤ 8192; omega), (by show ks ≤ 8; omega), hS5⟩, hO⟩ [0, 1] rfl rfl rfl (by omega) (by omega) dM_seal_84
      · refine lv_aload_n hx hb dM_seal_38 rfl (lv_at hl 0 rfl) ?_
        refine lv_iconst (v := nI 2) hx hb dM_seal_39 (by decide) ?_
        refine mp_i (cx := [(h0, .inr (8, [.int (nI 0), .int (nI tp), .int (nI rs), .int (nI ks), .ref mt, .ref mr_, .ref mk, .ref mo, .ref mh, .ref mse, .ref mhs, .ref msp, .ref msc, .ref mha])), (mse, .inl (g.2.1 0, 8, .inl fS))]) (wr := []) hP hD hS hA [0, 1] [] rfl rfl rfl (by decide) (va_runV (As := [.int (nI 2)]) (rest := []) F (t_M_fail l g _ T  pl hO hU  (nI 2) h0 mt mr_ mk mo mh mse mhs msp msc mha tp rs ks (nI 0) fS k_mt k_mr_ k_mk k_mo k_mh k_mhs k_msp k_msc k_mha (by omega) hS5) (cwV 1 hts (wg_app (wg_c kw_1577 (wg_c kw_1579 (wg_c ks_50 (wg_c kw_9 wg_n)))) kw_1580) rfl rfl rfl (by decide +kernel) ⟨by decide, by decide⟩) (pp_V (en_ok g) (q0 := 0) hK hP hD hS hA hE [0, 1] rfl rfl rfl rfl) rfl rfl hl.1 rfl (lv_room (Nat.le_of_ble_eq_true rfl)) dM_seal_40 ⟨by omega, by omega⟩) (fun r25 u23 H locs hu24 hP hD hS => ?_)
        obtain ⟨u24, pl⟩ := u23
        obtain ⟨hq24, hO⟩ := hu24
        obtain ⟨th22, tp22, rs22, ks22, fS22⟩ := u24
        have hP : va_P g.1 vcl ([(h0, .inr (8, [.int th22, .int (nI tp22), .int (nI rs22), .int (nI ks22), .ref mt, .ref mr_, .ref mk, .ref mo, .ref mh, .ref mse, .ref mhs, .ref msp, .ref msc, .ref mha])), (mse, .inl (g.2.1 0, 8, .inl fS22))] ++ pl) _ := hP
        have hD : va_D _ ([(h0, .inr (8, [.int th22, .int (nI tp22), .int (nI rs22), .int (nI ks22), .ref mt, .ref mr_, .ref mk, .ref mo, .ref mh, .ref mse, .ref mhs, .ref msp, .ref msc, .ref mha])), (mse, .inl (g.2.1 0, 8, .inl fS22))] ++ pl) := hD
        obtain ⟨-, -, -, hm29, hm30⟩ := hq24
        obtain ⟨he26, he27, he28, he29, he30⟩ := hm30
        have he26 : th22 = nI 2 := he26
        have he27 : tp22 = tp := he27
        have he28 : rs22 = rs := he28
        have he29 : ks22 = ks := he29
        obtain rfl := he30
        refine W.widen (k := 0) (n := 0) (by omega) (by omega) ?_
        exact mp_iret hx hb hr hlk hP hD hS ((th22, tp22, rs22, ks22, fS22), pl) ⟨⟨(by show tp22 ≤ 16384; omega), (by show rs22 ≤ 8192; omega), (by show ks22 ≤ 8; omega), hm29⟩, hO⟩ [0, 1] rfl rfl rfl (by omega) (by omega) dM_seal_43
    | 1, _, ey21 =>
      refine mi_as ey21 ?_
      refine lv_iconst (v := nI 2) hx hb dM_seal_19 (by decide) ?_
      refine mi_le (tgt := 29) hx hb dM_seal_20 (by decide) (by omega) (by omega) (fun h25 => ?_) (fun h25 => absurd h25 (by omega))
      refine lv_aload_n hx hb dM_seal_29 rfl (lv_at hl 0 rfl) ?_
      refine va_get (D := g.1) (ci := 8) (C := "LatticeKeysModel") (T := T_M) (N := 14) hx hb hts (wg_ft i_M) hown hK hP 0 rfl rfl 1 (by decide) (hts _ (wg_t kw_1527)) (fun _ h9 => h9) rfl dM_seal_30 ?_
      refine lv_bipush (v := nI 32) hx hb dM_seal_33 (by decide) ?_
      refine mi_eq (tgt := 44) hx hb dM_seal_35 (by decide) (by omega) (by omega) (fun h26 => ?_) (fun h26 => ?_)
      · refine lv_aload_n hx hb dM_seal_44 rfl (lv_at hl 0 rfl) ?_
        refine lv_iconst (v := nI 0) hx hb dM_seal_45 (by decide) ?_
        refine va_put (D := g.1) (ci := 8) (v := .int (nI 0)) (ty := .int) (C := "LatticeKeysModel") (T := T_M) (N := 14) hx hb hts (wg_ft i_M) ty_M k_M n_M hown hK hP hD hS 0 rfl rfl 1 (by decide) (hts _ (wg_t kw_1527)) (fun _ h9 => h9) rfl (by decide +kernel) rfl rfl (Nat.le_of_ble_eq_true rfl) dM_seal_46 (fun H locs hP hD hS => ?_)
        have hP : va_P g.1 vcl ([(h0, .inr (8, [.int (nI 0), .int (nI 0), .int (nI rs), .int (nI ks), .ref mt, .ref mr_, .ref mk, .ref mo, .ref mh, .ref mse, .ref mhs, .ref msp, .ref msc, .ref mha])), (mse, .inl (g.2.1 0, 8, .inl fS))] ++ pl) _ := hP
        have hD : va_D _ ([(h0, .inr (8, [.int (nI 0), .int (nI 0), .int (nI rs), .int (nI ks), .ref mt, .ref mr_, .ref mk, .ref mo, .ref mh, .ref mse, .ref mhs, .ref msp, .ref msc, .ref mha])), (mse, .inl (g.2.1 0, 8, .inl fS))] ++ pl) := hD
        refine lv_aload_n hx hb dM_seal_49 rfl (lv_at hl 0 rfl) ?_
        refine lv_aload_n hx hb dM_seal_50 rfl (lv_at hl 0 rfl) ?_
        refine va_get (D := g.1) (ci := 8) (C := "LatticeKeysModel") (T := T_M) (N := 14) hx hb hts (wg_ft i_M) hown hK hP 0 rfl rfl 12 (by decide) (hts _ (wg_t kw_1538)) (fun _ h9 => h9) rfl dM_seal_51 ?_
        refine lv_aload_n hx hb dM_seal_54 rfl (lv_at hl 0 rfl) ?_
        refine va_get (D := g.1) (ci := 8) (C := "LatticeKeysModel") (T := T_M) (N := 14) hx hb hts (wg_ft i_M) hown hK hP 0 rfl rfl 9 (by decide) (hts _ (wg_t kw_1535)) (fun _ h9 => h9) rfl dM_seal_55 ?_
        refine lv_iload_n hx hb dM_seal_58 rfl (lv_at hl 1 rfl) ?_
        refine mp_iald hx hb hK hP 1 0 rfl rfl (by omega) (by decide) dM_seal_59 ?_
        refine mi_as ey21 ?_
        refine lv_aload_n hx hb dM_seal_60 rfl (lv_at hl 0 rfl) ?_
        refine va_get (D := g.1) (ci := 8) (C := "LatticeKeysModel") (T := T_M) (N := 14) hx hb hts (wg_ft i_M) hown hK hP 0 rfl rfl 7 (by decide) (hts _ (wg_t kw_1533)) (fun _ h9 => h9) rfl dM_seal_61 ?_
        refine lv_iload_n hx hb dM_seal_64 rfl (lv_at hl 1 rfl) ?_
        refine ty_aald4 hx hb hK hO k_mo (nxg clo_nil k_mo rfl) hP (by omega) dM_seal_65 (fun r26 kr22 => ?_)
        refine lv_aload_n hx hb dM_seal_66 rfl (lv_at hl 0 rfl) ?_
        refine va_get (D := g.1) (ci := 8) (C := "LatticeKeysModel") (T := T_M) (N := 14) hx hb hts (wg_ft i_M) hown hK hP 0 rfl rfl 4 (by decide) (hts _ (wg_t kw_1530)) (fun _ h9 => h9) rfl dM_seal_67 ?_
        refine lv_aload_n hx hb dM_seal_70 rfl (lv_at hl 0 rfl) ?_
        refine va_get (D := g.1) (ci := 8) (C := "LatticeKeysModel") (T := T_M) (N := 14) hx hb hts (wg_ft i_M) hown hK hP 0 rfl rfl 5 (by decide) (hts _ (wg_t kw_1531)) (fun _ h9 => h9) rfl dM_seal_71 ?_
        refine mp_i (cx := []) (wr := [(h0, .inr (8, [.int (nI 0), .int (nI 0), .int (nI rs), .int (nI ks), .ref mt, .ref mr_, .ref mk, .ref mo, .ref mh, .ref mse, .ref mhs, .ref msp, .ref msc, .ref mha])), (mse, .inl (g.2.1 0, 8, .inl fS))]) hP hD hS hA [] [0, 1] rfl rfl rfl (by decide) (va_runV (As := [.int (nI 1), .ref r26, .ref mt, .ref mr_]) (rest := [.ref h0]) F (t_ME_seal_1 l g _ T [] pl hO hU clo_nil clo_nil msc r26 mt mr_ k_msc kr22 k_mt k_mr_) (cwV 4 hts (wg_app (wg_c kw_1801 (wg_c kw_1802 (wg_c kw_1803 (wg_c kw_11 wg_n)))) kw_1804) rfl rfl rfl (by decide +kernel) ⟨by decide, by decide⟩) (pp_VT (en_ok g) (ci := 11) (kd := (23, 0)) hK hO k_msc (nxg clo_nil k_msc rfl) (fun _ h9 => ko1 h9) hP hD hS hA hE [] rfl rfl rfl) rfl rfl hl.1 rfl (lv_room (Nat.le_of_ble_eq_true rfl)) dM_seal_74 ⟨by omega, by omega⟩) (fun r27 pl H locs hu25 hP hD hS => ?_)
        obtain ⟨hq25, hO⟩ := hu25
        have hP : va_P g.1 vcl ([(h0, .inr (8, [.int (nI 0), .int (nI 0), .int (nI rs), .int (nI ks), .ref mt, .ref mr_, .ref mk, .ref mo, .ref mh, .ref mse, .ref mhs, .ref msp, .ref msc, .ref mha])), (mse, .inl (g.2.1 0, 8, .inl fS))] ++ pl) _ := hP
        have hD : va_D _ ([(h0, .inr (8, [.int (nI 0), .int (nI 0), .int (nI rs), .int (nI ks), .ref mt, .ref mr_, .ref mk, .ref mo, .ref mh, .ref mse, .ref mhs, .ref msp, .ref msc, .ref mha])), (mse, .inl (g.2.1 0, 8, .inl fS))] ++ pl) := hD
        obtain rfl := hq25
        refine W.widen (k := 0) (n := 0) (by omega) (by omega) ?_
        refine va_put (D := g.1) (ci := 8) (v := .int (nI 1120)) (ty := .int) (C := "LatticeKeysModel") (T := T_M) (N := 14) hx hb hts (wg_ft i_M) ty_M k_M n_M hown hK hP hD hS 0 rfl rfl 2 (by decide) (hts _ (wg_t kw_1528)) (fun _ h9 => h9) rfl (by decide +kernel) rfl rfl (Nat.le_of_ble_eq_true rfl) dM_seal_77 (fun H locs hP hD hS => ?_)
        have hP : va_P g.1 vcl ([(h0, .inr (8, [.int (nI 0), .int (nI 0), .int (nI 1120), .int (nI ks), .ref mt, .ref mr_, .ref mk, .ref mo, .ref mh, .ref mse, .ref mhs, .ref msp, .ref msc, .ref mha])), (mse, .inl (g.2.1 0, 8, .inl fS))] ++ pl) _ := hP
        have hD : va_D _ ([(h0, .inr (8, [.int (nI 0), .int (nI 0), .int (nI 1120), .int (nI ks), .ref mt, .ref mr_, .ref mk, .ref mo, .ref mh, .ref mse, .ref mhs, .ref msp, .ref msc, .ref mha])), (mse, .inl (g.2.1 0, 8, .inl fS))] ++ pl) := hD
        refine lv_aload_n hx hb dM_seal_80 rfl (lv_at hl 0 rfl) ?_
        refine va_get (D := g.1) (ci := 8) (C := "LatticeKeysModel") (T := T_M) (N := 14) hx hb hts (wg_ft i_M) hown hK hP 0 rfl rfl 2 (by decide) (hts _ (wg_t kw_1528)) (fun _ h9 => h9) rfl dM_seal_81 ?_
        exact mp_iret hx hb hr hlk hP hD hS ((nI 0, 0, 1120, ks, fS), pl) ⟨⟨(by show 0 ≤ 16384; omega), (by show 1120 ≤ 8192; omega), (by show ks ≤ 8; omega), hS5⟩, hO⟩ [0, 1] rfl rfl rfl (by omega) (by omega) dM_seal_84
      · refine lv_aload_n hx hb dM_seal_38 rfl (lv_at hl 0 rfl) ?_
        refine lv_iconst (v := nI 2) hx hb dM_seal_39 (by decide) ?_
        refine mp_i (cx := [(h0, .inr (8, [.int (nI 0), .int (nI tp), .int (nI rs), .int (nI ks), .ref mt, .ref mr_, .ref mk, .ref mo, .ref mh, .ref mse, .ref mhs, .ref msp, .ref msc, .ref mha])), (mse, .inl (g.2.1 0, 8, .inl fS))]) (wr := []) hP hD hS hA [0, 1] [] rfl rfl rfl (by decide) (va_runV (As := [.int (nI 2)]) (rest := []) F (t_M_fail l g _ T  pl hO hU  (nI 2) h0 mt mr_ mk mo mh mse mhs msp msc mha tp rs ks (nI 0) fS k_mt k_mr_ k_mk k_mo k_mh k_mhs k_msp k_msc k_mha (by omega) hS5) (cwV 1 hts (wg_app (wg_c kw_1577 (wg_c kw_1579 (wg_c ks_50 (wg_c kw_9 wg_n)))) kw_1580) rfl rfl rfl (by decide +kernel) ⟨by decide, by decide⟩) (pp_V (en_ok g) (q0 := 0) hK hP hD hS hA hE [0, 1] rfl rfl rfl rfl) rfl rfl hl.1 rfl (lv_room (Nat.le_of_ble_eq_true rfl)) dM_seal_40 ⟨by omega, by omega⟩) (fun r28 u25 H locs hu26 hP hD hS => ?_)
        obtain ⟨u26, pl⟩ := u25
        obtain ⟨hq26, hO⟩ := hu26
        obtain ⟨th23, tp23, rs23, ks23, fS23⟩ := u26
        have hP : va_P g.1 vcl ([(h0, .inr (8, [.int th23, .int (nI tp23), .int (nI rs23), .int (nI ks23), .ref mt, .ref mr_, .ref mk, .ref mo, .ref mh, .ref mse, .ref mhs, .ref msp, .ref msc, .ref mha])), (mse, .inl (g.2.1 0, 8, .inl fS23))] ++ pl) _ := hP
        have hD : va_D _ ([(h0, .inr (8, [.int th23, .int (nI tp23), .int (nI rs23), .int (nI ks23), .ref mt, .ref mr_, .ref mk, .ref mo, .ref mh, .ref mse, .ref mhs, .ref msp, .ref msc, .ref mha])), (mse, .inl (g.2.1 0, 8, .inl fS23))] ++ pl) := hD
        obtain ⟨-, -, -, hm34, hm35⟩ := hq26
        obtain ⟨he31, he32, he33, he34, he35⟩ := hm35
        have he31 : th23 = nI 2 := he31
        have he32 : tp23 = tp := he32
        have he33 : rs23 = rs := he33
        have he34 : ks23 = ks := he34
        obtain rfl := he35
        refine W.widen (k := 0) (n := 0) (by omega) (by omega) ?_
        exact mp_iret hx hb hr hlk hP hD hS ((th23, tp23, rs23, ks23, fS23), pl) ⟨⟨(by show tp23 ≤ 16384; omega), (by show rs23 ≤ 8192; omega), (by show ks23 ≤ 8; omega), hm34⟩, hO⟩ [0, 1] rfl rfl rfl (by omega) (by omega) dM_seal_43
    | 2, _, ey21 =>
      refine mi_as ey21 ?_
      refine lv_iconst (v := nI 2) hx hb dM_seal_19 (by decide) ?_
      refine mi_le (tgt := 29) hx hb dM_seal_20 (by decide) (by omega) (by omega) (fun h27 => ?_) (fun h27 => absurd h27 (by omega))
      refine lv_aload_n hx hb dM_seal_29 rfl (lv_at hl 0 rfl) ?_
      refine va_get (D := g.1) (ci := 8) (C := "LatticeKeysModel") (T := T_M) (N := 14) hx hb hts (wg_ft i_M) hown hK hP 0 rfl rfl 1 (by decide) (hts _ (wg_t kw_1527)) (fun _ h9 => h9) rfl dM_seal_30 ?_
      refine lv_bipush (v := nI 32) hx hb dM_seal_33 (by decide) ?_
      refine mi_eq (tgt := 44) hx hb dM_seal_35 (by decide) (by omega) (by omega) (fun h28 => ?_) (fun h28 => ?_)
      · refine lv_aload_n hx hb dM_seal_44 rfl (lv_at hl 0 rfl) ?_
        refine lv_iconst (v := nI 0) hx hb dM_seal_45 (by decide) ?_
        refine va_put (D := g.1) (ci := 8) (v := .int (nI 0)) (ty := .int) (C := "LatticeKeysModel") (T := T_M) (N := 14) hx hb hts (wg_ft i_M) ty_M k_M n_M hown hK hP hD hS 0 rfl rfl 1 (by decide) (hts _ (wg_t kw_1527)) (fun _ h9 => h9) rfl (by decide +kernel) rfl rfl (Nat.le_of_ble_eq_true rfl) dM_seal_46 (fun H locs hP hD hS => ?_)
        have hP : va_P g.1 vcl ([(h0, .inr (8, [.int (nI 0), .int (nI 0), .int (nI rs), .int (nI ks), .ref mt, .ref mr_, .ref mk, .ref mo, .ref mh, .ref mse, .ref mhs, .ref msp, .ref msc, .ref mha])), (mse, .inl (g.2.1 0, 8, .inl fS))] ++ pl) _ := hP
        have hD : va_D _ ([(h0, .inr (8, [.int (nI 0), .int (nI 0), .int (nI rs), .int (nI ks), .ref mt, .ref mr_, .ref mk, .ref mo, .ref mh, .ref mse, .ref mhs, .ref msp, .ref msc, .ref mha])), (mse, .inl (g.2.1 0, 8, .inl fS))] ++ pl) := hD
        refine lv_aload_n hx hb dM_seal_49 rfl (lv_at hl 0 rfl) ?_
        refine lv_aload_n hx hb dM_seal_50 rfl (lv_at hl 0 rfl) ?_
        refine va_get (D := g.1) (ci := 8) (C := "LatticeKeysModel") (T := T_M) (N := 14) hx hb hts (wg_ft i_M) hown hK hP 0 rfl rfl 12 (by decide) (hts _ (wg_t kw_1538)) (fun _ h9 => h9) rfl dM_seal_51 ?_
        refine lv_aload_n hx hb dM_seal_54 rfl (lv_at hl 0 rfl) ?_
        refine va_get (D := g.1) (ci := 8) (C := "LatticeKeysModel") (T := T_M) (N := 14) hx hb hts (wg_ft i_M) hown hK hP 0 rfl rfl 9 (by decide) (hts _ (wg_t kw_1535)) (fun _ h9 => h9) rfl dM_seal_55 ?_
        refine lv_iload_n hx hb dM_seal_58 rfl (lv_at hl 1 rfl) ?_
        refine mp_iald hx hb hK hP 1 0 rfl rfl (by omega) (by decide) dM_seal_59 ?_
        refine mi_as ey21 ?_
        refine lv_aload_n hx hb dM_seal_60 rfl (lv_at hl 0 rfl) ?_
        refine va_get (D := g.1) (ci := 8) (C := "LatticeKeysModel") (T := T_M) (N := 14) hx hb hts (wg_ft i_M) hown hK hP 0 rfl rfl 7 (by decide) (hts _ (wg_t kw_1533)) (fun _ h9 => h9) rfl dM_seal_61 ?_
        refine lv_iload_n hx hb dM_seal_64 rfl (lv_at hl 1 rfl) ?_
        refine ty_aald4 hx hb hK hO k_mo (nxg clo_nil k_mo rfl) hP (by omega) dM_seal_65 (fun r29 kr23 => ?_)
        refine lv_aload_n hx hb dM_seal_66 rfl (lv_at hl 0 rfl) ?_
        refine va_get (D := g.1) (ci := 8) (C := "LatticeKeysModel") (T := T_M) (N := 14) hx hb hts (wg_ft i_M) hown hK hP 0 rfl rfl 4 (by decide) (hts _ (wg_t kw_1530)) (fun _ h9 => h9) rfl dM_seal_67 ?_
        refine lv_aload_n hx hb dM_seal_70 rfl (lv_at hl 0 rfl) ?_
        refine va_get (D := g.1) (ci := 8) (C := "LatticeKeysModel") (T := T_M) (N := 14) hx hb hts (wg_ft i_M) hown hK hP 0 rfl rfl 5 (by decide) (hts _ (wg_t kw_1531)) (fun _ h9 => h9) rfl dM_seal_71 ?_
        refine mp_i (cx := []) (wr := [(h0, .inr (8, [.int (nI 0), .int (nI 0), .int (nI rs), .int (nI ks), .ref mt, .ref mr_, .ref mk, .ref mo, .ref mh, .ref mse, .ref mhs, .ref msp, .ref msc, .ref mha])), (mse, .inl (g.2.1 0, 8, .inl fS))]) hP hD hS hA [] [0, 1] rfl rfl rfl (by decide) (va_runV (As := [.int (nI 2), .ref r29, .ref mt, .ref mr_]) (rest := [.ref h0]) F (t_ME_seal_2 l g _ T [] pl hO hU clo_nil clo_nil msc r29 mt mr_ k_msc kr23 k_mt k_mr_) (cwV 4 hts (wg_app (wg_c kw_1801 (wg_c kw_1802 (wg_c kw_1803 (wg_c kw_11 wg_n)))) kw_1804) rfl rfl rfl (by decide +kernel) ⟨by decide, by decide⟩) (pp_VT (en_ok g) (ci := 11) (kd := (23, 0)) hK hO k_msc (nxg clo_nil k_msc rfl) (fun _ h9 => ko1 h9) hP hD hS hA hE [] rfl rfl rfl) rfl rfl hl.1 rfl (lv_room (Nat.le_of_ble_eq_true rfl)) dM_seal_74 ⟨by omega, by omega⟩) (fun r30 pl H locs hu27 hP hD hS => ?_)
        obtain ⟨hq27, hO⟩ := hu27
        have hP : va_P g.1 vcl ([(h0, .inr (8, [.int (nI 0), .int (nI 0), .int (nI rs), .int (nI ks), .ref mt, .ref mr_, .ref mk, .ref mo, .ref mh, .ref mse, .ref mhs, .ref msp, .ref msc, .ref mha])), (mse, .inl (g.2.1 0, 8, .inl fS))] ++ pl) _ := hP
        have hD : va_D _ ([(h0, .inr (8, [.int (nI 0), .int (nI 0), .int (nI rs), .int (nI ks), .ref mt, .ref mr_, .ref mk, .ref mo, .ref mh, .ref mse, .ref mhs, .ref msp, .ref msc, .ref mha])), (mse, .inl (g.2.1 0, 8, .inl fS))] ++ pl) := hD
        obtain rfl := hq27
        refine W.widen (k := 0) (n := 0) (by omega) (by omega) ?_
        refine va_put (D := g.1) (ci := 8) (v := .int (nI 1600)) (ty := .int) (C := "LatticeKeysModel") (T := T_M) (N := 14) hx hb hts (wg_ft i_M) ty_M k_M n_M hown hK hP hD hS 0 rfl rfl 2 (by decide) (hts _ (wg_t kw_1528)) (fun _ h9 => h9) rfl (by decide +kernel) rfl rfl (Nat.le_of_ble_eq_true rfl) dM_seal_77 (fun H locs hP hD hS => ?_)
        have hP : va_P g.1 vcl ([(h0, .inr (8, [.int (nI 0), .int (nI 0), .int (nI 1600), .int (nI ks), .ref mt, .ref mr_, .ref mk, .ref mo, .ref mh, .ref mse, .ref mhs, .ref msp, .ref msc, .ref mha])), (mse, .inl (g.2.1 0, 8, .inl fS))] ++ pl) _ := hP
        have hD : va_D _ ([(h0, .inr (8, [.int (nI 0), .int (nI 0), .int (nI 1600), .int (nI ks), .ref mt, .ref mr_, .ref mk, .ref mo, .ref mh, .ref mse, .ref mhs, .ref msp, .ref msc, .ref mha])), (mse, .inl (g.2.1 0, 8, .inl fS))] ++ pl) := hD
        refine lv_aload_n hx hb dM_seal_80 rfl (lv_at hl 0 rfl) ?_
        refine va_get (D := g.1) (ci := 8) (C := "LatticeKeysModel") (T := T_M) (N := 14) hx hb hts (wg_ft i_M) hown hK hP 0 rfl rfl 2 (by decide) (hts _ (wg_t kw_1528)) (fun _ h9 => h9) rfl dM_seal_81 ?_
        exact mp_iret hx hb hr hlk hP hD hS ((nI 0, 0, 1600, ks, fS), pl) ⟨⟨(by show 0 ≤ 16384; omega), (by show 1600 ≤ 8192; omega), (by show ks ≤ 8; omega), hS5⟩, hO⟩ [0, 1] rfl rfl rfl (by omega) (by omega) dM_seal_84
      · refine lv_aload_n hx hb dM_seal_38 rfl (lv_at hl 0 rfl) ?_
        refine lv_iconst (v := nI 2) hx hb dM_seal_39 (by decide) ?_
        refine mp_i (cx := [(h0, .inr (8, [.int (nI 0), .int (nI tp), .int (nI rs), .int (nI ks), .ref mt, .ref mr_, .ref mk, .ref mo, .ref mh, .ref mse, .ref mhs, .ref msp, .ref msc, .ref mha])), (mse, .inl (g.2.1 0, 8, .inl fS))]) (wr := []) hP hD hS hA [0, 1] [] rfl rfl rfl (by decide) (va_runV (As := [.int (nI 2)]) (rest := []) F (t_M_fail l g _ T  pl hO hU  (nI 2) h0 mt mr_ mk mo mh mse mhs msp msc mha tp rs ks (nI 0) fS k_mt k_mr_ k_mk k_mo k_mh k_mhs k_msp k_msc k_mha (by omega) hS5) (cwV 1 hts (wg_app (wg_c kw_1577 (wg_c kw_1579 (wg_c ks_50 (wg_c kw_9 wg_n)))) kw_1580) rfl rfl rfl (by decide +kernel) ⟨by decide, by decide⟩) (pp_V (en_ok g) (q0 := 0) hK hP hD hS hA hE [0, 1] rfl rfl rfl rfl) rfl rfl hl.1 rfl (lv_room (Nat.le_of_ble_eq_true rfl)) dM_seal_40 ⟨by omega, by omega⟩) (fun r31 u27 H locs hu28 hP hD hS => ?_)
        obtain ⟨u28, pl⟩ := u27
        obtain ⟨hq28, hO⟩ := hu28
        obtain ⟨th24, tp24, rs24, ks24, fS24⟩ := u28
        have hP : va_P g.1 vcl ([(h0, .inr (8, [.int th24, .int (nI tp24), .int (nI rs24), .int (nI ks24), .ref mt, .ref mr_, .ref mk, .ref mo, .ref mh, .ref mse, .ref mhs, .ref msp, .ref msc, .ref mha])), (mse, .inl (g.2.1 0, 8, .inl fS24))] ++ pl) _ := hP
        have hD : va_D _ ([(h0, .inr (8, [.int th24, .int (nI tp24), .int (nI rs24), .int (nI ks24), .ref mt, .ref mr_, .ref mk, .ref mo, .ref mh, .ref mse, .ref mhs, .ref msp, .ref msc, .ref mha])), (mse, .inl (g.2.1 0, 8, .inl fS24))] ++ pl) := hD
        obtain ⟨-, -, -, hm39, hm40⟩ := hq28
        obtain ⟨he36, he37, he38, he39, he40⟩ := hm40
        have he36 : th24 = nI 2 := he36
        have he37 : tp24 = tp := he37
        have he38 : rs24 = rs := he38
        have he39 : ks24 = ks := he39
        obtain rfl := he40
        refine W.widen (k := 0) (n := 0) (by omega) (by omega) ?_
        exact mp_iret hx hb hr hlk hP hD hS ((th24, tp24, rs24, ks24, fS24), pl) ⟨⟨(by show tp24 ≤ 16384; omega), (by show rs24 ≤ 8192; omega), (by show ks24 ≤ 8; omega), hm39⟩, hO⟩ [0, 1] rfl rfl rfl (by omega) (by omega) dM_seal_43
    | 3, _, ey21 =>
      refine mi_as ey21 ?_
      refine lv_iconst (v := nI 2) hx hb dM_seal_19 (by decide) ?_
      refine mi_le (tgt := 29) hx hb dM_seal_20 (by decide) (by omega) (by omega) (fun h29 => absurd h29 (by omega)) (fun h29 => ?_)
      refine lv_aload_n hx hb dM_seal_23 rfl (lv_at hl 0 rfl) ?_
      refine lv_iconst (v := nI 1) hx hb dM_seal_24 (by decide) ?_
      refine mp_i (cx := [(h0, .inr (8, [.int (nI 0), .int (nI tp), .int (nI rs), .int (nI ks), .ref mt, .ref mr_, .ref mk, .ref mo, .ref mh, .ref mse, .ref mhs, .ref msp, .ref msc, .ref mha])), (mse, .inl (g.2.1 0, 8, .inl fS))]) (wr := []) hP hD hS hA [0, 1] [] rfl rfl rfl (by decide) (va_runV (As := [.int (nI 1)]) (rest := []) F (t_M_fail l g _ T  pl hO hU  (nI 1) h0 mt mr_ mk mo mh mse mhs msp msc mha tp rs ks (nI 0) fS k_mt k_mr_ k_mk k_mo k_mh k_mhs k_msp k_msc k_mha (by omega) hS5) (cwV 1 hts (wg_app (wg_c kw_1577 (wg_c kw_1579 (wg_c ks_50 (wg_c kw_9 wg_n)))) kw_1580) rfl rfl rfl (by decide +kernel) ⟨by decide, by decide⟩) (pp_V (en_ok g) (q0 := 0) hK hP hD hS hA hE [0, 1] rfl rfl rfl rfl) rfl rfl hl.1 rfl (lv_room (Nat.le_of_ble_eq_true rfl)) dM_seal_25 ⟨by omega, by omega⟩) (fun r32 u29 H locs hu29 hP hD hS => ?_)
      obtain ⟨u30, pl⟩ := u29
      obtain ⟨hq29, hO⟩ := hu29
      obtain ⟨th25, tp25, rs25, ks25, fS25⟩ := u30
      have hP : va_P g.1 vcl ([(h0, .inr (8, [.int th25, .int (nI tp25), .int (nI rs25), .int (nI ks25), .ref mt, .ref mr_, .ref mk, .ref mo, .ref mh, .ref mse, .ref mhs, .ref msp, .ref msc, .ref mha])), (mse, .inl (g.2.1 0, 8, .inl fS25))] ++ pl) _ := hP
      have hD : va_D _ ([(h0, .inr (8, [.int th25, .int (nI tp25), .int (nI rs25), .int (nI ks25), .ref mt, .ref mr_, .ref mk, .ref mo, .ref mh, .ref mse, .ref mhs, .ref msp, .ref msc, .ref mha])), (mse, .inl (g.2.1 0, 8, .inl fS25))] ++ pl) := hD
      obtain ⟨-, -, -, hm44, hm45⟩ := hq29
      obtain ⟨he41, he42, he43, he44, he45⟩ := hm45
      have he41 : th25 = nI 1 := he41
      have he42 : tp25 = tp := he42
      have he43 : rs25 = rs := he43
      have he44 : ks25 = ks := he44
      obtain rfl := he45
      refine W.widen (k := 0) (n := 0) (by omega) (by omega) ?_
      exact mp_iret hx hb hr hlk hP hD hS ((th25, tp25, rs25, ks25, fS25), pl) ⟨⟨(by show tp25 ≤ 16384; omega), (by show rs25 ≤ 8192; omega), (by show ks25 ≤ 8; omega), hm44⟩, hO⟩ [0, 1] rfl rfl rfl (by omega) (by omega) dM_seal_28
    | 4, _, ey21 =>
      refine mi_as ey21 ?_
      refine lv_iconst (v := nI 2) hx hb dM_seal_19 (by decide) ?_
      refine mi_le (tgt := 29) hx hb dM_seal_20 (by decide) (by omega) (by omega) (fun h30 => absurd h30 (by omega)) (fun h30 => ?_)
      refine lv_aload_n hx hb dM_seal_23 rfl (lv_at hl 0 rfl) ?_
      refine lv_iconst (v := nI 1) hx hb dM_seal_24 (by decide) ?_
      refine mp_i (cx := [(h0, .inr (8, [.int (nI 0), .int (nI tp), .int (nI rs), .int (nI ks), .ref mt, .ref mr_, .ref mk, .ref mo, .ref mh, .ref mse, .ref mhs, .ref msp, .ref msc, .ref mha])), (mse, .inl (g.2.1 0, 8, .inl fS))]) (wr := []) hP hD hS hA [0, 1] [] rfl rfl rfl (by decide) (va_runV (As := [.int (nI 1)]) (rest := []) F (t_M_fail l g _ T  pl hO hU  (nI 1) h0 mt mr_ mk mo mh mse mhs msp msc mha tp rs ks (nI 0) fS k_mt k_mr_ k_mk k_mo k_mh k_mhs k_msp k_msc k_mha (by omega) hS5) (cwV 1 hts (wg_app (wg_c kw_1577 (wg_c kw_1579 (wg_c ks_50 (wg_c kw_9 wg_n)))) kw_1580) rfl rfl rfl (by decide +kernel) ⟨by decide, by decide⟩) (pp_V (en_ok g) (q0 := 0) hK hP hD hS hA hE [0, 1] rfl rfl rfl rfl) rfl rfl hl.1 rfl (lv_room (Nat.le_of_ble_eq_true rfl)) dM_seal_25 ⟨by omega, by omega⟩) (fun r33 u31 H locs hu30 hP hD hS => ?_)
      obtain ⟨u32, pl⟩ := u31
      obtain ⟨hq30, hO⟩ := hu30
      obtain ⟨th26, tp26, rs26, ks26, fS26⟩ := u32
      have hP : va_P g.1 vcl ([(h0, .inr (8, [.int th26, .int (nI tp26), .int (nI rs26), .int (nI ks26), .ref mt, .ref mr_, .ref mk, .ref mo, .ref mh, .ref mse, .ref mhs, .ref msp, .ref msc, .ref mha])), (mse, .inl (g.2.1 0, 8, .inl fS26))] ++ pl) _ := hP
      have hD : va_D _ ([(h0, .inr (8, [.int th26, .int (nI tp26), .int (nI rs26), .int (nI ks26), .ref mt, .ref mr_, .ref mk, .ref mo, .ref mh, .ref mse, .ref mhs, .ref msp, .ref msc, .ref mha])), (mse, .inl (g.2.1 0, 8, .inl fS26))] ++ pl) := hD
      obtain ⟨-, -, -, hm49, hm50⟩ := hq30
      obtain ⟨he46, he47, he48, he49, he50⟩ := hm50
      have he46 : th26 = nI 1 := he46
      have he47 : tp26 = tp := he47
      have he48 : rs26 = rs := he48
      have he49 : ks26 = ks := he49
      obtain rfl := he50
      refine W.widen (k := 0) (n := 0) (by omega) (by omega) ?_
      exact mp_iret hx hb hr hlk hP hD hS ((th26, tp26, rs26, ks26, fS26), pl) ⟨⟨(by show tp26 ≤ 16384; omega), (by show rs26 ≤ 8192; omega), (by show ks26 ≤ 8; omega), hm49⟩, hO⟩ [0, 1] rfl rfl rfl (by omega) (by omega) dM_seal_28
    | 5, _, ey21 =>
      refine mi_as ey21 ?_
      refine lv_iconst (v := nI 2) hx hb dM_seal_19 (by decide) ?_
      refine mi_le (tgt := 29) hx hb dM_seal_20 (by decide) (by omega) (by omega) (fun h31 => absurd h31 (by omega)) (fun h31 => ?_)
      refine lv_aload_n hx hb dM_seal_23 rfl (lv_at hl 0 rfl) ?_
      refine lv_iconst (v := nI 1) hx hb dM_seal_24 (by decide) ?_
      refine mp_i (cx := [(h0, .inr (8, [.int (nI 0), .int (nI tp), .int (nI rs), .int (nI ks), .ref mt, .ref mr_, .ref mk, .ref mo, .ref mh, .ref mse, .ref mhs, .ref msp, .ref msc, .ref mha])), (mse, .inl (g.2.1 0, 8, .inl fS))]) (wr := []) hP hD hS hA [0, 1] [] rfl rfl rfl (by decide) (va_runV (As := [.int (nI 1)]) (rest := []) F (t_M_fail l g _ T  pl hO hU  (nI 1) h0 mt mr_ mk mo mh mse mhs msp msc mha tp rs ks (nI 0) fS k_mt k_mr_ k_mk k_mo k_mh k_mhs k_msp k_msc k_mha (by omega) hS5) (cwV 1 hts (wg_app (wg_c kw_1577 (wg_c kw_1579 (wg_c ks_50 (wg_c kw_9 wg_n)))) kw_1580) rfl rfl rfl (by decide +kernel) ⟨by decide, by decide⟩) (pp_V (en_ok g) (q0 := 0) hK hP hD hS hA hE [0, 1] rfl rfl rfl rfl) rfl rfl hl.1 rfl (lv_room (Nat.le_of_ble_eq_true rfl)) dM_seal_25 ⟨by omega, by omega⟩) (fun r34 u33 H locs hu31 hP hD hS => ?_)
      obtain ⟨u34, pl⟩ := u33
      obtain ⟨hq31, hO⟩ := hu31
      obtain ⟨th27, tp27, rs27, ks27, fS27⟩ := u34
      have hP : va_P g.1 vcl ([(h0, .inr (8, [.int th27, .int (nI tp27), .int (nI rs27), .int (nI ks27), .ref mt, .ref mr_, .ref mk, .ref mo, .ref mh, .ref mse, .ref mhs, .ref msp, .ref msc, .ref mha])), (mse, .inl (g.2.1 0, 8, .inl fS27))] ++ pl) _ := hP
      have hD : va_D _ ([(h0, .inr (8, [.int th27, .int (nI tp27), .int (nI rs27), .int (nI ks27), .ref mt, .ref mr_, .ref mk, .ref mo, .ref mh, .ref mse, .ref mhs, .ref msp, .ref msc, .ref mha])), (mse, .inl (g.2.1 0, 8, .inl fS27))] ++ pl) := hD
      obtain ⟨-, -, -, hm54, hm55⟩ := hq31
      obtain ⟨he51, he52, he53, he54, he55⟩ := hm55
      have he51 : th27 = nI 1 := he51
      have he52 : tp27 = tp := he52
      have he53 : rs27 = rs := he53
      have he54 : ks27 = ks := he54
      obtain rfl := he55
      refine W.widen (k := 0) (n := 0) (by omega) (by omega) ?_
      exact mp_iret hx hb hr hlk hP hD hS ((th27, tp27, rs27, ks27, fS27), pl) ⟨⟨(by show tp27 ≤ 16384; omega), (by show rs27 ≤ 8192; omega), (by show ks27 ≤ 8; omega), hm54⟩, hO⟩ [0, 1] rfl rfl rfl (by omega) (by omega) dM_seal_28
    | _ + 6, hy21, _ => exact absurd hy21 (by omega)
set_option maxHeartbeats 4000000 in
set_option maxRecDepth 100000 in
theorem t_M_open (l : Launch) (g : Gd) (sz : Nat) (T : Ty) (pl : va_W) (hO : okx g T [] pl) (hU : uni T) (v : Int32) (h0 mt mr_ mk mo mh mse mhs msp msc mha tp rs ks : Nat) (x0 : Int32) (fS : Nat → Int32) (k_mt : T mt = some (1, 16384)) (k_mr_ : T mr_ = some (1, 8192)) (k_mk : T mk = some (1, 8192)) (k_mo : T mo = some (4, 2592)) (k_mh : T mh = some (4, 4896)) (k_mhs : T mhs = some (5, 4896)) (k_msp : T msp = some (20, 0)) (k_msc : T msc = some (23, 0)) (k_mha : T mha = some (49, 0)) (hb : tp ≤ 16384 ∧ rs ≤ 8192 ∧ ks ≤ 8) (hS5 : s5 fS)  : Met l y_M_open w_M_open ({ frames := 7, cells := 0, slots := 0, locals := 182 } : Room) (va_Pc [.ref h0, .int v] (pr (en g) g.1 vcl sz ([(h0, .inr (8, [.int x0, .int (nI tp), .int (nI rs), .int (nI ks), .ref mt, .ref mr_, .ref mk, .ref mo, .ref mh, .ref mse, .ref mhs, .ref msp, .ref msc, .ref mha])), (mse, .inl (g.2.1 0, 8, .inl fS))] ++ pl))) (va_Qi (fun (r : Int32) (u : (Int32 × Nat × Nat × Nat × (Nat → Int32)) × va_W) => (u.1.2.1 ≤ 16384 ∧ u.1.2.2.1 ≤ 8192 ∧ u.1.2.2.2.1 ≤ 8 ∧ s5 u.1.2.2.2.2) ∧ okx g T [] u.2) (po g.1 vcl (va_A ([(h0, .inr (8, [.int x0, .int (nI tp), .int (nI rs), .int (nI ks), .ref mt, .ref mr_, .ref mk, .ref mo, .ref mh, .ref mse, .ref mhs, .ref msp, .ref msc, .ref mha])), (mse, .inl (g.2.1 0, 8, .inl fS))] ++ pl) sz) (fun (u : (Int32 × Nat × Nat × Nat × (Nat → Int32)) × va_W) => [(h0, .inr (8, [.int u.1.1, .int (nI (u.1.2.1)), .int (nI (u.1.2.2.1)), .int (nI (u.1.2.2.2.1)), .ref mt, .ref mr_, .ref mk, .ref mo, .ref mh, .ref mse, .ref mhs, .ref msp, .ref msc, .ref mha])), (mse, .inl (g.2.1 0, 8, .inl ((u.1.2.2.2.2))))] ++ u.2)) (va_A ([(h0, .inr (8, [.int x0, .int (nI tp), .int (nI rs), .int (nI ks), .ref mt, .ref mr_, .ref mk, .ref mo, .ref mh, .ref mse, .ref mhs, .ref msp, .ref msc, .ref mha])), (mse, .inl (g.2.1 0, 8, .inl fS))] ++ pl) sz)) 0 0 (va_A ([(h0, .inr (8, [.int x0, .int (nI tp), .int (nI rs), .int (nI ks), .ref mt, .ref mr_, .ref mk, .ref mo, .ref mh, .ref mse, .ref mhs, .ref msp, .ref msc, .ref mha])), (mse, .inl (g.2.1 0, 8, .inl fS))] ++ pl) sz) := by
  refine mc_entry (cc := c_M_open) (maxL := 2) (ret := (some .int)) (by decide) rfl (Nat.le_of_ble_eq_true rfl) ?_
  intro p e s m args below meth c ls F hr hlk hnm hsz hP hD hE hA hl
  obtain ⟨hx, hb, hml, hown, hts⟩ := id F
  have hK := hE.1
  generalize va_A ([(h0, .inr (8, [.int x0, .int (nI tp), .int (nI rs), .int (nI ks), .ref mt, .ref mr_, .ref mk, .ref mo, .ref mh, .ref mse, .ref mhs, .ref msp, .ref msc, .ref mha])), (mse, .inl (g.2.1 0, 8, .inl fS))] ++ pl) sz = A at hD hE hA ⊢
  have hS : va_S A s.heap s.heap [] := va_S.rf
  have hl : lv_has ls 2 [(0, .ref h0), (1, .int v)] := hl
  refine lv_aload_n hx hb dM_open_0 rfl (lv_at hl 0 rfl) ?_
  refine lv_iconst (v := nI 0) hx hb dM_open_1 (by decide) ?_
  refine va_put (D := g.1) (ci := 8) (v := .int (nI 0)) (ty := .int) (C := "LatticeKeysModel") (T := T_M) (N := 14) hx hb hts (wg_ft i_M) ty_M k_M n_M hown hK hP hD hS 0 rfl rfl 0 (by decide) (hts _ (wg_t kw_1526)) (fun _ h9 => h9) rfl (by decide +kernel) rfl rfl (Nat.le_of_ble_eq_true rfl) dM_open_2 (fun H locs hP hD hS => ?_)
  have hP : va_P g.1 vcl ([(h0, .inr (8, [.int (nI 0), .int (nI tp), .int (nI rs), .int (nI ks), .ref mt, .ref mr_, .ref mk, .ref mo, .ref mh, .ref mse, .ref mhs, .ref msp, .ref msc, .ref mha])), (mse, .inl (g.2.1 0, 8, .inl fS))] ++ pl) _ := hP
  have hD : va_D _ ([(h0, .inr (8, [.int (nI 0), .int (nI tp), .int (nI rs), .int (nI ks), .ref mt, .ref mr_, .ref mk, .ref mo, .ref mh, .ref mse, .ref mhs, .ref msp, .ref msc, .ref mha])), (mse, .inl (g.2.1 0, 8, .inl fS))] ++ pl) := hD
  refine lv_aload_n hx hb dM_open_5 rfl (lv_at hl 0 rfl) ?_
  refine lv_iload_n hx hb dM_open_6 rfl (lv_at hl 1 rfl) ?_
  refine mp_i (cx := [(h0, .inr (8, [.int (nI 0), .int (nI tp), .int (nI rs), .int (nI ks), .ref mt, .ref mr_, .ref mk, .ref mo, .ref mh, .ref mse, .ref mhs, .ref msp, .ref msc, .ref mha])), (mse, .inl (g.2.1 0, 8, .inl fS))]) (wr := []) hP hD hS hA [0, 1] [] rfl rfl rfl (by decide) (va_runV (As := [.int v]) (rest := []) F (t_M_none l g _ T  pl hO hU  v h0 mt mr_ mk mo mh mse mhs msp msc mha tp rs ks (nI 0) fS k_mt k_mr_ k_mk k_mo k_mh k_mhs k_msp k_msc k_mha (by omega) hS5) (cwV 1 hts (wg_app (wg_c kw_1781 (wg_c kw_1783 (wg_c ks_65 (wg_c kw_9 wg_n)))) kw_1784) rfl rfl rfl (by decide +kernel) ⟨by decide, by decide⟩) (pp_V (en_ok g) (q0 := 0) hK hP hD hS hA hE [0, 1] rfl rfl rfl rfl) rfl rfl hl.1 rfl (lv_room (Nat.le_of_ble_eq_true rfl)) dM_open_7 ⟨by omega, by omega⟩) (fun r21 pl H locs hu21 hP hD hS => ?_)
  obtain ⟨hq21, hO⟩ := hu21
  have hP : va_P g.1 vcl ([(h0, .inr (8, [.int (nI 0), .int (nI tp), .int (nI rs), .int (nI ks), .ref mt, .ref mr_, .ref mk, .ref mo, .ref mh, .ref mse, .ref mhs, .ref msp, .ref msc, .ref mha])), (mse, .inl (g.2.1 0, 8, .inl fS))] ++ pl) _ := hP
  have hD : va_D _ ([(h0, .inr (8, [.int (nI 0), .int (nI tp), .int (nI rs), .int (nI ks), .ref mt, .ref mr_, .ref mk, .ref mo, .ref mh, .ref mse, .ref mhs, .ref msp, .ref msc, .ref mha])), (mse, .inl (g.2.1 0, 8, .inl fS))] ++ pl) := hD
  refine W.widen (k := 0) (n := 0) (by omega) (by omega) ?_
  rcases hq21 with hq21 | hq21
  · obtain rfl := hq21
    refine lv_if_ne (tgt := 32) hx hb dM_open_10 (by decide) (fun h21 => ?_) (fun h21 => absurd h21 (by decide))
    refine lv_aload_n hx hb dM_open_32 rfl (lv_at hl 0 rfl) ?_
    refine lv_iconst (v := nI 1) hx hb dM_open_33 (by decide) ?_
    refine mp_i (cx := [(h0, .inr (8, [.int (nI 0), .int (nI tp), .int (nI rs), .int (nI ks), .ref mt, .ref mr_, .ref mk, .ref mo, .ref mh, .ref mse, .ref mhs, .ref msp, .ref msc, .ref mha])), (mse, .inl (g.2.1 0, 8, .inl fS))]) (wr := []) hP hD hS hA [0, 1] [] rfl rfl rfl (by decide) (va_runV (As := [.int (nI 1)]) (rest := []) F (t_M_fail l g _ T  pl hO hU  (nI 1) h0 mt mr_ mk mo mh mse mhs msp msc mha tp rs ks (nI 0) fS k_mt k_mr_ k_mk k_mo k_mh k_mhs k_msp k_msc k_mha (by omega) hS5) (cwV 1 hts (wg_app (wg_c kw_1577 (wg_c kw_1579 (wg_c ks_50 (wg_c kw_9 wg_n)))) kw_1580) rfl rfl rfl (by decide +kernel) ⟨by decide, by decide⟩) (pp_V (en_ok g) (q0 := 0) hK hP hD hS hA hE [0, 1] rfl rfl rfl rfl) rfl rfl hl.1 rfl (lv_room (Nat.le_of_ble_eq_true rfl)) dM_open_34 ⟨by omega, by omega⟩) (fun r22 u21 H locs hu22 hP hD hS => ?_)
    obtain ⟨u22, pl⟩ := u21
    obtain ⟨hq22, hO⟩ := hu22
    obtain ⟨th21, tp21, rs21, ks21, fS21⟩ := u22
    have hP : va_P g.1 vcl ([(h0, .inr (8, [.int th21, .int (nI tp21), .int (nI rs21), .int (nI ks21), .ref mt, .ref mr_, .ref mk, .ref mo, .ref mh, .ref mse, .ref mhs, .ref msp, .ref msc, .ref mha])), (mse, .inl (g.2.1 0, 8, .inl fS21))] ++ pl) _ := hP
    have hD : va_D _ ([(h0, .inr (8, [.int th21, .int (nI tp21), .int (nI rs21), .int (nI ks21), .ref mt, .ref mr_, .ref mk, .ref mo, .ref mh, .ref mse, .ref mhs, .ref msp, .ref msc, .ref mha])), (mse, .inl (g.2.1 0, 8, .inl fS21))] ++ pl) := hD
    obtain ⟨-, -, -, hm24, hm25⟩ := hq22
    obtain ⟨he21, he22, he23, he24, he25⟩ := hm25
    have he21 : th21 = nI 1 := he21
    have he22 : tp21 = tp := he22
    have he23 : rs21 = rs := he23
    have he24 : ks21 = ks := he24
    obtain rfl := he25
    refine W.widen (k := 0) (n := 0) (by omega) (by omega) ?_
    exact mp_iret hx hb hr hlk hP hD hS ((th21, tp21, rs21, ks21, fS21), pl) ⟨⟨(by show tp21 ≤ 16384; omega), (by show rs21 ≤ 8192; omega), (by show ks21 ≤ 8; omega), hm24⟩, hO⟩ [0, 1] rfl rfl rfl (by omega) (by omega) dM_open_37
  · obtain ⟨rfl, z21, hz21, rfl⟩ := hq21
    refine lv_if_ne (tgt := 32) hx hb dM_open_10 (by decide) (fun h22 => absurd h22 (by decide)) (fun h22 => ?_)
    refine lv_aload_n hx hb dM_open_13 rfl (lv_at hl 0 rfl) ?_
    refine va_get (D := g.1) (ci := 8) (C := "LatticeKeysModel") (T := T_M) (N := 14) hx hb hts (wg_ft i_M) hown hK hP 0 rfl rfl 9 (by decide) (hts _ (wg_t kw_1535)) (fun _ h9 => h9) rfl dM_open_14 ?_
    refine lv_iload_n hx hb dM_open_17 rfl (lv_at hl 1 rfl) ?_
    refine mp_iald hx hb hK hP 1 0 rfl rfl (by omega) (by decide) dM_open_18 ?_
    obtain ⟨y21, hy21, ey21⟩ := hS5 z21 (by omega)
    match y21, hy21, ey21 with
    | 0, _, ey21 =>
      refine mi_as ey21 ?_
      refine lv_iconst (v := nI 2) hx hb dM_open_19 (by decide) ?_
      refine mi_gt (tgt := 32) hx hb dM_open_20 (by decide) (by omega) (by omega) (fun h23 => absurd h23 (by omega)) (fun h23 => ?_)
      refine lv_aload_n hx hb dM_open_23 rfl (lv_at hl 0 rfl) ?_
      refine va_get (D := g.1) (ci := 8) (C := "LatticeKeysModel") (T := T_M) (N := 14) hx hb hts (wg_ft i_M) hown hK hP 0 rfl rfl 10 (by decide) (hts _ (wg_t kw_1536)) (fun _ h9 => h9) rfl dM_open_24 ?_
      refine lv_iload_n hx hb dM_open_27 rfl (lv_at hl 1 rfl) ?_
      refine ty_iald5 hx hb hK hO k_mhs (nxg clo_nil k_mhs rfl) hP (by omega) dM_open_28 (fun z22 hz22 => ?_)
      refine lv_if_ne (tgt := 38) hx hb dM_open_29 (by decide) (fun h24 => ?_) (fun h24 => ?_)
      · refine lv_aload_n hx hb dM_open_38 rfl (lv_at hl 0 rfl) ?_
        refine va_get (D := g.1) (ci := 8) (C := "LatticeKeysModel") (T := T_M) (N := 14) hx hb hts (wg_ft i_M) hown hK hP 0 rfl rfl 1 (by decide) (hts _ (wg_t kw_1527)) (fun _ h9 => h9) rfl dM_open_39 ?_
        refine lv_aload_n hx hb dM_open_42 rfl (lv_at hl 0 rfl) ?_
        refine va_get (D := g.1) (ci := 8) (C := "LatticeKeysModel") (T := T_M) (N := 14) hx hb hts (wg_ft i_M) hown hK hP 0 rfl rfl 9 (by decide) (hts _ (wg_t kw_1535)) (fun _ h9 => h9) rfl dM_open_43 ?_
        refine lv_iload_n hx hb dM_open_46 rfl (lv_at hl 1 rfl) ?_
        refine mp_iald hx hb hK hP 1 0 rfl rfl (by omega) (by decide) dM_open_47 ?_
        refine mi_as ey21 ?_
        refine mp_i (cx := []) (wr := [(h0, .inr (8, [.int (nI 0), .int (nI tp), .int (nI rs), .int (nI ks), .ref mt, .ref mr_, .ref mk, .ref mo, .ref mh, .ref mse, .ref mhs, .ref msp, .ref msc, .ref mha])), (mse, .inl (g.2.1 0, 8, .inl fS))]) hP hD hS hA [] [0, 1] rfl rfl rfl (by decide) (va_runS (As := [.int (nI 0)]) (rest := [.int (nI tp)]) F (t_ME_sealedSize_0 l g _ T [] pl hO hU  ) (va_cwS 1 hts (wg_app (wg_c kw_1847 (wg_c kw_1841 (wg_c kw_11 wg_n))) kw_1842) rfl rfl rfl (by decide +kernel) ⟨by decide, by decide⟩) (pp_S (en_ok g) hP hD hS hA hE [] rfl rfl) rfl rfl hl.1 rfl (lv_room (Nat.le_of_ble_eq_true rfl)) dM_open_48 ⟨by omega, by omega⟩) (fun r23 pl H locs hu23 hP hD hS => ?_)
        obtain ⟨hq23, hO⟩ := hu23
        have hP : va_P g.1 vcl ([(h0, .inr (8, [.int (nI 0), .int (nI tp), .int (nI rs), .int (nI ks), .ref mt, .ref mr_, .ref mk, .ref mo, .ref mh, .ref mse, .ref mhs, .ref msp, .ref msc, .ref mha])), (mse, .inl (g.2.1 0, 8, .inl fS))] ++ pl) _ := hP
        have hD : va_D _ ([(h0, .inr (8, [.int (nI 0), .int (nI tp), .int (nI rs), .int (nI ks), .ref mt, .ref mr_, .ref mk, .ref mo, .ref mh, .ref mse, .ref mhs, .ref msp, .ref msc, .ref mha])), (mse, .inl (g.2.1 0, 8, .inl fS))] ++ pl) := hD
        obtain rfl := hq23
        refine W.widen (k := 0) (n := 0) (by omega) (by omega) ?_
        refine mi_eq (tgt := 60) hx hb dM_open_51 (by decide) (by omega) (by omega) (fun h25 => ?_) (fun h25 => ?_)
        · refine lv_aload_n hx hb dM_open_60 rfl (lv_at hl 0 rfl) ?_
          refine lv_iconst (v := nI 0) hx hb dM_open_61 (by decide) ?_
          refine va_put (D := g.1) (ci := 8) (v := .int (nI 0)) (ty := .int) (C := "LatticeKeysModel") (T := T_M) (N := 14) hx hb hts (wg_ft i_M) ty_M k_M n_M hown hK hP hD hS 0 rfl rfl 1 (by decide) (hts _ (wg_t kw_1527)) (fun _ h9 => h9) rfl (by decide +kernel) rfl rfl (Nat.le_of_ble_eq_true rfl) dM_open_62 (fun H locs hP hD hS => ?_)
          have hP : va_P g.1 vcl ([(h0, .inr (8, [.int (nI 0), .int (nI 0), .int (nI rs), .int (nI ks), .ref mt, .ref mr_, .ref mk, .ref mo, .ref mh, .ref mse, .ref mhs, .ref msp, .ref msc, .ref mha])), (mse, .inl (g.2.1 0, 8, .inl fS))] ++ pl) _ := hP
          have hD : va_D _ ([(h0, .inr (8, [.int (nI 0), .int (nI 0), .int (nI rs), .int (nI ks), .ref mt, .ref mr_, .ref mk, .ref mo, .ref mh, .ref mse, .ref mhs, .ref msp, .ref msc, .ref mha])), (mse, .inl (g.2.1 0, 8, .inl fS))] ++ pl) := hD
          refine lv_aload_n hx hb dM_open_65 rfl (lv_at hl 0 rfl) ?_
          refine lv_bipush (v := nI 32) hx hb dM_open_66 (by decide) ?_
          refine va_put (D := g.1) (ci := 8) (v := .int (nI 32)) (ty := .int) (C := "LatticeKeysModel") (T := T_M) (N := 14) hx hb hts (wg_ft i_M) ty_M k_M n_M hown hK hP hD hS 0 rfl rfl 2 (by decide) (hts _ (wg_t kw_1528)) (fun _ h9 => h9) rfl (by decide +kernel) rfl rfl (Nat.le_of_ble_eq_true rfl) dM_open_68 (fun H locs hP hD hS => ?_)
          have hP : va_P g.1 vcl ([(h0, .inr (8, [.int (nI 0), .int (nI 0), .int (nI 32), .int (nI ks), .ref mt, .ref mr_, .ref mk, .ref mo, .ref mh, .ref mse, .ref mhs, .ref msp, .ref msc, .ref mha])), (mse, .inl (g.2.1 0, 8, .inl fS))] ++ pl) _ := hP
          have hD : va_D _ ([(h0, .inr (8, [.int (nI 0), .int (nI 0), .int (nI 32), .int (nI ks), .ref mt, .ref mr_, .ref mk, .ref mo, .ref mh, .ref mse, .ref mhs, .ref msp, .ref msc, .ref mha])), (mse, .inl (g.2.1 0, 8, .inl fS))] ++ pl) := hD
          refine lv_aload_n hx hb dM_open_71 rfl (lv_at hl 0 rfl) ?_
          refine va_get (D := g.1) (ci := 8) (C := "LatticeKeysModel") (T := T_M) (N := 14) hx hb hts (wg_ft i_M) hown hK hP 0 rfl rfl 12 (by decide) (hts _ (wg_t kw_1538)) (fun _ h9 => h9) rfl dM_open_72 ?_
          refine lv_aload_n hx hb dM_open_75 rfl (lv_at hl 0 rfl) ?_
          refine va_get (D := g.1) (ci := 8) (C := "LatticeKeysModel") (T := T_M) (N := 14) hx hb hts (wg_ft i_M) hown hK hP 0 rfl rfl 9 (by decide) (hts _ (wg_t kw_1535)) (fun _ h9 => h9) rfl dM_open_76 ?_
          refine lv_iload_n hx hb dM_open_79 rfl (lv_at hl 1 rfl) ?_
          refine mp_iald hx hb hK hP 1 0 rfl rfl (by omega) (by decide) dM_open_80 ?_
          refine mi_as ey21 ?_
          refine lv_aload_n hx hb dM_open_81 rfl (lv_at hl 0 rfl) ?_
          refine va_get (D := g.1) (ci := 8) (C := "LatticeKeysModel") (T := T_M) (N := 14) hx hb hts (wg_ft i_M) hown hK hP 0 rfl rfl 8 (by decide) (hts _ (wg_t kw_1534)) (fun _ h9 => h9) rfl dM_open_82 ?_
          refine lv_iload_n hx hb dM_open_85 rfl (lv_at hl 1 rfl) ?_
          refine ty_aald4 hx hb hK hO k_mh (nxg clo_nil k_mh rfl) hP (by omega) dM_open_86 (fun r24 kr21 => ?_)
          refine lv_aload_n hx hb dM_open_87 rfl (lv_at hl 0 rfl) ?_
          refine va_get (D := g.1) (ci := 8) (C := "LatticeKeysModel") (T := T_M) (N := 14) hx hb hts (wg_ft i_M) hown hK hP 0 rfl rfl 4 (by decide) (hts _ (wg_t kw_1530)) (fun _ h9 => h9) rfl dM_open_88 ?_
          refine lv_aload_n hx hb dM_open_91 rfl (lv_at hl 0 rfl) ?_
          refine va_get (D := g.1) (ci := 8) (C := "LatticeKeysModel") (T := T_M) (N := 14) hx hb hts (wg_ft i_M) hown hK hP 0 rfl rfl 5 (by decide) (hts _ (wg_t kw_1531)) (fun _ h9 => h9) rfl dM_open_92 ?_
          refine mp_v (cx := []) (wr := [(h0, .inr (8, [.int (nI 0), .int (nI 0), .int (nI 32), .int (nI ks), .ref mt, .ref mr_, .ref mk, .ref mo, .ref mh, .ref mse, .ref mhs, .ref msp, .ref msc, .ref mha])), (mse, .inl (g.2.1 0, 8, .inl fS))]) hP hD hS hA [] [0, 1] rfl rfl rfl (by decide) (va_runV (As := [.int (nI 0), .ref r24, .ref mt, .ref mr_]) (rest := []) F (t_ME_open_0 l g _ T [] pl hO hU clo_nil clo_nil msc r24 mt mr_ k_msc kr21 k_mt k_mr_) (cwV 4 hts (wg_app (wg_c kw_1848 (wg_c kw_1849 (wg_c kw_1850 (wg_c kw_11 wg_n)))) kw_1851) rfl rfl rfl (by decide +kernel) ⟨by decide, by decide⟩) (pp_VT (en_ok g) (ci := 11) (kd := (23, 0)) hK hO k_msc (nxg clo_nil k_msc rfl) (fun _ h9 => ko1 h9) hP hD hS hA hE [] rfl rfl rfl) rfl rfl hl.1 rfl (lv_room (Nat.le_of_ble_eq_true rfl)) dM_open_95 ⟨by omega, by omega⟩) (fun  pl H locs hu24 hP hD hS => ?_)
          obtain ⟨hq24, hO⟩ := hu24
          have hP : va_P g.1 vcl ([(h0, .inr (8, [.int (nI 0), .int (nI 0), .int (nI 32), .int (nI ks), .ref mt, .ref mr_, .ref mk, .ref mo, .ref mh, .ref mse, .ref mhs, .ref msp, .ref msc, .ref mha])), (mse, .inl (g.2.1 0, 8, .inl fS))] ++ pl) _ := hP
          have hD : va_D _ ([(h0, .inr (8, [.int (nI 0), .int (nI 0), .int (nI 32), .int (nI ks), .ref mt, .ref mr_, .ref mk, .ref mo, .ref mh, .ref mse, .ref mhs, .ref msp, .ref msc, .ref mha])), (mse, .inl (g.2.1 0, 8, .inl fS))] ++ pl) := hD
          refine W.widen (k := 0) (n := 0) (by omega) (by omega) ?_
          refine lv_aload_n hx hb dM_open_98 rfl (lv_at hl 0 rfl) ?_
          refine va_get (D := g.1) (ci := 8) (C := "LatticeKeysModel") (T := T_M) (N := 14) hx hb hts (wg_ft i_M) hown hK hP 0 rfl rfl 2 (by decide) (hts _ (wg_t kw_1528)) (fun _ h9 => h9) rfl dM_open_99 ?_
          exact mp_iret hx hb hr hlk hP hD hS ((nI 0, 0, 32, ks, fS), pl) ⟨⟨(by show 0 ≤ 16384; omega), (by show 32 ≤ 8192; omega), (by show ks ≤ 8; omega), hS5⟩, hO⟩ [0, 1] rfl rfl rfl (by omega) (by omega) dM_open_102
        · refine lv_aload_n hx hb dM_open_54 rfl (lv_at hl 0 rfl) ?_
          refine lv_iconst (v := nI 2) hx hb dM_open_55 (by decide) ?_
          refine mp_i (cx := [(h0, .inr (8, [.int (nI 0), .int (nI tp), .int (nI rs), .int (nI ks), .ref mt, .ref mr_, .ref mk, .ref mo, .ref mh, .ref mse, .ref mhs, .ref msp, .ref msc, .ref mha])), (mse, .inl (g.2.1 0, 8, .inl fS))]) (wr := []) hP hD hS hA [0, 1] [] rfl rfl rfl (by decide) (va_runV (As := [.int (nI 2)]) (rest := []) F (t_M_fail l g _ T  pl hO hU  (nI 2) h0 mt mr_ mk mo mh mse mhs msp msc mha tp rs ks (nI 0) fS k_mt k_mr_ k_mk k_mo k_mh k_mhs k_msp k_msc k_mha (by omega) hS5) (cwV 1 hts (wg_app (wg_c kw_1577 (wg_c kw_1579 (wg_c ks_50 (wg_c kw_9 wg_n)))) kw_1580) rfl rfl rfl (by decide +kernel) ⟨by decide, by decide⟩) (pp_V (en_ok g) (q0 := 0) hK hP hD hS hA hE [0, 1] rfl rfl rfl rfl) rfl rfl hl.1 rfl (lv_room (Nat.le_of_ble_eq_true rfl)) dM_open_56 ⟨by omega, by omega⟩) (fun r25 u23 H locs hu25 hP hD hS => ?_)
          obtain ⟨u24, pl⟩ := u23
          obtain ⟨hq25, hO⟩ := hu25
          obtain ⟨th22, tp22, rs22, ks22, fS22⟩ := u24
          have hP : va_P g.1 vcl ([(h0, .inr (8, [.int th22, .int (nI tp22), .int (nI rs22), .int (nI ks22), .ref mt, .ref mr_, .ref mk, .ref mo, .ref mh, .ref mse, .ref mhs, .ref msp, .ref msc, .ref mha])), (mse, .inl (g.2.1 0, 8, .inl fS22))] ++ pl) _ := hP
          have hD : va_D _ ([(h0, .inr (8, [.int th22, .int (nI tp22), .int (nI rs22), .int (nI ks22), .ref mt, .ref mr_, .ref mk, .ref mo, .ref mh, .ref mse, .ref mhs, .ref msp, .ref msc, .ref mha])), (mse, .inl (g.2.1 0, 8, .inl fS22))] ++ pl) := hD
          obtain ⟨-, -, -, hm29, hm30⟩ := hq25
          obtain ⟨he26, he27, he28, he29, he30⟩ := hm30
          have he26 : th22 = nI 2 := he26
          have he27 : tp22 = tp := he27
          have he28 : rs22 = rs := he28
          have he29 : ks22 = ks := he29
          obtain rfl := he30
          refine W.widen (k := 0) (n := 0) (by omega) (by omega) ?_
          exact mp_iret hx hb hr hlk hP hD hS ((th22, tp22, rs22, ks22, fS22), pl) ⟨⟨(by show tp22 ≤ 16384; omega), (by show rs22 ≤ 8192; omega), (by show ks22 ≤ 8; omega), hm29⟩, hO⟩ [0, 1] rfl rfl rfl (by omega) (by omega) dM_open_59
      · refine lv_aload_n hx hb dM_open_32 rfl (lv_at hl 0 rfl) ?_
        refine lv_iconst (v := nI 1) hx hb dM_open_33 (by decide) ?_
        refine mp_i (cx := [(h0, .inr (8, [.int (nI 0), .int (nI tp), .int (nI rs), .int (nI ks), .ref mt, .ref mr_, .ref mk, .ref mo, .ref mh, .ref mse, .ref mhs, .ref msp, .ref msc, .ref mha])), (mse, .inl (g.2.1 0, 8, .inl fS))]) (wr := []) hP hD hS hA [0, 1] [] rfl rfl rfl (by decide) (va_runV (As := [.int (nI 1)]) (rest := []) F (t_M_fail l g _ T  pl hO hU  (nI 1) h0 mt mr_ mk mo mh mse mhs msp msc mha tp rs ks (nI 0) fS k_mt k_mr_ k_mk k_mo k_mh k_mhs k_msp k_msc k_mha (by omega) hS5) (cwV 1 hts (wg_app (wg_c kw_1577 (wg_c kw_1579 (wg_c ks_50 (wg_c kw_9 wg_n)))) kw_1580) rfl rfl rfl (by decide +kernel) ⟨by decide, by decide⟩) (pp_V (en_ok g) (q0 := 0) hK hP hD hS hA hE [0, 1] rfl rfl rfl rfl) rfl rfl hl.1 rfl (lv_room (Nat.le_of_ble_eq_true rfl)) dM_open_34 ⟨by omega, by omega⟩) (fun r26 u25 H locs hu26 hP hD hS => ?_)
        obtain ⟨u26, pl⟩ := u25
        obtain ⟨hq26, hO⟩ := hu26
        obtain ⟨th23, tp23, rs23, ks23, fS23⟩ := u26
        have hP : va_P g.1 vcl ([(h0, .inr (8, [.int th23, .int (nI tp23), .int (nI rs23), .int (nI ks23), .ref mt, .ref mr_, .ref mk, .ref mo, .ref mh, .ref mse, .ref mhs, .ref msp, .ref msc, .ref mha])), (mse, .inl (g.2.1 0, 8, .inl fS23))] ++ pl) _ := hP
        have hD : va_D _ ([(h0, .inr (8, [.int th23, .int (nI tp23), .int (nI rs23), .int (nI ks23), .ref mt, .ref mr_, .ref mk, .ref mo, .ref mh, .ref mse, .ref mhs, .ref msp, .ref msc, .ref mha])), (mse, .inl (g.2.1 0, 8, .inl fS23))] ++ pl) := hD
        obtain ⟨-, -, -, hm34, hm35⟩ := hq26
        obtain ⟨he31, he32, he33, he34, he35⟩ := hm35
        have he31 : th23 = nI 1 := he31
        have he32 : tp23 = tp := he32
        have he33 : rs23 = rs := he33
        have he34 : ks23 = ks := he34
        obtain rfl := he35
        refine W.widen (k := 0) (n := 0) (by omega) (by omega) ?_
        exact mp_iret hx hb hr hlk hP hD hS ((th23, tp23, rs23, ks23, fS23), pl) ⟨⟨(by show tp23 ≤ 16384; omega), (by show rs23 ≤ 8192; omega), (by show ks23 ≤ 8; omega), hm34⟩, hO⟩ [0, 1] rfl rfl rfl (by omega) (by omega) dM_open_37
    | 1, _, ey21 =>
      refine mi_as ey21 ?_
      refine lv_iconst (v := nI 2) hx hb dM_open_19 (by decide) ?_
      refine mi_gt (tgt := 32) hx hb dM_open_20 (by decide) (by omega) (by omega) (fun h26 => absurd h26 (by omega)) (fun h26 => ?_)
      refine lv_aload_n hx hb dM_open_23 rfl (lv_at hl 0 rfl) ?_
      refine va_get (D := g.1) (ci := 8) (C := "LatticeKeysModel") (T := T_M) (N := 14) hx hb hts (wg_ft i_M) hown hK hP 0 rfl rfl 10 (by decide) (hts _ (wg_t kw_1536)) (fun _ h9 => h9) rfl dM_open_24 ?_
      refine lv_iload_n hx hb dM_open_27 rfl (lv_at hl 1 rfl) ?_
      refine ty_iald5 hx hb hK hO k_mhs (nxg clo_nil k_mhs rfl) hP (by omega) dM_open_28 (fun z23 hz23 => ?_)
      refine lv_if_ne (tgt := 38) hx hb dM_open_29 (by decide) (fun h27 => ?_) (fun h27 => ?_)
      · refine lv_aload_n hx hb dM_open_38 rfl (lv_at hl 0 rfl) ?_
        refine va_get (D := g.1) (ci := 8) (C := "LatticeKeysModel") (T := T_M) (N := 14) hx hb hts (wg_ft i_M) hown hK hP 0 rfl rfl 1 (by decide) (hts _ (wg_t kw_1527)) (fun _ h9 => h9) rfl dM_open_39 ?_
        refine lv_aload_n hx hb dM_open_42 rfl (lv_at hl 0 rfl) ?_
        refine va_get (D := g.1) (ci := 8) (C := "LatticeKeysModel") (T := T_M) (N := 14) hx hb hts (wg_ft i_M) hown hK hP 0 rfl rfl 9 (by decide) (hts _ (wg_t kw_1535)) (fun _ h9 => h9) rfl dM_open_43 ?_
        refine lv_iload_n hx hb dM_open_46 rfl (lv_at hl 1 rfl) ?_
        refine mp_iald hx hb hK hP 1 0 rfl rfl (by omega) (by decide) dM_open_47 ?_
        refine mi_as ey21 ?_
        refine mp_i (cx := []) (wr := [(h0, .inr (8, [.int (nI 0), .int (nI tp), .int (nI rs), .int (nI ks), .ref mt, .ref mr_, .ref mk, .ref mo, .ref mh, .ref mse, .ref mhs, .ref msp, .ref msc, .ref mha])), (mse, .inl (g.2.1 0, 8, .inl fS))]) hP hD hS hA [] [0, 1] rfl rfl rfl (by decide) (va_runS (As := [.int (nI 1)]) (rest := [.int (nI tp)]) F (t_ME_sealedSize_1 l g _ T [] pl hO hU  ) (va_cwS 1 hts (wg_app (wg_c kw_1847 (wg_c kw_1841 (wg_c kw_11 wg_n))) kw_1842) rfl rfl rfl (by decide +kernel) ⟨by decide, by decide⟩) (pp_S (en_ok g) hP hD hS hA hE [] rfl rfl) rfl rfl hl.1 rfl (lv_room (Nat.le_of_ble_eq_true rfl)) dM_open_48 ⟨by omega, by omega⟩) (fun r27 pl H locs hu27 hP hD hS => ?_)
        obtain ⟨hq27, hO⟩ := hu27
        have hP : va_P g.1 vcl ([(h0, .inr (8, [.int (nI 0), .int (nI tp), .int (nI rs), .int (nI ks), .ref mt, .ref mr_, .ref mk, .ref mo, .ref mh, .ref mse, .ref mhs, .ref msp, .ref msc, .ref mha])), (mse, .inl (g.2.1 0, 8, .inl fS))] ++ pl) _ := hP
        have hD : va_D _ ([(h0, .inr (8, [.int (nI 0), .int (nI tp), .int (nI rs), .int (nI ks), .ref mt, .ref mr_, .ref mk, .ref mo, .ref mh, .ref mse, .ref mhs, .ref msp, .ref msc, .ref mha])), (mse, .inl (g.2.1 0, 8, .inl fS))] ++ pl) := hD
        obtain rfl := hq27
        refine W.widen (k := 0) (n := 0) (by omega) (by omega) ?_
        refine mi_eq (tgt := 60) hx hb dM_open_51 (by decide) (by omega) (by omega) (fun h28 => ?_) (fun h28 => ?_)
        · refine lv_aload_n hx hb dM_open_60 rfl (lv_at hl 0 rfl) ?_
          refine lv_iconst (v := nI 0) hx hb dM_open_61 (by decide) ?_
          refine va_put (D := g.1) (ci := 8) (v := .int (nI 0)) (ty := .int) (C := "LatticeKeysModel") (T := T_M) (N := 14) hx hb hts (wg_ft i_M) ty_M k_M n_M hown hK hP hD hS 0 rfl rfl 1 (by decide) (hts _ (wg_t kw_1527)) (fun _ h9 => h9) rfl (by decide +kernel) rfl rfl (Nat.le_of_ble_eq_true rfl) dM_open_62 (fun H locs hP hD hS => ?_)
          have hP : va_P g.1 vcl ([(h0, .inr (8, [.int (nI 0), .int (nI 0), .int (nI rs), .int (nI ks), .ref mt, .ref mr_, .ref mk, .ref mo, .ref mh, .ref mse, .ref mhs, .ref msp, .ref msc, .ref mha])), (mse, .inl (g.2.1 0, 8, .inl fS))] ++ pl) _ := hP
          have hD : va_D _ ([(h0, .inr (8, [.int (nI 0), .int (nI 0), .int (nI rs), .int (nI ks), .ref mt, .ref mr_, .ref mk, .ref mo, .ref mh, .ref mse, .ref mhs, .ref msp, .ref msc, .ref mha])), (mse, .inl (g.2.1 0, 8, .inl fS))] ++ pl) := hD
          refine lv_aload_n hx hb dM_open_65 rfl (lv_at hl 0 rfl) ?_
          refine lv_bipush (v := nI 32) hx hb dM_open_66 (by decide) ?_
          refine va_put (D := g.1) (ci := 8) (v := .int (nI 32)) (ty := .int) (C := "LatticeKeysModel") (T := T_M) (N := 14) hx hb hts (wg_ft i_M) ty_M k_M n_M hown hK hP hD hS 0 rfl rfl 2 (by decide) (hts _ (wg_t kw_1528)) (fun _ h9 => h9) rfl (by decide +kernel) rfl rfl (Nat.le_of_ble_eq_true rfl) dM_open_68 (fun H locs hP hD hS => ?_)
          have hP : va_P g.1 vcl ([(h0, .inr (8, [.int (nI 0), .int (nI 0), .int (nI 32), .int (nI ks), .ref mt, .ref mr_, .ref mk, .ref mo, .ref mh, .ref mse, .ref mhs, .ref msp, .ref msc, .ref mha])), (mse, .inl (g.2.1 0, 8, .inl fS))] ++ pl) _ := hP
          have hD : va_D _ ([(h0, .inr (8, [.int (nI 0), .int (nI 0), .int (nI 32), .int (nI ks), .ref mt, .ref mr_, .ref mk, .ref mo, .ref mh, .ref mse, .ref mhs, .ref msp, .ref msc, .ref mha])), (mse, .inl (g.2.1 0, 8, .inl fS))] ++ pl) := hD
          refine lv_aload_n hx hb dM_open_71 rfl (lv_at hl 0 rfl) ?_
          refine va_get (D := g.1) (ci := 8) (C := "LatticeKeysModel") (T := T_M) (N := 14) hx hb hts (wg_ft i_M) hown hK hP 0 rfl rfl 12 (by decide) (hts _ (wg_t kw_1538)) (fun _ h9 => h9) rfl dM_open_72 ?_
          refine lv_aload_n hx hb dM_open_75 rfl (lv_at hl 0 rfl) ?_
          refine va_get (D := g.1) (ci := 8) (C := "LatticeKeysModel") (T := T_M) (N := 14) hx hb hts (wg_ft i_M) hown hK hP 0 rfl rfl 9 (by decide) (hts _ (wg_t kw_1535)) (fun _ h9 => h9) rfl dM_open_76 ?_
          refine lv_iload_n hx hb dM_open_79 rfl (lv_at hl 1 rfl) ?_
          refine mp_iald hx hb hK hP 1 0 rfl rfl (by omega) (by decide) dM_open_80 ?_
          refine mi_as ey21 ?_
          refine lv_aload_n hx hb dM_open_81 rfl (lv_at hl 0 rfl) ?_
          refine va_get (D := g.1) (ci := 8) (C := "LatticeKeysModel") (T := T_M) (N := 14) hx hb hts (wg_ft i_M) hown hK hP 0 rfl rfl 8 (by decide) (hts _ (wg_t kw_1534)) (fun _ h9 => h9) rfl dM_open_82 ?_
          refine lv_iload_n hx hb dM_open_85 rfl (lv_at hl 1 rfl) ?_
          refine ty_aald4 hx hb hK hO k_mh (nxg clo_nil k_mh rfl) hP (by omega) dM_open_86 (fun r28 kr22 => ?_)
          refine lv_aload_n hx hb dM_open_87 rfl (lv_at hl 0 rfl) ?_
          refine va_get (D := g.1) (ci := 8) (C := "LatticeKeysModel") (T := T_M) (N := 14) hx hb hts (wg_ft i_M) hown hK hP 0 rfl rfl 4 (by decide) (hts _ (wg_t kw_1530)) (fun _ h9 => h9) rfl dM_open_88 ?_
          refine lv_aload_n hx hb dM_open_91 rfl (lv_at hl 0 rfl) ?_
          refine va_get (D := g.1) (ci := 8) (C := "LatticeKeysModel") (T := T_M) (N := 14) hx hb hts (wg_ft i_M) hown hK hP 0 rfl rfl 5 (by decide) (hts _ (wg_t kw_1531)) (fun _ h9 => h9) rfl dM_open_92 ?_
          refine mp_v (cx := []) (wr := [(h0, .inr (8, [.int (nI 0), .int (nI 0), .int (nI 32), .int (nI ks), .ref mt, .ref mr_, .ref mk, .ref mo, .ref mh, .ref mse, .ref mhs, .ref msp, .ref msc, .ref mha])), (mse, .inl (g.2.1 0, 8, .inl fS))]) hP hD hS hA [] [0, 1] rfl rfl rfl (by decide) (va_runV (As := [.int (nI 1), .ref r28, .ref mt, .ref mr_]) (rest := []) F (t_ME_open_1 l g _ T [] pl hO hU clo_nil clo_nil msc r28 mt mr_ k_msc kr22 k_mt k_mr_) (cwV 4 hts (wg_app (wg_c kw_1848 (wg_c kw_1849 (wg_c kw_1850 (wg_c kw_11 wg_n)))) kw_1851) rfl rfl rfl (by decide +kernel) ⟨by decide, by decide⟩) (pp_VT (en_ok g) (ci := 11) (kd := (23, 0)) hK hO k_msc (nxg clo_nil k_msc rfl) (fun _ h9 => ko1 h9) hP hD hS hA hE [] rfl rfl rfl) rfl rfl hl.1 rfl (lv_room (Nat.le_of_ble_eq_true rfl)) dM_open_95 ⟨by omega, by omega⟩) (fun  pl H locs hu28 hP hD hS => ?_)
          obtain ⟨hq28, hO⟩ := hu28
          have hP : va_P g.1 vcl ([(h0, .inr (8, [.int (nI 0), .int (nI 0), .int (nI 32), .int (nI ks), .ref mt, .ref mr_, .ref mk, .ref mo, .ref mh, .ref mse, .ref mhs, .ref msp, .ref msc, .ref mha])), (mse, .inl (g.2.1 0, 8, .inl fS))] ++ pl) _ := hP
          have hD : va_D _ ([(h0, .inr (8, [.int (nI 0), .int (nI 0), .int (nI 32), .int (nI ks), .ref mt, .ref mr_, .ref mk, .ref mo, .ref mh, .ref mse, .ref mhs, .ref msp, .ref msc, .ref mha])), (mse, .inl (g.2.1 0, 8, .inl fS))] ++ pl) := hD
          refine W.widen (k := 0) (n := 0) (by omega) (by omega) ?_
          refine lv_aload_n hx hb dM_open_98 rfl (lv_at hl 0 rfl) ?_
          refine va_get (D := g.1) (ci := 8) (C := "LatticeKeysModel") (T := T_M) (N := 14) hx hb hts (wg_ft i_M) hown hK hP 0 rfl rfl 2 (by decide) (hts _ (wg_t kw_1528)) (fun _ h9 => h9) rfl dM_open_99 ?_
          exact mp_iret hx hb hr hlk hP hD hS ((nI 0, 0, 32, ks, fS), pl) ⟨⟨(by show 0 ≤ 16384; omega), (by show 32 ≤ 8192; omega), (by show ks ≤ 8; omega), hS5⟩, hO⟩ [0, 1] rfl rfl rfl (by omega) (by omega) dM_open_102
        · refine lv_aload_n hx hb dM_open_54 rfl (lv_at hl 0 rfl) ?_
          refine lv_iconst (v := nI 2) hx hb dM_open_55 (by decide) ?_
          refine mp_i (cx := [(h0, .inr (8, [.int (nI 0), .int (nI tp), .int (nI rs), .int (nI ks), .ref mt, .ref mr_, .ref mk, .ref mo, .ref mh, .ref mse, .ref mhs, .ref msp, .ref msc, .ref mha])), (mse, .inl (g.2.1 0, 8, .inl fS))]) (wr := []) hP hD hS hA [0, 1] [] rfl rfl rfl (by decide) (va_runV (As := [.int (nI 2)]) (rest := []) F (t_M_fail l g _ T  pl hO hU  (nI 2) h0 mt mr_ mk mo mh mse mhs msp msc mha tp rs ks (nI 0) fS k_mt k_mr_ k_mk k_mo k_mh k_mhs k_msp k_msc k_mha (by omega) hS5) (cwV 1 hts (wg_app (wg_c kw_1577 (wg_c kw_1579 (wg_c ks_50 (wg_c kw_9 wg_n)))) kw_1580) rfl rfl rfl (by decide +kernel) ⟨by decide, by decide⟩) (pp_V (en_ok g) (q0 := 0) hK hP hD hS hA hE [0, 1] rfl rfl rfl rfl) rfl rfl hl.1 rfl (lv_room (Nat.le_of_ble_eq_true rfl)) dM_open_56 ⟨by omega, by omega⟩) (fun r29 u27 H locs hu29 hP hD hS => ?_)
          obtain ⟨u28, pl⟩ := u27
          obtain ⟨hq29, hO⟩ := hu29
          obtain ⟨th24, tp24, rs24, ks24, fS24⟩ := u28
          have hP : va_P g.1 vcl ([(h0, .inr (8, [.int th24, .int (nI tp24), .int (nI rs24), .int (nI ks24), .ref mt, .ref mr_, .ref mk, .ref mo, .ref mh, .ref mse, .ref mhs, .ref msp, .ref msc, .ref mha])), (mse, .inl (g.2.1 0, 8, .inl fS24))] ++ pl) _ := hP
          have hD : va_D _ ([(h0, .inr (8, [.int th24, .int (nI tp24), .int (nI rs24), .int (nI ks24), .ref mt, .ref mr_, .ref mk, .ref mo, .ref mh, .ref mse, .ref mhs, .ref msp, .ref msc, .ref mha])), (mse, .inl (g.2.1 0, 8, .inl fS24))] ++ pl) := hD
          obtain ⟨-, -, -, hm39, hm40⟩ := hq29
          obtain ⟨he36, he37, he38, he39, he40⟩ := hm40
          have he36 : th24 = nI 2 := he36
          have he37 : tp24 = tp := he37
          have he38 : rs24 = rs := he38
          have he39 : ks24 = ks := he39
          obtain rfl := he40
          refine W.widen (k := 0) (n := 0) (by omega) (by omega) ?_
          exact mp_iret hx hb hr hlk hP hD hS ((th24, tp24, rs24, ks24, fS24), pl) ⟨⟨(by show tp24 ≤ 16384; omega), (by show rs24 ≤ 8192; omega), (by show ks24 ≤ 8; omega), hm39⟩, hO⟩ [0, 1] rfl rfl rfl (by omega) (by omega) dM_open_59
      · refine lv_aload_n hx hb dM_open_32 rfl (lv_at hl 0 rfl) ?_
        refine lv_iconst (v := nI 1) hx hb dM_open_33 (by decide) ?_
        refine mp_i (cx := [(h0, .inr (8, [.int (nI 0), .int (nI tp), .int (nI rs), .int (nI ks), .ref mt, .ref mr_, .ref mk, .ref mo, .ref mh, .ref mse, .ref mhs, .ref msp, .ref msc, .ref mha])), (mse, .inl (g.2.1 0, 8, .inl fS))]) (wr := []) hP hD hS hA [0, 1] [] rfl rfl rfl (by decide) (va_runV (As := [.int (nI 1)]) (rest := []) F (t_M_fail l g _ T  pl hO hU  (nI 1) h0 mt mr_ mk mo mh mse mhs msp msc mha tp rs ks (nI 0) fS k_mt k_mr_ k_mk k_mo k_mh k_mhs k_msp k_msc k_mha (by omega) hS5) (cwV 1 hts (wg_app (wg_c kw_1577 (wg_c kw_1579 (wg_c ks_50 (wg_c kw_9 wg_n)))) kw_1580) rfl rfl rfl (by decide +kernel) ⟨by decide, by decide⟩) (pp_V (en_ok g) (q0 := 0) hK hP hD hS hA hE [0, 1] rfl rfl rfl rfl) rfl rfl hl.1 rfl (lv_room (Nat.le_of_ble_eq_true rfl)) dM_open_34 ⟨by omega, by omega⟩) (fun r30 u29 H locs hu30 hP hD hS => ?_)
        obtain ⟨u30, pl⟩ := u29
        obtain ⟨hq30, hO⟩ := hu30
        obtain ⟨th25, tp25, rs25, ks25, fS25⟩ := u30
        have hP : va_P g.1 vcl ([(h0, .inr (8, [.int th25, .int (nI tp25), .int (nI rs25), .int (nI ks25), .ref mt, .ref mr_, .ref mk, .ref mo, .ref mh, .ref mse, .ref mhs, .ref msp, .ref msc, .ref mha])), (mse, .inl (g.2.1 0, 8, .inl fS25))] ++ pl) _ := hP
        have hD : va_D _ ([(h0, .inr (8, [.int th25, .int (nI tp25), .int (nI rs25), .int (nI ks25), .ref mt, .ref mr_, .ref mk, .ref mo, .ref mh, .ref mse, .ref mhs, .ref msp, .ref msc, .ref mha])), (mse, .inl (g.2.1 0, 8, .inl fS25))] ++ pl) := hD
        obtain ⟨-, -, -, hm44, hm45⟩ := hq30
        obtain ⟨he41, he42, he43, he44, he45⟩ := hm45
        have he41 : th25 = nI 1 := he41
        have he42 : tp25 = tp := he42
        have he43 : rs25 = rs := he43
        have he44 : ks25 = ks := he44
        obtain rfl := he45
        refine W.widen (k := 0) (n := 0) (by omega) (by omega) ?_
        exact mp_iret hx hb hr hlk hP hD hS ((th25, tp25, rs25, ks25, fS25), pl) ⟨⟨(by show tp25 ≤ 16384; omega), (by show rs25 ≤ 8192; omega), (by show ks25 ≤ 8; omega), hm44⟩, hO⟩ [0, 1] rfl rfl rfl (by omega) (by omega) dM_open_37
    | 2, _, ey21 =>
      refine mi_as ey21 ?_
      refine lv_iconst (v := nI 2) hx hb dM_open_19 (by decide) ?_
      refine mi_gt (tgt := 32) hx hb dM_open_20 (by decide) (by omega) (by omega) (fun h29 => absurd h29 (by omega)) (fun h29 => ?_)
      refine lv_aload_n hx hb dM_open_23 rfl (lv_at hl 0 rfl) ?_
      refine va_get (D := g.1) (ci := 8) (C := "LatticeKeysModel") (T := T_M) (N := 14) hx hb hts (wg_ft i_M) hown hK hP 0 rfl rfl 10 (by decide) (hts _ (wg_t kw_1536)) (fun _ h9 => h9) rfl dM_open_24 ?_
      refine lv_iload_n hx hb dM_open_27 rfl (lv_at hl 1 rfl) ?_
      refine ty_iald5 hx hb hK hO k_mhs (nxg clo_nil k_mhs rfl) hP (by omega) dM_open_28 (fun z24 hz24 => ?_)
      refine lv_if_ne (tgt := 38) hx hb dM_open_29 (by decide) (fun h30 => ?_) (fun h30 => ?_)
      · refine lv_aload_n hx hb dM_open_38 rfl (lv_at hl 0 rfl) ?_
        refine va_get (D := g.1) (ci := 8) (C := "LatticeKeysModel") (T := T_M) (N := 14) hx hb hts (wg_ft i_M) hown hK hP 0 rfl rfl 1 (by decide) (hts _ (wg_t kw_1527)) (fun _ h9 => h9) rfl dM_open_39 ?_
        refine lv_aload_n hx hb dM_open_42 rfl (lv_at hl 0 rfl) ?_
        refine va_get (D := g.1) (ci := 8) (C := "LatticeKeysModel") (T := T_M) (N := 14) hx hb hts (wg_ft i_M) hown hK hP 0 rfl rfl 9 (by decide) (hts _ (wg_t kw_1535)) (fun _ h9 => h9) rfl dM_open_43 ?_
        refine lv_iload_n hx hb dM_open_46 rfl (lv_at hl 1 rfl) ?_
        refine mp_iald hx hb hK hP 1 0 rfl rfl (by omega) (by decide) dM_open_47 ?_
        refine mi_as ey21 ?_
        refine mp_i (cx := []) (wr := [(h0, .inr (8, [.int (nI 0), .int (nI tp), .int (nI rs), .int (nI ks), .ref mt, .ref mr_, .ref mk, .ref mo, .ref mh, .ref mse, .ref mhs, .ref msp, .ref msc, .ref mha])), (mse, .inl (g.2.1 0, 8, .inl fS))]) hP hD hS hA [] [0, 1] rfl rfl rfl (by decide) (va_runS (As := [.int (nI 2)]) (rest := [.int (nI tp)]) F (t_ME_sealedSize_2 l g _ T [] pl hO hU  ) (va_cwS 1 hts (wg_app (wg_c kw_1847 (wg_c kw_1841 (wg_c kw_11 wg_n))) kw_1842) rfl rfl rfl (by decide +kernel) ⟨by decide, by decide⟩) (pp_S (en_ok g) hP hD hS hA hE [] rfl rfl) rfl rfl hl.1 rfl (lv_room (Nat.le_of_ble_eq_true rfl)) dM_open_48 ⟨by omega, by omega⟩) (fun r31 pl H locs hu31 hP hD hS => ?_)
        obtain ⟨hq31, hO⟩ := hu31
        have hP : va_P g.1 vcl ([(h0, .inr (8, [.int (nI 0), .int (nI tp), .int (nI rs), .int (nI ks), .ref mt, .ref mr_, .ref mk, .ref mo, .ref mh, .ref mse, .ref mhs, .ref msp, .ref msc, .ref mha])), (mse, .inl (g.2.1 0, 8, .inl fS))] ++ pl) _ := hP
        have hD : va_D _ ([(h0, .inr (8, [.int (nI 0), .int (nI tp), .int (nI rs), .int (nI ks), .ref mt, .ref mr_, .ref mk, .ref mo, .ref mh, .ref mse, .ref mhs, .ref msp, .ref msc, .ref mha])), (mse, .inl (g.2.1 0, 8, .inl fS))] ++ pl) := hD
        obtain rfl := hq31
        refine W.widen (k := 0) (n := 0) (by omega) (by omega) ?_
        refine mi_eq (tgt := 60) hx hb dM_open_51 (by decide) (by omega) (by omega) (fun h31 => ?_) (fun h31 => ?_)
        · refine lv_aload_n hx hb dM_open_60 rfl (lv_at hl 0 rfl) ?_
          refine lv_iconst (v := nI 0) hx hb dM_open_61 (by decide) ?_
          refine va_put (D := g.1) (ci := 8) (v := .int (nI 0)) (ty := .int) (C := "LatticeKeysModel") (T := T_M) (N := 14) hx hb hts (wg_ft i_M) ty_M k_M n_M hown hK hP hD hS 0 rfl rfl 1 (by decide) (hts _ (wg_t kw_1527)) (fun _ h9 => h9) rfl (by decide +kernel) rfl rfl (Nat.le_of_ble_eq_true rfl) dM_open_62 (fun H locs hP hD hS => ?_)
          have hP : va_P g.1 vcl ([(h0, .inr (8, [.int (nI 0), .int (nI 0), .int (nI rs), .int (nI ks), .ref mt, .ref mr_, .ref mk, .ref mo, .ref mh, .ref mse, .ref mhs, .ref msp, .ref msc, .ref mha])), (mse, .inl (g.2.1 0, 8, .inl fS))] ++ pl) _ := hP
          have hD : va_D _ ([(h0, .inr (8, [.int (nI 0), .int (nI 0), .int (nI rs), .int (nI ks), .ref mt, .ref mr_, .ref mk, .ref mo, .ref mh, .ref mse, .ref mhs, .ref msp, .ref msc, .ref mha])), (mse, .inl (g.2.1 0, 8, .inl fS))] ++ pl) := hD
          refine lv_aload_n hx hb dM_open_65 rfl (lv_at hl 0 rfl) ?_
          refine lv_bipush (v := nI 32) hx hb dM_open_66 (by decide) ?_
          refine va_put (D := g.1) (ci := 8) (v := .int (nI 32)) (ty := .int) (C := "LatticeKeysModel") (T := T_M) (N := 14) hx hb hts (wg_ft i_M) ty_M k_M n_M hown hK hP hD hS 0 rfl rfl 2 (by decide) (hts _ (wg_t kw_1528)) (fun _ h9 => h9) rfl (by decide +kernel) rfl rfl (Nat.le_of_ble_eq_true rfl) dM_open_68 (fun H locs hP hD hS => ?_)
          have hP : va_P g.1 vcl ([(h0, .inr (8, [.int (nI 0), .int (nI 0), .int (nI 32), .int (nI ks), .ref mt, .ref mr_, .ref mk, .ref mo, .ref mh, .ref mse, .ref mhs, .ref msp, .ref msc, .ref mha])), (mse, .inl (g.2.1 0, 8, .inl fS))] ++ pl) _ := hP
          have hD : va_D _ ([(h0, .inr (8, [.int (nI 0), .int (nI 0), .int (nI 32), .int (nI ks), .ref mt, .ref mr_, .ref mk, .ref mo, .ref mh, .ref mse, .ref mhs, .ref msp, .ref msc, .ref mha])), (mse, .inl (g.2.1 0, 8, .inl fS))] ++ pl) := hD
          refine lv_aload_n hx hb dM_open_71 rfl (lv_at hl 0 rfl) ?_
          refine va_get (D := g.1) (ci := 8) (C := "LatticeKeysModel") (T := T_M) (N := 14) hx hb hts (wg_ft i_M) hown hK hP 0 rfl rfl 12 (by decide) (hts _ (wg_t kw_1538)) (fun _ h9 => h9) rfl dM_open_72 ?_
          refine lv_aload_n hx hb dM_open_75 rfl (lv_at hl 0 rfl) ?_
          refine va_get (D := g.1) (ci := 8) (C := "LatticeKeysModel") (T := T_M) (N := 14) hx hb hts (wg_ft i_M) hown hK hP 0 rfl rfl 9 (by decide) (hts _ (wg_t kw_1535)) (fun _ h9 => h9) rfl dM_open_76 ?_
          refine lv_iload_n hx hb dM_open_79 rfl (lv_at hl 1 rfl) ?_
          refine mp_iald hx hb hK hP 1 0 rfl rfl (by omega) (by decide) dM_open_80 ?_
          refine mi_as ey21 ?_
          refine lv_aload_n hx hb dM_open_81 rfl (lv_at hl 0 rfl) ?_
          refine va_get (D := g.1) (ci := 8) (C := "LatticeKeysModel") (T := T_M) (N := 14) hx hb hts (wg_ft i_M) hown hK hP 0 rfl rfl 8 (by decide) (hts _ (wg_t kw_1534)) (fun _ h9 => h9) rfl dM_open_82 ?_
          refine lv_iload_n hx hb dM_open_85 rfl (lv_at hl 1 rfl) ?_
          refine ty_aald4 hx hb hK hO k_mh (nxg clo_nil k_mh rfl) hP (by omega) dM_open_86 (fun r32 kr23 => ?_)
          refine lv_aload_n hx hb dM_open_87 rfl (lv_at hl 0 rfl) ?_
          refine va_get (D := g.1) (ci := 8) (C := "LatticeKeysModel") (T := T_M) (N := 14) hx hb hts (wg_ft i_M) hown hK hP 0 rfl rfl 4 (by decide) (hts _ (wg_t kw_1530)) (fun _ h9 => h9) rfl dM_open_88 ?_
          refine lv_aload_n hx hb dM_open_91 rfl (lv_at hl 0 rfl) ?_
          refine va_get (D := g.1) (ci := 8) (C := "LatticeKeysModel") (T := T_M) (N := 14) hx hb hts (wg_ft i_M) hown hK hP 0 rfl rfl 5 (by decide) (hts _ (wg_t kw_1531)) (fun _ h9 => h9) rfl dM_open_92 ?_
          refine mp_v (cx := []) (wr := [(h0, .inr (8, [.int (nI 0), .int (nI 0), .int (nI 32), .int (nI ks), .ref mt, .ref mr_, .ref mk, .ref mo, .ref mh, .ref mse, .ref mhs, .ref msp, .ref msc, .ref mha])), (mse, .inl (g.2.1 0, 8, .inl fS))]) hP hD hS hA [] [0, 1] rfl rfl rfl (by decide) (va_runV (As := [.int (nI 2), .ref r32, .ref mt, .ref mr_]) (rest := []) F (t_ME_open_2 l g _ T [] pl hO hU clo_nil clo_nil msc r32 mt mr_ k_msc kr23 k_mt k_mr_) (cwV 4 hts (wg_app (wg_c kw_1848 (wg_c kw_1849 (wg_c kw_1850 (wg_c kw_11 wg_n)))) kw_1851) rfl rfl rfl (by decide +kernel) ⟨by decide, by decide⟩) (pp_VT (en_ok g) (ci := 11) (kd := (23, 0)) hK hO k_msc (nxg clo_nil k_msc rfl) (fun _ h9 => ko1 h9) hP hD hS hA hE [] rfl rfl rfl) rfl rfl hl.1 rfl (lv_room (Nat.le_of_ble_eq_true rfl)) dM_open_95 ⟨by omega, by omega⟩) (fun  pl H locs hu32 hP hD hS => ?_)
          obtain ⟨hq32, hO⟩ := hu32
          have hP : va_P g.1 vcl ([(h0, .inr (8, [.int (nI 0), .int (nI 0), .int (nI 32), .int (nI ks), .ref mt, .ref mr_, .ref mk, .ref mo, .ref mh, .ref mse, .ref mhs, .ref msp, .ref msc, .ref mha])), (mse, .inl (g.2.1 0, 8, .inl fS))] ++ pl) _ := hP
          have hD : va_D _ ([(h0, .inr (8, [.int (nI 0), .int (nI 0), .int (nI 32), .int (nI ks), .ref mt, .ref mr_, .ref mk, .ref mo, .ref mh, .ref mse, .ref mhs, .ref msp, .ref msc, .ref mha])), (mse, .inl (g.2.1 0, 8, .inl fS))] ++ pl) := hD
          refine W.widen (k := 0) (n := 0) (by omega) (by omega) ?_
          refine lv_aload_n hx hb dM_open_98 rfl (lv_at hl 0 rfl) ?_
          refine va_get (D := g.1) (ci := 8) (C := "LatticeKeysModel") (T := T_M) (N := 14) hx hb hts (wg_ft i_M) hown hK hP 0 rfl rfl 2 (by decide) (hts _ (wg_t kw_1528)) (fun _ h9 => h9) rfl dM_open_99 ?_
          exact mp_iret hx hb hr hlk hP hD hS ((nI 0, 0, 32, ks, fS), pl) ⟨⟨(by show 0 ≤ 16384; omega), (by show 32 ≤ 8192; omega), (by show ks ≤ 8; omega), hS5⟩, hO⟩ [0, 1] rfl rfl rfl (by omega) (by omega) dM_open_102
        · refine lv_aload_n hx hb dM_open_54 rfl (lv_at hl 0 rfl) ?_
          refine lv_iconst (v := nI 2) hx hb dM_open_55 (by decide) ?_
          refine mp_i (cx := [(h0, .inr (8, [.int (nI 0), .int (nI tp), .int (nI rs), .int (nI ks), .ref mt, .ref mr_, .ref mk, .ref mo, .ref mh, .ref mse, .ref mhs, .ref msp, .ref msc, .ref mha])), (mse, .inl (g.2.1 0, 8, .inl fS))]) (wr := []) hP hD hS hA [0, 1] [] rfl rfl rfl (by decide) (va_runV (As := [.int (nI 2)]) (rest := []) F (t_M_fail l g _ T  pl hO hU  (nI 2) h0 mt mr_ mk mo mh mse mhs msp msc mha tp rs ks (nI 0) fS k_mt k_mr_ k_mk k_mo k_mh k_mhs k_msp k_msc k_mha (by omega) hS5) (cwV 1 hts (wg_app (wg_c kw_1577 (wg_c kw_1579 (wg_c ks_50 (wg_c kw_9 wg_n)))) kw_1580) rfl rfl rfl (by decide +kernel) ⟨by decide, by decide⟩) (pp_V (en_ok g) (q0 := 0) hK hP hD hS hA hE [0, 1] rfl rfl rfl rfl) rfl rfl hl.1 rfl (lv_room (Nat.le_of_ble_eq_true rfl)) dM_open_56 ⟨by omega, by omega⟩) (fun r33 u31 H locs hu33 hP hD hS => ?_)
          obtain ⟨u32, pl⟩ := u31
          obtain ⟨hq33, hO⟩ := hu33
          obtain ⟨th26, tp26, rs26, ks26, fS26⟩ := u32
          have hP : va_P g.1 vcl ([(h0, .inr (8, [.int th26, .int (nI tp26), .int (nI rs26), .int (nI ks26), .ref mt, .ref mr_, .ref mk, .ref mo, .ref mh, .ref mse, .ref mhs, .ref msp, .ref msc, .ref mha])), (mse, .inl (g.2.1 0, 8, .inl fS26))] ++ pl) _ := hP
          have hD : va_D _ ([(h0, .inr (8, [.int th26, .int (nI tp26), .int (nI rs26), .int (nI ks26), .ref mt, .ref mr_, .ref mk, .ref mo, .ref mh, .ref mse, .ref mhs, .ref msp, .ref msc, .ref mha])), (mse, .inl (g.2.1 0, 8, .inl fS26))] ++ pl) := hD
          obtain ⟨-, -, -, hm49, hm50⟩ := hq33
          obtain ⟨he46, he47, he48, he49, he50⟩ := hm50
          have he46 : th26 = nI 2 := he46
          have he47 : tp26 = tp := he47
          have he48 : rs26 = rs := he48
          have he49 : ks26 = ks := he49
          obtain rfl := he50
          refine W.widen (k := 0) (n := 0) (by omega) (by omega) ?_
          exact mp_iret hx hb hr hlk hP hD hS ((th26, tp26, rs26, ks26, fS26), pl) ⟨⟨(by show tp26 ≤ 16384; omega), (by show rs26 ≤ 8192; omega), (by show ks26 ≤ 8; omega), hm49⟩, hO⟩ [0, 1] rfl rfl rfl (by omega) (by omega) dM_open_59
      · refine lv_aload_n hx hb dM_open_32 rfl (lv_at hl 0 rfl) ?_
        refine lv_iconst (v := nI 1) hx hb dM_open_33 (by decide) ?_
        refine mp_i (cx := [(h0, .inr (8, [.int (nI 0), .int (nI tp), .int (nI rs), .int (nI ks), .ref mt, .ref mr_, .ref mk, .ref mo, .ref mh, .ref mse, .ref mhs, .ref msp, .ref msc, .ref mha])), (mse, .inl (g.2.1 0, 8, .inl fS))]) (wr := []) hP hD hS hA [0, 1] [] rfl rfl rfl (by decide) (va_runV (As := [.int (nI 1)]) (rest := []) F (t_M_fail l g _ T  pl hO hU  (nI 1) h0 mt mr_ mk mo mh mse mhs msp msc mha tp rs ks (nI 0) fS k_mt k_mr_ k_mk k_mo k_mh k_mhs k_msp k_msc k_mha (by omega) hS5) (cwV 1 hts (wg_app (wg_c kw_1577 (wg_c kw_1579 (wg_c ks_50 (wg_c kw_9 wg_n)))) kw_1580) rfl rfl rfl (by decide +kernel) ⟨by decide, by decide⟩) (pp_V (en_ok g) (q0 := 0) hK hP hD hS hA hE [0, 1] rfl rfl rfl rfl) rfl rfl hl.1 rfl (lv_room (Nat.le_of_ble_eq_true rfl)) dM_open_34 ⟨by omega, by omega⟩) (fun r34 u33 H locs hu34 hP hD hS => ?_)
        obtain ⟨u34, pl⟩ := u33
        obtain ⟨hq34, hO⟩ := hu34
        obtain ⟨th27, tp27, rs27, ks27, fS27⟩ := u34
        have hP : va_P g.1 vcl ([(h0, .inr (8, [.int th27, .int (nI tp27), .int (nI rs27), .int (nI ks27), .ref mt, .ref mr_, .ref mk, .ref mo, .ref mh, .ref mse, .ref mhs, .ref msp, .ref msc, .ref mha])), (mse, .inl (g.2.1 0, 8, .inl fS27))] ++ pl) _ := hP
        have hD : va_D _ ([(h0, .inr (8, [.int th27, .int (nI tp27), .int (nI rs27), .int (nI ks27), .ref mt, .ref mr_, .ref mk, .ref mo, .ref mh, .ref mse, .ref mhs, .ref msp, .ref msc, .ref mha])), (mse, .inl (g.2.1 0, 8, .inl fS27))] ++ pl) := hD
        obtain ⟨-, -, -, hm54, hm55⟩ := hq34
        obtain ⟨he51, he52, he53, he54, he55⟩ := hm55
        have he51 : th27 = nI 1 := he51
        have he52 : tp27 = tp := he52
        have he53 : rs27 = rs := he53
        have he54 : ks27 = ks := he54
        obtain rfl := he55
        refine W.widen (k := 0) (n := 0) (by omega) (by omega) ?_
        exact mp_iret hx hb hr hlk hP hD hS ((th27, tp27, rs27, ks27, fS27), pl) ⟨⟨(by show tp27 ≤ 16384; omega), (by show rs27 ≤ 8192; omega), (by show ks27 ≤ 8; omega), hm54⟩, hO⟩ [0, 1] rfl rfl rfl (by omega) (by omega) dM_open_37
    | 3, _, ey21 =>
      refine mi_as ey21 ?_
      refine lv_iconst (v := nI 2) hx hb dM_open_19 (by decide) ?_
      refine mi_gt (tgt := 32) hx hb dM_open_20 (by decide) (by omega) (by omega) (fun h32 => ?_) (fun h32 => absurd h32 (by omega))
      refine lv_aload_n hx hb dM_open_32 rfl (lv_at hl 0 rfl) ?_
      refine lv_iconst (v := nI 1) hx hb dM_open_33 (by decide) ?_
      refine mp_i (cx := [(h0, .inr (8, [.int (nI 0), .int (nI tp), .int (nI rs), .int (nI ks), .ref mt, .ref mr_, .ref mk, .ref mo, .ref mh, .ref mse, .ref mhs, .ref msp, .ref msc, .ref mha])), (mse, .inl (g.2.1 0, 8, .inl fS))]) (wr := []) hP hD hS hA [0, 1] [] rfl rfl rfl (by decide) (va_runV (As := [.int (nI 1)]) (rest := []) F (t_M_fail l g _ T  pl hO hU  (nI 1) h0 mt mr_ mk mo mh mse mhs msp msc mha tp rs ks (nI 0) fS k_mt k_mr_ k_mk k_mo k_mh k_mhs k_msp k_msc k_mha (by omega) hS5) (cwV 1 hts (wg_app (wg_c kw_1577 (wg_c kw_1579 (wg_c ks_50 (wg_c kw_9 wg_n)))) kw_1580) rfl rfl rfl (by decide +kernel) ⟨by decide, by decide⟩) (pp_V (en_ok g) (q0 := 0) hK hP hD hS hA hE [0, 1] rfl rfl rfl rfl) rfl rfl hl.1 rfl (lv_room (Nat.le_of_ble_eq_true rfl)) dM_open_34 ⟨by omega, by omega⟩) (fun r35 u35 H locs hu35 hP hD hS => ?_)
      obtain ⟨u36, pl⟩ := u35
      obtain ⟨hq35, hO⟩ := hu35
      obtain ⟨th28, tp28, rs28, ks28, fS28⟩ := u36
      have hP : va_P g.1 vcl ([(h0, .inr (8, [.int th28, .int (nI tp28), .int (nI rs28), .int (nI ks28), .ref mt, .ref mr_, .ref mk, .ref mo, .ref mh, .ref mse, .ref mhs, .ref msp, .ref msc, .ref mha])), (mse, .inl (g.2.1 0, 8, .inl fS28))] ++ pl) _ := hP
      have hD : va_D _ ([(h0, .inr (8, [.int th28, .int (nI tp28), .int (nI rs28), .int (nI ks28), .ref mt, .ref mr_, .ref mk, .ref mo, .ref mh, .ref mse, .ref mhs, .ref msp, .ref msc, .ref mha])), (mse, .inl (g.2.1 0, 8, .inl fS28))] ++ pl) := hD
      obtain ⟨-, -, -, hm59, hm60⟩ := hq35
      obtain ⟨he56, he57, he58, he59, he60⟩ := hm60
      have he56 : th28 = nI 1 := he56
      have he57 : tp28 = tp := he57
      have he58 : rs28 = rs := he58
      have he59 : ks28 = ks := he59
      obtain rfl := he60
      refine W.widen (k := 0) (n := 0) (by omega) (by omega) ?_
      exact mp_iret hx hb hr hlk hP hD hS ((th28, tp28, rs28, ks28, fS28), pl) ⟨⟨(by show tp28 ≤ 16384; omega), (by show rs28 ≤ 8192; omega), (by show ks28 ≤ 8; omega), hm59⟩, hO⟩ [0, 1] rfl rfl rfl (by omega) (by omega) dM_open_37
    | 4, _, ey21 =>
      refine mi_as ey21 ?_
      refine lv_iconst (v := nI 2) hx hb dM_open_19 (by decide) ?_
      refine mi_gt (tgt := 32) hx hb dM_open_20 (by decide) (by omega) (by omega) (fun h33 => ?_) (fun h33 => absurd h33 (by omega))
      refine lv_aload_n hx hb dM_open_32 rfl (lv_at hl 0 rfl) ?_
      refine lv_iconst (v := nI 1) hx hb dM_open_33 (by decide) ?_
      refine mp_i (cx := [(h0, .inr (8, [.int (nI 0), .int (nI tp), .int (nI rs), .int (nI ks), .ref mt, .ref mr_, .ref mk, .ref mo, .ref mh, .ref mse, .ref mhs, .ref msp, .ref msc, .ref mha])), (mse, .inl (g.2.1 0, 8, .inl fS))]) (wr := []) hP hD hS hA [0, 1] [] rfl rfl rfl (by decide) (va_runV (As := [.int (nI 1)]) (rest := []) F (t_M_fail l g _ T  pl hO hU  (nI 1) h0 mt mr_ mk mo mh mse mhs msp msc mha tp rs ks (nI 0) fS k_mt k_mr_ k_mk k_mo k_mh k_mhs k_msp k_msc k_mha (by omega) hS5) (cwV 1 hts (wg_app (wg_c kw_1577 (wg_c kw_1579 (wg_c ks_50 (wg_c kw_9 wg_n)))) kw_1580) rfl rfl rfl (by decide +kernel) ⟨by decide, by decide⟩) (pp_V (en_ok g) (q0 := 0) hK hP hD hS hA hE [0, 1] rfl rfl rfl rfl) rfl rfl hl.1 rfl (lv_room (Nat.le_of_ble_eq_true rfl)) dM_open_34 ⟨by omega, by omega⟩) (fun r36 u37 H locs hu36 hP hD hS => ?_)
      obtain ⟨u38, pl⟩ := u37
      obtain ⟨hq36, hO⟩ := hu36
      obtain ⟨th29, tp29, rs29, ks29, fS29⟩ := u38
      have hP : va_P g.1 vcl ([(h0, .inr (8, [.int th29, .int (nI tp29), .int (nI rs29), .int (nI ks29), .ref mt, .ref mr_, .ref mk, .ref mo, .ref mh, .ref mse, .ref mhs, .ref msp, .ref msc, .ref mha])), (mse, .inl (g.2.1 0, 8, .inl fS29))] ++ pl) _ := hP
      have hD : va_D _ ([(h0, .inr (8, [.int th29, .int (nI tp29), .int (nI rs29), .int (nI ks29), .ref mt, .ref mr_, .ref mk, .ref mo, .ref mh, .ref mse, .ref mhs, .ref msp, .ref msc, .ref mha])), (mse, .inl (g.2.1 0, 8, .inl fS29))] ++ pl) := hD
      obtain ⟨-, -, -, hm64, hm65⟩ := hq36
      obtain ⟨he61, he62, he63, he64, he65⟩ := hm65
      have he61 : th29 = nI 1 := he61
      have he62 : tp29 = tp := he62
      have he63 : rs29 = rs := he63
      have he64 : ks29 = ks := he64
      obtain rfl := he65
      refine W.widen (k := 0) (n := 0) (by omega) (by omega) ?_
      exact mp_iret hx hb hr hlk hP hD hS ((th29, tp29, rs29, ks29, fS29), pl) ⟨⟨(by show tp29 ≤ 16384; omega), (by show rs29 ≤ 8192; omega), (by show ks29 ≤ 8; omega), hm64⟩, hO⟩ [0, 1] rfl rfl rfl (by omega) (by omega) dM_open_37
    | 5, _, ey21 =>
      refine mi_as ey21 ?_
      refine lv_iconst (v := nI 2) hx hb dM_open_19 (by decide) ?_
      refine mi_gt (tgt := 32) hx hb dM_open_20 (by decide) (by omega) (by omega) (fun h34 => ?_) (fun h34 => absurd h34 (by omega))
      refine lv_aload_n hx hb dM_open_32 rfl (lv_at hl 0 rfl) ?_
      refine lv_iconst (v := nI 1) hx hb dM_open_33 (by decide) ?_
      refine mp_i (cx := [(h0, .inr (8, [.int (nI 0), .int (nI tp), .int (nI rs), .int (nI ks), .ref mt, .ref mr_, .ref mk, .ref mo, .ref mh, .ref mse, .ref mhs, .ref msp, .ref msc, .ref mha])), (mse, .inl (g.2.1 0, 8, .inl fS))]) (wr := []) hP hD hS hA [0, 1] [] rfl rfl rfl (by decide) (va_runV (As := [.int (nI 1)]) (rest := []) F (t_M_fail l g _ T  pl hO hU  (nI 1) h0 mt mr_ mk mo mh mse mhs msp msc mha tp rs ks (nI 0) fS k_mt k_mr_ k_mk k_mo k_mh k_mhs k_msp k_msc k_mha (by omega) hS5) (cwV 1 hts (wg_app (wg_c kw_1577 (wg_c kw_1579 (wg_c ks_50 (wg_c kw_9 wg_n)))) kw_1580) rfl rfl rfl (by decide +kernel) ⟨by decide, by decide⟩) (pp_V (en_ok g) (q0 := 0) hK hP hD hS hA hE [0, 1] rfl rfl rfl rfl) rfl rfl hl.1 rfl (lv_room (Nat.le_of_ble_eq_true rfl)) dM_open_34 ⟨by omega, by omega⟩) (fun r37 u39 H locs hu37 hP hD hS => ?_)
      obtain ⟨u40, pl⟩ := u39
      obtain ⟨hq37, hO⟩ := hu37
      obtain ⟨th30, tp30, rs30, ks30, fS30⟩ := u40
      have hP : va_P g.1 vcl ([(h0, .inr (8, [.int th30, .int (nI tp30), .int (nI rs30), .int (nI ks30), .ref mt, .ref mr_, .ref mk, .ref mo, .ref mh, .ref mse, .ref mhs, .ref msp, .ref msc, .ref mha])), (mse, .inl (g.2.1 0, 8, .inl fS30))] ++ pl) _ := hP
      have hD : va_D _ ([(h0, .inr (8, [.int th30, .int (nI tp30), .int (nI rs30), .int (nI ks30), .ref mt, .ref mr_, .ref mk, .ref mo, .ref mh, .ref mse, .ref mhs, .ref msp, .ref msc, .ref mha])), (mse, .inl (g.2.1 0, 8, .inl fS30))] ++ pl) := hD
      obtain ⟨-, -, -, hm69, hm70⟩ := hq37
      obtain ⟨he66, he67, he68, he69, he70⟩ := hm70
      have he66 : th30 = nI 1 := he66
      have he67 : tp30 = tp := he67
      have he68 : rs30 = rs := he68
      have he69 : ks30 = ks := he69
      obtain rfl := he70
      refine W.widen (k := 0) (n := 0) (by omega) (by omega) ?_
      exact mp_iret hx hb hr hlk hP hD hS ((th30, tp30, rs30, ks30, fS30), pl) ⟨⟨(by show tp30 ≤ 16384; omega), (by show rs30 ≤ 8192; omega), (by show ks30 ≤ 8; omega), hm69⟩, hO⟩ [0, 1] rfl rfl rfl (by omega) (by omega) dM_open_37
    | _ + 6, hy21, _ => exact absurd hy21 (by omega)
set_option maxHeartbeats 4000000 in
set_option maxRecDepth 100000 in
theorem t_M_sign (l : Launch) (g : Gd) (sz : Nat) (T : Ty) (pl : va_W) (hO : okx g T [] pl) (hU : uni T) (v : Int32) (v2 : Int32) (h0 mt mr_ mk mo mh mse mhs msp msc mha tp rs ks : Nat) (x0 : Int32) (fS : Nat → Int32) (k_mt : T mt = some (1, 16384)) (k_mr_ : T mr_ = some (1, 8192)) (k_mk : T mk = some (1, 8192)) (k_mo : T mo = some (4, 2592)) (k_mh : T mh = some (4, 4896)) (k_mhs : T mhs = some (5, 4896)) (k_msp : T msp = some (20, 0)) (k_msc : T msc = some (23, 0)) (k_mha : T mha = some (49, 0)) (hb : tp ≤ 16384 ∧ rs ≤ 8192 ∧ ks ≤ 8) (hS5 : s5 fS)  : Met l y_M_sign w_M_sign ({ frames := 6, cells := 0, slots := 0, locals := 152 } : Room) (va_Pc [.ref h0, .int v, .int v2] (pr (en g) g.1 vcl sz ([(h0, .inr (8, [.int x0, .int (nI tp), .int (nI rs), .int (nI ks), .ref mt, .ref mr_, .ref mk, .ref mo, .ref mh, .ref mse, .ref mhs, .ref msp, .ref msc, .ref mha])), (mse, .inl (g.2.1 0, 8, .inl fS))] ++ pl))) (va_Qi (fun (r : Int32) (u : (Int32 × Nat × Nat × Nat × (Nat → Int32)) × va_W) => (u.1.2.1 ≤ 16384 ∧ u.1.2.2.1 ≤ 8192 ∧ u.1.2.2.2.1 ≤ 8 ∧ s5 u.1.2.2.2.2) ∧ okx g T [] u.2) (po g.1 vcl (va_A ([(h0, .inr (8, [.int x0, .int (nI tp), .int (nI rs), .int (nI ks), .ref mt, .ref mr_, .ref mk, .ref mo, .ref mh, .ref mse, .ref mhs, .ref msp, .ref msc, .ref mha])), (mse, .inl (g.2.1 0, 8, .inl fS))] ++ pl) sz) (fun (u : (Int32 × Nat × Nat × Nat × (Nat → Int32)) × va_W) => [(h0, .inr (8, [.int u.1.1, .int (nI (u.1.2.1)), .int (nI (u.1.2.2.1)), .int (nI (u.1.2.2.2.1)), .ref mt, .ref mr_, .ref mk, .ref mo, .ref mh, .ref mse, .ref mhs, .ref msp, .ref msc, .ref mha])), (mse, .inl (g.2.1 0, 8, .inl ((u.1.2.2.2.2))))] ++ u.2)) (va_A ([(h0, .inr (8, [.int x0, .int (nI tp), .int (nI rs), .int (nI ks), .ref mt, .ref mr_, .ref mk, .ref mo, .ref mh, .ref mse, .ref mhs, .ref msp, .ref msc, .ref mha])), (mse, .inl (g.2.1 0, 8, .inl fS))] ++ pl) sz)) 0 0 (va_A ([(h0, .inr (8, [.int x0, .int (nI tp), .int (nI rs), .int (nI ks), .ref mt, .ref mr_, .ref mk, .ref mo, .ref mh, .ref mse, .ref mhs, .ref msp, .ref msc, .ref mha])), (mse, .inl (g.2.1 0, 8, .inl fS))] ++ pl) sz) := by
  refine mc_entry (cc := c_M_sign) (maxL := 5) (ret := (some .int)) (by decide) rfl (Nat.le_of_ble_eq_true rfl) ?_
  intro p e s m args below meth c ls F hr hlk hnm hsz hP hD hE hA hl
  obtain ⟨hx, hb, hml, hown, hts⟩ := id F
  have hK := hE.1
  generalize va_A ([(h0, .inr (8, [.int x0, .int (nI tp), .int (nI rs), .int (nI ks), .ref mt, .ref mr_, .ref mk, .ref mo, .ref mh, .ref mse, .ref mhs, .ref msp, .ref msc, .ref mha])), (mse, .inl (g.2.1 0, 8, .inl fS))] ++ pl) sz = A at hD hE hA ⊢
  have hS : va_S A s.heap s.heap [] := va_S.rf
  have hl : lv_has ls 5 [(0, .ref h0), (1, .int v), (2, .int v2)] := hl
  refine lv_aload_n hx hb dM_sign_0 rfl (lv_at hl 0 rfl) ?_
  refine lv_iconst (v := nI 0) hx hb dM_sign_1 (by decide) ?_
  refine va_put (D := g.1) (ci := 8) (v := .int (nI 0)) (ty := .int) (C := "LatticeKeysModel") (T := T_M) (N := 14) hx hb hts (wg_ft i_M) ty_M k_M n_M hown hK hP hD hS 0 rfl rfl 0 (by decide) (hts _ (wg_t kw_1526)) (fun _ h9 => h9) rfl (by decide +kernel) rfl rfl (Nat.le_of_ble_eq_true rfl) dM_sign_2 (fun H locs hP hD hS => ?_)
  have hP : va_P g.1 vcl ([(h0, .inr (8, [.int (nI 0), .int (nI tp), .int (nI rs), .int (nI ks), .ref mt, .ref mr_, .ref mk, .ref mo, .ref mh, .ref mse, .ref mhs, .ref msp, .ref msc, .ref mha])), (mse, .inl (g.2.1 0, 8, .inl fS))] ++ pl) _ := hP
  have hD : va_D _ ([(h0, .inr (8, [.int (nI 0), .int (nI tp), .int (nI rs), .int (nI ks), .ref mt, .ref mr_, .ref mk, .ref mo, .ref mh, .ref mse, .ref mhs, .ref msp, .ref msc, .ref mha])), (mse, .inl (g.2.1 0, 8, .inl fS))] ++ pl) := hD
  refine lv_aload_n hx hb dM_sign_5 rfl (lv_at hl 0 rfl) ?_
  refine lv_iload_n hx hb dM_sign_6 rfl (lv_at hl 1 rfl) ?_
  refine mp_i (cx := [(h0, .inr (8, [.int (nI 0), .int (nI tp), .int (nI rs), .int (nI ks), .ref mt, .ref mr_, .ref mk, .ref mo, .ref mh, .ref mse, .ref mhs, .ref msp, .ref msc, .ref mha])), (mse, .inl (g.2.1 0, 8, .inl fS))]) (wr := []) hP hD hS hA [0, 1] [] rfl rfl rfl (by decide) (va_runV (As := [.int v]) (rest := []) F (t_M_none l g _ T  pl hO hU  v h0 mt mr_ mk mo mh mse mhs msp msc mha tp rs ks (nI 0) fS k_mt k_mr_ k_mk k_mo k_mh k_mhs k_msp k_msc k_mha (by omega) hS5) (cwV 1 hts (wg_app (wg_c kw_1781 (wg_c kw_1783 (wg_c ks_65 (wg_c kw_9 wg_n)))) kw_1784) rfl rfl rfl (by decide +kernel) ⟨by decide, by decide⟩) (pp_V (en_ok g) (q0 := 0) hK hP hD hS hA hE [0, 1] rfl rfl rfl rfl) rfl rfl hl.1 rfl (lv_room (Nat.le_of_ble_eq_true rfl)) dM_sign_7 ⟨by omega, by omega⟩) (fun r21 pl H locs hu21 hP hD hS => ?_)
  obtain ⟨hq21, hO⟩ := hu21
  have hP : va_P g.1 vcl ([(h0, .inr (8, [.int (nI 0), .int (nI tp), .int (nI rs), .int (nI ks), .ref mt, .ref mr_, .ref mk, .ref mo, .ref mh, .ref mse, .ref mhs, .ref msp, .ref msc, .ref mha])), (mse, .inl (g.2.1 0, 8, .inl fS))] ++ pl) _ := hP
  have hD : va_D _ ([(h0, .inr (8, [.int (nI 0), .int (nI tp), .int (nI rs), .int (nI ks), .ref mt, .ref mr_, .ref mk, .ref mo, .ref mh, .ref mse, .ref mhs, .ref msp, .ref msc, .ref mha])), (mse, .inl (g.2.1 0, 8, .inl fS))] ++ pl) := hD
  refine W.widen (k := 0) (n := 0) (by omega) (by omega) ?_
  rcases hq21 with hq21 | hq21
  · obtain rfl := hq21
    refine lv_if_ne (tgt := 32) hx hb dM_sign_10 (by decide) (fun h21 => ?_) (fun h21 => absurd h21 (by decide))
    refine lv_aload_n hx hb dM_sign_32 rfl (lv_at hl 0 rfl) ?_
    refine lv_iconst (v := nI 1) hx hb dM_sign_33 (by decide) ?_
    refine mp_i (cx := [(h0, .inr (8, [.int (nI 0), .int (nI tp), .int (nI rs), .int (nI ks), .ref mt, .ref mr_, .ref mk, .ref mo, .ref mh, .ref mse, .ref mhs, .ref msp, .ref msc, .ref mha])), (mse, .inl (g.2.1 0, 8, .inl fS))]) (wr := []) hP hD hS hA [0, 1] [] rfl rfl rfl (by decide) (va_runV (As := [.int (nI 1)]) (rest := []) F (t_M_fail l g _ T  pl hO hU  (nI 1) h0 mt mr_ mk mo mh mse mhs msp msc mha tp rs ks (nI 0) fS k_mt k_mr_ k_mk k_mo k_mh k_mhs k_msp k_msc k_mha (by omega) hS5) (cwV 1 hts (wg_app (wg_c kw_1577 (wg_c kw_1579 (wg_c ks_50 (wg_c kw_9 wg_n)))) kw_1580) rfl rfl rfl (by decide +kernel) ⟨by decide, by decide⟩) (pp_V (en_ok g) (q0 := 0) hK hP hD hS hA hE [0, 1] rfl rfl rfl rfl) rfl rfl hl.1 rfl (lv_room (Nat.le_of_ble_eq_true rfl)) dM_sign_34 ⟨by omega, by omega⟩) (fun r22 u21 H locs hu22 hP hD hS => ?_)
    obtain ⟨u22, pl⟩ := u21
    obtain ⟨hq22, hO⟩ := hu22
    obtain ⟨th21, tp21, rs21, ks21, fS21⟩ := u22
    have hP : va_P g.1 vcl ([(h0, .inr (8, [.int th21, .int (nI tp21), .int (nI rs21), .int (nI ks21), .ref mt, .ref mr_, .ref mk, .ref mo, .ref mh, .ref mse, .ref mhs, .ref msp, .ref msc, .ref mha])), (mse, .inl (g.2.1 0, 8, .inl fS21))] ++ pl) _ := hP
    have hD : va_D _ ([(h0, .inr (8, [.int th21, .int (nI tp21), .int (nI rs21), .int (nI ks21), .ref mt, .ref mr_, .ref mk, .ref mo, .ref mh, .ref mse, .ref mhs, .ref msp, .ref msc, .ref mha])), (mse, .inl (g.2.1 0, 8, .inl fS21))] ++ pl) := hD
    obtain ⟨-, -, -, hm24, hm25⟩ := hq22
    obtain ⟨he21, he22, he23, he24, he25⟩ := hm25
    have he21 : th21 = nI 1 := he21
    have he22 : tp21 = tp := he22
    have he23 : rs21 = rs := he23
    have he24 : ks21 = ks := he24
    obtain rfl := he25
    refine W.widen (k := 0) (n := 0) (by omega) (by omega) ?_
    exact mp_iret hx hb hr hlk hP hD hS ((th21, tp21, rs21, ks21, fS21), pl) ⟨⟨(by show tp21 ≤ 16384; omega), (by show rs21 ≤ 8192; omega), (by show ks21 ≤ 8; omega), hm24⟩, hO⟩ [0, 1] rfl rfl rfl (by omega) (by omega) dM_sign_37
  · obtain ⟨rfl, z21, hz21, rfl⟩ := hq21
    refine lv_if_ne (tgt := 32) hx hb dM_sign_10 (by decide) (fun h22 => absurd h22 (by decide)) (fun h22 => ?_)
    refine lv_aload_n hx hb dM_sign_13 rfl (lv_at hl 0 rfl) ?_
    refine va_get (D := g.1) (ci := 8) (C := "LatticeKeysModel") (T := T_M) (N := 14) hx hb hts (wg_ft i_M) hown hK hP 0 rfl rfl 9 (by decide) (hts _ (wg_t kw_1535)) (fun _ h9 => h9) rfl dM_sign_14 ?_
    refine lv_iload_n hx hb dM_sign_17 rfl (lv_at hl 1 rfl) ?_
    refine mp_iald hx hb hK hP 1 0 rfl rfl (by omega) (by decide) dM_sign_18 ?_
    obtain ⟨y21, hy21, ey21⟩ := hS5 z21 (by omega)
    match y21, hy21, ey21 with
    | 0, _, ey21 =>
      refine mi_as ey21 ?_
      refine lv_iconst (v := nI 3) hx hb dM_sign_19 (by decide) ?_
      refine mi_lt (tgt := 32) hx hb dM_sign_20 (by decide) (by omega) (by omega) (fun h23 => ?_) (fun h23 => absurd h23 (by omega))
      refine lv_aload_n hx hb dM_sign_32 rfl (lv_at hl 0 rfl) ?_
      refine lv_iconst (v := nI 1) hx hb dM_sign_33 (by decide) ?_
      refine mp_i (cx := [(h0, .inr (8, [.int (nI 0), .int (nI tp), .int (nI rs), .int (nI ks), .ref mt, .ref mr_, .ref mk, .ref mo, .ref mh, .ref mse, .ref mhs, .ref msp, .ref msc, .ref mha])), (mse, .inl (g.2.1 0, 8, .inl fS))]) (wr := []) hP hD hS hA [0, 1] [] rfl rfl rfl (by decide) (va_runV (As := [.int (nI 1)]) (rest := []) F (t_M_fail l g _ T  pl hO hU  (nI 1) h0 mt mr_ mk mo mh mse mhs msp msc mha tp rs ks (nI 0) fS k_mt k_mr_ k_mk k_mo k_mh k_mhs k_msp k_msc k_mha (by omega) hS5) (cwV 1 hts (wg_app (wg_c kw_1577 (wg_c kw_1579 (wg_c ks_50 (wg_c kw_9 wg_n)))) kw_1580) rfl rfl rfl (by decide +kernel) ⟨by decide, by decide⟩) (pp_V (en_ok g) (q0 := 0) hK hP hD hS hA hE [0, 1] rfl rfl rfl rfl) rfl rfl hl.1 rfl (lv_room (Nat.le_of_ble_eq_true rfl)) dM_sign_34 ⟨by omega, by omega⟩) (fun r23 u23 H locs hu23 hP hD hS => ?_)
      obtain ⟨u24, pl⟩ := u23
      obtain ⟨hq23, hO⟩ := hu23
      obtain ⟨th22, tp22, rs22, ks22, fS22⟩ := u24
      have hP : va_P g.1 vcl ([(h0, .inr (8, [.int th22, .int (nI tp22), .int (nI rs22), .int (nI ks22), .ref mt, .ref mr_, .ref mk, .ref mo, .ref mh, .ref mse, .ref mhs, .ref msp, .ref msc, .ref mha])), (mse, .inl (g.2.1 0, 8, .inl fS22))] ++ pl) _ := hP
      have hD : va_D _ ([(h0, .inr (8, [.int th22, .int (nI tp22), .int (nI rs22), .int (nI ks22), .ref mt, .ref mr_, .ref mk, .ref mo, .ref mh, .ref mse, .ref mhs, .ref msp, .ref msc, .ref mha])), (mse, .inl (g.2.1 0, 8, .inl fS22))] ++ pl) := hD
      obtain ⟨-, -, -, hm29, hm30⟩ := hq23
      obtain ⟨he26, he27, he28, he29, he30⟩ := hm30
      have he26 : th22 = nI 1 := he26
      have he27 : tp22 = tp := he27
      have he28 : rs22 = rs := he28
      have he29 : ks22 = ks := he29
      obtain rfl := he30
      refine W.widen (k := 0) (n := 0) (by omega) (by omega) ?_
      exact mp_iret hx hb hr hlk hP hD hS ((th22, tp22, rs22, ks22, fS22), pl) ⟨⟨(by show tp22 ≤ 16384; omega), (by show rs22 ≤ 8192; omega), (by show ks22 ≤ 8; omega), hm29⟩, hO⟩ [0, 1] rfl rfl rfl (by omega) (by omega) dM_sign_37
    | 1, _, ey21 =>
      refine mi_as ey21 ?_
      refine lv_iconst (v := nI 3) hx hb dM_sign_19 (by decide) ?_
      refine mi_lt (tgt := 32) hx hb dM_sign_20 (by decide) (by omega) (by omega) (fun h24 => ?_) (fun h24 => absurd h24 (by omega))
      refine lv_aload_n hx hb dM_sign_32 rfl (lv_at hl 0 rfl) ?_
      refine lv_iconst (v := nI 1) hx hb dM_sign_33 (by decide) ?_
      refine mp_i (cx := [(h0, .inr (8, [.int (nI 0), .int (nI tp), .int (nI rs), .int (nI ks), .ref mt, .ref mr_, .ref mk, .ref mo, .ref mh, .ref mse, .ref mhs, .ref msp, .ref msc, .ref mha])), (mse, .inl (g.2.1 0, 8, .inl fS))]) (wr := []) hP hD hS hA [0, 1] [] rfl rfl rfl (by decide) (va_runV (As := [.int (nI 1)]) (rest := []) F (t_M_fail l g _ T  pl hO hU  (nI 1) h0 mt mr_ mk mo mh mse mhs msp msc mha tp rs ks (nI 0) fS k_mt k_mr_ k_mk k_mo k_mh k_mhs k_msp k_msc k_mha (by omega) hS5) (cwV 1 hts (wg_app (wg_c kw_1577 (wg_c kw_1579 (wg_c ks_50 (wg_c kw_9 wg_n)))) kw_1580) rfl rfl rfl (by decide +kernel) ⟨by decide, by decide⟩) (pp_V (en_ok g) (q0 := 0) hK hP hD hS hA hE [0, 1] rfl rfl rfl rfl) rfl rfl hl.1 rfl (lv_room (Nat.le_of_ble_eq_true rfl)) dM_sign_34 ⟨by omega, by omega⟩) (fun r24 u25 H locs hu24 hP hD hS => ?_)
      obtain ⟨u26, pl⟩ := u25
      obtain ⟨hq24, hO⟩ := hu24
      obtain ⟨th23, tp23, rs23, ks23, fS23⟩ := u26
      have hP : va_P g.1 vcl ([(h0, .inr (8, [.int th23, .int (nI tp23), .int (nI rs23), .int (nI ks23), .ref mt, .ref mr_, .ref mk, .ref mo, .ref mh, .ref mse, .ref mhs, .ref msp, .ref msc, .ref mha])), (mse, .inl (g.2.1 0, 8, .inl fS23))] ++ pl) _ := hP
      have hD : va_D _ ([(h0, .inr (8, [.int th23, .int (nI tp23), .int (nI rs23), .int (nI ks23), .ref mt, .ref mr_, .ref mk, .ref mo, .ref mh, .ref mse, .ref mhs, .ref msp, .ref msc, .ref mha])), (mse, .inl (g.2.1 0, 8, .inl fS23))] ++ pl) := hD
      obtain ⟨-, -, -, hm34, hm35⟩ := hq24
      obtain ⟨he31, he32, he33, he34, he35⟩ := hm35
      have he31 : th23 = nI 1 := he31
      have he32 : tp23 = tp := he32
      have he33 : rs23 = rs := he33
      have he34 : ks23 = ks := he34
      obtain rfl := he35
      refine W.widen (k := 0) (n := 0) (by omega) (by omega) ?_
      exact mp_iret hx hb hr hlk hP hD hS ((th23, tp23, rs23, ks23, fS23), pl) ⟨⟨(by show tp23 ≤ 16384; omega), (by show rs23 ≤ 8192; omega), (by show ks23 ≤ 8; omega), hm34⟩, hO⟩ [0, 1] rfl rfl rfl (by omega) (by omega) dM_sign_37
    | 2, _, ey21 =>
      refine mi_as ey21 ?_
      refine lv_iconst (v := nI 3) hx hb dM_sign_19 (by decide) ?_
      refine mi_lt (tgt := 32) hx hb dM_sign_20 (by decide) (by omega) (by omega) (fun h25 => ?_) (fun h25 => absurd h25 (by omega))
      refine lv_aload_n hx hb dM_sign_32 rfl (lv_at hl 0 rfl) ?_
      refine lv_iconst (v := nI 1) hx hb dM_sign_33 (by decide) ?_
      refine mp_i (cx := [(h0, .inr (8, [.int (nI 0), .int (nI tp), .int (nI rs), .int (nI ks), .ref mt, .ref mr_, .ref mk, .ref mo, .ref mh, .ref mse, .ref mhs, .ref msp, .ref msc, .ref mha])), (mse, .inl (g.2.1 0, 8, .inl fS))]) (wr := []) hP hD hS hA [0, 1] [] rfl rfl rfl (by decide) (va_runV (As := [.int (nI 1)]) (rest := []) F (t_M_fail l g _ T  pl hO hU  (nI 1) h0 mt mr_ mk mo mh mse mhs msp msc mha tp rs ks (nI 0) fS k_mt k_mr_ k_mk k_mo k_mh k_mhs k_msp k_msc k_mha (by omega) hS5) (cwV 1 hts (wg_app (wg_c kw_1577 (wg_c kw_1579 (wg_c ks_50 (wg_c kw_9 wg_n)))) kw_1580) rfl rfl rfl (by decide +kernel) ⟨by decide, by decide⟩) (pp_V (en_ok g) (q0 := 0) hK hP hD hS hA hE [0, 1] rfl rfl rfl rfl) rfl rfl hl.1 rfl (lv_room (Nat.le_of_ble_eq_true rfl)) dM_sign_34 ⟨by omega, by omega⟩) (fun r25 u27 H locs hu25 hP hD hS => ?_)
      obtain ⟨u28, pl⟩ := u27
      obtain ⟨hq25, hO⟩ := hu25
      obtain ⟨th24, tp24, rs24, ks24, fS24⟩ := u28
      have hP : va_P g.1 vcl ([(h0, .inr (8, [.int th24, .int (nI tp24), .int (nI rs24), .int (nI ks24), .ref mt, .ref mr_, .ref mk, .ref mo, .ref mh, .ref mse, .ref mhs, .ref msp, .ref msc, .ref mha])), (mse, .inl (g.2.1 0, 8, .inl fS24))] ++ pl) _ := hP
      have hD : va_D _ ([(h0, .inr (8, [.int th24, .int (nI tp24), .int (nI rs24), .int (nI ks24), .ref mt, .ref mr_, .ref mk, .ref mo, .ref mh, .ref mse, .ref mhs, .ref msp, .ref msc, .ref mha])), (mse, .inl (g.2.1 0, 8, .inl fS24))] ++ pl) := hD
      obtain ⟨-, -, -, hm39, hm40⟩ := hq25
      obtain ⟨he36, he37, he38, he39, he40⟩ := hm40
      have he36 : th24 = nI 1 := he36
      have he37 : tp24 = tp := he37
      have he38 : rs24 = rs := he38
      have he39 : ks24 = ks := he39
      obtain rfl := he40
      refine W.widen (k := 0) (n := 0) (by omega) (by omega) ?_
      exact mp_iret hx hb hr hlk hP hD hS ((th24, tp24, rs24, ks24, fS24), pl) ⟨⟨(by show tp24 ≤ 16384; omega), (by show rs24 ≤ 8192; omega), (by show ks24 ≤ 8; omega), hm39⟩, hO⟩ [0, 1] rfl rfl rfl (by omega) (by omega) dM_sign_37
    | 3, _, ey21 =>
      refine mi_as ey21 ?_
      refine lv_iconst (v := nI 3) hx hb dM_sign_19 (by decide) ?_
      refine mi_lt (tgt := 32) hx hb dM_sign_20 (by decide) (by omega) (by omega) (fun h26 => absurd h26 (by omega)) (fun h26 => ?_)
      refine lv_aload_n hx hb dM_sign_23 rfl (lv_at hl 0 rfl) ?_
      refine va_get (D := g.1) (ci := 8) (C := "LatticeKeysModel") (T := T_M) (N := 14) hx hb hts (wg_ft i_M) hown hK hP 0 rfl rfl 10 (by decide) (hts _ (wg_t kw_1536)) (fun _ h9 => h9) rfl dM_sign_24 ?_
      refine lv_iload_n hx hb dM_sign_27 rfl (lv_at hl 1 rfl) ?_
      refine ty_iald5 hx hb hK hO k_mhs (nxg clo_nil k_mhs rfl) hP (by omega) dM_sign_28 (fun z22 hz22 => ?_)
      refine lv_if_ne (tgt := 38) hx hb dM_sign_29 (by decide) (fun h27 => ?_) (fun h27 => ?_)
      · refine lv_iload_n hx hb dM_sign_38 rfl (lv_at hl 2 rfl) ?_
        refine lv_if_lt (tgt := 60) hx hb dM_sign_39 (by decide) (fun h28 => ?_) (fun h28 => ?_)
        · refine lv_aload_n hx hb dM_sign_60 rfl (lv_at hl 0 rfl) ?_
          refine lv_iconst (v := nI 2) hx hb dM_sign_61 (by decide) ?_
          refine mp_i (cx := [(h0, .inr (8, [.int (nI 0), .int (nI tp), .int (nI rs), .int (nI ks), .ref mt, .ref mr_, .ref mk, .ref mo, .ref mh, .ref mse, .ref mhs, .ref msp, .ref msc, .ref mha])), (mse, .inl (g.2.1 0, 8, .inl fS))]) (wr := []) hP hD hS hA [0, 1] [] rfl rfl rfl (by decide) (va_runV (As := [.int (nI 2)]) (rest := []) F (t_M_fail l g _ T  pl hO hU  (nI 2) h0 mt mr_ mk mo mh mse mhs msp msc mha tp rs ks (nI 0) fS k_mt k_mr_ k_mk k_mo k_mh k_mhs k_msp k_msc k_mha (by omega) hS5) (cwV 1 hts (wg_app (wg_c kw_1577 (wg_c kw_1579 (wg_c ks_50 (wg_c kw_9 wg_n)))) kw_1580) rfl rfl rfl (by decide +kernel) ⟨by decide, by decide⟩) (pp_V (en_ok g) (q0 := 0) hK hP hD hS hA hE [0, 1] rfl rfl rfl rfl) rfl rfl hl.1 rfl (lv_room (Nat.le_of_ble_eq_true rfl)) dM_sign_62 ⟨by omega, by omega⟩) (fun r26 u29 H locs hu26 hP hD hS => ?_)
          obtain ⟨u30, pl⟩ := u29
          obtain ⟨hq26, hO⟩ := hu26
          obtain ⟨th25, tp25, rs25, ks25, fS25⟩ := u30
          have hP : va_P g.1 vcl ([(h0, .inr (8, [.int th25, .int (nI tp25), .int (nI rs25), .int (nI ks25), .ref mt, .ref mr_, .ref mk, .ref mo, .ref mh, .ref mse, .ref mhs, .ref msp, .ref msc, .ref mha])), (mse, .inl (g.2.1 0, 8, .inl fS25))] ++ pl) _ := hP
          have hD : va_D _ ([(h0, .inr (8, [.int th25, .int (nI tp25), .int (nI rs25), .int (nI ks25), .ref mt, .ref mr_, .ref mk, .ref mo, .ref mh, .ref mse, .ref mhs, .ref msp, .ref msc, .ref mha])), (mse, .inl (g.2.1 0, 8, .inl fS25))] ++ pl) := hD
          obtain ⟨-, -, -, hm44, hm45⟩ := hq26
          obtain ⟨he41, he42, he43, he44, he45⟩ := hm45
          have he41 : th25 = nI 2 := he41
          have he42 : tp25 = tp := he42
          have he43 : rs25 = rs := he43
          have he44 : ks25 = ks := he44
          obtain rfl := he45
          refine W.widen (k := 0) (n := 0) (by omega) (by omega) ?_
          exact mp_iret hx hb hr hlk hP hD hS ((th25, tp25, rs25, ks25, fS25), pl) ⟨⟨(by show tp25 ≤ 16384; omega), (by show rs25 ≤ 8192; omega), (by show ks25 ≤ 8; omega), hm44⟩, hO⟩ [0, 1] rfl rfl rfl (by omega) (by omega) dM_sign_65
        · refine lv_iload_n hx hb dM_sign_42 rfl (lv_at hl 2 rfl) ?_
          refine lv_sipush (v := nI 255) hx hb dM_sign_43 (by decide) ?_
          refine lv_icmp_gt (tgt := 60) hx hb dM_sign_46 (by decide) (fun h29 => ?_) (fun h29 => ?_)
          · refine lv_aload_n hx hb dM_sign_60 rfl (lv_at hl 0 rfl) ?_
            refine lv_iconst (v := nI 2) hx hb dM_sign_61 (by decide) ?_
            refine mp_i (cx := [(h0, .inr (8, [.int (nI 0), .int (nI tp), .int (nI rs), .int (nI ks), .ref mt, .ref mr_, .ref mk, .ref mo, .ref mh, .ref mse, .ref mhs, .ref msp, .ref msc, .ref mha])), (mse, .inl (g.2.1 0, 8, .inl fS))]) (wr := []) hP hD hS hA [0, 1] [] rfl rfl rfl (by decide) (va_runV (As := [.int (nI 2)]) (rest := []) F (t_M_fail l g _ T  pl hO hU  (nI 2) h0 mt mr_ mk mo mh mse mhs msp msc mha tp rs ks (nI 0) fS k_mt k_mr_ k_mk k_mo k_mh k_mhs k_msp k_msc k_mha (by omega) hS5) (cwV 1 hts (wg_app (wg_c kw_1577 (wg_c kw_1579 (wg_c ks_50 (wg_c kw_9 wg_n)))) kw_1580) rfl rfl rfl (by decide +kernel) ⟨by decide, by decide⟩) (pp_V (en_ok g) (q0 := 0) hK hP hD hS hA hE [0, 1] rfl rfl rfl rfl) rfl rfl hl.1 rfl (lv_room (Nat.le_of_ble_eq_true rfl)) dM_sign_62 ⟨by omega, by omega⟩) (fun r27 u31 H locs hu27 hP hD hS => ?_)
            obtain ⟨u32, pl⟩ := u31
            obtain ⟨hq27, hO⟩ := hu27
            obtain ⟨th26, tp26, rs26, ks26, fS26⟩ := u32
            have hP : va_P g.1 vcl ([(h0, .inr (8, [.int th26, .int (nI tp26), .int (nI rs26), .int (nI ks26), .ref mt, .ref mr_, .ref mk, .ref mo, .ref mh, .ref mse, .ref mhs, .ref msp, .ref msc, .ref mha])), (mse, .inl (g.2.1 0, 8, .inl fS26))] ++ pl) _ := hP
            have hD : va_D _ ([(h0, .inr (8, [.int th26, .int (nI tp26), .int (nI rs26), .int (nI ks26), .ref mt, .ref mr_, .ref mk, .ref mo, .ref mh, .ref mse, .ref mhs, .ref msp, .ref msc, .ref mha])), (mse, .inl (g.2.1 0, 8, .inl fS26))] ++ pl) := hD
            obtain ⟨-, -, -, hm49, hm50⟩ := hq27
            obtain ⟨he46, he47, he48, he49, he50⟩ := hm50
            have he46 : th26 = nI 2 := he46
            have he47 : tp26 = tp := he47
            have he48 : rs26 = rs := he48
            have he49 : ks26 = ks := he49
            obtain rfl := he50
            refine W.widen (k := 0) (n := 0) (by omega) (by omega) ?_
            exact mp_iret hx hb hr hlk hP hD hS ((th26, tp26, rs26, ks26, fS26), pl) ⟨⟨(by show tp26 ≤ 16384; omega), (by show rs26 ≤ 8192; omega), (by show ks26 ≤ 8; omega), hm49⟩, hO⟩ [0, 1] rfl rfl rfl (by omega) (by omega) dM_sign_65
          · obtain ⟨z23, hz23, rfl⟩ := i32_lex h28 (by omega) h29
            refine lv_aload_n hx hb dM_sign_49 rfl (lv_at hl 0 rfl) ?_
            refine va_get (D := g.1) (ci := 8) (C := "LatticeKeysModel") (T := T_M) (N := 14) hx hb hts (wg_ft i_M) hown hK hP 0 rfl rfl 1 (by decide) (hts _ (wg_t kw_1527)) (fun _ h9 => h9) rfl dM_sign_50 ?_
            refine lv_bipush (v := nI 32) hx hb dM_sign_53 (by decide) ?_
            refine lv_iload_n hx hb dM_sign_55 rfl (lv_at hl 2 rfl) ?_
            refine mi_iadd hx hb dM_sign_56 ?_
            refine mi_ge (tgt := 66) hx hb dM_sign_57 (by decide) (by omega) (by omega) (fun h30 => ?_) (fun h30 => ?_)
            · refine lv_aload_n hx hb dM_sign_66 rfl (lv_at hl 0 rfl) ?_
              refine va_get (D := g.1) (ci := 8) (C := "LatticeKeysModel") (T := T_M) (N := 14) hx hb hts (wg_ft i_M) hown hK hP 0 rfl rfl 13 (by decide) (hts _ (wg_t kw_1539)) (fun _ h9 => h9) rfl dM_sign_67 ?_
              refine lv_aload_n hx hb dM_sign_70 rfl (lv_at hl 0 rfl) ?_
              refine va_get (D := g.1) (ci := 8) (C := "LatticeKeysModel") (T := T_M) (N := 14) hx hb hts (wg_ft i_M) hown hK hP 0 rfl rfl 9 (by decide) (hts _ (wg_t kw_1535)) (fun _ h9 => h9) rfl dM_sign_71 ?_
              refine lv_iload_n hx hb dM_sign_74 rfl (lv_at hl 1 rfl) ?_
              refine mp_iald hx hb hK hP 1 0 rfl rfl (by omega) (by decide) dM_sign_75 ?_
              refine mi_as ey21 ?_
              refine lv_iconst (v := nI 3) hx hb dM_sign_76 (by decide) ?_
              refine mi_isub hx hb dM_sign_77 (by omega) ?_
              refine mi_as (show nI (3 - 3) = nI 0 from rfl) ?_
              refine lv_aload_n hx hb dM_sign_78 rfl (lv_at hl 0 rfl) ?_
              refine va_get (D := g.1) (ci := 8) (C := "LatticeKeysModel") (T := T_M) (N := 14) hx hb hts (wg_ft i_M) hown hK hP 0 rfl rfl 8 (by decide) (hts _ (wg_t kw_1534)) (fun _ h9 => h9) rfl dM_sign_79 ?_
              refine lv_iload_n hx hb dM_sign_82 rfl (lv_at hl 1 rfl) ?_
              refine ty_aald4 hx hb hK hO k_mh (nxg clo_nil k_mh rfl) hP (by omega) dM_sign_83 (fun r28 kr21 => ?_)
              refine lv_aload_n hx hb dM_sign_84 rfl (lv_at hl 0 rfl) ?_
              refine va_get (D := g.1) (ci := 8) (C := "LatticeKeysModel") (T := T_M) (N := 14) hx hb hts (wg_ft i_M) hown hK hP 0 rfl rfl 4 (by decide) (hts _ (wg_t kw_1530)) (fun _ h9 => h9) rfl dM_sign_85 ?_
              refine lv_iload_n hx hb dM_sign_88 rfl (lv_at hl 2 rfl) ?_
              refine lv_aload_n hx hb dM_sign_89 rfl (lv_at hl 0 rfl) ?_
              refine va_get (D := g.1) (ci := 8) (C := "LatticeKeysModel") (T := T_M) (N := 14) hx hb hts (wg_ft i_M) hown hK hP 0 rfl rfl 1 (by decide) (hts _ (wg_t kw_1527)) (fun _ h9 => h9) rfl dM_sign_90 ?_
              refine lv_aload_n hx hb dM_sign_93 rfl (lv_at hl 0 rfl) ?_
              refine va_get (D := g.1) (ci := 8) (C := "LatticeKeysModel") (T := T_M) (N := 14) hx hb hts (wg_ft i_M) hown hK hP 0 rfl rfl 6 (by decide) (hts _ (wg_t kw_1532)) (fun _ h9 => h9) rfl dM_sign_94 ?_
              refine mp_i (cx := []) (wr := [(h0, .inr (8, [.int (nI 0), .int (nI tp), .int (nI rs), .int (nI ks), .ref mt, .ref mr_, .ref mk, .ref mo, .ref mh, .ref mse, .ref mhs, .ref msp, .ref msc, .ref mha])), (mse, .inl (g.2.1 0, 8, .inl fS))]) hP hD hS hA [] [0, 1] rfl rfl rfl (by decide) (va_runV (As := [.int (nI 0), .ref r28, .ref mt, .int (nI z23), .int (nI tp), .ref mk]) (rest := []) F (t_MH_sign_0 l g _ T  pl hO hU  mha r28 mt mk 16384 tp (nI z23) k_mha kr21 k_mt k_mk (by omega) (by omega) (by omega)) (cwV 6 hts (wg_app (wg_c kw_1856 (wg_c kw_1857 (wg_c kw_1858 (wg_c kw_13 wg_n)))) kw_1859) rfl rfl rfl (by decide +kernel) ⟨by decide, by decide⟩) (pp_VT (en_ok g) (ci := 12) (kd := (49, 0)) hK hO k_mha (nxg clo_nil k_mha rfl) (fun _ h9 => ko1 h9) hP hD hS hA hE [] rfl rfl rfl) rfl rfl hl.1 rfl (lv_room (Nat.le_of_ble_eq_true rfl)) dM_sign_97 ⟨by omega, by omega⟩) (fun r29 pl H locs hu28 hP hD hS => ?_)
              obtain ⟨hq28, hO⟩ := hu28
              have hP : va_P g.1 vcl ([(h0, .inr (8, [.int (nI 0), .int (nI tp), .int (nI rs), .int (nI ks), .ref mt, .ref mr_, .ref mk, .ref mo, .ref mh, .ref mse, .ref mhs, .ref msp, .ref msc, .ref mha])), (mse, .inl (g.2.1 0, 8, .inl fS))] ++ pl) _ := hP
              have hD : va_D _ ([(h0, .inr (8, [.int (nI 0), .int (nI tp), .int (nI rs), .int (nI ks), .ref mt, .ref mr_, .ref mk, .ref mo, .ref mh, .ref mse, .ref mhs, .ref msp, .ref msc, .ref mha])), (mse, .inl (g.2.1 0, 8, .inl fS))] ++ pl) := hD
              refine W.widen (k := 0) (n := 0) (by omega) (by omega) ?_
              refine lv_istore_n (lv' := [(3, .int r29), (0, .ref h0), (1, .int (nI z21)), (2, .int (nI z23))]) hx hb dM_sign_100 rfl hl (by decide) rfl (fun ls hl => ?_)
              refine lv_iload_n hx hb dM_sign_101 rfl (lv_at hl 0 rfl) ?_
              refine lv_if_ne (tgt := 111) hx hb dM_sign_102 (by decide) (fun h31 => ?_) (fun h31 => ?_)
              · refine lv_aload_n hx hb dM_sign_111 rfl (lv_at hl 1 rfl) ?_
                refine lv_aload_n hx hb dM_sign_112 rfl (lv_at hl 1 rfl) ?_
                refine va_get (D := g.1) (ci := 8) (C := "LatticeKeysModel") (T := T_M) (N := 14) hx hb hts (wg_ft i_M) hown hK hP 0 rfl rfl 9 (by decide) (hts _ (wg_t kw_1535)) (fun _ h9 => h9) rfl dM_sign_113 ?_
                refine lv_iload_n hx hb dM_sign_116 rfl (lv_at hl 2 rfl) ?_
                refine mp_iald hx hb hK hP 1 0 rfl rfl (by omega) (by decide) dM_sign_117 ?_
                refine mi_as ey21 ?_
                refine lv_iconst (v := nI 3) hx hb dM_sign_118 (by decide) ?_
                refine mi_isub hx hb dM_sign_119 (by omega) ?_
                refine mi_as (show nI (3 - 3) = nI 0 from rfl) ?_
                refine mp_i (cx := []) (wr := [(h0, .inr (8, [.int (nI 0), .int (nI tp), .int (nI rs), .int (nI ks), .ref mt, .ref mr_, .ref mk, .ref mo, .ref mh, .ref mse, .ref mhs, .ref msp, .ref msc, .ref mha])), (mse, .inl (g.2.1 0, 8, .inl fS))]) hP hD hS hA [] [0, 1] rfl rfl rfl (by decide) (va_runS (As := [.int (nI 0)]) (rest := [.ref h0]) F (t_MH_markSize_0 l g _ T [] pl hO hU  ) (va_cwS 1 hts (wg_app (wg_c kw_1918 (wg_c kw_1919 (wg_c kw_13 wg_n))) kw_1920) rfl rfl rfl (by decide +kernel) ⟨by decide, by decide⟩) (pp_S (en_ok g) hP hD hS hA hE [] rfl rfl) rfl rfl hl.1 rfl (lv_room (Nat.le_of_ble_eq_true rfl)) dM_sign_120 ⟨by omega, by omega⟩) (fun r30 pl H locs hu29 hP hD hS => ?_)
                obtain ⟨hq29, hO⟩ := hu29
                have hP : va_P g.1 vcl ([(h0, .inr (8, [.int (nI 0), .int (nI tp), .int (nI rs), .int (nI ks), .ref mt, .ref mr_, .ref mk, .ref mo, .ref mh, .ref mse, .ref mhs, .ref msp, .ref msc, .ref mha])), (mse, .inl (g.2.1 0, 8, .inl fS))] ++ pl) _ := hP
                have hD : va_D _ ([(h0, .inr (8, [.int (nI 0), .int (nI tp), .int (nI rs), .int (nI ks), .ref mt, .ref mr_, .ref mk, .ref mo, .ref mh, .ref mse, .ref mhs, .ref msp, .ref msc, .ref mha])), (mse, .inl (g.2.1 0, 8, .inl fS))] ++ pl) := hD
                obtain rfl := hq29
                refine W.widen (k := 0) (n := 0) (by omega) (by omega) ?_
                refine va_put (D := g.1) (ci := 8) (v := .int (nI 2420)) (ty := .int) (C := "LatticeKeysModel") (T := T_M) (N := 14) hx hb hts (wg_ft i_M) ty_M k_M n_M hown hK hP hD hS 0 rfl rfl 2 (by decide) (hts _ (wg_t kw_1528)) (fun _ h9 => h9) rfl (by decide +kernel) rfl rfl (Nat.le_of_ble_eq_true rfl) dM_sign_123 (fun H locs hP hD hS => ?_)
                have hP : va_P g.1 vcl ([(h0, .inr (8, [.int (nI 0), .int (nI tp), .int (nI 2420), .int (nI ks), .ref mt, .ref mr_, .ref mk, .ref mo, .ref mh, .ref mse, .ref mhs, .ref msp, .ref msc, .ref mha])), (mse, .inl (g.2.1 0, 8, .inl fS))] ++ pl) _ := hP
                have hD : va_D _ ([(h0, .inr (8, [.int (nI 0), .int (nI tp), .int (nI 2420), .int (nI ks), .ref mt, .ref mr_, .ref mk, .ref mo, .ref mh, .ref mse, .ref mhs, .ref msp, .ref msc, .ref mha])), (mse, .inl (g.2.1 0, 8, .inl fS))] ++ pl) := hD
                refine lv_iconst (v := nI 0) hx hb dM_sign_126 (by decide) ?_
                refine lv_istore (lv' := [(4, .int (nI 0)), (3, .int r29), (0, .ref h0), (1, .int (nI z21)), (2, .int (nI z23))]) hx hb dM_sign_127 hl (by decide) rfl (fun ls hl => ?_)
                have lp21 : ∀ (n21 : Nat) (i21 : Nat) (pl : va_W) (ls : Array Slot) (H : Heap) (locs : List Loc), n21 + i21 = 2420 → lv_has ls 5 [(4, .int (nI i21)), (3, .int r29), (0, .ref h0)] → okx g T [] pl → va_P g.1 vcl ([(h0, .inr (8, [.int (nI 0), .int (nI tp), .int (nI 2420), .int (nI ks), .ref mt, .ref mr_, .ref mk, .ref mo, .ref mh, .ref mse, .ref mhs, .ref msp, .ref msc, .ref mha])), (mse, .inl (g.2.1 0, 8, .inl fS))] ++ pl) H → va_D A ([(h0, .inr (8, [.int (nI 0), .int (nI tp), .int (nI 2420), .int (nI ks), .ref mt, .ref mr_, .ref mk, .ref mo, .ref mh, .ref mse, .ref mhs, .ref msp, .ref msc, .ref mha])), (mse, .inl (g.2.1 0, 8, .inl fS))] ++ pl) → va_S A s.heap H locs → W p l e ({ frames := 6, cells := 0, slots := 0, locals := 152 } : Room) s m args below meth c H locs 0 0 (MQ below (va_Qi (fun (r : Int32) (u : (Int32 × Nat × Nat × Nat × (Nat → Int32)) × va_W) => (u.1.2.1 ≤ 16384 ∧ u.1.2.2.1 ≤ 8192 ∧ u.1.2.2.2.1 ≤ 8 ∧ s5 u.1.2.2.2.2) ∧ okx g T [] u.2) (po g.1 vcl A (fun (u : (Int32 × Nat × Nat × Nat × (Nat → Int32)) × va_W) => [(h0, .inr (8, [.int u.1.1, .int (nI (u.1.2.1)), .int (nI (u.1.2.2.1)), .int (nI (u.1.2.2.2.1)), .ref mt, .ref mr_, .ref mk, .ref mo, .ref mh, .ref mse, .ref mhs, .ref msp, .ref msc, .ref mha])), (mse, .inl (g.2.1 0, 8, .inl ((u.1.2.2.2.2))))] ++ u.2)) A) args s 0 0 A) (F0 m 129 ls []) := by
                  intro n21
                  induction n21 with
                  | zero =>
                    intro i21 pl ls H locs hm51  hl hO hP hD hS
                    refine lv_iload hx hb dM_sign_129 (lv_at hl 0 rfl) ?_
                    refine lv_aload_n hx hb dM_sign_131 rfl (lv_at hl 2 rfl) ?_
                    refine va_get (D := g.1) (ci := 8) (C := "LatticeKeysModel") (T := T_M) (N := 14) hx hb hts (wg_ft i_M) hown hK hP 0 rfl rfl 2 (by decide) (hts _ (wg_t kw_1528)) (fun _ h9 => h9) rfl dM_sign_132 ?_
                    refine mi_ge (tgt := 158) hx hb dM_sign_135 (by decide) (by omega) (by omega) (fun h32 => ?_) (fun h32 => absurd h32 (by omega))
                    refine lv_aload_n hx hb dM_sign_158 rfl (lv_at hl 2 rfl) ?_
                    refine lv_iconst (v := nI 0) hx hb dM_sign_159 (by decide) ?_
                    refine va_put (D := g.1) (ci := 8) (v := .int (nI 0)) (ty := .int) (C := "LatticeKeysModel") (T := T_M) (N := 14) hx hb hts (wg_ft i_M) ty_M k_M n_M hown hK hP hD hS 0 rfl rfl 1 (by decide) (hts _ (wg_t kw_1527)) (fun _ h9 => h9) rfl (by decide +kernel) rfl rfl (Nat.le_of_ble_eq_true rfl) dM_sign_160 (fun H locs hP hD hS => ?_)
                    have hP : va_P g.1 vcl ([(h0, .inr (8, [.int (nI 0), .int (nI 0), .int (nI 2420), .int (nI ks), .ref mt, .ref mr_, .ref mk, .ref mo, .ref mh, .ref mse, .ref mhs, .ref msp, .ref msc, .ref mha])), (mse, .inl (g.2.1 0, 8, .inl fS))] ++ pl) _ := hP
                    have hD : va_D _ ([(h0, .inr (8, [.int (nI 0), .int (nI 0), .int (nI 2420), .int (nI ks), .ref mt, .ref mr_, .ref mk, .ref mo, .ref mh, .ref mse, .ref mhs, .ref msp, .ref msc, .ref mha])), (mse, .inl (g.2.1 0, 8, .inl fS))] ++ pl) := hD
                    refine lv_iload_n hx hb dM_sign_163 rfl (lv_at hl 1 rfl) ?_
                    exact mp_iret hx hb hr hlk hP hD hS ((nI 0, 0, 2420, ks, fS), pl) ⟨⟨(by show 0 ≤ 16384; omega), (by show 2420 ≤ 8192; omega), (by show ks ≤ 8; omega), hS5⟩, hO⟩ [0, 1] rfl rfl rfl (by omega) (by omega) dM_sign_164
                  | succ n21 ih21 =>
                    intro i21 pl ls H locs hm51  hl hO hP hD hS
                    refine lv_iload hx hb dM_sign_129 (lv_at hl 0 rfl) ?_
                    refine lv_aload_n hx hb dM_sign_131 rfl (lv_at hl 2 rfl) ?_
                    refine va_get (D := g.1) (ci := 8) (C := "LatticeKeysModel") (T := T_M) (N := 14) hx hb hts (wg_ft i_M) hown hK hP 0 rfl rfl 2 (by decide) (hts _ (wg_t kw_1528)) (fun _ h9 => h9) rfl dM_sign_132 ?_
                    refine mi_ge (tgt := 158) hx hb dM_sign_135 (by decide) (by omega) (by omega) (fun h33 => absurd h33 (by omega)) (fun h33 => ?_)
                    refine lv_aload_n hx hb dM_sign_138 rfl (lv_at hl 2 rfl) ?_
                    refine va_get (D := g.1) (ci := 8) (C := "LatticeKeysModel") (T := T_M) (N := 14) hx hb hts (wg_ft i_M) hown hK hP 0 rfl rfl 5 (by decide) (hts _ (wg_t kw_1531)) (fun _ h9 => h9) rfl dM_sign_139 ?_
                    refine lv_iload hx hb dM_sign_142 (lv_at hl 0 rfl) ?_
                    refine lv_aload_n hx hb dM_sign_144 rfl (lv_at hl 2 rfl) ?_
                    refine va_get (D := g.1) (ci := 8) (C := "LatticeKeysModel") (T := T_M) (N := 14) hx hb hts (wg_ft i_M) hown hK hP 0 rfl rfl 6 (by decide) (hts _ (wg_t kw_1532)) (fun _ h9 => h9) rfl dM_sign_145 ?_
                    refine lv_iload hx hb dM_sign_148 (lv_at hl 0 rfl) ?_
                    refine ty_bald hx hb hK hO k_mk (nxg clo_nil k_mk rfl) hP (vp_in_nI (by omega) (by decide)) dM_sign_150 (fun z24 => ?_)
                    refine ty_bast hx hb hK hO k_mr_ (nxg clo_nil k_mr_ rfl) hP hD hS (vp_in_nI (by omega) (by decide)) dM_sign_151 (fun pl H locs hO hP hD hS => ?_)
                    refine mi_iinc (k := 0) (x := i21) (d := 1) (y := i21 + 1) (lv' := [(4, .int (nI (i21 + 1))), (3, .int r29), (0, .ref h0)]) hx hb dM_sign_152 hl rfl (by decide) rfl (by decide) rfl (fun ls hl => ?_)
                    refine lv_goto (tgt := 129) hx hb dM_sign_155 (by decide) ?_
                    exact ih21 (i21 + 1) pl ls H locs (by omega) (lv_sub hl [0, 1, 2] rfl) hO hP hD hS
                exact lp21 2420 0 pl ls _ _ (by omega) (lv_sub hl [0, 1, 2] rfl) hO hP hD hS
              · refine lv_aload_n hx hb dM_sign_105 rfl (lv_at hl 1 rfl) ?_
                refine lv_iconst (v := nI 3) hx hb dM_sign_106 (by decide) ?_
                refine mp_i (cx := [(h0, .inr (8, [.int (nI 0), .int (nI tp), .int (nI rs), .int (nI ks), .ref mt, .ref mr_, .ref mk, .ref mo, .ref mh, .ref mse, .ref mhs, .ref msp, .ref msc, .ref mha])), (mse, .inl (g.2.1 0, 8, .inl fS))]) (wr := []) hP hD hS hA [0, 1] [] rfl rfl rfl (by decide) (va_runV (As := [.int (nI 3)]) (rest := []) F (t_M_fail l g _ T  pl hO hU  (nI 3) h0 mt mr_ mk mo mh mse mhs msp msc mha tp rs ks (nI 0) fS k_mt k_mr_ k_mk k_mo k_mh k_mhs k_msp k_msc k_mha (by omega) hS5) (cwV 1 hts (wg_app (wg_c kw_1577 (wg_c kw_1579 (wg_c ks_50 (wg_c kw_9 wg_n)))) kw_1580) rfl rfl rfl (by decide +kernel) ⟨by decide, by decide⟩) (pp_V (en_ok g) (q0 := 0) hK hP hD hS hA hE [0, 1] rfl rfl rfl rfl) rfl rfl hl.1 rfl (lv_room (Nat.le_of_ble_eq_true rfl)) dM_sign_107 ⟨by omega, by omega⟩) (fun r31 u33 H locs hu30 hP hD hS => ?_)
                obtain ⟨u34, pl⟩ := u33
                obtain ⟨hq30, hO⟩ := hu30
                obtain ⟨th27, tp27, rs27, ks27, fS27⟩ := u34
                have hP : va_P g.1 vcl ([(h0, .inr (8, [.int th27, .int (nI tp27), .int (nI rs27), .int (nI ks27), .ref mt, .ref mr_, .ref mk, .ref mo, .ref mh, .ref mse, .ref mhs, .ref msp, .ref msc, .ref mha])), (mse, .inl (g.2.1 0, 8, .inl fS27))] ++ pl) _ := hP
                have hD : va_D _ ([(h0, .inr (8, [.int th27, .int (nI tp27), .int (nI rs27), .int (nI ks27), .ref mt, .ref mr_, .ref mk, .ref mo, .ref mh, .ref mse, .ref mhs, .ref msp, .ref msc, .ref mha])), (mse, .inl (g.2.1 0, 8, .inl fS27))] ++ pl) := hD
                obtain ⟨-, -, -, hm55, hm56⟩ := hq30
                obtain ⟨he51, he52, he53, he54, he55⟩ := hm56
                have he51 : th27 = nI 3 := he51
                have he52 : tp27 = tp := he52
                have he53 : rs27 = rs := he53
                have he54 : ks27 = ks := he54
                obtain rfl := he55
                refine W.widen (k := 0) (n := 0) (by omega) (by omega) ?_
                exact mp_iret hx hb hr hlk hP hD hS ((th27, tp27, rs27, ks27, fS27), pl) ⟨⟨(by show tp27 ≤ 16384; omega), (by show rs27 ≤ 8192; omega), (by show ks27 ≤ 8; omega), hm55⟩, hO⟩ [0, 1] rfl rfl rfl (by omega) (by omega) dM_sign_110
            · refine lv_aload_n hx hb dM_sign_60 rfl (lv_at hl 0 rfl) ?_
              refine lv_iconst (v := nI 2) hx hb dM_sign_61 (by decide) ?_
              refine mp_i (cx := [(h0, .inr (8, [.int (nI 0), .int (nI tp), .int (nI rs), .int (nI ks), .ref mt, .ref mr_, .ref mk, .ref mo, .ref mh, .ref mse, .ref mhs, .ref msp, .ref msc, .ref mha])), (mse, .inl (g.2.1 0, 8, .inl fS))]) (wr := []) hP hD hS hA [0, 1] [] rfl rfl rfl (by decide) (va_runV (As := [.int (nI 2)]) (rest := []) F (t_M_fail l g _ T  pl hO hU  (nI 2) h0 mt mr_ mk mo mh mse mhs msp msc mha tp rs ks (nI 0) fS k_mt k_mr_ k_mk k_mo k_mh k_mhs k_msp k_msc k_mha (by omega) hS5) (cwV 1 hts (wg_app (wg_c kw_1577 (wg_c kw_1579 (wg_c ks_50 (wg_c kw_9 wg_n)))) kw_1580) rfl rfl rfl (by decide +kernel) ⟨by decide, by decide⟩) (pp_V (en_ok g) (q0 := 0) hK hP hD hS hA hE [0, 1] rfl rfl rfl rfl) rfl rfl hl.1 rfl (lv_room (Nat.le_of_ble_eq_true rfl)) dM_sign_62 ⟨by omega, by omega⟩) (fun r32 u35 H locs hu31 hP hD hS => ?_)
              obtain ⟨u36, pl⟩ := u35
              obtain ⟨hq31, hO⟩ := hu31
              obtain ⟨th28, tp28, rs28, ks28, fS28⟩ := u36
              have hP : va_P g.1 vcl ([(h0, .inr (8, [.int th28, .int (nI tp28), .int (nI rs28), .int (nI ks28), .ref mt, .ref mr_, .ref mk, .ref mo, .ref mh, .ref mse, .ref mhs, .ref msp, .ref msc, .ref mha])), (mse, .inl (g.2.1 0, 8, .inl fS28))] ++ pl) _ := hP
              have hD : va_D _ ([(h0, .inr (8, [.int th28, .int (nI tp28), .int (nI rs28), .int (nI ks28), .ref mt, .ref mr_, .ref mk, .ref mo, .ref mh, .ref mse, .ref mhs, .ref msp, .ref msc, .ref mha])), (mse, .inl (g.2.1 0, 8, .inl fS28))] ++ pl) := hD
              obtain ⟨-, -, -, hm60, hm61⟩ := hq31
              obtain ⟨he56, he57, he58, he59, he60⟩ := hm61
              have he56 : th28 = nI 2 := he56
              have he57 : tp28 = tp := he57
              have he58 : rs28 = rs := he58
              have he59 : ks28 = ks := he59
              obtain rfl := he60
              refine W.widen (k := 0) (n := 0) (by omega) (by omega) ?_
              exact mp_iret hx hb hr hlk hP hD hS ((th28, tp28, rs28, ks28, fS28), pl) ⟨⟨(by show tp28 ≤ 16384; omega), (by show rs28 ≤ 8192; omega), (by show ks28 ≤ 8; omega), hm60⟩, hO⟩ [0, 1] rfl rfl rfl (by omega) (by omega) dM_sign_65
      · refine lv_aload_n hx hb dM_sign_32 rfl (lv_at hl 0 rfl) ?_
        refine lv_iconst (v := nI 1) hx hb dM_sign_33 (by decide) ?_
        refine mp_i (cx := [(h0, .inr (8, [.int (nI 0), .int (nI tp), .int (nI rs), .int (nI ks), .ref mt, .ref mr_, .ref mk, .ref mo, .ref mh, .ref mse, .ref mhs, .ref msp, .ref msc, .ref mha])), (mse, .inl (g.2.1 0, 8, .inl fS))]) (wr := []) hP hD hS hA [0, 1] [] rfl rfl rfl (by decide) (va_runV (As := [.int (nI 1)]) (rest := []) F (t_M_fail l g _ T  pl hO hU  (nI 1) h0 mt mr_ mk mo mh mse mhs msp msc mha tp rs ks (nI 0) fS k_mt k_mr_ k_mk k_mo k_mh k_mhs k_msp k_msc k_mha (by omega) hS5) (cwV 1 hts (wg_app (wg_c kw_1577 (wg_c kw_1579 (wg_c ks_50 (wg_c kw_9 wg_n)))) kw_1580) rfl rfl rfl (by decide +kernel) ⟨by decide, by decide⟩) (pp_V (en_ok g) (q0 := 0) hK hP hD hS hA hE [0, 1] rfl rfl rfl rfl) rfl rfl hl.1 rfl (lv_room (Nat.le_of_ble_eq_true rfl)) dM_sign_34 ⟨by omega, by omega⟩) (fun r33 u37 H locs hu32 hP hD hS => ?_)
        obtain ⟨u38, pl⟩ := u37
        obtain ⟨hq32, hO⟩ := hu32
        obtain ⟨th29, tp29, rs29, ks29, fS29⟩ := u38
        have hP : va_P g.1 vcl ([(h0, .inr (8, [.int th29, .int (nI tp29), .int (nI rs29), .int (nI ks29), .ref mt, .ref mr_, .ref mk, .ref mo, .ref mh, .ref mse, .ref mhs, .ref msp, .ref msc, .ref mha])), (mse, .inl (g.2.1 0, 8, .inl fS29))] ++ pl) _ := hP
        have hD : va_D _ ([(h0, .inr (8, [.int th29, .int (nI tp29), .int (nI rs29), .int (nI ks29), .ref mt, .ref mr_, .ref mk, .ref mo, .ref mh, .ref mse, .ref mhs, .ref msp, .ref msc, .ref mha])), (mse, .inl (g.2.1 0, 8, .inl fS29))] ++ pl) := hD
        obtain ⟨-, -, -, hm65, hm66⟩ := hq32
        obtain ⟨he61, he62, he63, he64, he65⟩ := hm66
        have he61 : th29 = nI 1 := he61
        have he62 : tp29 = tp := he62
        have he63 : rs29 = rs := he63
        have he64 : ks29 = ks := he64
        obtain rfl := he65
        refine W.widen (k := 0) (n := 0) (by omega) (by omega) ?_
        exact mp_iret hx hb hr hlk hP hD hS ((th29, tp29, rs29, ks29, fS29), pl) ⟨⟨(by show tp29 ≤ 16384; omega), (by show rs29 ≤ 8192; omega), (by show ks29 ≤ 8; omega), hm65⟩, hO⟩ [0, 1] rfl rfl rfl (by omega) (by omega) dM_sign_37
    | 4, _, ey21 =>
      refine mi_as ey21 ?_
      refine lv_iconst (v := nI 3) hx hb dM_sign_19 (by decide) ?_
      refine mi_lt (tgt := 32) hx hb dM_sign_20 (by decide) (by omega) (by omega) (fun h34 => absurd h34 (by omega)) (fun h34 => ?_)
      refine lv_aload_n hx hb dM_sign_23 rfl (lv_at hl 0 rfl) ?_
      refine va_get (D := g.1) (ci := 8) (C := "LatticeKeysModel") (T := T_M) (N := 14) hx hb hts (wg_ft i_M) hown hK hP 0 rfl rfl 10 (by decide) (hts _ (wg_t kw_1536)) (fun _ h9 => h9) rfl dM_sign_24 ?_
      refine lv_iload_n hx hb dM_sign_27 rfl (lv_at hl 1 rfl) ?_
      refine ty_iald5 hx hb hK hO k_mhs (nxg clo_nil k_mhs rfl) hP (by omega) dM_sign_28 (fun z25 hz24 => ?_)
      refine lv_if_ne (tgt := 38) hx hb dM_sign_29 (by decide) (fun h35 => ?_) (fun h35 => ?_)
      · refine lv_iload_n hx hb dM_sign_38 rfl (lv_at hl 2 rfl) ?_
        refine lv_if_lt (tgt := 60) hx hb dM_sign_39 (by decide) (fun h36 => ?_) (fun h36 => ?_)
        · refine lv_aload_n hx hb dM_sign_60 rfl (lv_at hl 0 rfl) ?_
          refine lv_iconst (v := nI 2) hx hb dM_sign_61 (by decide) ?_
          refine mp_i (cx := [(h0, .inr (8, [.int (nI 0), .int (nI tp), .int (nI rs), .int (nI ks), .ref mt, .ref mr_, .ref mk, .ref mo, .ref mh, .ref mse, .ref mhs, .ref msp, .ref msc, .ref mha])), (mse, .inl (g.2.1 0, 8, .inl fS))]) (wr := []) hP hD hS hA [0, 1] [] rfl rfl rfl (by decide) (va_runV (As := [.int (nI 2)]) (rest := []) F (t_M_fail l g _ T  pl hO hU  (nI 2) h0 mt mr_ mk mo mh mse mhs msp msc mha tp rs ks (nI 0) fS k_mt k_mr_ k_mk k_mo k_mh k_mhs k_msp k_msc k_mha (by omega) hS5) (cwV 1 hts (wg_app (wg_c kw_1577 (wg_c kw_1579 (wg_c ks_50 (wg_c kw_9 wg_n)))) kw_1580) rfl rfl rfl (by decide +kernel) ⟨by decide, by decide⟩) (pp_V (en_ok g) (q0 := 0) hK hP hD hS hA hE [0, 1] rfl rfl rfl rfl) rfl rfl hl.1 rfl (lv_room (Nat.le_of_ble_eq_true rfl)) dM_sign_62 ⟨by omega, by omega⟩) (fun r34 u39 H locs hu33 hP hD hS => ?_)
          obtain ⟨u40, pl⟩ := u39
          obtain ⟨hq33, hO⟩ := hu33
          obtain ⟨th30, tp30, rs30, ks30, fS30⟩ := u40
          have hP : va_P g.1 vcl ([(h0, .inr (8, [.int th30, .int (nI tp30), .int (nI rs30), .int (nI ks30), .ref mt, .ref mr_, .ref mk, .ref mo, .ref mh, .ref mse, .ref mhs, .ref msp, .ref msc, .ref mha])), (mse, .inl (g.2.1 0, 8, .inl fS30))] ++ pl) _ := hP
          have hD : va_D _ ([(h0, .inr (8, [.int th30, .int (nI tp30), .int (nI rs30), .int (nI ks30), .ref mt, .ref mr_, .ref mk, .ref mo, .ref mh, .ref mse, .ref mhs, .ref msp, .ref msc, .ref mha])), (mse, .inl (g.2.1 0, 8, .inl fS30))] ++ pl) := hD
          obtain ⟨-, -, -, hm70, hm71⟩ := hq33
          obtain ⟨he66, he67, he68, he69, he70⟩ := hm71
          have he66 : th30 = nI 2 := he66
          have he67 : tp30 = tp := he67
          have he68 : rs30 = rs := he68
          have he69 : ks30 = ks := he69
          obtain rfl := he70
          refine W.widen (k := 0) (n := 0) (by omega) (by omega) ?_
          exact mp_iret hx hb hr hlk hP hD hS ((th30, tp30, rs30, ks30, fS30), pl) ⟨⟨(by show tp30 ≤ 16384; omega), (by show rs30 ≤ 8192; omega), (by show ks30 ≤ 8; omega), hm70⟩, hO⟩ [0, 1] rfl rfl rfl (by omega) (by omega) dM_sign_65
        · refine lv_iload_n hx hb dM_sign_42 rfl (lv_at hl 2 rfl) ?_
          refine lv_sipush (v := nI 255) hx hb dM_sign_43 (by decide) ?_
          refine lv_icmp_gt (tgt := 60) hx hb dM_sign_46 (by decide) (fun h37 => ?_) (fun h37 => ?_)
          · refine lv_aload_n hx hb dM_sign_60 rfl (lv_at hl 0 rfl) ?_
            refine lv_iconst (v := nI 2) hx hb dM_sign_61 (by decide) ?_
            refine mp_i (cx := [(h0, .inr (8, [.int (nI 0), .int (nI tp), .int (nI rs), .int (nI ks), .ref mt, .ref mr_, .ref mk, .ref mo, .ref mh, .ref mse, .ref mhs, .ref msp, .ref msc, .ref mha])), (mse, .inl (g.2.1 0, 8, .inl fS))]) (wr := []) hP hD hS hA [0, 1] [] rfl rfl rfl (by decide) (va_runV (As := [.int (nI 2)]) (rest := []) F (t_M_fail l g _ T  pl hO hU  (nI 2) h0 mt mr_ mk mo mh mse mhs msp msc mha tp rs ks (nI 0) fS k_mt k_mr_ k_mk k_mo k_mh k_mhs k_msp k_msc k_mha (by omega) hS5) (cwV 1 hts (wg_app (wg_c kw_1577 (wg_c kw_1579 (wg_c ks_50 (wg_c kw_9 wg_n)))) kw_1580) rfl rfl rfl (by decide +kernel) ⟨by decide, by decide⟩) (pp_V (en_ok g) (q0 := 0) hK hP hD hS hA hE [0, 1] rfl rfl rfl rfl) rfl rfl hl.1 rfl (lv_room (Nat.le_of_ble_eq_true rfl)) dM_sign_62 ⟨by omega, by omega⟩) (fun r35 u41 H locs hu34 hP hD hS => ?_)
            obtain ⟨u42, pl⟩ := u41
            obtain ⟨hq34, hO⟩ := hu34
            obtain ⟨th31, tp31, rs31, ks31, fS31⟩ := u42
            have hP : va_P g.1 vcl ([(h0, .inr (8, [.int th31, .int (nI tp31), .int (nI rs31), .int (nI ks31), .ref mt, .ref mr_, .ref mk, .ref mo, .ref mh, .ref mse, .ref mhs, .ref msp, .ref msc, .ref mha])), (mse, .inl (g.2.1 0, 8, .inl fS31))] ++ pl) _ := hP
            have hD : va_D _ ([(h0, .inr (8, [.int th31, .int (nI tp31), .int (nI rs31), .int (nI ks31), .ref mt, .ref mr_, .ref mk, .ref mo, .ref mh, .ref mse, .ref mhs, .ref msp, .ref msc, .ref mha])), (mse, .inl (g.2.1 0, 8, .inl fS31))] ++ pl) := hD
            obtain ⟨-, -, -, hm75, hm76⟩ := hq34
            obtain ⟨he71, he72, he73, he74, he75⟩ := hm76
            have he71 : th31 = nI 2 := he71
            have he72 : tp31 = tp := he72
            have he73 : rs31 = rs := he73
            have he74 : ks31 = ks := he74
            obtain rfl := he75
            refine W.widen (k := 0) (n := 0) (by omega) (by omega) ?_
            exact mp_iret hx hb hr hlk hP hD hS ((th31, tp31, rs31, ks31, fS31), pl) ⟨⟨(by show tp31 ≤ 16384; omega), (by show rs31 ≤ 8192; omega), (by show ks31 ≤ 8; omega), hm75⟩, hO⟩ [0, 1] rfl rfl rfl (by omega) (by omega) dM_sign_65
          · obtain ⟨z26, hz25, rfl⟩ := i32_lex h36 (by omega) h37
            refine lv_aload_n hx hb dM_sign_49 rfl (lv_at hl 0 rfl) ?_
            refine va_get (D := g.1) (ci := 8) (C := "LatticeKeysModel") (T := T_M) (N := 14) hx hb hts (wg_ft i_M) hown hK hP 0 rfl rfl 1 (by decide) (hts _ (wg_t kw_1527)) (fun _ h9 => h9) rfl dM_sign_50 ?_
            refine lv_bipush (v := nI 32) hx hb dM_sign_53 (by decide) ?_
            refine lv_iload_n hx hb dM_sign_55 rfl (lv_at hl 2 rfl) ?_
            refine mi_iadd hx hb dM_sign_56 ?_
            refine mi_ge (tgt := 66) hx hb dM_sign_57 (by decide) (by omega) (by omega) (fun h38 => ?_) (fun h38 => ?_)
            · refine lv_aload_n hx hb dM_sign_66 rfl (lv_at hl 0 rfl) ?_
              refine va_get (D := g.1) (ci := 8) (C := "LatticeKeysModel") (T := T_M) (N := 14) hx hb hts (wg_ft i_M) hown hK hP 0 rfl rfl 13 (by decide) (hts _ (wg_t kw_1539)) (fun _ h9 => h9) rfl dM_sign_67 ?_
              refine lv_aload_n hx hb dM_sign_70 rfl (lv_at hl 0 rfl) ?_
              refine va_get (D := g.1) (ci := 8) (C := "LatticeKeysModel") (T := T_M) (N := 14) hx hb hts (wg_ft i_M) hown hK hP 0 rfl rfl 9 (by decide) (hts _ (wg_t kw_1535)) (fun _ h9 => h9) rfl dM_sign_71 ?_
              refine lv_iload_n hx hb dM_sign_74 rfl (lv_at hl 1 rfl) ?_
              refine mp_iald hx hb hK hP 1 0 rfl rfl (by omega) (by decide) dM_sign_75 ?_
              refine mi_as ey21 ?_
              refine lv_iconst (v := nI 3) hx hb dM_sign_76 (by decide) ?_
              refine mi_isub hx hb dM_sign_77 (by omega) ?_
              refine mi_as (show nI (4 - 3) = nI 1 from rfl) ?_
              refine lv_aload_n hx hb dM_sign_78 rfl (lv_at hl 0 rfl) ?_
              refine va_get (D := g.1) (ci := 8) (C := "LatticeKeysModel") (T := T_M) (N := 14) hx hb hts (wg_ft i_M) hown hK hP 0 rfl rfl 8 (by decide) (hts _ (wg_t kw_1534)) (fun _ h9 => h9) rfl dM_sign_79 ?_
              refine lv_iload_n hx hb dM_sign_82 rfl (lv_at hl 1 rfl) ?_
              refine ty_aald4 hx hb hK hO k_mh (nxg clo_nil k_mh rfl) hP (by omega) dM_sign_83 (fun r36 kr22 => ?_)
              refine lv_aload_n hx hb dM_sign_84 rfl (lv_at hl 0 rfl) ?_
              refine va_get (D := g.1) (ci := 8) (C := "LatticeKeysModel") (T := T_M) (N := 14) hx hb hts (wg_ft i_M) hown hK hP 0 rfl rfl 4 (by decide) (hts _ (wg_t kw_1530)) (fun _ h9 => h9) rfl dM_sign_85 ?_
              refine lv_iload_n hx hb dM_sign_88 rfl (lv_at hl 2 rfl) ?_
              refine lv_aload_n hx hb dM_sign_89 rfl (lv_at hl 0 rfl) ?_
              refine va_get (D := g.1) (ci := 8) (C := "LatticeKeysModel") (T := T_M) (N := 14) hx hb hts (wg_ft i_M) hown hK hP 0 rfl rfl 1 (by decide) (hts _ (wg_t kw_1527)) (fun _ h9 => h9) rfl dM_sign_90 ?_
              refine lv_aload_n hx hb dM_sign_93 rfl (lv_at hl 0 rfl) ?_
              refine va_get (D := g.1) (ci := 8) (C := "LatticeKeysModel") (T := T_M) (N := 14) hx hb hts (wg_ft i_M) hown hK hP 0 rfl rfl 6 (by decide) (hts _ (wg_t kw_1532)) (fun _ h9 => h9) rfl dM_sign_94 ?_
              refine mp_i (cx := []) (wr := [(h0, .inr (8, [.int (nI 0), .int (nI tp), .int (nI rs), .int (nI ks), .ref mt, .ref mr_, .ref mk, .ref mo, .ref mh, .ref mse, .ref mhs, .ref msp, .ref msc, .ref mha])), (mse, .inl (g.2.1 0, 8, .inl fS))]) hP hD hS hA [] [0, 1] rfl rfl rfl (by decide) (va_runV (As := [.int (nI 1), .ref r36, .ref mt, .int (nI z26), .int (nI tp), .ref mk]) (rest := []) F (t_MH_sign_1 l g _ T  pl hO hU  mha r36 mt mk 16384 tp (nI z26) k_mha kr22 k_mt k_mk (by omega) (by omega) (by omega)) (cwV 6 hts (wg_app (wg_c kw_1856 (wg_c kw_1857 (wg_c kw_1858 (wg_c kw_13 wg_n)))) kw_1859) rfl rfl rfl (by decide +kernel) ⟨by decide, by decide⟩) (pp_VT (en_ok g) (ci := 12) (kd := (49, 0)) hK hO k_mha (nxg clo_nil k_mha rfl) (fun _ h9 => ko1 h9) hP hD hS hA hE [] rfl rfl rfl) rfl rfl hl.1 rfl (lv_room (Nat.le_of_ble_eq_true rfl)) dM_sign_97 ⟨by omega, by omega⟩) (fun r37 pl H locs hu35 hP hD hS => ?_)
              obtain ⟨hq35, hO⟩ := hu35
              have hP : va_P g.1 vcl ([(h0, .inr (8, [.int (nI 0), .int (nI tp), .int (nI rs), .int (nI ks), .ref mt, .ref mr_, .ref mk, .ref mo, .ref mh, .ref mse, .ref mhs, .ref msp, .ref msc, .ref mha])), (mse, .inl (g.2.1 0, 8, .inl fS))] ++ pl) _ := hP
              have hD : va_D _ ([(h0, .inr (8, [.int (nI 0), .int (nI tp), .int (nI rs), .int (nI ks), .ref mt, .ref mr_, .ref mk, .ref mo, .ref mh, .ref mse, .ref mhs, .ref msp, .ref msc, .ref mha])), (mse, .inl (g.2.1 0, 8, .inl fS))] ++ pl) := hD
              refine W.widen (k := 0) (n := 0) (by omega) (by omega) ?_
              refine lv_istore_n (lv' := [(3, .int r37), (0, .ref h0), (1, .int (nI z21)), (2, .int (nI z26))]) hx hb dM_sign_100 rfl hl (by decide) rfl (fun ls hl => ?_)
              refine lv_iload_n hx hb dM_sign_101 rfl (lv_at hl 0 rfl) ?_
              refine lv_if_ne (tgt := 111) hx hb dM_sign_102 (by decide) (fun h39 => ?_) (fun h39 => ?_)
              · refine lv_aload_n hx hb dM_sign_111 rfl (lv_at hl 1 rfl) ?_
                refine lv_aload_n hx hb dM_sign_112 rfl (lv_at hl 1 rfl) ?_
                refine va_get (D := g.1) (ci := 8) (C := "LatticeKeysModel") (T := T_M) (N := 14) hx hb hts (wg_ft i_M) hown hK hP 0 rfl rfl 9 (by decide) (hts _ (wg_t kw_1535)) (fun _ h9 => h9) rfl dM_sign_113 ?_
                refine lv_iload_n hx hb dM_sign_116 rfl (lv_at hl 2 rfl) ?_
                refine mp_iald hx hb hK hP 1 0 rfl rfl (by omega) (by decide) dM_sign_117 ?_
                refine mi_as ey21 ?_
                refine lv_iconst (v := nI 3) hx hb dM_sign_118 (by decide) ?_
                refine mi_isub hx hb dM_sign_119 (by omega) ?_
                refine mi_as (show nI (4 - 3) = nI 1 from rfl) ?_
                refine mp_i (cx := []) (wr := [(h0, .inr (8, [.int (nI 0), .int (nI tp), .int (nI rs), .int (nI ks), .ref mt, .ref mr_, .ref mk, .ref mo, .ref mh, .ref mse, .ref mhs, .ref msp, .ref msc, .ref mha])), (mse, .inl (g.2.1 0, 8, .inl fS))]) hP hD hS hA [] [0, 1] rfl rfl rfl (by decide) (va_runS (As := [.int (nI 1)]) (rest := [.ref h0]) F (t_MH_markSize_1 l g _ T [] pl hO hU  ) (va_cwS 1 hts (wg_app (wg_c kw_1918 (wg_c kw_1919 (wg_c kw_13 wg_n))) kw_1920) rfl rfl rfl (by decide +kernel) ⟨by decide, by decide⟩) (pp_S (en_ok g) hP hD hS hA hE [] rfl rfl) rfl rfl hl.1 rfl (lv_room (Nat.le_of_ble_eq_true rfl)) dM_sign_120 ⟨by omega, by omega⟩) (fun r38 pl H locs hu36 hP hD hS => ?_)
                obtain ⟨hq36, hO⟩ := hu36
                have hP : va_P g.1 vcl ([(h0, .inr (8, [.int (nI 0), .int (nI tp), .int (nI rs), .int (nI ks), .ref mt, .ref mr_, .ref mk, .ref mo, .ref mh, .ref mse, .ref mhs, .ref msp, .ref msc, .ref mha])), (mse, .inl (g.2.1 0, 8, .inl fS))] ++ pl) _ := hP
                have hD : va_D _ ([(h0, .inr (8, [.int (nI 0), .int (nI tp), .int (nI rs), .int (nI ks), .ref mt, .ref mr_, .ref mk, .ref mo, .ref mh, .ref mse, .ref mhs, .ref msp, .ref msc, .ref mha])), (mse, .inl (g.2.1 0, 8, .inl fS))] ++ pl) := hD
                obtain rfl := hq36
                refine W.widen (k := 0) (n := 0) (by omega) (by omega) ?_
                refine va_put (D := g.1) (ci := 8) (v := .int (nI 3309)) (ty := .int) (C := "LatticeKeysModel") (T := T_M) (N := 14) hx hb hts (wg_ft i_M) ty_M k_M n_M hown hK hP hD hS 0 rfl rfl 2 (by decide) (hts _ (wg_t kw_1528)) (fun _ h9 => h9) rfl (by decide +kernel) rfl rfl (Nat.le_of_ble_eq_true rfl) dM_sign_123 (fun H locs hP hD hS => ?_)
                have hP : va_P g.1 vcl ([(h0, .inr (8, [.int (nI 0), .int (nI tp), .int (nI 3309), .int (nI ks), .ref mt, .ref mr_, .ref mk, .ref mo, .ref mh, .ref mse, .ref mhs, .ref msp, .ref msc, .ref mha])), (mse, .inl (g.2.1 0, 8, .inl fS))] ++ pl) _ := hP
                have hD : va_D _ ([(h0, .inr (8, [.int (nI 0), .int (nI tp), .int (nI 3309), .int (nI ks), .ref mt, .ref mr_, .ref mk, .ref mo, .ref mh, .ref mse, .ref mhs, .ref msp, .ref msc, .ref mha])), (mse, .inl (g.2.1 0, 8, .inl fS))] ++ pl) := hD
                refine lv_iconst (v := nI 0) hx hb dM_sign_126 (by decide) ?_
                refine lv_istore (lv' := [(4, .int (nI 0)), (3, .int r37), (0, .ref h0), (1, .int (nI z21)), (2, .int (nI z26))]) hx hb dM_sign_127 hl (by decide) rfl (fun ls hl => ?_)
                have lp22 : ∀ (n22 : Nat) (i22 : Nat) (pl : va_W) (ls : Array Slot) (H : Heap) (locs : List Loc), n22 + i22 = 3309 → lv_has ls 5 [(4, .int (nI i22)), (3, .int r37), (0, .ref h0)] → okx g T [] pl → va_P g.1 vcl ([(h0, .inr (8, [.int (nI 0), .int (nI tp), .int (nI 3309), .int (nI ks), .ref mt, .ref mr_, .ref mk, .ref mo, .ref mh, .ref mse, .ref mhs, .ref msp, .ref msc, .ref mha])), (mse, .inl (g.2.1 0, 8, .inl fS))] ++ pl) H → va_D A ([(h0, .inr (8, [.int (nI 0), .int (nI tp), .int (nI 3309), .int (nI ks), .ref mt, .ref mr_, .ref mk, .ref mo, .ref mh, .ref mse, .ref mhs, .ref msp, .ref msc, .ref mha])), (mse, .inl (g.2.1 0, 8, .inl fS))] ++ pl) → va_S A s.heap H locs → W p l e ({ frames := 6, cells := 0, slots := 0, locals := 152 } : Room) s m args below meth c H locs 0 0 (MQ below (va_Qi (fun (r : Int32) (u : (Int32 × Nat × Nat × Nat × (Nat → Int32)) × va_W) => (u.1.2.1 ≤ 16384 ∧ u.1.2.2.1 ≤ 8192 ∧ u.1.2.2.2.1 ≤ 8 ∧ s5 u.1.2.2.2.2) ∧ okx g T [] u.2) (po g.1 vcl A (fun (u : (Int32 × Nat × Nat × Nat × (Nat → Int32)) × va_W) => [(h0, .inr (8, [.int u.1.1, .int (nI (u.1.2.1)), .int (nI (u.1.2.2.1)), .int (nI (u.1.2.2.2.1)), .ref mt, .ref mr_, .ref mk, .ref mo, .ref mh, .ref mse, .ref mhs, .ref msp, .ref msc, .ref mha])), (mse, .inl (g.2.1 0, 8, .inl ((u.1.2.2.2.2))))] ++ u.2)) A) args s 0 0 A) (F0 m 129 ls []) := by
                  intro n22
                  induction n22 with
                  | zero =>
                    intro i22 pl ls H locs hm77  hl hO hP hD hS
                    refine lv_iload hx hb dM_sign_129 (lv_at hl 0 rfl) ?_
                    refine lv_aload_n hx hb dM_sign_131 rfl (lv_at hl 2 rfl) ?_
                    refine va_get (D := g.1) (ci := 8) (C := "LatticeKeysModel") (T := T_M) (N := 14) hx hb hts (wg_ft i_M) hown hK hP 0 rfl rfl 2 (by decide) (hts _ (wg_t kw_1528)) (fun _ h9 => h9) rfl dM_sign_132 ?_
                    refine mi_ge (tgt := 158) hx hb dM_sign_135 (by decide) (by omega) (by omega) (fun h40 => ?_) (fun h40 => absurd h40 (by omega))
                    refine lv_aload_n hx hb dM_sign_158 rfl (lv_at hl 2 rfl) ?_
                    refine lv_iconst (v := nI 0) hx hb dM_sign_159 (by decide) ?_
                    refine va_put (D := g.1) (ci := 8) (v := .int (nI 0)) (ty := .int) (C := "LatticeKeysModel") (T := T_M) (N := 14) hx hb hts (wg_ft i_M) ty_M k_M n_M hown hK hP hD hS 0 rfl rfl 1 (by decide) (hts _ (wg_t kw_1527)) (fun _ h9 => h9) rfl (by decide +kernel) rfl rfl (Nat.le_of_ble_eq_true rfl) dM_sign_160 (fun H locs hP hD hS => ?_)
                    have hP : va_P g.1 vcl ([(h0, .inr (8, [.int (nI 0), .int (nI 0), .int (nI 3309), .int (nI ks), .ref mt, .ref mr_, .ref mk, .ref mo, .ref mh, .ref mse, .ref mhs, .ref msp, .ref msc, .ref mha])), (mse, .inl (g.2.1 0, 8, .inl fS))] ++ pl) _ := hP
                    have hD : va_D _ ([(h0, .inr (8, [.int (nI 0), .int (nI 0), .int (nI 3309), .int (nI ks), .ref mt, .ref mr_, .ref mk, .ref mo, .ref mh, .ref mse, .ref mhs, .ref msp, .ref msc, .ref mha])), (mse, .inl (g.2.1 0, 8, .inl fS))] ++ pl) := hD
                    refine lv_iload_n hx hb dM_sign_163 rfl (lv_at hl 1 rfl) ?_
                    exact mp_iret hx hb hr hlk hP hD hS ((nI 0, 0, 3309, ks, fS), pl) ⟨⟨(by show 0 ≤ 16384; omega), (by show 3309 ≤ 8192; omega), (by show ks ≤ 8; omega), hS5⟩, hO⟩ [0, 1] rfl rfl rfl (by omega) (by omega) dM_sign_164
                  | succ n22 ih22 =>
                    intro i22 pl ls H locs hm77  hl hO hP hD hS
                    refine lv_iload hx hb dM_sign_129 (lv_at hl 0 rfl) ?_
                    refine lv_aload_n hx hb dM_sign_131 rfl (lv_at hl 2 rfl) ?_
                    refine va_get (D := g.1) (ci := 8) (C := "LatticeKeysModel") (T := T_M) (N := 14) hx hb hts (wg_ft i_M) hown hK hP 0 rfl rfl 2 (by decide) (hts _ (wg_t kw_1528)) (fun _ h9 => h9) rfl dM_sign_132 ?_
                    refine mi_ge (tgt := 158) hx hb dM_sign_135 (by decide) (by omega) (by omega) (fun h41 => absurd h41 (by omega)) (fun h41 => ?_)
                    refine lv_aload_n hx hb dM_sign_138 rfl (lv_at hl 2 rfl) ?_
                    refine va_get (D := g.1) (ci := 8) (C := "LatticeKeysModel") (T := T_M) (N := 14) hx hb hts (wg_ft i_M) hown hK hP 0 rfl rfl 5 (by decide) (hts _ (wg_t kw_1531)) (fun _ h9 => h9) rfl dM_sign_139 ?_
                    refine lv_iload hx hb dM_sign_142 (lv_at hl 0 rfl) ?_
                    refine lv_aload_n hx hb dM_sign_144 rfl (lv_at hl 2 rfl) ?_
                    refine va_get (D := g.1) (ci := 8) (C := "LatticeKeysModel") (T := T_M) (N := 14) hx hb hts (wg_ft i_M) hown hK hP 0 rfl rfl 6 (by decide) (hts _ (wg_t kw_1532)) (fun _ h9 => h9) rfl dM_sign_145 ?_
                    refine lv_iload hx hb dM_sign_148 (lv_at hl 0 rfl) ?_
                    refine ty_bald hx hb hK hO k_mk (nxg clo_nil k_mk rfl) hP (vp_in_nI (by omega) (by decide)) dM_sign_150 (fun z27 => ?_)
                    refine ty_bast hx hb hK hO k_mr_ (nxg clo_nil k_mr_ rfl) hP hD hS (vp_in_nI (by omega) (by decide)) dM_sign_151 (fun pl H locs hO hP hD hS => ?_)
                    refine mi_iinc (k := 0) (x := i22) (d := 1) (y := i22 + 1) (lv' := [(4, .int (nI (i22 + 1))), (3, .int r37), (0, .ref h0)]) hx hb dM_sign_152 hl rfl (by decide) rfl (by decide) rfl (fun ls hl => ?_)
                    refine lv_goto (tgt := 129) hx hb dM_sign_155 (by decide) ?_
                    exact ih22 (i22 + 1) pl ls H locs (by omega) (lv_sub hl [0, 1, 2] rfl) hO hP hD hS
                exact lp22 3309 0 pl ls _ _ (by omega) (lv_sub hl [0, 1, 2] rfl) hO hP hD hS
              · refine lv_aload_n hx hb dM_sign_105 rfl (lv_at hl 1 rfl) ?_
                refine lv_iconst (v := nI 3) hx hb dM_sign_106 (by decide) ?_
                refine mp_i (cx := [(h0, .inr (8, [.int (nI 0), .int (nI tp), .int (nI rs), .int (nI ks), .ref mt, .ref mr_, .ref mk, .ref mo, .ref mh, .ref mse, .ref mhs, .ref msp, .ref msc, .ref mha])), (mse, .inl (g.2.1 0, 8, .inl fS))]) (wr := []) hP hD hS hA [0, 1] [] rfl rfl rfl (by decide) (va_runV (As := [.int (nI 3)]) (rest := []) F (t_M_fail l g _ T  pl hO hU  (nI 3) h0 mt mr_ mk mo mh mse mhs msp msc mha tp rs ks (nI 0) fS k_mt k_mr_ k_mk k_mo k_mh k_mhs k_msp k_msc k_mha (by omega) hS5) (cwV 1 hts (wg_app (wg_c kw_1577 (wg_c kw_1579 (wg_c ks_50 (wg_c kw_9 wg_n)))) kw_1580) rfl rfl rfl (by decide +kernel) ⟨by decide, by decide⟩) (pp_V (en_ok g) (q0 := 0) hK hP hD hS hA hE [0, 1] rfl rfl rfl rfl) rfl rfl hl.1 rfl (lv_room (Nat.le_of_ble_eq_true rfl)) dM_sign_107 ⟨by omega, by omega⟩) (fun r39 u43 H locs hu37 hP hD hS => ?_)
                obtain ⟨u44, pl⟩ := u43
                obtain ⟨hq37, hO⟩ := hu37
                obtain ⟨th32, tp32, rs32, ks32, fS32⟩ := u44
                have hP : va_P g.1 vcl ([(h0, .inr (8, [.int th32, .int (nI tp32), .int (nI rs32), .int (nI ks32), .ref mt, .ref mr_, .ref mk, .ref mo, .ref mh, .ref mse, .ref mhs, .ref msp, .ref msc, .ref mha])), (mse, .inl (g.2.1 0, 8, .inl fS32))] ++ pl) _ := hP
                have hD : va_D _ ([(h0, .inr (8, [.int th32, .int (nI tp32), .int (nI rs32), .int (nI ks32), .ref mt, .ref mr_, .ref mk, .ref mo, .ref mh, .ref mse, .ref mhs, .ref msp, .ref msc, .ref mha])), (mse, .inl (g.2.1 0, 8, .inl fS32))] ++ pl) := hD
                obtain ⟨-, -, -, hm81, hm82⟩ := hq37
                obtain ⟨he76, he77, he78, he79, he80⟩ := hm82
                have he76 : th32 = nI 3 := he76
                have he77 : tp32 = tp := he77
                have he78 : rs32 = rs := he78
                have he79 : ks32 = ks := he79
                obtain rfl := he80
                refine W.widen (k := 0) (n := 0) (by omega) (by omega) ?_
                exact mp_iret hx hb hr hlk hP hD hS ((th32, tp32, rs32, ks32, fS32), pl) ⟨⟨(by show tp32 ≤ 16384; omega), (by show rs32 ≤ 8192; omega), (by show ks32 ≤ 8; omega), hm81⟩, hO⟩ [0, 1] rfl rfl rfl (by omega) (by omega) dM_sign_110
            · refine lv_aload_n hx hb dM_sign_60 rfl (lv_at hl 0 rfl) ?_
              refine lv_iconst (v := nI 2) hx hb dM_sign_61 (by decide) ?_
              refine mp_i (cx := [(h0, .inr (8, [.int (nI 0), .int (nI tp), .int (nI rs), .int (nI ks), .ref mt, .ref mr_, .ref mk, .ref mo, .ref mh, .ref mse, .ref mhs, .ref msp, .ref msc, .ref mha])), (mse, .inl (g.2.1 0, 8, .inl fS))]) (wr := []) hP hD hS hA [0, 1] [] rfl rfl rfl (by decide) (va_runV (As := [.int (nI 2)]) (rest := []) F (t_M_fail l g _ T  pl hO hU  (nI 2) h0 mt mr_ mk mo mh mse mhs msp msc mha tp rs ks (nI 0) fS k_mt k_mr_ k_mk k_mo k_mh k_mhs k_msp k_msc k_mha (by omega) hS5) (cwV 1 hts (wg_app (wg_c kw_1577 (wg_c kw_1579 (wg_c ks_50 (wg_c kw_9 wg_n)))) kw_1580) rfl rfl rfl (by decide +kernel) ⟨by decide, by decide⟩) (pp_V (en_ok g) (q0 := 0) hK hP hD hS hA hE [0, 1] rfl rfl rfl rfl) rfl rfl hl.1 rfl (lv_room (Nat.le_of_ble_eq_true rfl)) dM_sign_62 ⟨by omega, by omega⟩) (fun r40 u45 H locs hu38 hP hD hS => ?_)
              obtain ⟨u46, pl⟩ := u45
              obtain ⟨hq38, hO⟩ := hu38
              obtain ⟨th33, tp33, rs33, ks33, fS33⟩ := u46
              have hP : va_P g.1 vcl ([(h0, .inr (8, [.int th33, .int (nI tp33), .int (nI rs33), .int (nI ks33), .ref mt, .ref mr_, .ref mk, .ref mo, .ref mh, .ref mse, .ref mhs, .ref msp, .ref msc, .ref mha])), (mse, .inl (g.2.1 0, 8, .inl fS33))] ++ pl) _ := hP
              have hD : va_D _ ([(h0, .inr (8, [.int th33, .int (nI tp33), .int (nI rs33), .int (nI ks33), .ref mt, .ref mr_, .ref mk, .ref mo, .ref mh, .ref mse, .ref mhs, .ref msp, .ref msc, .ref mha])), (mse, .inl (g.2.1 0, 8, .inl fS33))] ++ pl) := hD
              obtain ⟨-, -, -, hm86, hm87⟩ := hq38
              obtain ⟨he81, he82, he83, he84, he85⟩ := hm87
              have he81 : th33 = nI 2 := he81
              have he82 : tp33 = tp := he82
              have he83 : rs33 = rs := he83
              have he84 : ks33 = ks := he84
              obtain rfl := he85
              refine W.widen (k := 0) (n := 0) (by omega) (by omega) ?_
              exact mp_iret hx hb hr hlk hP hD hS ((th33, tp33, rs33, ks33, fS33), pl) ⟨⟨(by show tp33 ≤ 16384; omega), (by show rs33 ≤ 8192; omega), (by show ks33 ≤ 8; omega), hm86⟩, hO⟩ [0, 1] rfl rfl rfl (by omega) (by omega) dM_sign_65
      · refine lv_aload_n hx hb dM_sign_32 rfl (lv_at hl 0 rfl) ?_
        refine lv_iconst (v := nI 1) hx hb dM_sign_33 (by decide) ?_
        refine mp_i (cx := [(h0, .inr (8, [.int (nI 0), .int (nI tp), .int (nI rs), .int (nI ks), .ref mt, .ref mr_, .ref mk, .ref mo, .ref mh, .ref mse, .ref mhs, .ref msp, .ref msc, .ref mha])), (mse, .inl (g.2.1 0, 8, .inl fS))]) (wr := []) hP hD hS hA [0, 1] [] rfl rfl rfl (by decide) (va_runV (As := [.int (nI 1)]) (rest := []) F (t_M_fail l g _ T  pl hO hU  (nI 1) h0 mt mr_ mk mo mh mse mhs msp msc mha tp rs ks (nI 0) fS k_mt k_mr_ k_mk k_mo k_mh k_mhs k_msp k_msc k_mha (by omega) hS5) (cwV 1 hts (wg_app (wg_c kw_1577 (wg_c kw_1579 (wg_c ks_50 (wg_c kw_9 wg_n)))) kw_1580) rfl rfl rfl (by decide +kernel) ⟨by decide, by decide⟩) (pp_V (en_ok g) (q0 := 0) hK hP hD hS hA hE [0, 1] rfl rfl rfl rfl) rfl rfl hl.1 rfl (lv_room (Nat.le_of_ble_eq_true rfl)) dM_sign_34 ⟨by omega, by omega⟩) (fun r41 u47 H locs hu39 hP hD hS => ?_)
        obtain ⟨u48, pl⟩ := u47
        obtain ⟨hq39, hO⟩ := hu39
        obtain ⟨th34, tp34, rs34, ks34, fS34⟩ := u48
        have hP : va_P g.1 vcl ([(h0, .inr (8, [.int th34, .int (nI tp34), .int (nI rs34), .int (nI ks34), .ref mt, .ref mr_, .ref mk, .ref mo, .ref mh, .ref mse, .ref mhs, .ref msp, .ref msc, .ref mha])), (mse, .inl (g.2.1 0, 8, .inl fS34))] ++ pl) _ := hP
        have hD : va_D _ ([(h0, .inr (8, [.int th34, .int (nI tp34), .int (nI rs34), .int (nI ks34), .ref mt, .ref mr_, .ref mk, .ref mo, .ref mh, .ref mse, .ref mhs, .ref msp, .ref msc, .ref mha])), (mse, .inl (g.2.1 0, 8, .inl fS34))] ++ pl) := hD
        obtain ⟨-, -, -, hm91, hm92⟩ := hq39
        obtain ⟨he86, he87, he88, he89, he90⟩ := hm92
        have he86 : th34 = nI 1 := he86
        have he87 : tp34 = tp := he87
        have he88 : rs34 = rs := he88
        have he89 : ks34 = ks := he89
        obtain rfl := he90
        refine W.widen (k := 0) (n := 0) (by omega) (by omega) ?_
        exact mp_iret hx hb hr hlk hP hD hS ((th34, tp34, rs34, ks34, fS34), pl) ⟨⟨(by show tp34 ≤ 16384; omega), (by show rs34 ≤ 8192; omega), (by show ks34 ≤ 8; omega), hm91⟩, hO⟩ [0, 1] rfl rfl rfl (by omega) (by omega) dM_sign_37
    | 5, _, ey21 =>
      refine mi_as ey21 ?_
      refine lv_iconst (v := nI 3) hx hb dM_sign_19 (by decide) ?_
      refine mi_lt (tgt := 32) hx hb dM_sign_20 (by decide) (by omega) (by omega) (fun h42 => absurd h42 (by omega)) (fun h42 => ?_)
      refine lv_aload_n hx hb dM_sign_23 rfl (lv_at hl 0 rfl) ?_
      refine va_get (D := g.1) (ci := 8) (C := "LatticeKeysModel") (T := T_M) (N := 14) hx hb hts (wg_ft i_M) hown hK hP 0 rfl rfl 10 (by decide) (hts _ (wg_t kw_1536)) (fun _ h9 => h9) rfl dM_sign_24 ?_
      refine lv_iload_n hx hb dM_sign_27 rfl (lv_at hl 1 rfl) ?_
      refine ty_iald5 hx hb hK hO k_mhs (nxg clo_nil k_mhs rfl) hP (by omega) dM_sign_28 (fun z28 hz26 => ?_)
      refine lv_if_ne (tgt := 38) hx hb dM_sign_29 (by decide) (fun h43 => ?_) (fun h43 => ?_)
      · refine lv_iload_n hx hb dM_sign_38 rfl (lv_at hl 2 rfl) ?_
        refine lv_if_lt (tgt := 60) hx hb dM_sign_39 (by decide) (fun h44 => ?_) (fun h44 => ?_)
        · refine lv_aload_n hx hb dM_sign_60 rfl (lv_at hl 0 rfl) ?_
          refine lv_iconst (v := nI 2) hx hb dM_sign_61 (by decide) ?_
          refine mp_i (cx := [(h0, .inr (8, [.int (nI 0), .int (nI tp), .int (nI rs), .int (nI ks), .ref mt, .ref mr_, .ref mk, .ref mo, .ref mh, .ref mse, .ref mhs, .ref msp, .ref msc, .ref mha])), (mse, .inl (g.2.1 0, 8, .inl fS))]) (wr := []) hP hD hS hA [0, 1] [] rfl rfl rfl (by decide) (va_runV (As := [.int (nI 2)]) (rest := []) F (t_M_fail l g _ T  pl hO hU  (nI 2) h0 mt mr_ mk mo mh mse mhs msp msc mha tp rs ks (nI 0) fS k_mt k_mr_ k_mk k_mo k_mh k_mhs k_msp k_msc k_mha (by omega) hS5) (cwV 1 hts (wg_app (wg_c kw_1577 (wg_c kw_1579 (wg_c ks_50 (wg_c kw_9 wg_n)))) kw_1580) rfl rfl rfl (by decide +kernel) ⟨by decide, by decide⟩) (pp_V (en_ok g) (q0 := 0) hK hP hD hS hA hE [0, 1] rfl rfl rfl rfl) rfl rfl hl.1 rfl (lv_room (Nat.le_of_ble_eq_true rfl)) dM_sign_62 ⟨by omega, by omega⟩) (fun r42 u49 H locs hu40 hP hD hS => ?_)
          obtain ⟨u50, pl⟩ := u49
          obtain ⟨hq40, hO⟩ := hu40
          obtain ⟨th35, tp35, rs35, ks35, fS35⟩ := u50
          have hP : va_P g.1 vcl ([(h0, .inr (8, [.int th35, .int (nI tp35), .int (nI rs35), .int (nI ks35), .ref mt, .ref mr_, .ref mk, .ref mo, .ref mh, .ref mse, .ref mhs, .ref msp, .ref msc, .ref mha])), (mse, .inl (g.2.1 0, 8, .inl fS35))] ++ pl) _ := hP
          have hD : va_D _ ([(h0, .inr (8, [.int th35, .int (nI tp35), .int (nI rs35), .int (nI ks35), .ref mt, .ref mr_, .ref mk, .ref mo, .ref mh, .ref mse, .ref mhs, .ref msp, .ref msc, .ref mha])), (mse, .inl (g.2.1 0, 8, .inl fS35))] ++ pl) := hD
          obtain ⟨-, -, -, hm96, hm97⟩ := hq40
          obtain ⟨he91, he92, he93, he94, he95⟩ := hm97
          have he91 : th35 = nI 2 := he91
          have he92 : tp35 = tp := he92
          have he93 : rs35 = rs := he93
          have he94 : ks35 = ks := he94
          obtain rfl := he95
          refine W.widen (k := 0) (n := 0) (by omega) (by omega) ?_
          exact mp_iret hx hb hr hlk hP hD hS ((th35, tp35, rs35, ks35, fS35), pl) ⟨⟨(by show tp35 ≤ 16384; omega), (by show rs35 ≤ 8192; omega), (by show ks35 ≤ 8; omega), hm96⟩, hO⟩ [0, 1] rfl rfl rfl (by omega) (by omega) dM_sign_65
        · refine lv_iload_n hx hb dM_sign_42 rfl (lv_at hl 2 rfl) ?_
          refine lv_sipush (v := nI 255) hx hb dM_sign_43 (by decide) ?_
          refine lv_icmp_gt (tgt := 60) hx hb dM_sign_46 (by decide) (fun h45 => ?_) (fun h45 => ?_)
          · refine lv_aload_n hx hb dM_sign_60 rfl (lv_at hl 0 rfl) ?_
            refine lv_iconst (v := nI 2) hx hb dM_sign_61 (by decide) ?_
            refine mp_i (cx := [(h0, .inr (8, [.int (nI 0), .int (nI tp), .int (nI rs), .int (nI ks), .ref mt, .ref mr_, .ref mk, .ref mo, .ref mh, .ref mse, .ref mhs, .ref msp, .ref msc, .ref mha])), (mse, .inl (g.2.1 0, 8, .inl fS))]) (wr := []) hP hD hS hA [0, 1] [] rfl rfl rfl (by decide) (va_runV (As := [.int (nI 2)]) (rest := []) F (t_M_fail l g _ T  pl hO hU  (nI 2) h0 mt mr_ mk mo mh mse mhs msp msc mha tp rs ks (nI 0) fS k_mt k_mr_ k_mk k_mo k_mh k_mhs k_msp k_msc k_mha (by omega) hS5) (cwV 1 hts (wg_app (wg_c kw_1577 (wg_c kw_1579 (wg_c ks_50 (wg_c kw_9 wg_n)))) kw_1580) rfl rfl rfl (by decide +kernel) ⟨by decide, by decide⟩) (pp_V (en_ok g) (q0 := 0) hK hP hD hS hA hE [0, 1] rfl rfl rfl rfl) rfl rfl hl.1 rfl (lv_room (Nat.le_of_ble_eq_true rfl)) dM_sign_62 ⟨by omega, by omega⟩) (fun r43 u51 H locs hu41 hP hD hS => ?_)
            obtain ⟨u52, pl⟩ := u51
            obtain ⟨hq41, hO⟩ := hu41
            obtain ⟨th36, tp36, rs36, ks36, fS36⟩ := u52
            have hP : va_P g.1 vcl ([(h0, .inr (8, [.int th36, .int (nI tp36), .int (nI rs36), .int (nI ks36), .ref mt, .ref mr_, .ref mk, .ref mo, .ref mh, .ref mse, .ref mhs, .ref msp, .ref msc, .ref mha])), (mse, .inl (g.2.1 0, 8, .inl fS36))] ++ pl) _ := hP
            have hD : va_D _ ([(h0, .inr (8, [.int th36, .int (nI tp36), .int (nI rs36), .int (nI ks36), .ref mt, .ref mr_, .ref mk, .ref mo, .ref mh, .ref mse, .ref mhs, .ref msp, .ref msc, .ref mha])), (mse, .inl (g.2.1 0, 8, .inl fS36))] ++ pl) := hD
            obtain ⟨-, -, -, hm101, hm102⟩ := hq41
            obtain ⟨he96, he97, he98, he99, he100⟩ := hm102
            have he96 : th36 = nI 2 := he96
            have he97 : tp36 = tp := he97
            have he98 : rs36 = rs := he98
            have he99 : ks36 = ks := he99
            obtain rfl := he100
            refine W.widen (k := 0) (n := 0) (by omega) (by omega) ?_
            exact mp_iret hx hb hr hlk hP hD hS ((th36, tp36, rs36, ks36, fS36), pl) ⟨⟨(by show tp36 ≤ 16384; omega), (by show rs36 ≤ 8192; omega), (by show ks36 ≤ 8; omega), hm101⟩, hO⟩ [0, 1] rfl rfl rfl (by omega) (by omega) dM_sign_65
          · obtain ⟨z29, hz27, rfl⟩ := i32_lex h44 (by omega) h45
            refine lv_aload_n hx hb dM_sign_49 rfl (lv_at hl 0 rfl) ?_
            refine va_get (D := g.1) (ci := 8) (C := "LatticeKeysModel") (T := T_M) (N := 14) hx hb hts (wg_ft i_M) hown hK hP 0 rfl rfl 1 (by decide) (hts _ (wg_t kw_1527)) (fun _ h9 => h9) rfl dM_sign_50 ?_
            refine lv_bipush (v := nI 32) hx hb dM_sign_53 (by decide) ?_
            refine lv_iload_n hx hb dM_sign_55 rfl (lv_at hl 2 rfl) ?_
            refine mi_iadd hx hb dM_sign_56 ?_
            refine mi_ge (tgt := 66) hx hb dM_sign_57 (by decide) (by omega) (by omega) (fun h46 => ?_) (fun h46 => ?_)
            · refine lv_aload_n hx hb dM_sign_66 rfl (lv_at hl 0 rfl) ?_
              refine va_get (D := g.1) (ci := 8) (C := "LatticeKeysModel") (T := T_M) (N := 14) hx hb hts (wg_ft i_M) hown hK hP 0 rfl rfl 13 (by decide) (hts _ (wg_t kw_1539)) (fun _ h9 => h9) rfl dM_sign_67 ?_
              refine lv_aload_n hx hb dM_sign_70 rfl (lv_at hl 0 rfl) ?_
              refine va_get (D := g.1) (ci := 8) (C := "LatticeKeysModel") (T := T_M) (N := 14) hx hb hts (wg_ft i_M) hown hK hP 0 rfl rfl 9 (by decide) (hts _ (wg_t kw_1535)) (fun _ h9 => h9) rfl dM_sign_71 ?_
              refine lv_iload_n hx hb dM_sign_74 rfl (lv_at hl 1 rfl) ?_
              refine mp_iald hx hb hK hP 1 0 rfl rfl (by omega) (by decide) dM_sign_75 ?_
              refine mi_as ey21 ?_
              refine lv_iconst (v := nI 3) hx hb dM_sign_76 (by decide) ?_
              refine mi_isub hx hb dM_sign_77 (by omega) ?_
              refine mi_as (show nI (5 - 3) = nI 2 from rfl) ?_
              refine lv_aload_n hx hb dM_sign_78 rfl (lv_at hl 0 rfl) ?_
              refine va_get (D := g.1) (ci := 8) (C := "LatticeKeysModel") (T := T_M) (N := 14) hx hb hts (wg_ft i_M) hown hK hP 0 rfl rfl 8 (by decide) (hts _ (wg_t kw_1534)) (fun _ h9 => h9) rfl dM_sign_79 ?_
              refine lv_iload_n hx hb dM_sign_82 rfl (lv_at hl 1 rfl) ?_
              refine ty_aald4 hx hb hK hO k_mh (nxg clo_nil k_mh rfl) hP (by omega) dM_sign_83 (fun r44 kr23 => ?_)
              refine lv_aload_n hx hb dM_sign_84 rfl (lv_at hl 0 rfl) ?_
              refine va_get (D := g.1) (ci := 8) (C := "LatticeKeysModel") (T := T_M) (N := 14) hx hb hts (wg_ft i_M) hown hK hP 0 rfl rfl 4 (by decide) (hts _ (wg_t kw_1530)) (fun _ h9 => h9) rfl dM_sign_85 ?_
              refine lv_iload_n hx hb dM_sign_88 rfl (lv_at hl 2 rfl) ?_
              refine lv_aload_n hx hb dM_sign_89 rfl (lv_at hl 0 rfl) ?_
              refine va_get (D := g.1) (ci := 8) (C := "LatticeKeysModel") (T := T_M) (N := 14) hx hb hts (wg_ft i_M) hown hK hP 0 rfl rfl 1 (by decide) (hts _ (wg_t kw_1527)) (fun _ h9 => h9) rfl dM_sign_90 ?_
              refine lv_aload_n hx hb dM_sign_93 rfl (lv_at hl 0 rfl) ?_
              refine va_get (D := g.1) (ci := 8) (C := "LatticeKeysModel") (T := T_M) (N := 14) hx hb hts (wg_ft i_M) hown hK hP 0 rfl rfl 6 (by decide) (hts _ (wg_t kw_1532)) (fun _ h9 => h9) rfl dM_sign_94 ?_
              refine mp_i (cx := []) (wr := [(h0, .inr (8, [.int (nI 0), .int (nI tp), .int (nI rs), .int (nI ks), .ref mt, .ref mr_, .ref mk, .ref mo, .ref mh, .ref mse, .ref mhs, .ref msp, .ref msc, .ref mha])), (mse, .inl (g.2.1 0, 8, .inl fS))]) hP hD hS hA [] [0, 1] rfl rfl rfl (by decide) (va_runV (As := [.int (nI 2), .ref r44, .ref mt, .int (nI z29), .int (nI tp), .ref mk]) (rest := []) F (t_MH_sign_2 l g _ T  pl hO hU  mha r44 mt mk 16384 tp (nI z29) k_mha kr23 k_mt k_mk (by omega) (by omega) (by omega)) (cwV 6 hts (wg_app (wg_c kw_1856 (wg_c kw_1857 (wg_c kw_1858 (wg_c kw_13 wg_n)))) kw_1859) rfl rfl rfl (by decide +kernel) ⟨by decide, by decide⟩) (pp_VT (en_ok g) (ci := 12) (kd := (49, 0)) hK hO k_mha (nxg clo_nil k_mha rfl) (fun _ h9 => ko1 h9) hP hD hS hA hE [] rfl rfl rfl) rfl rfl hl.1 rfl (lv_room (Nat.le_of_ble_eq_true rfl)) dM_sign_97 ⟨by omega, by omega⟩) (fun r45 pl H locs hu42 hP hD hS => ?_)
              obtain ⟨hq42, hO⟩ := hu42
              have hP : va_P g.1 vcl ([(h0, .inr (8, [.int (nI 0), .int (nI tp), .int (nI rs), .int (nI ks), .ref mt, .ref mr_, .ref mk, .ref mo, .ref mh, .ref mse, .ref mhs, .ref msp, .ref msc, .ref mha])), (mse, .inl (g.2.1 0, 8, .inl fS))] ++ pl) _ := hP
              have hD : va_D _ ([(h0, .inr (8, [.int (nI 0), .int (nI tp), .int (nI rs), .int (nI ks), .ref mt, .ref mr_, .ref mk, .ref mo, .ref mh, .ref mse, .ref mhs, .ref msp, .ref msc, .ref mha])), (mse, .inl (g.2.1 0, 8, .inl fS))] ++ pl) := hD
              refine W.widen (k := 0) (n := 0) (by omega) (by omega) ?_
              refine lv_istore_n (lv' := [(3, .int r45), (0, .ref h0), (1, .int (nI z21)), (2, .int (nI z29))]) hx hb dM_sign_100 rfl hl (by decide) rfl (fun ls hl => ?_)
              refine lv_iload_n hx hb dM_sign_101 rfl (lv_at hl 0 rfl) ?_
              refine lv_if_ne (tgt := 111) hx hb dM_sign_102 (by decide) (fun h47 => ?_) (fun h47 => ?_)
              · refine lv_aload_n hx hb dM_sign_111 rfl (lv_at hl 1 rfl) ?_
                refine lv_aload_n hx hb dM_sign_112 rfl (lv_at hl 1 rfl) ?_
                refine va_get (D := g.1) (ci := 8) (C := "LatticeKeysModel") (T := T_M) (N := 14) hx hb hts (wg_ft i_M) hown hK hP 0 rfl rfl 9 (by decide) (hts _ (wg_t kw_1535)) (fun _ h9 => h9) rfl dM_sign_113 ?_
                refine lv_iload_n hx hb dM_sign_116 rfl (lv_at hl 2 rfl) ?_
                refine mp_iald hx hb hK hP 1 0 rfl rfl (by omega) (by decide) dM_sign_117 ?_
                refine mi_as ey21 ?_
                refine lv_iconst (v := nI 3) hx hb dM_sign_118 (by decide) ?_
                refine mi_isub hx hb dM_sign_119 (by omega) ?_
                refine mi_as (show nI (5 - 3) = nI 2 from rfl) ?_
                refine mp_i (cx := []) (wr := [(h0, .inr (8, [.int (nI 0), .int (nI tp), .int (nI rs), .int (nI ks), .ref mt, .ref mr_, .ref mk, .ref mo, .ref mh, .ref mse, .ref mhs, .ref msp, .ref msc, .ref mha])), (mse, .inl (g.2.1 0, 8, .inl fS))]) hP hD hS hA [] [0, 1] rfl rfl rfl (by decide) (va_runS (As := [.int (nI 2)]) (rest := [.ref h0]) F (t_MH_markSize_2 l g _ T [] pl hO hU  ) (va_cwS 1 hts (wg_app (wg_c kw_1918 (wg_c kw_1919 (wg_c kw_13 wg_n))) kw_1920) rfl rfl rfl (by decide +kernel) ⟨by decide, by decide⟩) (pp_S (en_ok g) hP hD hS hA hE [] rfl rfl) rfl rfl hl.1 rfl (lv_room (Nat.le_of_ble_eq_true rfl)) dM_sign_120 ⟨by omega, by omega⟩) (fun r46 pl H locs hu43 hP hD hS => ?_)
                obtain ⟨hq43, hO⟩ := hu43
                have hP : va_P g.1 vcl ([(h0, .inr (8, [.int (nI 0), .int (nI tp), .int (nI rs), .int (nI ks), .ref mt, .ref mr_, .ref mk, .ref mo, .ref mh, .ref mse, .ref mhs, .ref msp, .ref msc, .ref mha])), (mse, .inl (g.2.1 0, 8, .inl fS))] ++ pl) _ := hP
                have hD : va_D _ ([(h0, .inr (8, [.int (nI 0), .int (nI tp), .int (nI rs), .int (nI ks), .ref mt, .ref mr_, .ref mk, .ref mo, .ref mh, .ref mse, .ref mhs, .ref msp, .ref msc, .ref mha])), (mse, .inl (g.2.1 0, 8, .inl fS))] ++ pl) := hD
                obtain rfl := hq43
                refine W.widen (k := 0) (n := 0) (by omega) (by omega) ?_
                refine va_put (D := g.1) (ci := 8) (v := .int (nI 4627)) (ty := .int) (C := "LatticeKeysModel") (T := T_M) (N := 14) hx hb hts (wg_ft i_M) ty_M k_M n_M hown hK hP hD hS 0 rfl rfl 2 (by decide) (hts _ (wg_t kw_1528)) (fun _ h9 => h9) rfl (by decide +kernel) rfl rfl (Nat.le_of_ble_eq_true rfl) dM_sign_123 (fun H locs hP hD hS => ?_)
                have hP : va_P g.1 vcl ([(h0, .inr (8, [.int (nI 0), .int (nI tp), .int (nI 4627), .int (nI ks), .ref mt, .ref mr_, .ref mk, .ref mo, .ref mh, .ref mse, .ref mhs, .ref msp, .ref msc, .ref mha])), (mse, .inl (g.2.1 0, 8, .inl fS))] ++ pl) _ := hP
                have hD : va_D _ ([(h0, .inr (8, [.int (nI 0), .int (nI tp), .int (nI 4627), .int (nI ks), .ref mt, .ref mr_, .ref mk, .ref mo, .ref mh, .ref mse, .ref mhs, .ref msp, .ref msc, .ref mha])), (mse, .inl (g.2.1 0, 8, .inl fS))] ++ pl) := hD
                refine lv_iconst (v := nI 0) hx hb dM_sign_126 (by decide) ?_
                refine lv_istore (lv' := [(4, .int (nI 0)), (3, .int r45), (0, .ref h0), (1, .int (nI z21)), (2, .int (nI z29))]) hx hb dM_sign_127 hl (by decide) rfl (fun ls hl => ?_)
                have lp23 : ∀ (n23 : Nat) (i23 : Nat) (pl : va_W) (ls : Array Slot) (H : Heap) (locs : List Loc), n23 + i23 = 4627 → lv_has ls 5 [(4, .int (nI i23)), (3, .int r45), (0, .ref h0)] → okx g T [] pl → va_P g.1 vcl ([(h0, .inr (8, [.int (nI 0), .int (nI tp), .int (nI 4627), .int (nI ks), .ref mt, .ref mr_, .ref mk, .ref mo, .ref mh, .ref mse, .ref mhs, .ref msp, .ref msc, .ref mha])), (mse, .inl (g.2.1 0, 8, .inl fS))] ++ pl) H → va_D A ([(h0, .inr (8, [.int (nI 0), .int (nI tp), .int (nI 4627), .int (nI ks), .ref mt, .ref mr_, .ref mk, .ref mo, .ref mh, .ref mse, .ref mhs, .ref msp, .ref msc, .ref mha])), (mse, .inl (g.2.1 0, 8, .inl fS))] ++ pl) → va_S A s.heap H locs → W p l e ({ frames := 6, cells := 0, slots := 0, locals := 152 } : Room) s m args below meth c H locs 0 0 (MQ below (va_Qi (fun (r : Int32) (u : (Int32 × Nat × Nat × Nat × (Nat → Int32)) × va_W) => (u.1.2.1 ≤ 16384 ∧ u.1.2.2.1 ≤ 8192 ∧ u.1.2.2.2.1 ≤ 8 ∧ s5 u.1.2.2.2.2) ∧ okx g T [] u.2) (po g.1 vcl A (fun (u : (Int32 × Nat × Nat × Nat × (Nat → Int32)) × va_W) => [(h0, .inr (8, [.int u.1.1, .int (nI (u.1.2.1)), .int (nI (u.1.2.2.1)), .int (nI (u.1.2.2.2.1)), .ref mt, .ref mr_, .ref mk, .ref mo, .ref mh, .ref mse, .ref mhs, .ref msp, .ref msc, .ref mha])), (mse, .inl (g.2.1 0, 8, .inl ((u.1.2.2.2.2))))] ++ u.2)) A) args s 0 0 A) (F0 m 129 ls []) := by
                  intro n23
                  induction n23 with
                  | zero =>
                    intro i23 pl ls H locs hm103  hl hO hP hD hS
                    refine lv_iload hx hb dM_sign_129 (lv_at hl 0 rfl) ?_
                    refine lv_aload_n hx hb dM_sign_131 rfl (lv_at hl 2 rfl) ?_
                    refine va_get (D := g.1) (ci := 8) (C := "LatticeKeysModel") (T := T_M) (N := 14) hx hb hts (wg_ft i_M) hown hK hP 0 rfl rfl 2 (by decide) (hts _ (wg_t kw_1528)) (fun _ h9 => h9) rfl dM_sign_132 ?_
                    refine mi_ge (tgt := 158) hx hb dM_sign_135 (by decide) (by omega) (by omega) (fun h48 => ?_) (fun h48 => absurd h48 (by omega))
                    refine lv_aload_n hx hb dM_sign_158 rfl (lv_at hl 2 rfl) ?_
                    refine lv_iconst (v := nI 0) hx hb dM_sign_159 (by decide) ?_
                    refine va_put (D := g.1) (ci := 8) (v := .int (nI 0)) (ty := .int) (C := "LatticeKeysModel") (T := T_M) (N := 14) hx hb hts (wg_ft i_M) ty_M k_M n_M hown hK hP hD hS 0 rfl rfl 1 (by decide) (hts _ (wg_t kw_1527)) (fun _ h9 => h9) rfl (by decide +kernel) rfl rfl (Nat.le_of_ble_eq_true rfl) dM_sign_160 (fun H locs hP hD hS => ?_)
                    have hP : va_P g.1 vcl ([(h0, .inr (8, [.int (nI 0), .int (nI 0), .int (nI 4627), .int (nI ks), .ref mt, .ref mr_, .ref mk, .ref mo, .ref mh, .ref mse, .ref mhs, .ref msp, .ref msc, .ref mha])), (mse, .inl (g.2.1 0, 8, .inl fS))] ++ pl) _ := hP
                    have hD : va_D _ ([(h0, .inr (8, [.int (nI 0), .int (nI 0), .int (nI 4627), .int (nI ks), .ref mt, .ref mr_, .ref mk, .ref mo, .ref mh, .ref mse, .ref mhs, .ref msp, .ref msc, .ref mha])), (mse, .inl (g.2.1 0, 8, .inl fS))] ++ pl) := hD
                    refine lv_iload_n hx hb dM_sign_163 rfl (lv_at hl 1 rfl) ?_
                    exact mp_iret hx hb hr hlk hP hD hS ((nI 0, 0, 4627, ks, fS), pl) ⟨⟨(by show 0 ≤ 16384; omega), (by show 4627 ≤ 8192; omega), (by show ks ≤ 8; omega), hS5⟩, hO⟩ [0, 1] rfl rfl rfl (by omega) (by omega) dM_sign_164
                  | succ n23 ih23 =>
                    intro i23 pl ls H locs hm103  hl hO hP hD hS
                    refine lv_iload hx hb dM_sign_129 (lv_at hl 0 rfl) ?_
                    refine lv_aload_n hx hb dM_sign_131 rfl (lv_at hl 2 rfl) ?_
                    refine va_get (D := g.1) (ci := 8) (C := "LatticeKeysModel") (T := T_M) (N := 14) hx hb hts (wg_ft i_M) hown hK hP 0 rfl rfl 2 (by decide) (hts _ (wg_t kw_1528)) (fun _ h9 => h9) rfl dM_sign_132 ?_
                    refine mi_ge (tgt := 158) hx hb dM_sign_135 (by decide) (by omega) (by omega) (fun h49 => absurd h49 (by omega)) (fun h49 => ?_)
                    refine lv_aload_n hx hb dM_sign_138 rfl (lv_at hl 2 rfl) ?_
                    refine va_get (D := g.1) (ci := 8) (C := "LatticeKeysModel") (T := T_M) (N := 14) hx hb hts (wg_ft i_M) hown hK hP 0 rfl rfl 5 (by decide) (hts _ (wg_t kw_1531)) (fun _ h9 => h9) rfl dM_sign_139 ?_
                    refine lv_iload hx hb dM_sign_142 (lv_at hl 0 rfl) ?_
                    refine lv_aload_n hx hb dM_sign_144 rfl (lv_at hl 2 rfl) ?_
                    refine va_get (D := g.1) (ci := 8) (C := "LatticeKeysModel") (T := T_M) (N := 14) hx hb hts (wg_ft i_M) hown hK hP 0 rfl rfl 6 (by decide) (hts _ (wg_t kw_1532)) (fun _ h9 => h9) rfl dM_sign_145 ?_
                    refine lv_iload hx hb dM_sign_148 (lv_at hl 0 rfl) ?_
                    refine ty_bald hx hb hK hO k_mk (nxg clo_nil k_mk rfl) hP (vp_in_nI (by omega) (by decide)) dM_sign_150 (fun z30 => ?_)
                    refine ty_bast hx hb hK hO k_mr_ (nxg clo_nil k_mr_ rfl) hP hD hS (vp_in_nI (by omega) (by decide)) dM_sign_151 (fun pl H locs hO hP hD hS => ?_)
                    refine mi_iinc (k := 0) (x := i23) (d := 1) (y := i23 + 1) (lv' := [(4, .int (nI (i23 + 1))), (3, .int r45), (0, .ref h0)]) hx hb dM_sign_152 hl rfl (by decide) rfl (by decide) rfl (fun ls hl => ?_)
                    refine lv_goto (tgt := 129) hx hb dM_sign_155 (by decide) ?_
                    exact ih23 (i23 + 1) pl ls H locs (by omega) (lv_sub hl [0, 1, 2] rfl) hO hP hD hS
                exact lp23 4627 0 pl ls _ _ (by omega) (lv_sub hl [0, 1, 2] rfl) hO hP hD hS
              · refine lv_aload_n hx hb dM_sign_105 rfl (lv_at hl 1 rfl) ?_
                refine lv_iconst (v := nI 3) hx hb dM_sign_106 (by decide) ?_
                refine mp_i (cx := [(h0, .inr (8, [.int (nI 0), .int (nI tp), .int (nI rs), .int (nI ks), .ref mt, .ref mr_, .ref mk, .ref mo, .ref mh, .ref mse, .ref mhs, .ref msp, .ref msc, .ref mha])), (mse, .inl (g.2.1 0, 8, .inl fS))]) (wr := []) hP hD hS hA [0, 1] [] rfl rfl rfl (by decide) (va_runV (As := [.int (nI 3)]) (rest := []) F (t_M_fail l g _ T  pl hO hU  (nI 3) h0 mt mr_ mk mo mh mse mhs msp msc mha tp rs ks (nI 0) fS k_mt k_mr_ k_mk k_mo k_mh k_mhs k_msp k_msc k_mha (by omega) hS5) (cwV 1 hts (wg_app (wg_c kw_1577 (wg_c kw_1579 (wg_c ks_50 (wg_c kw_9 wg_n)))) kw_1580) rfl rfl rfl (by decide +kernel) ⟨by decide, by decide⟩) (pp_V (en_ok g) (q0 := 0) hK hP hD hS hA hE [0, 1] rfl rfl rfl rfl) rfl rfl hl.1 rfl (lv_room (Nat.le_of_ble_eq_true rfl)) dM_sign_107 ⟨by omega, by omega⟩) (fun r47 u53 H locs hu44 hP hD hS => ?_)
                obtain ⟨u54, pl⟩ := u53
                obtain ⟨hq44, hO⟩ := hu44
                obtain ⟨th37, tp37, rs37, ks37, fS37⟩ := u54
                have hP : va_P g.1 vcl ([(h0, .inr (8, [.int th37, .int (nI tp37), .int (nI rs37), .int (nI ks37), .ref mt, .ref mr_, .ref mk, .ref mo, .ref mh, .ref mse, .ref mhs, .ref msp, .ref msc, .ref mha])), (mse, .inl (g.2.1 0, 8, .inl fS37))] ++ pl) _ := hP
                have hD : va_D _ ([(h0, .inr (8, [.int th37, .int (nI tp37), .int (nI rs37), .int (nI ks37), .ref mt, .ref mr_, .ref mk, .ref mo, .ref mh, .ref mse, .ref mhs, .ref msp, .ref msc, .ref mha])), (mse, .inl (g.2.1 0, 8, .inl fS37))] ++ pl) := hD
                obtain ⟨-, -, -, hm107, hm108⟩ := hq44
                obtain ⟨he101, he102, he103, he104, he105⟩ := hm108
                have he101 : th37 = nI 3 := he101
                have he102 : tp37 = tp := he102
                have he103 : rs37 = rs := he103
                have he104 : ks37 = ks := he104
                obtain rfl := he105
                refine W.widen (k := 0) (n := 0) (by omega) (by omega) ?_
                exact mp_iret hx hb hr hlk hP hD hS ((th37, tp37, rs37, ks37, fS37), pl) ⟨⟨(by show tp37 ≤ 16384; omega), (by show rs37 ≤ 8192; omega), (by show ks37 ≤ 8; omega), hm107⟩, hO⟩ [0, 1] rfl rfl rfl (by omega) (by omega) dM_sign_110
            · refine lv_aload_n hx hb dM_sign_60 rfl (lv_at hl 0 rfl) ?_
              refine lv_iconst (v := nI 2) hx hb dM_sign_61 (by decide) ?_
              refine mp_i (cx := [(h0, .inr (8, [.int (nI 0), .int (nI tp), .int (nI rs), .int (nI ks), .ref mt, .ref mr_, .ref mk, .ref mo, .ref mh, .ref mse, .ref mhs, .ref msp, .ref msc, .ref mha])), (mse, .inl (g.2.1 0, 8, .inl fS))]) (wr := []) hP hD hS hA [0, 1] [] rfl rfl rfl (by decide) (va_runV (As := [.int (nI 2)]) (rest := []) F (t_M_fail l g _ T  pl hO hU  (nI 2) h0 mt mr_ mk mo mh mse mhs msp msc mha tp rs ks (nI 0) fS k_mt k_mr_ k_mk k_mo k_mh k_mhs k_msp k_msc k_mha (by omega) hS5) (cwV 1 hts (wg_app (wg_c kw_1577 (wg_c kw_1579 (wg_c ks_50 (wg_c kw_9 wg_n)))) kw_1580) rfl rfl rfl (by decide +kernel) ⟨by decide, by decide⟩) (pp_V (en_ok g) (q0 := 0) hK hP hD hS hA hE [0, 1] rfl rfl rfl rfl) rfl rfl hl.1 rfl (lv_room (Nat.le_of_ble_eq_true rfl)) dM_sign_62 ⟨by omega, by omega⟩) (fun r48 u55 H locs hu45 hP hD hS => ?_)
              obtain ⟨u56, pl⟩ := u55
              obtain ⟨hq45, hO⟩ := hu45
              obtain ⟨th38, tp38, rs38, ks38, fS38⟩ := u56
              have hP : va_P g.1 vcl ([(h0, .inr (8, [.int th38, .int (nI tp38), .int (nI rs38), .int (nI ks38), .ref mt, .ref mr_, .ref mk, .ref mo, .ref mh, .ref mse, .ref mhs, .ref msp, .ref msc, .ref mha])), (mse, .inl (g.2.1 0, 8, .inl fS38))] ++ pl) _ := hP
              have hD : va_D _ ([(h0, .inr (8, [.int th38, .int (nI tp38), .int (nI rs38), .int (nI ks38), .ref mt, .ref mr_, .ref mk, .ref mo, .ref mh, .ref mse, .ref mhs, .ref msp, .ref msc, .ref mha])), (mse, .inl (g.2.1 0, 8, .inl fS38))] ++ pl) := hD
              obtain ⟨-, -, -, hm112, hm113⟩ := hq45
              obtain ⟨he106, he107, he108, he109, he110⟩ := hm113
              have he106 : th38 = nI 2 := he106
              have he107 : tp38 = tp := he107
              have he108 : rs38 = rs := he108
              have he109 : ks38 = ks := he109
              obtain rfl := he110
              refine W.widen (k := 0) (n := 0) (by omega) (by omega) ?_
              exact mp_iret hx hb hr hlk hP hD hS ((th38, tp38, rs38, ks38, fS38), pl) ⟨⟨(by show tp38 ≤ 16384; omega), (by show rs38 ≤ 8192; omega), (by show ks38 ≤ 8; omega), hm112⟩, hO⟩ [0, 1] rfl rfl rfl (by omega) (by omega) dM_sign_65
      · refine lv_aload_n hx hb dM_sign_32 rfl (lv_at hl 0 rfl) ?_
        refine lv_iconst (v := nI 1) hx hb dM_sign_33 (by decide) ?_
        refine mp_i (cx := [(h0, .inr (8, [.int (nI 0), .int (nI tp), .int (nI rs), .int (nI ks), .ref mt, .ref mr_, .ref mk, .ref mo, .ref mh, .ref mse, .ref mhs, .ref msp, .ref msc, .ref mha])), (mse, .inl (g.2.1 0, 8, .inl fS))]) (wr := []) hP hD hS hA [0, 1] [] rfl rfl rfl (by decide) (va_runV (As := [.int (nI 1)]) (rest := []) F (t_M_fail l g _ T  pl hO hU  (nI 1) h0 mt mr_ mk mo mh mse mhs msp msc mha tp rs ks (nI 0) fS k_mt k_mr_ k_mk k_mo k_mh k_mhs k_msp k_msc k_mha (by omega) hS5) (cwV 1 hts (wg_app (wg_c kw_1577 (wg_c kw_1579 (wg_c ks_50 (wg_c kw_9 wg_n)))) kw_1580) rfl rfl rfl (by decide +kernel) ⟨by decide, by decide⟩) (pp_V (en_ok g) (q0 := 0) hK hP hD hS hA hE [0, 1] rfl rfl rfl rfl) rfl rfl hl.1 rfl (lv_room (Nat.le_of_ble_eq_true rfl)) dM_sign_34 ⟨by omega, by omega⟩) (fun r49 u57 H locs hu46 hP hD hS => ?_)
        obtain ⟨u58, pl⟩ := u57
        obtain ⟨hq46, hO⟩ := hu46
        obtain ⟨th39, tp39, rs39, ks39, fS39⟩ := u58
        have hP : va_P g.1 vcl ([(h0, .inr (8, [.int th39, .int (nI tp39), .int (nI rs39), .int (nI ks39), .ref mt, .ref mr_, .ref mk, .ref mo, .ref mh, .ref mse, .ref mhs, .ref msp, .ref msc, .ref mha])), (mse, .inl (g.2.1 0, 8, .inl fS39))] ++ pl) _ := hP
        have hD : va_D _ ([(h0, .inr (8, [.int th39, .int (nI tp39), .int (nI rs39), .int (nI ks39), .ref mt, .ref mr_, .ref mk, .ref mo, .ref mh, .ref mse, .ref mhs, .ref msp, .ref msc, .ref mha])), (mse, .inl (g.2.1 0, 8, .inl fS39))] ++ pl) := hD
        obtain ⟨-, -, -, hm117, hm118⟩ := hq46
        obtain ⟨he111, he112, he113, he114, he115⟩ := hm118
        have he111 : th39 = nI 1 := he111
        have he112 : tp39 = tp := he112
        have he113 : rs39 = rs := he113
        have he114 : ks39 = ks := he114
        obtain rfl := he115
        refine W.widen (k := 0) (n := 0) (by omega) (by omega) ?_
        exact mp_iret hx hb hr hlk hP hD hS ((th39, tp39, rs39, ks39, fS39), pl) ⟨⟨(by show tp39 ≤ 16384; omega), (by show rs39 ≤ 8192; omega), (by show ks39 ≤ 8; omega), hm117⟩, hO⟩ [0, 1] rfl rfl rfl (by omega) (by omega) dM_sign_37
    | _ + 6, hy21, _ => exact absurd hy21 (by omega)
set_option maxHeartbeats 4000000 in
set_option maxRecDepth 100000 in
theorem t_M_verify (l : Launch) (g : Gd) (sz : Nat) (T : Ty) (pl : va_W) (hO : okx g T [] pl) (hU : uni T) (v : Int32) (v2 : Int32) (h0 mt mr_ mk mo mh mse mhs msp msc mha tp rs ks : Nat) (x0 : Int32) (fS : Nat → Int32) (k_mt : T mt = some (1, 16384)) (k_mr_ : T mr_ = some (1, 8192)) (k_mk : T mk = some (1, 8192)) (k_mo : T mo = some (4, 2592)) (k_mh : T mh = some (4, 4896)) (k_mhs : T mhs = some (5, 4896)) (k_msp : T msp = some (20, 0)) (k_msc : T msc = some (23, 0)) (k_mha : T mha = some (49, 0)) (hb : tp ≤ 16384 ∧ rs ≤ 8192 ∧ ks ≤ 8) (hS5 : s5 fS)  : Met l y_M_verify w_M_verify ({ frames := 6, cells := 0, slots := 0, locals := 154 } : Room) (va_Pc [.ref h0, .int v, .int v2] (pr (en g) g.1 vcl sz ([(h0, .inr (8, [.int x0, .int (nI tp), .int (nI rs), .int (nI ks), .ref mt, .ref mr_, .ref mk, .ref mo, .ref mh, .ref mse, .ref mhs, .ref msp, .ref msc, .ref mha])), (mse, .inl (g.2.1 0, 8, .inl fS))] ++ pl))) (va_Qi (fun (r : Int32) (u : (Int32 × Nat × Nat × Nat × (Nat → Int32)) × va_W) => (u.1.2.1 ≤ 16384 ∧ u.1.2.2.1 ≤ 8192 ∧ u.1.2.2.2.1 ≤ 8 ∧ s5 u.1.2.2.2.2) ∧ okx g T [] u.2) (po g.1 vcl (va_A ([(h0, .inr (8, [.int x0, .int (nI tp), .int (nI rs), .int (nI ks), .ref mt, .ref mr_, .ref mk, .ref mo, .ref mh, .ref mse, .ref mhs, .ref msp, .ref msc, .ref mha])), (mse, .inl (g.2.1 0, 8, .inl fS))] ++ pl) sz) (fun (u : (Int32 × Nat × Nat × Nat × (Nat → Int32)) × va_W) => [(h0, .inr (8, [.int u.1.1, .int (nI (u.1.2.1)), .int (nI (u.1.2.2.1)), .int (nI (u.1.2.2.2.1)), .ref mt, .ref mr_, .ref mk, .ref mo, .ref mh, .ref mse, .ref mhs, .ref msp, .ref msc, .ref mha])), (mse, .inl (g.2.1 0, 8, .inl ((u.1.2.2.2.2))))] ++ u.2)) (va_A ([(h0, .inr (8, [.int x0, .int (nI tp), .int (nI rs), .int (nI ks), .ref mt, .ref mr_, .ref mk, .ref mo, .ref mh, .ref mse, .ref mhs, .ref msp, .ref msc, .ref mha])), (mse, .inl (g.2.1 0, 8, .inl fS))] ++ pl) sz)) 0 0 (va_A ([(h0, .inr (8, [.int x0, .int (nI tp), .int (nI rs), .int (nI ks), .ref mt, .ref mr_, .ref mk, .ref mo, .ref mh, .ref mse, .ref mhs, .ref msp, .ref msc, .ref mha])), (mse, .inl (g.2.1 0, 8, .inl fS))] ++ pl) sz) := by
  refine mc_entry (cc := c_M_verify) (maxL := 4) (ret := (some .boolean)) (by decide) rfl (Nat.le_of_ble_eq_true rfl) ?_
  intro p e s m args below meth c ls F hr hlk hnm hsz hP hD hE hA hl
  obtain ⟨hx, hb, hml, hown, hts⟩ := id F
  have hK := hE.1
  generalize va_A ([(h0, .inr (8, [.int x0, .int (nI tp), .int (nI rs), .int (nI ks), .ref mt, .ref mr_, .ref mk, .ref mo, .ref mh, .ref mse, .ref mhs, .ref msp, .ref msc, .ref mha])), (mse, .inl (g.2.1 0, 8, .inl fS))] ++ pl) sz = A at hD hE hA ⊢
  have hS : va_S A s.heap s.heap [] := va_S.rf
  have hl : lv_has ls 4 [(0, .ref h0), (1, .int v), (2, .int v2)] := hl
  refine lv_aload_n hx hb dM_verify_0 rfl (lv_at hl 0 rfl) ?_
  refine lv_aload_n hx hb dM_verify_1 rfl (lv_at hl 0 rfl) ?_
  refine lv_iload_n hx hb dM_verify_2 rfl (lv_at hl 1 rfl) ?_
  refine mp_i (cx := [(h0, .inr (8, [.int x0, .int (nI tp), .int (nI rs), .int (nI ks), .ref mt, .ref mr_, .ref mk, .ref mo, .ref mh, .ref mse, .ref mhs, .ref msp, .ref msc, .ref mha])), (mse, .inl (g.2.1 0, 8, .inl fS))]) (wr := []) hP hD hS hA [0, 1] [] rfl rfl rfl (by decide) (va_runV (As := [.int v]) (rest := [.ref h0]) F (t_M_none l g _ T  pl hO hU  v h0 mt mr_ mk mo mh mse mhs msp msc mha tp rs ks x0 fS k_mt k_mr_ k_mk k_mo k_mh k_mhs k_msp k_msc k_mha (by omega) hS5) (cwV 1 hts (wg_app (wg_c kw_1781 (wg_c kw_1783 (wg_c ks_65 (wg_c kw_9 wg_n)))) kw_1784) rfl rfl rfl (by decide +kernel) ⟨by decide, by decide⟩) (pp_V (en_ok g) (q0 := 0) hK hP hD hS hA hE [0, 1] rfl rfl rfl rfl) rfl rfl hl.1 rfl (lv_room (Nat.le_of_ble_eq_true rfl)) dM_verify_3 ⟨by omega, by omega⟩) (fun r21 pl H locs hu21 hP hD hS => ?_)
  obtain ⟨hq21, hO⟩ := hu21
  have hP : va_P g.1 vcl ([(h0, .inr (8, [.int x0, .int (nI tp), .int (nI rs), .int (nI ks), .ref mt, .ref mr_, .ref mk, .ref mo, .ref mh, .ref mse, .ref mhs, .ref msp, .ref msc, .ref mha])), (mse, .inl (g.2.1 0, 8, .inl fS))] ++ pl) _ := hP
  have hD : va_D _ ([(h0, .inr (8, [.int x0, .int (nI tp), .int (nI rs), .int (nI ks), .ref mt, .ref mr_, .ref mk, .ref mo, .ref mh, .ref mse, .ref mhs, .ref msp, .ref msc, .ref mha])), (mse, .inl (g.2.1 0, 8, .inl fS))] ++ pl) := hD
  refine W.widen (k := 0) (n := 0) (by omega) (by omega) ?_
  rcases hq21 with hq21 | hq21
  · obtain rfl := hq21
    refine lv_if_ne (tgt := 19) hx hb dM_verify_6 (by decide) (fun h21 => ?_) (fun h21 => absurd h21 (by decide))
    refine lv_iconst (v := nI 1) hx hb dM_verify_19 (by decide) ?_
    refine lv_goto (tgt := 59) hx hb dM_verify_20 (by decide) ?_
    refine va_put (D := g.1) (ci := 8) (v := .int (nI 1)) (ty := .int) (C := "LatticeKeysModel") (T := T_M) (N := 14) hx hb hts (wg_ft i_M) ty_M k_M n_M hown hK hP hD hS 0 rfl rfl 0 (by decide) (hts _ (wg_t kw_1526)) (fun _ h9 => h9) rfl (by decide +kernel) rfl rfl (Nat.le_of_ble_eq_true rfl) dM_verify_59 (fun H locs hP hD hS => ?_)
    have hP : va_P g.1 vcl ([(h0, .inr (8, [.int (nI 1), .int (nI tp), .int (nI rs), .int (nI ks), .ref mt, .ref mr_, .ref mk, .ref mo, .ref mh, .ref mse, .ref mhs, .ref msp, .ref msc, .ref mha])), (mse, .inl (g.2.1 0, 8, .inl fS))] ++ pl) _ := hP
    have hD : va_D _ ([(h0, .inr (8, [.int (nI 1), .int (nI tp), .int (nI rs), .int (nI ks), .ref mt, .ref mr_, .ref mk, .ref mo, .ref mh, .ref mse, .ref mhs, .ref msp, .ref msc, .ref mha])), (mse, .inl (g.2.1 0, 8, .inl fS))] ++ pl) := hD
    refine lv_aload_n hx hb dM_verify_62 rfl (lv_at hl 0 rfl) ?_
    refine va_get (D := g.1) (ci := 8) (C := "LatticeKeysModel") (T := T_M) (N := 14) hx hb hts (wg_ft i_M) hown hK hP 0 rfl rfl 0 (by decide) (hts _ (wg_t kw_1526)) (fun _ h9 => h9) rfl dM_verify_63 ?_
    refine lv_if_le (tgt := 71) hx hb dM_verify_66 (by decide) (fun h22 => absurd h22 (by decide)) (fun h22 => ?_)
    refine lv_iconst (v := nI 0) hx hb dM_verify_69 (by decide) ?_
    exact mp_zret hx hb hr hlk rfl hP hD hS ((nI 1, tp, rs, ks, fS), pl) ⟨⟨(by show tp ≤ 16384; omega), (by show rs ≤ 8192; omega), (by show ks ≤ 8; omega), hS5⟩, hO⟩ [0, 1] rfl rfl rfl (by omega) (by omega) dM_verify_70
  · obtain ⟨rfl, z21, hz21, rfl⟩ := hq21
    refine lv_if_ne (tgt := 19) hx hb dM_verify_6 (by decide) (fun h23 => absurd h23 (by decide)) (fun h23 => ?_)
    refine lv_aload_n hx hb dM_verify_9 rfl (lv_at hl 0 rfl) ?_
    refine va_get (D := g.1) (ci := 8) (C := "LatticeKeysModel") (T := T_M) (N := 14) hx hb hts (wg_ft i_M) hown hK hP 0 rfl rfl 9 (by decide) (hts _ (wg_t kw_1535)) (fun _ h9 => h9) rfl dM_verify_10 ?_
    refine lv_iload_n hx hb dM_verify_13 rfl (lv_at hl 1 rfl) ?_
    refine mp_iald hx hb hK hP 1 0 rfl rfl (by omega) (by decide) dM_verify_14 ?_
    obtain ⟨y21, hy21, ey21⟩ := hS5 z21 (by omega)
    match y21, hy21, ey21 with
    | 0, _, ey21 =>
      refine mi_as ey21 ?_
      refine lv_iconst (v := nI 3) hx hb dM_verify_15 (by decide) ?_
      refine mi_ge (tgt := 23) hx hb dM_verify_16 (by decide) (by omega) (by omega) (fun h24 => absurd h24 (by omega)) (fun h24 => ?_)
      refine lv_iconst (v := nI 1) hx hb dM_verify_19 (by decide) ?_
      refine lv_goto (tgt := 59) hx hb dM_verify_20 (by decide) ?_
      refine va_put (D := g.1) (ci := 8) (v := .int (nI 1)) (ty := .int) (C := "LatticeKeysModel") (T := T_M) (N := 14) hx hb hts (wg_ft i_M) ty_M k_M n_M hown hK hP hD hS 0 rfl rfl 0 (by decide) (hts _ (wg_t kw_1526)) (fun _ h9 => h9) rfl (by decide +kernel) rfl rfl (Nat.le_of_ble_eq_true rfl) dM_verify_59 (fun H locs hP hD hS => ?_)
      have hP : va_P g.1 vcl ([(h0, .inr (8, [.int (nI 1), .int (nI tp), .int (nI rs), .int (nI ks), .ref mt, .ref mr_, .ref mk, .ref mo, .ref mh, .ref mse, .ref mhs, .ref msp, .ref msc, .ref mha])), (mse, .inl (g.2.1 0, 8, .inl fS))] ++ pl) _ := hP
      have hD : va_D _ ([(h0, .inr (8, [.int (nI 1), .int (nI tp), .int (nI rs), .int (nI ks), .ref mt, .ref mr_, .ref mk, .ref mo, .ref mh, .ref mse, .ref mhs, .ref msp, .ref msc, .ref mha])), (mse, .inl (g.2.1 0, 8, .inl fS))] ++ pl) := hD
      refine lv_aload_n hx hb dM_verify_62 rfl (lv_at hl 0 rfl) ?_
      refine va_get (D := g.1) (ci := 8) (C := "LatticeKeysModel") (T := T_M) (N := 14) hx hb hts (wg_ft i_M) hown hK hP 0 rfl rfl 0 (by decide) (hts _ (wg_t kw_1526)) (fun _ h9 => h9) rfl dM_verify_63 ?_
      refine lv_if_le (tgt := 71) hx hb dM_verify_66 (by decide) (fun h25 => absurd h25 (by decide)) (fun h25 => ?_)
      refine lv_iconst (v := nI 0) hx hb dM_verify_69 (by decide) ?_
      exact mp_zret hx hb hr hlk rfl hP hD hS ((nI 1, tp, rs, ks, fS), pl) ⟨⟨(by show tp ≤ 16384; omega), (by show rs ≤ 8192; omega), (by show ks ≤ 8; omega), hS5⟩, hO⟩ [0, 1] rfl rfl rfl (by omega) (by omega) dM_verify_70
    | 1, _, ey21 =>
      refine mi_as ey21 ?_
      refine lv_iconst (v := nI 3) hx hb dM_verify_15 (by decide) ?_
      refine mi_ge (tgt := 23) hx hb dM_verify_16 (by decide) (by omega) (by omega) (fun h26 => absurd h26 (by omega)) (fun h26 => ?_)
      refine lv_iconst (v := nI 1) hx hb dM_verify_19 (by decide) ?_
      refine lv_goto (tgt := 59) hx hb dM_verify_20 (by decide) ?_
      refine va_put (D := g.1) (ci := 8) (v := .int (nI 1)) (ty := .int) (C := "LatticeKeysModel") (T := T_M) (N := 14) hx hb hts (wg_ft i_M) ty_M k_M n_M hown hK hP hD hS 0 rfl rfl 0 (by decide) (hts _ (wg_t kw_1526)) (fun _ h9 => h9) rfl (by decide +kernel) rfl rfl (Nat.le_of_ble_eq_true rfl) dM_verify_59 (fun H locs hP hD hS => ?_)
      have hP : va_P g.1 vcl ([(h0, .inr (8, [.int (nI 1), .int (nI tp), .int (nI rs), .int (nI ks), .ref mt, .ref mr_, .ref mk, .ref mo, .ref mh, .ref mse, .ref mhs, .ref msp, .ref msc, .ref mha])), (mse, .inl (g.2.1 0, 8, .inl fS))] ++ pl) _ := hP
      have hD : va_D _ ([(h0, .inr (8, [.int (nI 1), .int (nI tp), .int (nI rs), .int (nI ks), .ref mt, .ref mr_, .ref mk, .ref mo, .ref mh, .ref mse, .ref mhs, .ref msp, .ref msc, .ref mha])), (mse, .inl (g.2.1 0, 8, .inl fS))] ++ pl) := hD
      refine lv_aload_n hx hb dM_verify_62 rfl (lv_at hl 0 rfl) ?_
      refine va_get (D := g.1) (ci := 8) (C := "LatticeKeysModel") (T := T_M) (N := 14) hx hb hts (wg_ft i_M) hown hK hP 0 rfl rfl 0 (by decide) (hts _ (wg_t kw_1526)) (fun _ h9 => h9) rfl dM_verify_63 ?_
      refine lv_if_le (tgt := 71) hx hb dM_verify_66 (by decide) (fun h27 => absurd h27 (by decide)) (fun h27 => ?_)
      refine lv_iconst (v := nI 0) hx hb dM_verify_69 (by decide) ?_
      exact mp_zret hx hb hr hlk rfl hP hD hS ((nI 1, tp, rs, ks, fS), pl) ⟨⟨(by show tp ≤ 16384; omega), (by show rs ≤ 8192; omega), (by show ks ≤ 8; omega), hS5⟩, hO⟩ [0, 1] rfl rfl rfl (by omega) (by omega) dM_verify_70
    | 2, _, ey21 =>
      refine mi_as ey21 ?_
      refine lv_iconst (v := nI 3) hx hb dM_verify_15 (by decide) ?_
      refine mi_ge (tgt := 23) hx hb dM_verify_16 (by decide) (by omega) (by omega) (fun h28 => absurd h28 (by omega)) (fun h28 => ?_)
      refine lv_iconst (v := nI 1) hx hb dM_verify_19 (by decide) ?_
      refine lv_goto (tgt := 59) hx hb dM_verify_20 (by decide) ?_
      refine va_put (D := g.1) (ci := 8) (v := .int (nI 1)) (ty := .int) (C := "LatticeKeysModel") (T := T_M) (N := 14) hx hb hts (wg_ft i_M) ty_M k_M n_M hown hK hP hD hS 0 rfl rfl 0 (by decide) (hts _ (wg_t kw_1526)) (fun _ h9 => h9) rfl (by decide +kernel) rfl rfl (Nat.le_of_ble_eq_true rfl) dM_verify_59 (fun H locs hP hD hS => ?_)
      have hP : va_P g.1 vcl ([(h0, .inr (8, [.int (nI 1), .int (nI tp), .int (nI rs), .int (nI ks), .ref mt, .ref mr_, .ref mk, .ref mo, .ref mh, .ref mse, .ref mhs, .ref msp, .ref msc, .ref mha])), (mse, .inl (g.2.1 0, 8, .inl fS))] ++ pl) _ := hP
      have hD : va_D _ ([(h0, .inr (8, [.int (nI 1), .int (nI tp), .int (nI rs), .int (nI ks), .ref mt, .ref mr_, .ref mk, .ref mo, .ref mh, .ref mse, .ref mhs, .ref msp, .ref msc, .ref mha])), (mse, .inl (g.2.1 0, 8, .inl fS))] ++ pl) := hD
      refine lv_aload_n hx hb dM_verify_62 rfl (lv_at hl 0 rfl) ?_
      refine va_get (D := g.1) (ci := 8) (C := "LatticeKeysModel") (T := T_M) (N := 14) hx hb hts (wg_ft i_M) hown hK hP 0 rfl rfl 0 (by decide) (hts _ (wg_t kw_1526)) (fun _ h9 => h9) rfl dM_verify_63 ?_
      refine lv_if_le (tgt := 71) hx hb dM_verify_66 (by decide) (fun h29 => absurd h29 (by decide)) (fun h29 => ?_)
      refine lv_iconst (v := nI 0) hx hb dM_verify_69 (by decide) ?_
      exact mp_zret hx hb hr hlk rfl hP hD hS ((nI 1, tp, rs, ks, fS), pl) ⟨⟨(by show tp ≤ 16384; omega), (by show rs ≤ 8192; omega), (by show ks ≤ 8; omega), hS5⟩, hO⟩ [0, 1] rfl rfl rfl (by omega) (by omega) dM_verify_70
    | 3, _, ey21 =>
      refine mi_as ey21 ?_
      refine lv_iconst (v := nI 3) hx hb dM_verify_15 (by decide) ?_
      refine mi_ge (tgt := 23) hx hb dM_verify_16 (by decide) (by omega) (by omega) (fun h30 => ?_) (fun h30 => absurd h30 (by omega))
      refine lv_iload_n hx hb dM_verify_23 rfl (lv_at hl 2 rfl) ?_
      refine lv_if_lt (tgt := 54) hx hb dM_verify_24 (by decide) (fun h31 => ?_) (fun h31 => ?_)
      · refine lv_iconst (v := nI 2) hx hb dM_verify_54 (by decide) ?_
        refine lv_goto (tgt := 59) hx hb dM_verify_55 (by decide) ?_
        refine va_put (D := g.1) (ci := 8) (v := .int (nI 2)) (ty := .int) (C := "LatticeKeysModel") (T := T_M) (N := 14) hx hb hts (wg_ft i_M) ty_M k_M n_M hown hK hP hD hS 0 rfl rfl 0 (by decide) (hts _ (wg_t kw_1526)) (fun _ h9 => h9) rfl (by decide +kernel) rfl rfl (Nat.le_of_ble_eq_true rfl) dM_verify_59 (fun H locs hP hD hS => ?_)
        have hP : va_P g.1 vcl ([(h0, .inr (8, [.int (nI 2), .int (nI tp), .int (nI rs), .int (nI ks), .ref mt, .ref mr_, .ref mk, .ref mo, .ref mh, .ref mse, .ref mhs, .ref msp, .ref msc, .ref mha])), (mse, .inl (g.2.1 0, 8, .inl fS))] ++ pl) _ := hP
        have hD : va_D _ ([(h0, .inr (8, [.int (nI 2), .int (nI tp), .int (nI rs), .int (nI ks), .ref mt, .ref mr_, .ref mk, .ref mo, .ref mh, .ref mse, .ref mhs, .ref msp, .ref msc, .ref mha])), (mse, .inl (g.2.1 0, 8, .inl fS))] ++ pl) := hD
        refine lv_aload_n hx hb dM_verify_62 rfl (lv_at hl 0 rfl) ?_
        refine va_get (D := g.1) (ci := 8) (C := "LatticeKeysModel") (T := T_M) (N := 14) hx hb hts (wg_ft i_M) hown hK hP 0 rfl rfl 0 (by decide) (hts _ (wg_t kw_1526)) (fun _ h9 => h9) rfl dM_verify_63 ?_
        refine lv_if_le (tgt := 71) hx hb dM_verify_66 (by decide) (fun h32 => absurd h32 (by decide)) (fun h32 => ?_)
        refine lv_iconst (v := nI 0) hx hb dM_verify_69 (by decide) ?_
        exact mp_zret hx hb hr hlk rfl hP hD hS ((nI 2, tp, rs, ks, fS), pl) ⟨⟨(by show tp ≤ 16384; omega), (by show rs ≤ 8192; omega), (by show ks ≤ 8; omega), hS5⟩, hO⟩ [0, 1] rfl rfl rfl (by omega) (by omega) dM_verify_70
      · refine lv_iload_n hx hb dM_verify_27 rfl (lv_at hl 2 rfl) ?_
        refine lv_sipush (v := nI 255) hx hb dM_verify_28 (by decide) ?_
        refine lv_icmp_gt (tgt := 54) hx hb dM_verify_31 (by decide) (fun h33 => ?_) (fun h33 => ?_)
        · refine lv_iconst (v := nI 2) hx hb dM_verify_54 (by decide) ?_
          refine lv_goto (tgt := 59) hx hb dM_verify_55 (by decide) ?_
          refine va_put (D := g.1) (ci := 8) (v := .int (nI 2)) (ty := .int) (C := "LatticeKeysModel") (T := T_M) (N := 14) hx hb hts (wg_ft i_M) ty_M k_M n_M hown hK hP hD hS 0 rfl rfl 0 (by decide) (hts _ (wg_t kw_1526)) (fun _ h9 => h9) rfl (by decide +kernel) rfl rfl (Nat.le_of_ble_eq_true rfl) dM_verify_59 (fun H locs hP hD hS => ?_)
          have hP : va_P g.1 vcl ([(h0, .inr (8, [.int (nI 2), .int (nI tp), .int (nI rs), .int (nI ks), .ref mt, .ref mr_, .ref mk, .ref mo, .ref mh, .ref mse, .ref mhs, .ref msp, .ref msc, .ref mha])), (mse, .inl (g.2.1 0, 8, .inl fS))] ++ pl) _ := hP
          have hD : va_D _ ([(h0, .inr (8, [.int (nI 2), .int (nI tp), .int (nI rs), .int (nI ks), .ref mt, .ref mr_, .ref mk, .ref mo, .ref mh, .ref mse, .ref mhs, .ref msp, .ref msc, .ref mha])), (mse, .inl (g.2.1 0, 8, .inl fS))] ++ pl) := hD
          refine lv_aload_n hx hb dM_verify_62 rfl (lv_at hl 0 rfl) ?_
          refine va_get (D := g.1) (ci := 8) (C := "LatticeKeysModel") (T := T_M) (N := 14) hx hb hts (wg_ft i_M) hown hK hP 0 rfl rfl 0 (by decide) (hts _ (wg_t kw_1526)) (fun _ h9 => h9) rfl dM_verify_63 ?_
          refine lv_if_le (tgt := 71) hx hb dM_verify_66 (by decide) (fun h34 => absurd h34 (by decide)) (fun h34 => ?_)
          refine lv_iconst (v := nI 0) hx hb dM_verify_69 (by decide) ?_
          exact mp_zret hx hb hr hlk rfl hP hD hS ((nI 2, tp, rs, ks, fS), pl) ⟨⟨(by show tp ≤ 16384; omega), (by show rs ≤ 8192; omega), (by show ks ≤ 8; omega), hS5⟩, hO⟩ [0, 1] rfl rfl rfl (by omega) (by omega) dM_verify_70
        · obtain ⟨z22, hz22, rfl⟩ := i32_lex h31 (by omega) h33
          refine lv_aload_n hx hb dM_verify_34 rfl (lv_at hl 0 rfl) ?_
          refine va_get (D := g.1) (ci := 8) (C := "LatticeKeysModel") (T := T_M) (N := 14) hx hb hts (wg_ft i_M) hown hK hP 0 rfl rfl 1 (by decide) (hts _ (wg_t kw_1527)) (fun _ h9 => h9) rfl dM_verify_35 ?_
          refine lv_aload_n hx hb dM_verify_38 rfl (lv_at hl 0 rfl) ?_
          refine va_get (D := g.1) (ci := 8) (C := "LatticeKeysModel") (T := T_M) (N := 14) hx hb hts (wg_ft i_M) hown hK hP 0 rfl rfl 9 (by decide) (hts _ (wg_t kw_1535)) (fun _ h9 => h9) rfl dM_verify_39 ?_
          refine lv_iload_n hx hb dM_verify_42 rfl (lv_at hl 1 rfl) ?_
          refine mp_iald hx hb hK hP 1 0 rfl rfl (by omega) (by decide) dM_verify_43 ?_
          refine mi_as ey21 ?_
          refine lv_iconst (v := nI 3) hx hb dM_verify_44 (by decide) ?_
          refine mi_isub hx hb dM_verify_45 (by omega) ?_
          refine mi_as (show nI (3 - 3) = nI 0 from rfl) ?_
          refine mp_i (cx := []) (wr := [(h0, .inr (8, [.int x0, .int (nI tp), .int (nI rs), .int (nI ks), .ref mt, .ref mr_, .ref mk, .ref mo, .ref mh, .ref mse, .ref mhs, .ref msp, .ref msc, .ref mha])), (mse, .inl (g.2.1 0, 8, .inl fS))]) hP hD hS hA [] [0, 1] rfl rfl rfl (by decide) (va_runS (As := [.int (nI 0)]) (rest := [.int (nI tp), .ref h0]) F (t_MH_markSize_0 l g _ T [] pl hO hU  ) (va_cwS 1 hts (wg_app (wg_c kw_1918 (wg_c kw_1919 (wg_c kw_13 wg_n))) kw_1920) rfl rfl rfl (by decide +kernel) ⟨by decide, by decide⟩) (pp_S (en_ok g) hP hD hS hA hE [] rfl rfl) rfl rfl hl.1 rfl (lv_room (Nat.le_of_ble_eq_true rfl)) dM_verify_46 ⟨by omega, by omega⟩) (fun r22 pl H locs hu22 hP hD hS => ?_)
          obtain ⟨hq22, hO⟩ := hu22
          have hP : va_P g.1 vcl ([(h0, .inr (8, [.int x0, .int (nI tp), .int (nI rs), .int (nI ks), .ref mt, .ref mr_, .ref mk, .ref mo, .ref mh, .ref mse, .ref mhs, .ref msp, .ref msc, .ref mha])), (mse, .inl (g.2.1 0, 8, .inl fS))] ++ pl) _ := hP
          have hD : va_D _ ([(h0, .inr (8, [.int x0, .int (nI tp), .int (nI rs), .int (nI ks), .ref mt, .ref mr_, .ref mk, .ref mo, .ref mh, .ref mse, .ref mhs, .ref msp, .ref msc, .ref mha])), (mse, .inl (g.2.1 0, 8, .inl fS))] ++ pl) := hD
          obtain rfl := hq22
          refine W.widen (k := 0) (n := 0) (by omega) (by omega) ?_
          refine lv_iload_n hx hb dM_verify_49 rfl (lv_at hl 2 rfl) ?_
          refine mi_iadd hx hb dM_verify_50 ?_
          refine mi_ge (tgt := 58) hx hb dM_verify_51 (by decide) (by omega) (by omega) (fun h35 => ?_) (fun h35 => ?_)
          · refine lv_iconst (v := nI 0) hx hb dM_verify_58 (by decide) ?_
            refine va_put (D := g.1) (ci := 8) (v := .int (nI 0)) (ty := .int) (C := "LatticeKeysModel") (T := T_M) (N := 14) hx hb hts (wg_ft i_M) ty_M k_M n_M hown hK hP hD hS 0 rfl rfl 0 (by decide) (hts _ (wg_t kw_1526)) (fun _ h9 => h9) rfl (by decide +kernel) rfl rfl (Nat.le_of_ble_eq_true rfl) dM_verify_59 (fun H locs hP hD hS => ?_)
            have hP : va_P g.1 vcl ([(h0, .inr (8, [.int (nI 0), .int (nI tp), .int (nI rs), .int (nI ks), .ref mt, .ref mr_, .ref mk, .ref mo, .ref mh, .ref mse, .ref mhs, .ref msp, .ref msc, .ref mha])), (mse, .inl (g.2.1 0, 8, .inl fS))] ++ pl) _ := hP
            have hD : va_D _ ([(h0, .inr (8, [.int (nI 0), .int (nI tp), .int (nI rs), .int (nI ks), .ref mt, .ref mr_, .ref mk, .ref mo, .ref mh, .ref mse, .ref mhs, .ref msp, .ref msc, .ref mha])), (mse, .inl (g.2.1 0, 8, .inl fS))] ++ pl) := hD
            refine lv_aload_n hx hb dM_verify_62 rfl (lv_at hl 0 rfl) ?_
            refine va_get (D := g.1) (ci := 8) (C := "LatticeKeysModel") (T := T_M) (N := 14) hx hb hts (wg_ft i_M) hown hK hP 0 rfl rfl 0 (by decide) (hts _ (wg_t kw_1526)) (fun _ h9 => h9) rfl dM_verify_63 ?_
            refine lv_if_le (tgt := 71) hx hb dM_verify_66 (by decide) (fun h36 => ?_) (fun h36 => absurd h36 (by decide))
            refine lv_aload_n hx hb dM_verify_71 rfl (lv_at hl 0 rfl) ?_
            refine va_get (D := g.1) (ci := 8) (C := "LatticeKeysModel") (T := T_M) (N := 14) hx hb hts (wg_ft i_M) hown hK hP 0 rfl rfl 13 (by decide) (hts _ (wg_t kw_1539)) (fun _ h9 => h9) rfl dM_verify_72 ?_
            refine lv_aload_n hx hb dM_verify_75 rfl (lv_at hl 0 rfl) ?_
            refine va_get (D := g.1) (ci := 8) (C := "LatticeKeysModel") (T := T_M) (N := 14) hx hb hts (wg_ft i_M) hown hK hP 0 rfl rfl 9 (by decide) (hts _ (wg_t kw_1535)) (fun _ h9 => h9) rfl dM_verify_76 ?_
            refine lv_iload_n hx hb dM_verify_79 rfl (lv_at hl 1 rfl) ?_
            refine mp_iald hx hb hK hP 1 0 rfl rfl (by omega) (by decide) dM_verify_80 ?_
            refine mi_as ey21 ?_
            refine lv_iconst (v := nI 3) hx hb dM_verify_81 (by decide) ?_
            refine mi_isub hx hb dM_verify_82 (by omega) ?_
            refine mi_as (show nI (3 - 3) = nI 0 from rfl) ?_
            refine lv_aload_n hx hb dM_verify_83 rfl (lv_at hl 0 rfl) ?_
            refine va_get (D := g.1) (ci := 8) (C := "LatticeKeysModel") (T := T_M) (N := 14) hx hb hts (wg_ft i_M) hown hK hP 0 rfl rfl 7 (by decide) (hts _ (wg_t kw_1533)) (fun _ h9 => h9) rfl dM_verify_84 ?_
            refine lv_iload_n hx hb dM_verify_87 rfl (lv_at hl 1 rfl) ?_
            refine ty_aald4 hx hb hK hO k_mo (nxg clo_nil k_mo rfl) hP (by omega) dM_verify_88 (fun r23 kr21 => ?_)
            refine lv_aload_n hx hb dM_verify_89 rfl (lv_at hl 0 rfl) ?_
            refine va_get (D := g.1) (ci := 8) (C := "LatticeKeysModel") (T := T_M) (N := 14) hx hb hts (wg_ft i_M) hown hK hP 0 rfl rfl 4 (by decide) (hts _ (wg_t kw_1530)) (fun _ h9 => h9) rfl dM_verify_90 ?_
            refine lv_iload_n hx hb dM_verify_93 rfl (lv_at hl 2 rfl) ?_
            refine lv_aload_n hx hb dM_verify_94 rfl (lv_at hl 0 rfl) ?_
            refine va_get (D := g.1) (ci := 8) (C := "LatticeKeysModel") (T := T_M) (N := 14) hx hb hts (wg_ft i_M) hown hK hP 0 rfl rfl 1 (by decide) (hts _ (wg_t kw_1527)) (fun _ h9 => h9) rfl dM_verify_95 ?_
            refine mp_i (cx := []) (wr := [(h0, .inr (8, [.int (nI 0), .int (nI tp), .int (nI rs), .int (nI ks), .ref mt, .ref mr_, .ref mk, .ref mo, .ref mh, .ref mse, .ref mhs, .ref msp, .ref msc, .ref mha])), (mse, .inl (g.2.1 0, 8, .inl fS))]) hP hD hS hA [] [0, 1] rfl rfl rfl (by decide) (va_runV (As := [.int (nI 0), .ref r23, .ref mt, .int (nI z22), .int (nI tp)]) (rest := []) F (t_MH_verify_0 l g _ T  pl hO hU  mha r23 mt tp (nI z22) k_mha kr21 k_mt (by omega) (by omega)) (cwV 5 hts (wg_app (wg_c kw_1925 (wg_c kw_1926 (wg_c kw_1927 (wg_c kw_13 wg_n)))) kw_1928) rfl rfl rfl (by decide +kernel) ⟨by decide, by decide⟩) (pp_VT (en_ok g) (ci := 12) (kd := (49, 0)) hK hO k_mha (nxg clo_nil k_mha rfl) (fun _ h9 => ko1 h9) hP hD hS hA hE [] rfl rfl rfl) rfl rfl hl.1 rfl (lv_room (Nat.le_of_ble_eq_true rfl)) dM_verify_98 ⟨by omega, by omega⟩) (fun r24 pl H locs hu23 hP hD hS => ?_)
            obtain ⟨hq23, hO⟩ := hu23
            have hP : va_P g.1 vcl ([(h0, .inr (8, [.int (nI 0), .int (nI tp), .int (nI rs), .int (nI ks), .ref mt, .ref mr_, .ref mk, .ref mo, .ref mh, .ref mse, .ref mhs, .ref msp, .ref msc, .ref mha])), (mse, .inl (g.2.1 0, 8, .inl fS))] ++ pl) _ := hP
            have hD : va_D _ ([(h0, .inr (8, [.int (nI 0), .int (nI tp), .int (nI rs), .int (nI ks), .ref mt, .ref mr_, .ref mk, .ref mo, .ref mh, .ref mse, .ref mhs, .ref msp, .ref msc, .ref mha])), (mse, .inl (g.2.1 0, 8, .inl fS))] ++ pl) := hD
            refine W.widen (k := 0) (n := 0) (by omega) (by omega) ?_
            refine lv_istore_n (lv' := [(3, .int r24), (0, .ref h0), (1, .int (nI z21)), (2, .int (nI z22))]) hx hb dM_verify_101 rfl hl (by decide) rfl (fun ls hl => ?_)
            refine lv_aload_n hx hb dM_verify_102 rfl (lv_at hl 1 rfl) ?_
            refine lv_iconst (v := nI 0) hx hb dM_verify_103 (by decide) ?_
            refine va_put (D := g.1) (ci := 8) (v := .int (nI 0)) (ty := .int) (C := "LatticeKeysModel") (T := T_M) (N := 14) hx hb hts (wg_ft i_M) ty_M k_M n_M hown hK hP hD hS 0 rfl rfl 1 (by decide) (hts _ (wg_t kw_1527)) (fun _ h9 => h9) rfl (by decide +kernel) rfl rfl (Nat.le_of_ble_eq_true rfl) dM_verify_104 (fun H locs hP hD hS => ?_)
            have hP : va_P g.1 vcl ([(h0, .inr (8, [.int (nI 0), .int (nI 0), .int (nI rs), .int (nI ks), .ref mt, .ref mr_, .ref mk, .ref mo, .ref mh, .ref mse, .ref mhs, .ref msp, .ref msc, .ref mha])), (mse, .inl (g.2.1 0, 8, .inl fS))] ++ pl) _ := hP
            have hD : va_D _ ([(h0, .inr (8, [.int (nI 0), .int (nI 0), .int (nI rs), .int (nI ks), .ref mt, .ref mr_, .ref mk, .ref mo, .ref mh, .ref mse, .ref mhs, .ref msp, .ref msc, .ref mha])), (mse, .inl (g.2.1 0, 8, .inl fS))] ++ pl) := hD
            refine lv_iload_n hx hb dM_verify_107 rfl (lv_at hl 0 rfl) ?_
            exact mp_zret hx hb hr hlk (nar_b hq23) hP hD hS ((nI 0, 0, rs, ks, fS), pl) ⟨⟨(by show 0 ≤ 16384; omega), (by show rs ≤ 8192; omega), (by show ks ≤ 8; omega), hS5⟩, hO⟩ [0, 1] rfl rfl rfl (by omega) (by omega) dM_verify_108
          · refine lv_iconst (v := nI 2) hx hb dM_verify_54 (by decide) ?_
            refine lv_goto (tgt := 59) hx hb dM_verify_55 (by decide) ?_
            refine va_put (D := g.1) (ci := 8) (v := .int (nI 2)) (ty := .int) (C := "LatticeKeysModel") (T := T_M) (N := 14) hx hb hts (wg_ft i_M) ty_M k_M n_M hown hK hP hD hS 0 rfl rfl 0 (by decide) (hts _ (wg_t kw_1526)) (fun _ h9 => h9) rfl (by decide +kernel) rfl rfl (Nat.le_of_ble_eq_true rfl) dM_verify_59 (fun H locs hP hD hS => ?_)
            have hP : va_P g.1 vcl ([(h0, .inr (8, [.int (nI 2), .int (nI tp), .int (nI rs), .int (nI ks), .ref mt, .ref mr_, .ref mk, .ref mo, .ref mh, .ref mse, .ref mhs, .ref msp, .ref msc, .ref mha])), (mse, .inl (g.2.1 0, 8, .inl fS))] ++ pl) _ := hP
            have hD : va_D _ ([(h0, .inr (8, [.int (nI 2), .int (nI tp), .int (nI rs), .int (nI ks), .ref mt, .ref mr_, .ref mk, .ref mo, .ref mh, .ref mse, .ref mhs, .ref msp, .ref msc, .ref mha])), (mse, .inl (g.2.1 0, 8, .inl fS))] ++ pl) := hD
            refine lv_aload_n hx hb dM_verify_62 rfl (lv_at hl 0 rfl) ?_
            refine va_get (D := g.1) (ci := 8) (C := "LatticeKeysModel") (T := T_M) (N := 14) hx hb hts (wg_ft i_M) hown hK hP 0 rfl rfl 0 (by decide) (hts _ (wg_t kw_1526)) (fun _ h9 => h9) rfl dM_verify_63 ?_
            refine lv_if_le (tgt := 71) hx hb dM_verify_66 (by decide) (fun h37 => absurd h37 (by decide)) (fun h37 => ?_)
            refine lv_iconst (v := nI 0) hx hb dM_verify_69 (by decide) ?_
            exact mp_zret hx hb hr hlk rfl hP hD hS ((nI 2, tp, rs, ks, fS), pl) ⟨⟨(by show tp ≤ 16384; omega), (by show rs ≤ 8192; omega), (by show ks ≤ 8; omega), hS5⟩, hO⟩ [0, 1] rfl rfl rfl (by omega) (by omega) dM_verify_70
    | 4, _, ey21 =>
      refine mi_as ey21 ?_
      refine lv_iconst (v := nI 3) hx hb dM_verify_15 (by decide) ?_
      refine mi_ge (tgt := 23) hx hb dM_verify_16 (by decide) (by omega) (by omega) (fun h38 => ?_) (fun h38 => absurd h38 (by omega))
      refine lv_iload_n hx hb dM_verify_23 rfl (lv_at hl 2 rfl) ?_
      refine lv_if_lt (tgt := 54) hx hb dM_verify_24 (by decide) (fun h39 => ?_) (fun h39 => ?_)
      · refine lv_iconst (v := nI 2) hx hb dM_verify_54 (by decide) ?_
        refine lv_goto (tgt := 59) hx hb dM_verify_55 (by decide) ?_
        refine va_put (D := g.1) (ci := 8) (v := .int (nI 2)) (ty := .int) (C := "LatticeKeysModel") (T := T_M) (N := 14) hx hb hts (wg_ft i_M) ty_M k_M n_M hown hK hP hD hS 0 rfl rfl 0 (by decide) (hts _ (wg_t kw_1526)) (fun _ h9 => h9) rfl (by decide +kernel) rfl rfl (Nat.le_of_ble_eq_true rfl) dM_verify_59 (fun H locs hP hD hS => ?_)
        have hP : va_P g.1 vcl ([(h0, .inr (8, [.int (nI 2), .int (nI tp), .int (nI rs), .int (nI ks), .ref mt, .ref mr_, .ref mk, .ref mo, .ref mh, .ref mse, .ref mhs, .ref msp, .ref msc, .ref mha])), (mse, .inl (g.2.1 0, 8, .inl fS))] ++ pl) _ := hP
        have hD : va_D _ ([(h0, .inr (8, [.int (nI 2), .int (nI tp), .int (nI rs), .int (nI ks), .ref mt, .ref mr_, .ref mk, .ref mo, .ref mh, .ref mse, .ref mhs, .ref msp, .ref msc, .ref mha])), (mse, .inl (g.2.1 0, 8, .inl fS))] ++ pl) := hD
        refine lv_aload_n hx hb dM_verify_62 rfl (lv_at hl 0 rfl) ?_
        refine va_get (D := g.1) (ci := 8) (C := "LatticeKeysModel") (T := T_M) (N := 14) hx hb hts (wg_ft i_M) hown hK hP 0 rfl rfl 0 (by decide) (hts _ (wg_t kw_1526)) (fun _ h9 => h9) rfl dM_verify_63 ?_
        refine lv_if_le (tgt := 71) hx hb dM_verify_66 (by decide) (fun h40 => absurd h40 (by decide)) (fun h40 => ?_)
        refine lv_iconst (v := nI 0) hx hb dM_verify_69 (by decide) ?_
        exact mp_zret hx hb hr hlk rfl hP hD hS ((nI 2, tp, rs, ks, fS), pl) ⟨⟨(by show tp ≤ 16384; omega), (by show rs ≤ 8192; omega), (by show ks ≤ 8; omega), hS5⟩, hO⟩ [0, 1] rfl rfl rfl (by omega) (by omega) dM_verify_70
      · refine lv_iload_n hx hb dM_verify_27 rfl (lv_at hl 2 rfl) ?_
        refine lv_sipush (v := nI 255) hx hb dM_verify_28 (by decide) ?_
        refine lv_icmp_gt (tgt := 54) hx hb dM_verify_31 (by decide) (fun h41 => ?_) (fun h41 => ?_)
        · refine lv_iconst (v := nI 2) hx hb dM_verify_54 (by decide) ?_
          refine lv_goto (tgt := 59) hx hb dM_verify_55 (by decide) ?_
          refine va_put (D := g.1) (ci := 8) (v := .int (nI 2)) (ty := .int) (C := "LatticeKeysModel") (T := T_M) (N := 14) hx hb hts (wg_ft i_M) ty_M k_M n_M hown hK hP hD hS 0 rfl rfl 0 (by decide) (hts _ (wg_t kw_1526)) (fun _ h9 => h9) rfl (by decide +kernel) rfl rfl (Nat.le_of_ble_eq_true rfl) dM_verify_59 (fun H locs hP hD hS => ?_)
          have hP : va_P g.1 vcl ([(h0, .inr (8, [.int (nI 2), .int (nI tp), .int (nI rs), .int (nI ks), .ref mt, .ref mr_, .ref mk, .ref mo, .ref mh, .ref mse, .ref mhs, .ref msp, .ref msc, .ref mha])), (mse, .inl (g.2.1 0, 8, .inl fS))] ++ pl) _ := hP
          have hD : va_D _ ([(h0, .inr (8, [.int (nI 2), .int (nI tp), .int (nI rs), .int (nI ks), .ref mt, .ref mr_, .ref mk, .ref mo, .ref mh, .ref mse, .ref mhs, .ref msp, .ref msc, .ref mha])), (mse, .inl (g.2.1 0, 8, .inl fS))] ++ pl) := hD
          refine lv_aload_n hx hb dM_verify_62 rfl (lv_at hl 0 rfl) ?_
          refine va_get (D := g.1) (ci := 8) (C := "LatticeKeysModel") (T := T_M) (N := 14) hx hb hts (wg_ft i_M) hown hK hP 0 rfl rfl 0 (by decide) (hts _ (wg_t kw_1526)) (fun _ h9 => h9) rfl dM_verify_63 ?_
          refine lv_if_le (tgt := 71) hx hb dM_verify_66 (by decide) (fun h42 => absurd h42 (by decide)) (fun h42 => ?_)
          refine lv_iconst (v := nI 0) hx hb dM_verify_69 (by decide) ?_
          exact mp_zret hx hb hr hlk rfl hP hD hS ((nI 2, tp, rs, ks, fS), pl) ⟨⟨(by show tp ≤ 16384; omega), (by show rs ≤ 8192; omega), (by show ks ≤ 8; omega), hS5⟩, hO⟩ [0, 1] rfl rfl rfl (by omega) (by omega) dM_verify_70
        · obtain ⟨z23, hz23, rfl⟩ := i32_lex h39 (by omega) h41
          refine lv_aload_n hx hb dM_verify_34 rfl (lv_at hl 0 rfl) ?_
          refine va_get (D := g.1) (ci := 8) (C := "LatticeKeysModel") (T := T_M) (N := 14) hx hb hts (wg_ft i_M) hown hK hP 0 rfl rfl 1 (by decide) (hts _ (wg_t kw_1527)) (fun _ h9 => h9) rfl dM_verify_35 ?_
          refine lv_aload_n hx hb dM_verify_38 rfl (lv_at hl 0 rfl) ?_
          refine va_get (D := g.1) (ci := 8) (C := "LatticeKeysModel") (T := T_M) (N := 14) hx hb hts (wg_ft i_M) hown hK hP 0 rfl rfl 9 (by decide) (hts _ (wg_t kw_1535)) (fun _ h9 => h9) rfl dM_verify_39 ?_
          refine lv_iload_n hx hb dM_verify_42 rfl (lv_at hl 1 rfl) ?_
          refine mp_iald hx hb hK hP 1 0 rfl rfl (by omega) (by decide) dM_verify_43 ?_
          refine mi_as ey21 ?_
          refine lv_iconst (v := nI 3) hx hb dM_verify_44 (by decide) ?_
          refine mi_isub hx hb dM_verify_45 (by omega) ?_
          refine mi_as (show nI (4 - 3) = nI 1 from rfl) ?_
          refine mp_i (cx := []) (wr := [(h0, .inr (8, [.int x0, .int (nI tp), .int (nI rs), .int (nI ks), .ref mt, .ref mr_, .ref mk, .ref mo, .ref mh, .ref mse, .ref mhs, .ref msp, .ref msc, .ref mha])), (mse, .inl (g.2.1 0, 8, .inl fS))]) hP hD hS hA [] [0, 1] rfl rfl rfl (by decide) (va_runS (As := [.int (nI 1)]) (rest := [.int (nI tp), .ref h0]) F (t_MH_markSize_1 l g _ T [] pl hO hU  ) (va_cwS 1 hts (wg_app (wg_c kw_1918 (wg_c kw_1919 (wg_c kw_13 wg_n))) kw_1920) rfl rfl rfl (by decide +kernel) ⟨by decide, by decide⟩) (pp_S (en_ok g) hP hD hS hA hE [] rfl rfl) rfl rfl hl.1 rfl (lv_room (Nat.le_of_ble_eq_true rfl)) dM_verify_46 ⟨by omega, by omega⟩) (fun r25 pl H locs hu24 hP hD hS => ?_)
          obtain ⟨hq24, hO⟩ := hu24
          have hP : va_P g.1 vcl ([(h0, .inr (8, [.int x0, .int (nI tp), .int (nI rs), .int (nI ks), .ref mt, .ref mr_, .ref mk, .ref mo, .ref mh, .ref mse, .ref mhs, .ref msp, .ref msc, .ref mha])), (mse, .inl (g.2.1 0, 8, .inl fS))] ++ pl) _ := hP
          have hD : va_D _ ([(h0, .inr (8, [.int x0, .int (nI tp), .int (nI rs), .int (nI ks), .ref mt, .ref mr_, .ref mk, .ref mo, .ref mh, .ref mse, .ref mhs, .ref msp, .ref msc, .ref mha])), (mse, .inl (g.2.1 0, 8, .inl fS))] ++ pl) := hD
          obtain rfl := hq24
          refine W.widen (k := 0) (n := 0) (by omega) (by omega) ?_
          refine lv_iload_n hx hb dM_verify_49 rfl (lv_at hl 2 rfl) ?_
          refine mi_iadd hx hb dM_verify_50 ?_
          refine mi_ge (tgt := 58) hx hb dM_verify_51 (by decide) (by omega) (by omega) (fun h43 => ?_) (fun h43 => ?_)
          · refine lv_iconst (v := nI 0) hx hb dM_verify_58 (by decide) ?_
            refine va_put (D := g.1) (ci := 8) (v := .int (nI 0)) (ty := .int) (C := "LatticeKeysModel") (T := T_M) (N := 14) hx hb hts (wg_ft i_M) ty_M k_M n_M hown hK hP hD hS 0 rfl rfl 0 (by decide) (hts _ (wg_t kw_1526)) (fun _ h9 => h9) rfl (by decide +kernel) rfl rfl (Nat.le_of_ble_eq_true rfl) dM_verify_59 (fun H locs hP hD hS => ?_)
            have hP : va_P g.1 vcl ([(h0, .inr (8, [.int (nI 0), .int (nI tp), .int (nI rs), .int (nI ks), .ref mt, .ref mr_, .ref mk, .ref mo, .ref mh, .ref mse, .ref mhs, .ref msp, .ref msc, .ref mha])), (mse, .inl (g.2.1 0, 8, .inl fS))] ++ pl) _ := hP
            have hD : va_D _ ([(h0, .inr (8, [.int (nI 0), .int (nI tp), .int (nI rs), .int (nI ks), .ref mt, .ref mr_, .ref mk, .ref mo, .ref mh, .ref mse, .ref mhs, .ref msp, .ref msc, .ref mha])), (mse, .inl (g.2.1 0, 8, .inl fS))] ++ pl) := hD
            refine lv_aload_n hx hb dM_verify_62 rfl (lv_at hl 0 rfl) ?_
            refine va_get (D := g.1) (ci := 8) (C := "LatticeKeysModel") (T := T_M) (N := 14) hx hb hts (wg_ft i_M) hown hK hP 0 rfl rfl 0 (by decide) (hts _ (wg_t kw_1526)) (fun _ h9 => h9) rfl dM_verify_63 ?_
            refine lv_if_le (tgt := 71) hx hb dM_verify_66 (by decide) (fun h44 => ?_) (fun h44 => absurd h44 (by decide))
            refine lv_aload_n hx hb dM_verify_71 rfl (lv_at hl 0 rfl) ?_
            refine va_get (D := g.1) (ci := 8) (C := "LatticeKeysModel") (T := T_M) (N := 14) hx hb hts (wg_ft i_M) hown hK hP 0 rfl rfl 13 (by decide) (hts _ (wg_t kw_1539)) (fun _ h9 => h9) rfl dM_verify_72 ?_
            refine lv_aload_n hx hb dM_verify_75 rfl (lv_at hl 0 rfl) ?_
            refine va_get (D := g.1) (ci := 8) (C := "LatticeKeysModel") (T := T_M) (N := 14) hx hb hts (wg_ft i_M) hown hK hP 0 rfl rfl 9 (by decide) (hts _ (wg_t kw_1535)) (fun _ h9 => h9) rfl dM_verify_76 ?_
            refine lv_iload_n hx hb dM_verify_79 rfl (lv_at hl 1 rfl) ?_
            refine mp_iald hx hb hK hP 1 0 rfl rfl (by omega) (by decide) dM_verify_80 ?_
            refine mi_as ey21 ?_
            refine lv_iconst (v := nI 3) hx hb dM_verify_81 (by decide) ?_
            refine mi_isub hx hb dM_verify_82 (by omega) ?_
            refine mi_as (show nI (4 - 3) = nI 1 from rfl) ?_
            refine lv_aload_n hx hb dM_verify_83 rfl (lv_at hl 0 rfl) ?_
            refine va_get (D := g.1) (ci := 8) (C := "LatticeKeysModel") (T := T_M) (N := 14) hx hb hts (wg_ft i_M) hown hK hP 0 rfl rfl 7 (by decide) (hts _ (wg_t kw_1533)) (fun _ h9 => h9) rfl dM_verify_84 ?_
            refine lv_iload_n hx hb dM_verify_87 rfl (lv_at hl 1 rfl) ?_
            refine ty_aald4 hx hb hK hO k_mo (nxg clo_nil k_mo rfl) hP (by omega) dM_verify_88 (fun r26 kr22 => ?_)
            refine lv_aload_n hx hb dM_verify_89 rfl (lv_at hl 0 rfl) ?_
            refine va_get (D := g.1) (ci := 8) (C := "LatticeKeysModel") (T := T_M) (N := 14) hx hb hts (wg_ft i_M) hown hK hP 0 rfl rfl 4 (by decide) (hts _ (wg_t kw_1530)) (fun _ h9 => h9) rfl dM_verify_90 ?_
            refine lv_iload_n hx hb dM_verify_93 rfl (lv_at hl 2 rfl) ?_
            refine lv_aload_n hx hb dM_verify_94 rfl (lv_at hl 0 rfl) ?_
            refine va_get (D := g.1) (ci := 8) (C := "LatticeKeysModel") (T := T_M) (N := 14) hx hb hts (wg_ft i_M) hown hK hP 0 rfl rfl 1 (by decide) (hts _ (wg_t kw_1527)) (fun _ h9 => h9) rfl dM_verify_95 ?_
            refine mp_i (cx := []) (wr := [(h0, .inr (8, [.int (nI 0), .int (nI tp), .int (nI rs), .int (nI ks), .ref mt, .ref mr_, .ref mk, .ref mo, .ref mh, .ref mse, .ref mhs, .ref msp, .ref msc, .ref mha])), (mse, .inl (g.2.1 0, 8, .inl fS))]) hP hD hS hA [] [0, 1] rfl rfl rfl (by decide) (va_runV (As := [.int (nI 1), .ref r26, .ref mt, .int (nI z23), .int (nI tp)]) (rest := []) F (t_MH_verify_1 l g _ T  pl hO hU  mha r26 mt tp (nI z23) k_mha kr22 k_mt (by omega) (by omega)) (cwV 5 hts (wg_app (wg_c kw_1925 (wg_c kw_1926 (wg_c kw_1927 (wg_c kw_13 wg_n)))) kw_1928) rfl rfl rfl (by decide +kernel) ⟨by decide, by decide⟩) (pp_VT (en_ok g) (ci := 12) (kd := (49, 0)) hK hO k_mha (nxg clo_nil k_mha rfl) (fun _ h9 => ko1 h9) hP hD hS hA hE [] rfl rfl rfl) rfl rfl hl.1 rfl (lv_room (Nat.le_of_ble_eq_true rfl)) dM_verify_98 ⟨by omega, by omega⟩) (fun r27 pl H locs hu25 hP hD hS => ?_)
            obtain ⟨hq25, hO⟩ := hu25
            have hP : va_P g.1 vcl ([(h0, .inr (8, [.int (nI 0), .int (nI tp), .int (nI rs), .int (nI ks), .ref mt, .ref mr_, .ref mk, .ref mo, .ref mh, .ref mse, .ref mhs, .ref msp, .ref msc, .ref mha])), (mse, .inl (g.2.1 0, 8, .inl fS))] ++ pl) _ := hP
            have hD : va_D _ ([(h0, .inr (8, [.int (nI 0), .int (nI tp), .int (nI rs), .int (nI ks), .ref mt, .ref mr_, .ref mk, .ref mo, .ref mh, .ref mse, .ref mhs, .ref msp, .ref msc, .ref mha])), (mse, .inl (g.2.1 0, 8, .inl fS))] ++ pl) := hD
            refine W.widen (k := 0) (n := 0) (by omega) (by omega) ?_
            refine lv_istore_n (lv' := [(3, .int r27), (0, .ref h0), (1, .int (nI z21)), (2, .int (nI z23))]) hx hb dM_verify_101 rfl hl (by decide) rfl (fun ls hl => ?_)
            refine lv_aload_n hx hb dM_verify_102 rfl (lv_at hl 1 rfl) ?_
            refine lv_iconst (v := nI 0) hx hb dM_verify_103 (by decide) ?_
            refine va_put (D := g.1) (ci := 8) (v := .int (nI 0)) (ty := .int) (C := "LatticeKeysModel") (T := T_M) (N := 14) hx hb hts (wg_ft i_M) ty_M k_M n_M hown hK hP hD hS 0 rfl rfl 1 (by decide) (hts _ (wg_t kw_1527)) (fun _ h9 => h9) rfl (by decide +kernel) rfl rfl (Nat.le_of_ble_eq_true rfl) dM_verify_104 (fun H locs hP hD hS => ?_)
            have hP : va_P g.1 vcl ([(h0, .inr (8, [.int (nI 0), .int (nI 0), .int (nI rs), .int (nI ks), .ref mt, .ref mr_, .ref mk, .ref mo, .ref mh, .ref mse, .ref mhs, .ref msp, .ref msc, .ref mha])), (mse, .inl (g.2.1 0, 8, .inl fS))] ++ pl) _ := hP
            have hD : va_D _ ([(h0, .inr (8, [.int (nI 0), .int (nI 0), .int (nI rs), .int (nI ks), .ref mt, .ref mr_, .ref mk, .ref mo, .ref mh, .ref mse, .ref mhs, .ref msp, .ref msc, .ref mha])), (mse, .inl (g.2.1 0, 8, .inl fS))] ++ pl) := hD
            refine lv_iload_n hx hb dM_verify_107 rfl (lv_at hl 0 rfl) ?_
            exact mp_zret hx hb hr hlk (nar_b hq25) hP hD hS ((nI 0, 0, rs, ks, fS), pl) ⟨⟨(by show 0 ≤ 16384; omega), (by show rs ≤ 8192; omega), (by show ks ≤ 8; omega), hS5⟩, hO⟩ [0, 1] rfl rfl rfl (by omega) (by omega) dM_verify_108
          · refine lv_iconst (v := nI 2) hx hb dM_verify_54 (by decide) ?_
            refine lv_goto (tgt := 59) hx hb dM_verify_55 (by decide) ?_
            refine va_put (D := g.1) (ci := 8) (v := .int (nI 2)) (ty := .int) (C := "LatticeKeysModel") (T := T_M) (N := 14) hx hb hts (wg_ft i_M) ty_M k_M n_M hown hK hP hD hS 0 rfl rfl 0 (by decide) (hts _ (wg_t kw_1526)) (fun _ h9 => h9) rfl (by decide +kernel) rfl rfl (Nat.le_of_ble_eq_true rfl) dM_verify_59 (fun H locs hP hD hS => ?_)
            have hP : va_P g.1 vcl ([(h0, .inr (8, [.int (nI 2), .int (nI tp), .int (nI rs), .int (nI ks), .ref mt, .ref mr_, .ref mk, .ref mo, .ref mh, .ref mse, .ref mhs, .ref msp, .ref msc, .ref mha])), (mse, .inl (g.2.1 0, 8, .inl fS))] ++ pl) _ := hP
            have hD : va_D _ ([(h0, .inr (8, [.int (nI 2), .int (nI tp), .int (nI rs), .int (nI ks), .ref mt, .ref mr_, .ref mk, .ref mo, .ref mh, .ref mse, .ref mhs, .ref msp, .ref msc, .ref mha])), (mse, .inl (g.2.1 0, 8, .inl fS))] ++ pl) := hD
            refine lv_aload_n hx hb dM_verify_62 rfl (lv_at hl 0 rfl) ?_
            refine va_get (D := g.1) (ci := 8) (C := "LatticeKeysModel") (T := T_M) (N := 14) hx hb hts (wg_ft i_M) hown hK hP 0 rfl rfl 0 (by decide) (hts _ (wg_t kw_1526)) (fun _ h9 => h9) rfl dM_verify_63 ?_
            refine lv_if_le (tgt := 71) hx hb dM_verify_66 (by decide) (fun h45 => absurd h45 (by decide)) (fun h45 => ?_)
            refine lv_iconst (v := nI 0) hx hb dM_verify_69 (by decide) ?_
            exact mp_zret hx hb hr hlk rfl hP hD hS ((nI 2, tp, rs, ks, fS), pl) ⟨⟨(by show tp ≤ 16384; omega), (by show rs ≤ 8192; omega), (by show ks ≤ 8; omega), hS5⟩, hO⟩ [0, 1] rfl rfl rfl (by omega) (by omega) dM_verify_70
    | 5, _, ey21 =>
      refine mi_as ey21 ?_
      refine lv_iconst (v := nI 3) hx hb dM_verify_15 (by decide) ?_
      refine mi_ge (tgt := 23) hx hb dM_verify_16 (by decide) (by omega) (by omega) (fun h46 => ?_) (fun h46 => absurd h46 (by omega))
      refine lv_iload_n hx hb dM_verify_23 rfl (lv_at hl 2 rfl) ?_
      refine lv_if_lt (tgt := 54) hx hb dM_verify_24 (by decide) (fun h47 => ?_) (fun h47 => ?_)
      · refine lv_iconst (v := nI 2) hx hb dM_verify_54 (by decide) ?_
        refine lv_goto (tgt := 59) hx hb dM_verify_55 (by decide) ?_
        refine va_put (D := g.1) (ci := 8) (v := .int (nI 2)) (ty := .int) (C := "LatticeKeysModel") (T := T_M) (N := 14) hx hb hts (wg_ft i_M) ty_M k_M n_M hown hK hP hD hS 0 rfl rfl 0 (by decide) (hts _ (wg_t kw_1526)) (fun _ h9 => h9) rfl (by decide +kernel) rfl rfl (Nat.le_of_ble_eq_true rfl) dM_verify_59 (fun H locs hP hD hS => ?_)
        have hP : va_P g.1 vcl ([(h0, .inr (8, [.int (nI 2), .int (nI tp), .int (nI rs), .int (nI ks), .ref mt, .ref mr_, .ref mk, .ref mo, .ref mh, .ref mse, .ref mhs, .ref msp, .ref msc, .ref mha])), (mse, .inl (g.2.1 0, 8, .inl fS))] ++ pl) _ := hP
        have hD : va_D _ ([(h0, .inr (8, [.int (nI 2), .int (nI tp), .int (nI rs), .int (nI ks), .ref mt, .ref mr_, .ref mk, .ref mo, .ref mh, .ref mse, .ref mhs, .ref msp, .ref msc, .ref mha])), (mse, .inl (g.2.1 0, 8, .inl fS))] ++ pl) := hD
        refine lv_aload_n hx hb dM_verify_62 rfl (lv_at hl 0 rfl) ?_
        refine va_get (D := g.1) (ci := 8) (C := "LatticeKeysModel") (T := T_M) (N := 14) hx hb hts (wg_ft i_M) hown hK hP 0 rfl rfl 0 (by decide) (hts _ (wg_t kw_1526)) (fun _ h9 => h9) rfl dM_verify_63 ?_
        refine lv_if_le (tgt := 71) hx hb dM_verify_66 (by decide) (fun h48 => absurd h48 (by decide)) (fun h48 => ?_)
        refine lv_iconst (v := nI 0) hx hb dM_verify_69 (by decide) ?_
        exact mp_zret hx hb hr hlk rfl hP hD hS ((nI 2, tp, rs, ks, fS), pl) ⟨⟨(by show tp ≤ 16384; omega), (by show rs ≤ 8192; omega), (by show ks ≤ 8; omega), hS5⟩, hO⟩ [0, 1] rfl rfl rfl (by omega) (by omega) dM_verify_70
      · refine lv_iload_n hx hb dM_verify_27 rfl (lv_at hl 2 rfl) ?_
        refine lv_sipush (v := nI 255) hx hb dM_verify_28 (by decide) ?_
        refine lv_icmp_gt (tgt := 54) hx hb dM_verify_31 (by decide) (fun h49 => ?_) (fun h49 => ?_)
        · refine lv_iconst (v := nI 2) hx hb dM_verify_54 (by decide) ?_
          refine lv_goto (tgt := 59) hx hb dM_verify_55 (by decide) ?_
          refine va_put (D := g.1) (ci := 8) (v := .int (nI 2)) (ty := .int) (C := "LatticeKeysModel") (T := T_M) (N := 14) hx hb hts (wg_ft i_M) ty_M k_M n_M hown hK hP hD hS 0 rfl rfl 0 (by decide) (hts _ (wg_t kw_1526)) (fun _ h9 => h9) rfl (by decide +kernel) rfl rfl (Nat.le_of_ble_eq_true rfl) dM_verify_59 (fun H locs hP hD hS => ?_)
          have hP : va_P g.1 vcl ([(h0, .inr (8, [.int (nI 2), .int (nI tp), .int (nI rs), .int (nI ks), .ref mt, .ref mr_, .ref mk, .ref mo, .ref mh, .ref mse, .ref mhs, .ref msp, .ref msc, .ref mha])), (mse, .inl (g.2.1 0, 8, .inl fS))] ++ pl) _ := hP
          have hD : va_D _ ([(h0, .inr (8, [.int (nI 2), .int (nI tp), .int (nI rs), .int (nI ks), .ref mt, .ref mr_, .ref mk, .ref mo, .ref mh, .ref mse, .ref mhs, .ref msp, .ref msc, .ref mha])), (mse, .inl (g.2.1 0, 8, .inl fS))] ++ pl) := hD
          refine lv_aload_n hx hb dM_verify_62 rfl (lv_at hl 0 rfl) ?_
          refine va_get (D := g.1) (ci := 8) (C := "LatticeKeysModel") (T := T_M) (N := 14) hx hb hts (wg_ft i_M) hown hK hP 0 rfl rfl 0 (by decide) (hts _ (wg_t kw_1526)) (fun _ h9 => h9) rfl dM_verify_63 ?_
          refine lv_if_le (tgt := 71) hx hb dM_verify_66 (by decide) (fun h50 => absurd h50 (by decide)) (fun h50 => ?_)
          refine lv_iconst (v := nI 0) hx hb dM_verify_69 (by decide) ?_
          exact mp_zret hx hb hr hlk rfl hP hD hS ((nI 2, tp, rs, ks, fS), pl) ⟨⟨(by show tp ≤ 16384; omega), (by show rs ≤ 8192; omega), (by show ks ≤ 8; omega), hS5⟩, hO⟩ [0, 1] rfl rfl rfl (by omega) (by omega) dM_verify_70
        · obtain ⟨z24, hz24, rfl⟩ := i32_lex h47 (by omega) h49
          refine lv_aload_n hx hb dM_verify_34 rfl (lv_at hl 0 rfl) ?_
          refine va_get (D := g.1) (ci := 8) (C := "LatticeKeysModel") (T := T_M) (N := 14) hx hb hts (wg_ft i_M) hown hK hP 0 rfl rfl 1 (by decide) (hts _ (wg_t kw_1527)) (fun _ h9 => h9) rfl dM_verify_35 ?_
          refine lv_aload_n hx hb dM_verify_38 rfl (lv_at hl 0 rfl) ?_
          refine va_get (D := g.1) (ci := 8) (C := "LatticeKeysModel") (T := T_M) (N := 14) hx hb hts (wg_ft i_M) hown hK hP 0 rfl rfl 9 (by decide) (hts _ (wg_t kw_1535)) (fun _ h9 => h9) rfl dM_verify_39 ?_
          refine lv_iload_n hx hb dM_verify_42 rfl (lv_at hl 1 rfl) ?_
          refine mp_iald hx hb hK hP 1 0 rfl rfl (by omega) (by decide) dM_verify_43 ?_
          refine mi_as ey21 ?_
          refine lv_iconst (v := nI 3) hx hb dM_verify_44 (by decide) ?_
          refine mi_isub hx hb dM_verify_45 (by omega) ?_
          refine mi_as (show nI (5 - 3) = nI 2 from rfl) ?_
          refine mp_i (cx := []) (wr := [(h0, .inr (8, [.int x0, .int (nI tp), .int (nI rs), .int (nI ks), .ref mt, .ref mr_, .ref mk, .ref mo, .ref mh, .ref mse, .ref mhs, .ref msp, .ref msc, .ref mha])), (mse, .inl (g.2.1 0, 8, .inl fS))]) hP hD hS hA [] [0, 1] rfl rfl rfl (by decide) (va_runS (As := [.int (nI 2)]) (rest := [.int (nI tp), .ref h0]) F (t_MH_markSize_2 l g _ T [] pl hO hU  ) (va_cwS 1 hts (wg_app (wg_c kw_1918 (wg_c kw_1919 (wg_c kw_13 wg_n))) kw_1920) rfl rfl rfl (by decide +kernel) ⟨by decide, by decide⟩) (pp_S (en_ok g) hP hD hS hA hE [] rfl rfl) rfl rfl hl.1 rfl (lv_room (Nat.le_of_ble_eq_true rfl)) dM_verify_46 ⟨by omega, by omega⟩) (fun r28 pl H locs hu26 hP hD hS => ?_)
          obtain ⟨hq26, hO⟩ := hu26
          have hP : va_P g.1 vcl ([(h0, .inr (8, [.int x0, .int (nI tp), .int (nI rs), .int (nI ks), .ref mt, .ref mr_, .ref mk, .ref mo, .ref mh, .ref mse, .ref mhs, .ref msp, .ref msc, .ref mha])), (mse, .inl (g.2.1 0, 8, .inl fS))] ++ pl) _ := hP
          have hD : va_D _ ([(h0, .inr (8, [.int x0, .int (nI tp), .int (nI rs), .int (nI ks), .ref mt, .ref mr_, .ref mk, .ref mo, .ref mh, .ref mse, .ref mhs, .ref msp, .ref msc, .ref mha])), (mse, .inl (g.2.1 0, 8, .inl fS))] ++ pl) := hD
          obtain rfl := hq26
          refine W.widen (k := 0) (n := 0) (by omega) (by omega) ?_
          refine lv_iload_n hx hb dM_verify_49 rfl (lv_at hl 2 rfl) ?_
          refine mi_iadd hx hb dM_verify_50 ?_
          refine mi_ge (tgt := 58) hx hb dM_verify_51 (by decide) (by omega) (by omega) (fun h51 => ?_) (fun h51 => ?_)
          · refine lv_iconst (v := nI 0) hx hb dM_verify_58 (by decide) ?_
            refine va_put (D := g.1) (ci := 8) (v := .int (nI 0)) (ty := .int) (C := "LatticeKeysModel") (T := T_M) (N := 14) hx hb hts (wg_ft i_M) ty_M k_M n_M hown hK hP hD hS 0 rfl rfl 0 (by decide) (hts _ (wg_t kw_1526)) (fun _ h9 => h9) rfl (by decide +kernel) rfl rfl (Nat.le_of_ble_eq_true rfl) dM_verify_59 (fun H locs hP hD hS => ?_)
            have hP : va_P g.1 vcl ([(h0, .inr (8, [.int (nI 0), .int (nI tp), .int (nI rs), .int (nI ks), .ref mt, .ref mr_, .ref mk, .ref mo, .ref mh, .ref mse, .ref mhs, .ref msp, .ref msc, .ref mha])), (mse, .inl (g.2.1 0, 8, .inl fS))] ++ pl) _ := hP
            have hD : va_D _ ([(h0, .inr (8, [.int (nI 0), .int (nI tp), .int (nI rs), .int (nI ks), .ref mt, .ref mr_, .ref mk, .ref mo, .ref mh, .ref mse, .ref mhs, .ref msp, .ref msc, .ref mha])), (mse, .inl (g.2.1 0, 8, .inl fS))] ++ pl) := hD
            refine lv_aload_n hx hb dM_verify_62 rfl (lv_at hl 0 rfl) ?_
            refine va_get (D := g.1) (ci := 8) (C := "LatticeKeysModel") (T := T_M) (N := 14) hx hb hts (wg_ft i_M) hown hK hP 0 rfl rfl 0 (by decide) (hts _ (wg_t kw_1526)) (fun _ h9 => h9) rfl dM_verify_63 ?_
            refine lv_if_le (tgt := 71) hx hb dM_verify_66 (by decide) (fun h52 => ?_) (fun h52 => absurd h52 (by decide))
            refine lv_aload_n hx hb dM_verify_71 rfl (lv_at hl 0 rfl) ?_
            refine va_get (D := g.1) (ci := 8) (C := "LatticeKeysModel") (T := T_M) (N := 14) hx hb hts (wg_ft i_M) hown hK hP 0 rfl rfl 13 (by decide) (hts _ (wg_t kw_1539)) (fun _ h9 => h9) rfl dM_verify_72 ?_
            refine lv_aload_n hx hb dM_verify_75 rfl (lv_at hl 0 rfl) ?_
            refine va_get (D := g.1) (ci := 8) (C := "LatticeKeysModel") (T := T_M) (N := 14) hx hb hts (wg_ft i_M) hown hK hP 0 rfl rfl 9 (by decide) (hts _ (wg_t kw_1535)) (fun _ h9 => h9) rfl dM_verify_76 ?_
            refine lv_iload_n hx hb dM_verify_79 rfl (lv_at hl 1 rfl) ?_
            refine mp_iald hx hb hK hP 1 0 rfl rfl (by omega) (by decide) dM_verify_80 ?_
            refine mi_as ey21 ?_
            refine lv_iconst (v := nI 3) hx hb dM_verify_81 (by decide) ?_
            refine mi_isub hx hb dM_verify_82 (by omega) ?_
            refine mi_as (show nI (5 - 3) = nI 2 from rfl) ?_
            refine lv_aload_n hx hb dM_verify_83 rfl (lv_at hl 0 rfl) ?_
            refine va_get (D := g.1) (ci := 8) (C := "LatticeKeysModel") (T := T_M) (N := 14) hx hb hts (wg_ft i_M) hown hK hP 0 rfl rfl 7 (by decide) (hts _ (wg_t kw_1533)) (fun _ h9 => h9) rfl dM_verify_84 ?_
            refine lv_iload_n hx hb dM_verify_87 rfl (lv_at hl 1 rfl) ?_
            refine ty_aald4 hx hb hK hO k_mo (nxg clo_nil k_mo rfl) hP (by omega) dM_verify_88 (fun r29 kr23 => ?_)
            refine lv_aload_n hx hb dM_verify_89 rfl (lv_at hl 0 rfl) ?_
            refine va_get (D := g.1) (ci := 8) (C := "LatticeKeysModel") (T := T_M) (N := 14) hx hb hts (wg_ft i_M) hown hK hP 0 rfl rfl 4 (by decide) (hts _ (wg_t kw_1530)) (fun _ h9 => h9) rfl dM_verify_90 ?_
            refine lv_iload_n hx hb dM_verify_93 rfl (lv_at hl 2 rfl) ?_
            refine lv_aload_n hx hb dM_verify_94 rfl (lv_at hl 0 rfl) ?_
            refine va_get (D := g.1) (ci := 8) (C := "LatticeKeysModel") (T := T_M) (N := 14) hx hb hts (wg_ft i_M) hown hK hP 0 rfl rfl 1 (by decide) (hts _ (wg_t kw_1527)) (fun _ h9 => h9) rfl dM_verify_95 ?_
            refine mp_i (cx := []) (wr := [(h0, .inr (8, [.int (nI 0), .int (nI tp), .int (nI rs), .int (nI ks), .ref mt, .ref mr_, .ref mk, .ref mo, .ref mh, .ref mse, .ref mhs, .ref msp, .ref msc, .ref mha])), (mse, .inl (g.2.1 0, 8, .inl fS))]) hP hD hS hA [] [0, 1] rfl rfl rfl (by decide) (va_runV (As := [.int (nI 2), .ref r29, .ref mt, .int (nI z24), .int (nI tp)]) (rest := []) F (t_MH_verify_2 l g _ T  pl hO hU  mha r29 mt tp (nI z24) k_mha kr23 k_mt (by omega) (by omega)) (cwV 5 hts (wg_app (wg_c kw_1925 (wg_c kw_1926 (wg_c kw_1927 (wg_c kw_13 wg_n)))) kw_1928) rfl rfl rfl (by decide +kernel) ⟨by decide, by decide⟩) (pp_VT (en_ok g) (ci := 12) (kd := (49, 0)) hK hO k_mha (nxg clo_nil k_mha rfl) (fun _ h9 => ko1 h9) hP hD hS hA hE [] rfl rfl rfl) rfl rfl hl.1 rfl (lv_room (Nat.le_of_ble_eq_true rfl)) dM_verify_98 ⟨by omega, by omega⟩) (fun r30 pl H locs hu27 hP hD hS => ?_)
            obtain ⟨hq27, hO⟩ := hu27
            have hP : va_P g.1 vcl ([(h0, .inr (8, [.int (nI 0), .int (nI tp), .int (nI rs), .int (nI ks), .ref mt, .ref mr_, .ref mk, .ref mo, .ref mh, .ref mse, .ref mhs, .ref msp, .ref msc, .ref mha])), (mse, .inl (g.2.1 0, 8, .inl fS))] ++ pl) _ := hP
            have hD : va_D _ ([(h0, .inr (8, [.int (nI 0), .int (nI tp), .int (nI rs), .int (nI ks), .ref mt, .ref mr_, .ref mk, .ref mo, .ref mh, .ref mse, .ref mhs, .ref msp, .ref msc, .ref mha])), (mse, .inl (g.2.1 0, 8, .inl fS))] ++ pl) := hD
            refine W.widen (k := 0) (n := 0) (by omega) (by omega) ?_
            refine lv_istore_n (lv' := [(3, .int r30), (0, .ref h0), (1, .int (nI z21)), (2, .int (nI z24))]) hx hb dM_verify_101 rfl hl (by decide) rfl (fun ls hl => ?_)
            refine lv_aload_n hx hb dM_verify_102 rfl (lv_at hl 1 rfl) ?_
            refine lv_iconst (v := nI 0) hx hb dM_verify_103 (by decide) ?_
            refine va_put (D := g.1) (ci := 8) (v := .int (nI 0)) (ty := .int) (C := "LatticeKeysModel") (T := T_M) (N := 14) hx hb hts (wg_ft i_M) ty_M k_M n_M hown hK hP hD hS 0 rfl rfl 1 (by decide) (hts _ (wg_t kw_1527)) (fun _ h9 => h9) rfl (by decide +kernel) rfl rfl (Nat.le_of_ble_eq_true rfl) dM_verify_104 (fun H locs hP hD hS => ?_)
            have hP : va_P g.1 vcl ([(h0, .inr (8, [.int (nI 0), .int (nI 0), .int (nI rs), .int (nI ks), .ref mt, .ref mr_, .ref mk, .ref mo, .ref mh, .ref mse, .ref mhs, .ref msp, .ref msc, .ref mha])), (mse, .inl (g.2.1 0, 8, .inl fS))] ++ pl) _ := hP
            have hD : va_D _ ([(h0, .inr (8, [.int (nI 0), .int (nI 0), .int (nI rs), .int (nI ks), .ref mt, .ref mr_, .ref mk, .ref mo, .ref mh, .ref mse, .ref mhs, .ref msp, .ref msc, .ref mha])), (mse, .inl (g.2.1 0, 8, .inl fS))] ++ pl) := hD
            refine lv_iload_n hx hb dM_verify_107 rfl (lv_at hl 0 rfl) ?_
            exact mp_zret hx hb hr hlk (nar_b hq27) hP hD hS ((nI 0, 0, rs, ks, fS), pl) ⟨⟨(by show 0 ≤ 16384; omega), (by show rs ≤ 8192; omega), (by show ks ≤ 8; omega), hS5⟩, hO⟩ [0, 1] rfl rfl rfl (by omega) (by omega) dM_verify_108
          · refine lv_iconst (v := nI 2) hx hb dM_verify_54 (by decide) ?_
            refine lv_goto (tgt := 59) hx hb dM_verify_55 (by decide) ?_
            refine va_put (D := g.1) (ci := 8) (v := .int (nI 2)) (ty := .int) (C := "LatticeKeysModel") (T := T_M) (N := 14) hx hb hts (wg_ft i_M) ty_M k_M n_M hown hK hP hD hS 0 rfl rfl 0 (by decide) (hts _ (wg_t kw_1526)) (fun _ h9 => h9) rfl (by decide +kernel) rfl rfl (Nat.le_of_ble_eq_true rfl) dM_verify_59 (fun H locs hP hD hS => ?_)
            have hP : va_P g.1 vcl ([(h0, .inr (8, [.int (nI 2), .int (nI tp), .int (nI rs), .int (nI ks), .ref mt, .ref mr_, .ref mk, .ref mo, .ref mh, .ref mse, .ref mhs, .ref msp, .ref msc, .ref mha])), (mse, .inl (g.2.1 0, 8, .inl fS))] ++ pl) _ := hP
            have hD : va_D _ ([(h0, .inr (8, [.int (nI 2), .int (nI tp), .int (nI rs), .int (nI ks), .ref mt, .ref mr_, .ref mk, .ref mo, .ref mh, .ref mse, .ref mhs, .ref msp, .ref msc, .ref mha])), (mse, .inl (g.2.1 0, 8, .inl fS))] ++ pl) := hD
            refine lv_aload_n hx hb dM_verify_62 rfl (lv_at hl 0 rfl) ?_
            refine va_get (D := g.1) (ci := 8) (C := "LatticeKeysModel") (T := T_M) (N := 14) hx hb hts (wg_ft i_M) hown hK hP 0 rfl rfl 0 (by decide) (hts _ (wg_t kw_1526)) (fun _ h9 => h9) rfl dM_verify_63 ?_
            refine lv_if_le (tgt := 71) hx hb dM_verify_66 (by decide) (fun h53 => absurd h53 (by decide)) (fun h53 => ?_)
            refine lv_iconst (v := nI 0) hx hb dM_verify_69 (by decide) ?_
            exact mp_zret hx hb hr hlk rfl hP hD hS ((nI 2, tp, rs, ks, fS), pl) ⟨⟨(by show tp ≤ 16384; omega), (by show rs ≤ 8192; omega), (by show ks ≤ 8; omega), hS5⟩, hO⟩ [0, 1] rfl rfl rfl (by omega) (by omega) dM_verify_70
    | _ + 6, hy21, _ => exact absurd hy21 (by omega)
