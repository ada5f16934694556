abbrev c_MH_expand : ByteArray := prog_13_method_7_code
abbrev y_MH_expand : MethodName := ⟨"LatticeKeysModel$Hands", "expand", "([B)V"⟩
abbrev w_MH_expand : List Cond := Cond.code y_MH_expand c_MH_expand 6 none :: WG
theorem dMH_expand_0 : decode c_MH_expand 0 = .ok (.iconst 0, 1) := by decide +kernel
theorem dMH_expand_1 : decode c_MH_expand 1 = .ok (.istore_n 2, 1) := by decide +kernel
theorem dMH_expand_2 : decode c_MH_expand 2 = .ok (.iload_n 2, 1) := by decide +kernel
theorem dMH_expand_3 : decode c_MH_expand 3 = .ok (.aload_n 0, 1) := by decide +kernel
theorem dMH_expand_4 : decode c_MH_expand 4 = .ok (.getfield 107, 3) := by decide +kernel
theorem dMH_expand_7 : decode c_MH_expand 7 = .ok (.if_icmp .ge 156, 3) := by decide +kernel
theorem dMH_expand_10 : decode c_MH_expand 10 = .ok (.iconst 0, 1) := by decide +kernel
theorem dMH_expand_11 : decode c_MH_expand 11 = .ok (.istore_n 3, 1) := by decide +kernel
theorem dMH_expand_12 : decode c_MH_expand 12 = .ok (.iload_n 3, 1) := by decide +kernel
theorem dMH_expand_13 : decode c_MH_expand 13 = .ok (.aload_n 0, 1) := by decide +kernel
theorem dMH_expand_14 : decode c_MH_expand 14 = .ok (.getfield 110, 3) := by decide +kernel
theorem dMH_expand_17 : decode c_MH_expand 17 = .ok (.if_icmp .ge 140, 3) := by decide +kernel
theorem dMH_expand_20 : decode c_MH_expand 20 = .ok (.aload_n 0, 1) := by decide +kernel
theorem dMH_expand_21 : decode c_MH_expand 21 = .ok (.getfield 87, 3) := by decide +kernel
theorem dMH_expand_24 : decode c_MH_expand 24 = .ok (.sipush 168, 3) := by decide +kernel
theorem dMH_expand_27 : decode c_MH_expand 27 = .ok (.bipush 31, 2) := by decide +kernel
theorem dMH_expand_29 : decode c_MH_expand 29 = .ok (.invokevirtual 136, 3) := by decide +kernel
theorem dMH_expand_32 : decode c_MH_expand 32 = .ok (.aload_n 0, 1) := by decide +kernel
theorem dMH_expand_33 : decode c_MH_expand 33 = .ok (.getfield 87, 3) := by decide +kernel
theorem dMH_expand_36 : decode c_MH_expand 36 = .ok (.aload_n 1, 1) := by decide +kernel
theorem dMH_expand_37 : decode c_MH_expand 37 = .ok (.iconst 0, 1) := by decide +kernel
theorem dMH_expand_38 : decode c_MH_expand 38 = .ok (.bipush 32, 2) := by decide +kernel
theorem dMH_expand_40 : decode c_MH_expand 40 = .ok (.invokevirtual 142, 3) := by decide +kernel
theorem dMH_expand_43 : decode c_MH_expand 43 = .ok (.aload_n 0, 1) := by decide +kernel
theorem dMH_expand_44 : decode c_MH_expand 44 = .ok (.getfield 87, 3) := by decide +kernel
theorem dMH_expand_47 : decode c_MH_expand 47 = .ok (.iload_n 3, 1) := by decide +kernel
theorem dMH_expand_48 : decode c_MH_expand 48 = .ok (.invokevirtual 146, 3) := by decide +kernel
theorem dMH_expand_51 : decode c_MH_expand 51 = .ok (.aload_n 0, 1) := by decide +kernel
theorem dMH_expand_52 : decode c_MH_expand 52 = .ok (.getfield 87, 3) := by decide +kernel
theorem dMH_expand_55 : decode c_MH_expand 55 = .ok (.iload_n 2, 1) := by decide +kernel
theorem dMH_expand_56 : decode c_MH_expand 56 = .ok (.invokevirtual 146, 3) := by decide +kernel
theorem dMH_expand_59 : decode c_MH_expand 59 = .ok (.aload_n 0, 1) := by decide +kernel
theorem dMH_expand_60 : decode c_MH_expand 60 = .ok (.getfield 87, 3) := by decide +kernel
theorem dMH_expand_63 : decode c_MH_expand 63 = .ok (.invokevirtual 149, 3) := by decide +kernel
theorem dMH_expand_66 : decode c_MH_expand 66 = .ok (.iconst 0, 1) := by decide +kernel
theorem dMH_expand_67 : decode c_MH_expand 67 = .ok (.istore 4, 2) := by decide +kernel
theorem dMH_expand_69 : decode c_MH_expand 69 = .ok (.iload 4, 2) := by decide +kernel
theorem dMH_expand_71 : decode c_MH_expand 71 = .ok (.sipush 256, 3) := by decide +kernel
theorem dMH_expand_74 : decode c_MH_expand 74 = .ok (.if_icmp .ge 77, 3) := by decide +kernel
theorem dMH_expand_77 : decode c_MH_expand 77 = .ok (.aload_n 0, 1) := by decide +kernel
theorem dMH_expand_78 : decode c_MH_expand 78 = .ok (.getfield 87, 3) := by decide +kernel
theorem dMH_expand_81 : decode c_MH_expand 81 = .ok (.invokevirtual 152, 3) := by decide +kernel
theorem dMH_expand_84 : decode c_MH_expand 84 = .ok (.istore 5, 2) := by decide +kernel
theorem dMH_expand_86 : decode c_MH_expand 86 = .ok (.iload 5, 2) := by decide +kernel
theorem dMH_expand_88 : decode c_MH_expand 88 = .ok (.aload_n 0, 1) := by decide +kernel
theorem dMH_expand_89 : decode c_MH_expand 89 = .ok (.getfield 87, 3) := by decide +kernel
theorem dMH_expand_92 : decode c_MH_expand 92 = .ok (.invokevirtual 152, 3) := by decide +kernel
theorem dMH_expand_95 : decode c_MH_expand 95 = .ok (.bipush 8, 2) := by decide +kernel
theorem dMH_expand_97 : decode c_MH_expand 97 = .ok (.ishl, 1) := by decide +kernel
theorem dMH_expand_98 : decode c_MH_expand 98 = .ok (.iadd, 1) := by decide +kernel
theorem dMH_expand_99 : decode c_MH_expand 99 = .ok (.istore 5, 2) := by decide +kernel
theorem dMH_expand_101 : decode c_MH_expand 101 = .ok (.iload 5, 2) := by decide +kernel
theorem dMH_expand_103 : decode c_MH_expand 103 = .ok (.aload_n 0, 1) := by decide +kernel
theorem dMH_expand_104 : decode c_MH_expand 104 = .ok (.getfield 87, 3) := by decide +kernel
theorem dMH_expand_107 : decode c_MH_expand 107 = .ok (.invokevirtual 152, 3) := by decide +kernel
theorem dMH_expand_110 : decode c_MH_expand 110 = .ok (.bipush 127, 2) := by decide +kernel
theorem dMH_expand_112 : decode c_MH_expand 112 = .ok (.iand, 1) := by decide +kernel
theorem dMH_expand_113 : decode c_MH_expand 113 = .ok (.bipush 16, 2) := by decide +kernel
theorem dMH_expand_115 : decode c_MH_expand 115 = .ok (.ishl, 1) := by decide +kernel
theorem dMH_expand_116 : decode c_MH_expand 116 = .ok (.iadd, 1) := by decide +kernel
theorem dMH_expand_117 : decode c_MH_expand 117 = .ok (.istore 5, 2) := by decide +kernel
theorem dMH_expand_119 : decode c_MH_expand 119 = .ok (.iload 5, 2) := by decide +kernel
theorem dMH_expand_121 : decode c_MH_expand 121 = .ok (.ldc 11, 2) := by decide +kernel
theorem dMH_expand_123 : decode c_MH_expand 123 = .ok (.if_icmp .lt 6, 3) := by decide +kernel
theorem dMH_expand_126 : decode c_MH_expand 126 = .ok (.goto (-57), 3) := by decide +kernel
theorem dMH_expand_129 : decode c_MH_expand 129 = .ok (.aload_n 0, 1) := by decide +kernel
theorem dMH_expand_130 : decode c_MH_expand 130 = .ok (.getfield 21, 3) := by decide +kernel
theorem dMH_expand_133 : decode c_MH_expand 133 = .ok (.bipush 8, 2) := by decide +kernel
theorem dMH_expand_135 : decode c_MH_expand 135 = .ok (.iload_n 2, 1) := by decide +kernel
theorem dMH_expand_136 : decode c_MH_expand 136 = .ok (.imul, 1) := by decide +kernel
theorem dMH_expand_137 : decode c_MH_expand 137 = .ok (.iload_n 3, 1) := by decide +kernel
theorem dMH_expand_138 : decode c_MH_expand 138 = .ok (.iadd, 1) := by decide +kernel
theorem dMH_expand_139 : decode c_MH_expand 139 = .ok (.aaload, 1) := by decide +kernel
theorem dMH_expand_140 : decode c_MH_expand 140 = .ok (.iload 4, 2) := by decide +kernel
theorem dMH_expand_142 : decode c_MH_expand 142 = .ok (.iload 5, 2) := by decide +kernel
theorem dMH_expand_144 : decode c_MH_expand 144 = .ok (.iastore, 1) := by decide +kernel
theorem dMH_expand_145 : decode c_MH_expand 145 = .ok (.iinc 4 1, 3) := by decide +kernel
theorem dMH_expand_148 : decode c_MH_expand 148 = .ok (.goto (-79), 3) := by decide +kernel
theorem dMH_expand_151 : decode c_MH_expand 151 = .ok (.iinc 3 1, 3) := by decide +kernel
theorem dMH_expand_154 : decode c_MH_expand 154 = .ok (.goto (-142), 3) := by decide +kernel
theorem dMH_expand_157 : decode c_MH_expand 157 = .ok (.iinc 2 1, 3) := by decide +kernel
theorem dMH_expand_160 : decode c_MH_expand 160 = .ok (.goto (-158), 3) := by decide +kernel
theorem dMH_expand_163 : decode c_MH_expand 163 = .ok (.return_, 1) := by decide +kernel
abbrev c_MH_small : ByteArray := prog_13_method_8_code
abbrev y_MH_small : MethodName := ⟨"LatticeKeysModel$Hands", "small", "([I[BII)V"⟩
abbrev w_MH_small : List Cond := Cond.code y_MH_small c_MH_small 9 none :: WG
theorem dMH_small_0 : decode c_MH_small 0 = .ok (.aload_n 0, 1) := by decide +kernel
theorem dMH_small_1 : decode c_MH_small 1 = .ok (.getfield 87, 3) := by decide +kernel
theorem dMH_small_4 : decode c_MH_small 4 = .ok (.invokevirtual 156, 3) := by decide +kernel
theorem dMH_small_7 : decode c_MH_small 7 = .ok (.aload_n 0, 1) := by decide +kernel
theorem dMH_small_8 : decode c_MH_small 8 = .ok (.getfield 87, 3) := by decide +kernel
theorem dMH_small_11 : decode c_MH_small 11 = .ok (.aload_n 2, 1) := by decide +kernel
theorem dMH_small_12 : decode c_MH_small 12 = .ok (.iload_n 3, 1) := by decide +kernel
theorem dMH_small_13 : decode c_MH_small 13 = .ok (.bipush 64, 2) := by decide +kernel
theorem dMH_small_15 : decode c_MH_small 15 = .ok (.invokevirtual 142, 3) := by decide +kernel
theorem dMH_small_18 : decode c_MH_small 18 = .ok (.aload_n 0, 1) := by decide +kernel
theorem dMH_small_19 : decode c_MH_small 19 = .ok (.getfield 87, 3) := by decide +kernel
theorem dMH_small_22 : decode c_MH_small 22 = .ok (.iload 4, 2) := by decide +kernel
theorem dMH_small_24 : decode c_MH_small 24 = .ok (.invokevirtual 146, 3) := by decide +kernel
theorem dMH_small_27 : decode c_MH_small 27 = .ok (.aload_n 0, 1) := by decide +kernel
theorem dMH_small_28 : decode c_MH_small 28 = .ok (.getfield 87, 3) := by decide +kernel
theorem dMH_small_31 : decode c_MH_small 31 = .ok (.iload 4, 2) := by decide +kernel
theorem dMH_small_33 : decode c_MH_small 33 = .ok (.bipush 8, 2) := by decide +kernel
theorem dMH_small_35 : decode c_MH_small 35 = .ok (.ishr, 1) := by decide +kernel
theorem dMH_small_36 : decode c_MH_small 36 = .ok (.invokevirtual 146, 3) := by decide +kernel
theorem dMH_small_39 : decode c_MH_small 39 = .ok (.aload_n 0, 1) := by decide +kernel
theorem dMH_small_40 : decode c_MH_small 40 = .ok (.getfield 87, 3) := by decide +kernel
theorem dMH_small_43 : decode c_MH_small 43 = .ok (.invokevirtual 149, 3) := by decide +kernel
theorem dMH_small_46 : decode c_MH_small 46 = .ok (.iconst 0, 1) := by decide +kernel
theorem dMH_small_47 : decode c_MH_small 47 = .ok (.istore 5, 2) := by decide +kernel
theorem dMH_small_49 : decode c_MH_small 49 = .ok (.iload 5, 2) := by decide +kernel
theorem dMH_small_51 : decode c_MH_small 51 = .ok (.sipush 256, 3) := by decide +kernel
theorem dMH_small_54 : decode c_MH_small 54 = .ok (.if_icmp .ge 131, 3) := by decide +kernel
theorem dMH_small_57 : decode c_MH_small 57 = .ok (.aload_n 0, 1) := by decide +kernel
theorem dMH_small_58 : decode c_MH_small 58 = .ok (.getfield 87, 3) := by decide +kernel
theorem dMH_small_61 : decode c_MH_small 61 = .ok (.invokevirtual 152, 3) := by decide +kernel
theorem dMH_small_64 : decode c_MH_small 64 = .ok (.istore 6, 2) := by decide +kernel
theorem dMH_small_66 : decode c_MH_small 66 = .ok (.iconst 0, 1) := by decide +kernel
theorem dMH_small_67 : decode c_MH_small 67 = .ok (.istore 7, 2) := by decide +kernel
theorem dMH_small_69 : decode c_MH_small 69 = .ok (.iload 7, 2) := by decide +kernel
theorem dMH_small_71 : decode c_MH_small 71 = .ok (.iconst 2, 1) := by decide +kernel
theorem dMH_small_72 : decode c_MH_small 72 = .ok (.if_icmp .ge 110, 3) := by decide +kernel
theorem dMH_small_75 : decode c_MH_small 75 = .ok (.iload 5, 2) := by decide +kernel
theorem dMH_small_77 : decode c_MH_small 77 = .ok (.sipush 256, 3) := by decide +kernel
theorem dMH_small_80 : decode c_MH_small 80 = .ok (.if_icmp .ge 102, 3) := by decide +kernel
theorem dMH_small_83 : decode c_MH_small 83 = .ok (.iload 7, 2) := by decide +kernel
theorem dMH_small_85 : decode c_MH_small 85 = .ok (.ifCond .ne 11, 3) := by decide +kernel
theorem dMH_small_88 : decode c_MH_small 88 = .ok (.iload 6, 2) := by decide +kernel
theorem dMH_small_90 : decode c_MH_small 90 = .ok (.bipush 16, 2) := by decide +kernel
theorem dMH_small_92 : decode c_MH_small 92 = .ok (.irem, 1) := by decide +kernel
theorem dMH_small_93 : decode c_MH_small 93 = .ok (.goto 8, 3) := by decide +kernel
theorem dMH_small_96 : decode c_MH_small 96 = .ok (.iload 6, 2) := by decide +kernel
theorem dMH_small_98 : decode c_MH_small 98 = .ok (.bipush 16, 2) := by decide +kernel
theorem dMH_small_100 : decode c_MH_small 100 = .ok (.idiv, 1) := by decide +kernel
theorem dMH_small_101 : decode c_MH_small 101 = .ok (.istore 8, 2) := by decide +kernel
theorem dMH_small_103 : decode c_MH_small 103 = .ok (.aload_n 0, 1) := by decide +kernel
theorem dMH_small_104 : decode c_MH_small 104 = .ok (.getfield 113, 3) := by decide +kernel
theorem dMH_small_107 : decode c_MH_small 107 = .ok (.iconst 2, 1) := by decide +kernel
theorem dMH_small_108 : decode c_MH_small 108 = .ok (.if_icmp .ne 13, 3) := by decide +kernel
theorem dMH_small_111 : decode c_MH_small 111 = .ok (.iload 8, 2) := by decide +kernel
theorem dMH_small_113 : decode c_MH_small 113 = .ok (.bipush 14, 2) := by decide +kernel
theorem dMH_small_115 : decode c_MH_small 115 = .ok (.if_icmp .le 16, 3) := by decide +kernel
theorem dMH_small_118 : decode c_MH_small 118 = .ok (.goto 58, 3) := by decide +kernel
theorem dMH_small_121 : decode c_MH_small 121 = .ok (.iload 8, 2) := by decide +kernel
theorem dMH_small_123 : decode c_MH_small 123 = .ok (.bipush 8, 2) := by decide +kernel
theorem dMH_small_125 : decode c_MH_small 125 = .ok (.if_icmp .le 6, 3) := by decide +kernel
theorem dMH_small_128 : decode c_MH_small 128 = .ok (.goto 48, 3) := by decide +kernel
theorem dMH_small_131 : decode c_MH_small 131 = .ok (.aload_n 0, 1) := by decide +kernel
theorem dMH_small_132 : decode c_MH_small 132 = .ok (.getfield 113, 3) := by decide +kernel
theorem dMH_small_135 : decode c_MH_small 135 = .ok (.iconst 2, 1) := by decide +kernel
theorem dMH_small_136 : decode c_MH_small 136 = .ok (.if_icmp .ne 12, 3) := by decide +kernel
theorem dMH_small_139 : decode c_MH_small 139 = .ok (.iconst 2, 1) := by decide +kernel
theorem dMH_small_140 : decode c_MH_small 140 = .ok (.iload 8, 2) := by decide +kernel
theorem dMH_small_142 : decode c_MH_small 142 = .ok (.iconst 5, 1) := by decide +kernel
theorem dMH_small_143 : decode c_MH_small 143 = .ok (.irem, 1) := by decide +kernel
theorem dMH_small_144 : decode c_MH_small 144 = .ok (.isub, 1) := by decide +kernel
theorem dMH_small_145 : decode c_MH_small 145 = .ok (.goto 7, 3) := by decide +kernel
theorem dMH_small_148 : decode c_MH_small 148 = .ok (.iconst 4, 1) := by decide +kernel
theorem dMH_small_149 : decode c_MH_small 149 = .ok (.iload 8, 2) := by decide +kernel
theorem dMH_small_151 : decode c_MH_small 151 = .ok (.isub, 1) := by decide +kernel
theorem dMH_small_152 : decode c_MH_small 152 = .ok (.istore 8, 2) := by decide +kernel
theorem dMH_small_154 : decode c_MH_small 154 = .ok (.aload_n 1, 1) := by decide +kernel
theorem dMH_small_155 : decode c_MH_small 155 = .ok (.iload 5, 2) := by decide +kernel
theorem dMH_small_157 : decode c_MH_small 157 = .ok (.iload 8, 2) := by decide +kernel
theorem dMH_small_159 : decode c_MH_small 159 = .ok (.ifCond .ge 11, 3) := by decide +kernel
theorem dMH_small_162 : decode c_MH_small 162 = .ok (.iload 8, 2) := by decide +kernel
theorem dMH_small_164 : decode c_MH_small 164 = .ok (.ldc 11, 2) := by decide +kernel
theorem dMH_small_166 : decode c_MH_small 166 = .ok (.iadd, 1) := by decide +kernel
theorem dMH_small_167 : decode c_MH_small 167 = .ok (.goto 5, 3) := by decide +kernel
theorem dMH_small_170 : decode c_MH_small 170 = .ok (.iload 8, 2) := by decide +kernel
theorem dMH_small_172 : decode c_MH_small 172 = .ok (.iastore, 1) := by decide +kernel
theorem dMH_small_173 : decode c_MH_small 173 = .ok (.iinc 5 1, 3) := by decide +kernel
theorem dMH_small_176 : decode c_MH_small 176 = .ok (.iinc 7 1, 3) := by decide +kernel
theorem dMH_small_179 : decode c_MH_small 179 = .ok (.goto (-110), 3) := by decide +kernel
theorem dMH_small_182 : decode c_MH_small 182 = .ok (.goto (-133), 3) := by decide +kernel
theorem dMH_small_185 : decode c_MH_small 185 = .ok (.return_, 1) := by decide +kernel
abbrev c_MH_ball : ByteArray := prog_13_method_20_code
abbrev y_MH_ball : MethodName := ⟨"LatticeKeysModel$Hands", "ball", "([B)V"⟩
abbrev w_MH_ball : List Cond := Cond.code y_MH_ball c_MH_ball 6 none :: WG
theorem dMH_ball_0 : decode c_MH_ball 0 = .ok (.aload_n 0, 1) := by decide +kernel
theorem dMH_ball_1 : decode c_MH_ball 1 = .ok (.getfield 87, 3) := by decide +kernel
theorem dMH_ball_4 : decode c_MH_ball 4 = .ok (.invokevirtual 156, 3) := by decide +kernel
theorem dMH_ball_7 : decode c_MH_ball 7 = .ok (.aload_n 0, 1) := by decide +kernel
theorem dMH_ball_8 : decode c_MH_ball 8 = .ok (.getfield 87, 3) := by decide +kernel
theorem dMH_ball_11 : decode c_MH_ball 11 = .ok (.aload_n 1, 1) := by decide +kernel
theorem dMH_ball_12 : decode c_MH_ball 12 = .ok (.iconst 0, 1) := by decide +kernel
theorem dMH_ball_13 : decode c_MH_ball 13 = .ok (.aload_n 0, 1) := by decide +kernel
theorem dMH_ball_14 : decode c_MH_ball 14 = .ok (.getfield 132, 3) := by decide +kernel
theorem dMH_ball_17 : decode c_MH_ball 17 = .ok (.invokevirtual 142, 3) := by decide +kernel
theorem dMH_ball_20 : decode c_MH_ball 20 = .ok (.aload_n 0, 1) := by decide +kernel
theorem dMH_ball_21 : decode c_MH_ball 21 = .ok (.getfield 87, 3) := by decide +kernel
theorem dMH_ball_24 : decode c_MH_ball 24 = .ok (.invokevirtual 149, 3) := by decide +kernel
theorem dMH_ball_27 : decode c_MH_ball 27 = .ok (.lconst 0, 1) := by decide +kernel
theorem dMH_ball_28 : decode c_MH_ball 28 = .ok (.lstore_n 2, 1) := by decide +kernel
theorem dMH_ball_29 : decode c_MH_ball 29 = .ok (.iconst 0, 1) := by decide +kernel
theorem dMH_ball_30 : decode c_MH_ball 30 = .ok (.istore 4, 2) := by decide +kernel
theorem dMH_ball_32 : decode c_MH_ball 32 = .ok (.iload 4, 2) := by decide +kernel
theorem dMH_ball_34 : decode c_MH_ball 34 = .ok (.bipush 8, 2) := by decide +kernel
theorem dMH_ball_36 : decode c_MH_ball 36 = .ok (.if_icmp .ge 26, 3) := by decide +kernel
theorem dMH_ball_39 : decode c_MH_ball 39 = .ok (.lload_n 2, 1) := by decide +kernel
theorem dMH_ball_40 : decode c_MH_ball 40 = .ok (.aload_n 0, 1) := by decide +kernel
theorem dMH_ball_41 : decode c_MH_ball 41 = .ok (.getfield 87, 3) := by decide +kernel
theorem dMH_ball_44 : decode c_MH_ball 44 = .ok (.invokevirtual 152, 3) := by decide +kernel
theorem dMH_ball_47 : decode c_MH_ball 47 = .ok (.i2l, 1) := by decide +kernel
theorem dMH_ball_48 : decode c_MH_ball 48 = .ok (.bipush 8, 2) := by decide +kernel
theorem dMH_ball_50 : decode c_MH_ball 50 = .ok (.iload 4, 2) := by decide +kernel
theorem dMH_ball_52 : decode c_MH_ball 52 = .ok (.imul, 1) := by decide +kernel
theorem dMH_ball_53 : decode c_MH_ball 53 = .ok (.lshl, 1) := by decide +kernel
theorem dMH_ball_54 : decode c_MH_ball 54 = .ok (.lor, 1) := by decide +kernel
theorem dMH_ball_55 : decode c_MH_ball 55 = .ok (.lstore_n 2, 1) := by decide +kernel
theorem dMH_ball_56 : decode c_MH_ball 56 = .ok (.iinc 4 1, 3) := by decide +kernel
theorem dMH_ball_59 : decode c_MH_ball 59 = .ok (.goto (-27), 3) := by decide +kernel
theorem dMH_ball_62 : decode c_MH_ball 62 = .ok (.iconst 0, 1) := by decide +kernel
theorem dMH_ball_63 : decode c_MH_ball 63 = .ok (.istore 4, 2) := by decide +kernel
theorem dMH_ball_65 : decode c_MH_ball 65 = .ok (.iload 4, 2) := by decide +kernel
theorem dMH_ball_67 : decode c_MH_ball 67 = .ok (.sipush 256, 3) := by decide +kernel
theorem dMH_ball_70 : decode c_MH_ball 70 = .ok (.if_icmp .ge 17, 3) := by decide +kernel
theorem dMH_ball_73 : decode c_MH_ball 73 = .ok (.aload_n 0, 1) := by decide +kernel
theorem dMH_ball_74 : decode c_MH_ball 74 = .ok (.getfield 51, 3) := by decide +kernel
theorem dMH_ball_77 : decode c_MH_ball 77 = .ok (.iload 4, 2) := by decide +kernel
theorem dMH_ball_79 : decode c_MH_ball 79 = .ok (.iconst 0, 1) := by decide +kernel
theorem dMH_ball_80 : decode c_MH_ball 80 = .ok (.iastore, 1) := by decide +kernel
theorem dMH_ball_81 : decode c_MH_ball 81 = .ok (.iinc 4 1, 3) := by decide +kernel
theorem dMH_ball_84 : decode c_MH_ball 84 = .ok (.goto (-19), 3) := by decide +kernel
theorem dMH_ball_87 : decode c_MH_ball 87 = .ok (.sipush 256, 3) := by decide +kernel
theorem dMH_ball_90 : decode c_MH_ball 90 = .ok (.getstatic 126, 3) := by decide +kernel
theorem dMH_ball_93 : decode c_MH_ball 93 = .ok (.aload_n 0, 1) := by decide +kernel
theorem dMH_ball_94 : decode c_MH_ball 94 = .ok (.getfield 103, 3) := by decide +kernel
theorem dMH_ball_97 : decode c_MH_ball 97 = .ok (.iaload, 1) := by decide +kernel
theorem dMH_ball_98 : decode c_MH_ball 98 = .ok (.isub, 1) := by decide +kernel
theorem dMH_ball_99 : decode c_MH_ball 99 = .ok (.istore 4, 2) := by decide +kernel
theorem dMH_ball_101 : decode c_MH_ball 101 = .ok (.iload 4, 2) := by decide +kernel
theorem dMH_ball_103 : decode c_MH_ball 103 = .ok (.sipush 256, 3) := by decide +kernel
theorem dMH_ball_106 : decode c_MH_ball 106 = .ok (.if_icmp .ge 87, 3) := by decide +kernel
theorem dMH_ball_109 : decode c_MH_ball 109 = .ok (.aload_n 0, 1) := by decide +kernel
theorem dMH_ball_110 : decode c_MH_ball 110 = .ok (.getfield 87, 3) := by decide +kernel
theorem dMH_ball_113 : decode c_MH_ball 113 = .ok (.invokevirtual 152, 3) := by decide +kernel
theorem dMH_ball_116 : decode c_MH_ball 116 = .ok (.istore 5, 2) := by decide +kernel
theorem dMH_ball_118 : decode c_MH_ball 118 = .ok (.iload 5, 2) := by decide +kernel
theorem dMH_ball_120 : decode c_MH_ball 120 = .ok (.iload 4, 2) := by decide +kernel
theorem dMH_ball_122 : decode c_MH_ball 122 = .ok (.if_icmp .le 15, 3) := by decide +kernel
theorem dMH_ball_125 : decode c_MH_ball 125 = .ok (.aload_n 0, 1) := by decide +kernel
theorem dMH_ball_126 : decode c_MH_ball 126 = .ok (.getfield 87, 3) := by decide +kernel
theorem dMH_ball_129 : decode c_MH_ball 129 = .ok (.invokevirtual 152, 3) := by decide +kernel
theorem dMH_ball_132 : decode c_MH_ball 132 = .ok (.istore 5, 2) := by decide +kernel
theorem dMH_ball_134 : decode c_MH_ball 134 = .ok (.goto (-16), 3) := by decide +kernel
theorem dMH_ball_137 : decode c_MH_ball 137 = .ok (.aload_n 0, 1) := by decide +kernel
theorem dMH_ball_138 : decode c_MH_ball 138 = .ok (.getfield 51, 3) := by decide +kernel
theorem dMH_ball_141 : decode c_MH_ball 141 = .ok (.iload 4, 2) := by decide +kernel
theorem dMH_ball_143 : decode c_MH_ball 143 = .ok (.aload_n 0, 1) := by decide +kernel
theorem dMH_ball_144 : decode c_MH_ball 144 = .ok (.getfield 51, 3) := by decide +kernel
theorem dMH_ball_147 : decode c_MH_ball 147 = .ok (.iload 5, 2) := by decide +kernel
theorem dMH_ball_149 : decode c_MH_ball 149 = .ok (.iaload, 1) := by decide +kernel
theorem dMH_ball_150 : decode c_MH_ball 150 = .ok (.iastore, 1) := by decide +kernel
theorem dMH_ball_151 : decode c_MH_ball 151 = .ok (.aload_n 0, 1) := by decide +kernel
theorem dMH_ball_152 : decode c_MH_ball 152 = .ok (.getfield 51, 3) := by decide +kernel
theorem dMH_ball_155 : decode c_MH_ball 155 = .ok (.iload 5, 2) := by decide +kernel
theorem dMH_ball_157 : decode c_MH_ball 157 = .ok (.lload_n 2, 1) := by decide +kernel
theorem dMH_ball_158 : decode c_MH_ball 158 = .ok (.iload 4, 2) := by decide +kernel
theorem dMH_ball_160 : decode c_MH_ball 160 = .ok (.getstatic 126, 3) := by decide +kernel
theorem dMH_ball_163 : decode c_MH_ball 163 = .ok (.aload_n 0, 1) := by decide +kernel
theorem dMH_ball_164 : decode c_MH_ball 164 = .ok (.getfield 103, 3) := by decide +kernel
theorem dMH_ball_167 : decode c_MH_ball 167 = .ok (.iaload, 1) := by decide +kernel
theorem dMH_ball_168 : decode c_MH_ball 168 = .ok (.iadd, 1) := by decide +kernel
theorem dMH_ball_169 : decode c_MH_ball 169 = .ok (.sipush 256, 3) := by decide +kernel
theorem dMH_ball_172 : decode c_MH_ball 172 = .ok (.isub, 1) := by decide +kernel
theorem dMH_ball_173 : decode c_MH_ball 173 = .ok (.lushr, 1) := by decide +kernel
theorem dMH_ball_174 : decode c_MH_ball 174 = .ok (.lconst 1, 1) := by decide +kernel
theorem dMH_ball_175 : decode c_MH_ball 175 = .ok (.land, 1) := by decide +kernel
theorem dMH_ball_176 : decode c_MH_ball 176 = .ok (.lconst 1, 1) := by decide +kernel
theorem dMH_ball_177 : decode c_MH_ball 177 = .ok (.lcmp, 1) := by decide +kernel
theorem dMH_ball_178 : decode c_MH_ball 178 = .ok (.ifCond .ne 7, 3) := by decide +kernel
theorem dMH_ball_181 : decode c_MH_ball 181 = .ok (.iconst (-1), 1) := by decide +kernel
theorem dMH_ball_182 : decode c_MH_ball 182 = .ok (.goto 4, 3) := by decide +kernel
theorem dMH_ball_185 : decode c_MH_ball 185 = .ok (.iconst 1, 1) := by decide +kernel
theorem dMH_ball_186 : decode c_MH_ball 186 = .ok (.iastore, 1) := by decide +kernel
theorem dMH_ball_187 : decode c_MH_ball 187 = .ok (.iinc 4 1, 3) := by decide +kernel
theorem dMH_ball_190 : decode c_MH_ball 190 = .ok (.goto (-89), 3) := by decide +kernel
theorem dMH_ball_193 : decode c_MH_ball 193 = .ok (.return_, 1) := by decide +kernel
set_option maxHeartbeats 400000 in
set_option maxRecDepth 100000 in
theorem t_MH_expand_0 (l : Launch) (g : Gd) (sz : Nat) (T : Ty) (xs : List Nat) (pl : va_W) (hO : okx g T xs pl) (hU : uni T) (hc0 : clo T xs 0) (hc9 : clo T xs 9) (h0 b n : Nat) (k_h0 : T h0 = some (46, 0)) (k_b : T b = some (1, n)) (h1 : 32 ≤ n) (h2 : n < 65536)  : Met l y_MH_expand w_MH_expand ({ frames := 3, cells := 0, slots := 0, locals := 67 } : Room) (va_Pc [.ref h0, .ref b] (pr (en g) g.1 vcl sz ([] ++ pl))) (va_Qv (fun (u : va_W) => (True) ∧ okx g T xs u) (po g.1 vcl (va_A ([] ++ pl) sz) (fun (u : va_W) => [] ++ u)) (va_A ([] ++ pl) sz)) 0 0 (va_A ([] ++ pl) sz) := by
  refine mc_entry (cc := c_MH_expand) (maxL := 6) (ret := none) (by decide) rfl (Nat.le_of_ble_eq_true rfl) ?_
  intro p e s m args below meth c ls F hr hlk hnm hsz hP hD hE hA hl
  obtain ⟨hx, hb, hml, hown, hts⟩ := id F
  have hK := hE.1
  generalize va_A ([] ++ pl) sz = A at hD hE hA ⊢
  have hS : va_S A s.heap s.heap [] := va_S.rf
  have hl : lv_has ls 6 [(0, .ref h0), (1, .ref b)] := hl
  refine lv_iconst (v := nI 0) hx hb dMH_expand_0 (by decide) ?_
  refine lv_istore_n (lv' := [(2, .int (nI 0)), (0, .ref h0), (1, .ref b)]) hx hb dMH_expand_1 rfl hl (by decide) rfl (fun ls hl => ?_)
  have lp21 : ∀ (n21 : Nat) (i21 : Nat) (pl : va_W) (ls : Array Slot) (H : Heap) (locs : List Loc), n21 + i21 = 4 → lv_has ls 6 [(2, .int (nI i21)), (0, .ref h0), (1, .ref b)] → okx g T xs pl → va_P g.1 vcl ([] ++ pl) H → va_D A ([] ++ pl) → va_S A s.heap H locs → W p l e ({ frames := 3, cells := 0, slots := 0, locals := 67 } : Room) s m args below meth c H locs 0 0 (MQ below (va_Qv (fun (u : va_W) => (True) ∧ okx g T xs u) (po g.1 vcl A (fun (u : va_W) => [] ++ u)) A) args s 0 0 A) (F0 m 2 ls []) := by
    intro n21
    induction n21 with
    | zero =>
      intro i21 pl ls H locs hm21  hl hO hP hD hS
      refine lv_iload_n hx hb dMH_expand_2 rfl (lv_at hl 0 rfl) ?_
      refine lv_aload_n hx hb dMH_expand_3 rfl (lv_at hl 1 rfl) ?_
      refine ty_get (ci := 12) (C := "LatticeKeysModel$Hands") (TT := T_MH) (N := 31) (kd := (46, 0)) hx hb hts (wg_ft i_MH) hown hK hO k_h0 (nxg hc0 k_h0 rfl) hP (fun _ h9 => h9) rfl 24 (by decide) (hts _ (wg_t kw_1456)) (fun _ h9 => h9) (cd := (1, 0, 4)) rfl dMH_expand_4 (fun v21 hv21 => ?_)
      obtain rfl := (show v21 = .int (nI 4) from hv21)
      refine mi_ge (tgt := 163) hx hb dMH_expand_7 (by decide) (by omega) (by omega) (fun h21 => ?_) (fun h21 => absurd h21 (by omega))
      exact mp_vret hx hb hr hlk hP hD hS pl ⟨trivial, hO⟩ [] rfl rfl rfl (by omega) (by omega) dMH_expand_163
    | succ n21 ih21 =>
      intro i21 pl ls H locs hm21  hl hO hP hD hS
      refine lv_iload_n hx hb dMH_expand_2 rfl (lv_at hl 0 rfl) ?_
      refine lv_aload_n hx hb dMH_expand_3 rfl (lv_at hl 1 rfl) ?_
      refine ty_get (ci := 12) (C := "LatticeKeysModel$Hands") (TT := T_MH) (N := 31) (kd := (46, 0)) hx hb hts (wg_ft i_MH) hown hK hO k_h0 (nxg hc0 k_h0 rfl) hP (fun _ h9 => h9) rfl 24 (by decide) (hts _ (wg_t kw_1456)) (fun _ h9 => h9) (cd := (1, 0, 4)) rfl dMH_expand_4 (fun v22 hv22 => ?_)
      obtain rfl := (show v22 = .int (nI 4) from hv22)
      refine mi_ge (tgt := 163) hx hb dMH_expand_7 (by decide) (by omega) (by omega) (fun h22 => absurd h22 (by omega)) (fun h22 => ?_)
      refine lv_iconst (v := nI 0) hx hb dMH_expand_10 (by decide) ?_
      refine lv_istore_n (lv' := [(3, .int (nI 0)), (2, .int (nI i21)), (0, .ref h0), (1, .ref b)]) hx hb dMH_expand_11 rfl hl (by decide) rfl (fun ls hl => ?_)
      have lp22 : ∀ (n22 : Nat) (i22 : Nat) (pl : va_W) (ls : Array Slot) (H : Heap) (locs : List Loc), n22 + i22 = 4 → lv_has ls 6 [(3, .int (nI i22)), (2, .int (nI i21)), (0, .ref h0), (1, .ref b)] → okx g T xs pl → va_P g.1 vcl ([] ++ pl) H → va_D A ([] ++ pl) → va_S A s.heap H locs → W p l e ({ frames := 3, cells := 0, slots := 0, locals := 67 } : Room) s m args below meth c H locs 0 0 (MQ below (va_Qv (fun (u : va_W) => (True) ∧ okx g T xs u) (po g.1 vcl A (fun (u : va_W) => [] ++ u)) A) args s 0 0 A) (F0 m 12 ls []) := by
        intro n22
        induction n22 with
        | zero =>
          intro i22 pl ls H locs hm22  hl hO hP hD hS
          refine lv_iload_n hx hb dMH_expand_12 rfl (lv_at hl 0 rfl) ?_
          refine lv_aload_n hx hb dMH_expand_13 rfl (lv_at hl 2 rfl) ?_
          refine ty_get (ci := 12) (C := "LatticeKeysModel$Hands") (TT := T_MH) (N := 31) (kd := (46, 0)) hx hb hts (wg_ft i_MH) hown hK hO k_h0 (nxg hc0 k_h0 rfl) hP (fun _ h9 => h9) rfl 25 (by decide) (hts _ (wg_t kw_1457)) (fun _ h9 => h9) (cd := (1, 0, 4)) rfl dMH_expand_14 (fun v23 hv23 => ?_)
          obtain rfl := (show v23 = .int (nI 4) from hv23)
          refine mi_ge (tgt := 157) hx hb dMH_expand_17 (by decide) (by omega) (by omega) (fun h23 => ?_) (fun h23 => absurd h23 (by omega))
          refine mi_iinc (k := 1) (x := i21) (d := 1) (y := i21 + 1) (lv' := [(2, .int (nI (i21 + 1))), (3, .int (nI i22)), (0, .ref h0), (1, .ref b)]) hx hb dMH_expand_157 hl rfl (by decide) rfl (by decide) rfl (fun ls hl => ?_)
          refine lv_goto (tgt := 2) hx hb dMH_expand_160 (by decide) ?_
          exact ih21 (i21 + 1) pl ls H locs (by omega) (lv_sub hl [0, 2, 3] rfl) hO hP hD hS
        | succ n22 ih22 =>
          intro i22 pl ls H locs hm22  hl hO hP hD hS
          refine lv_iload_n hx hb dMH_expand_12 rfl (lv_at hl 0 rfl) ?_
          refine lv_aload_n hx hb dMH_expand_13 rfl (lv_at hl 2 rfl) ?_
          refine ty_get (ci := 12) (C := "LatticeKeysModel$Hands") (TT := T_MH) (N := 31) (kd := (46, 0)) hx hb hts (wg_ft i_MH) hown hK hO k_h0 (nxg hc0 k_h0 rfl) hP (fun _ h9 => h9) rfl 25 (by decide) (hts _ (wg_t kw_1457)) (fun _ h9 => h9) (cd := (1, 0, 4)) rfl dMH_expand_14 (fun v24 hv24 => ?_)
          obtain rfl := (show v24 = .int (nI 4) from hv24)
          refine mi_ge (tgt := 157) hx hb dMH_expand_17 (by decide) (by omega) (by omega) (fun h24 => absurd h24 (by omega)) (fun h24 => ?_)
          refine lv_aload_n hx hb dMH_expand_20 rfl (lv_at hl 2 rfl) ?_
          refine ty_get (ci := 12) (C := "LatticeKeysModel$Hands") (TT := T_MH) (N := 31) (kd := (46, 0)) hx hb hts (wg_ft i_MH) hown hK hO k_h0 (nxg hc0 k_h0 rfl) hP (fun _ h9 => h9) rfl 0 (by decide) (hts _ (wg_t kw_1432)) (fun _ h9 => h9) (cd := (3, 20, 0)) rfl dMH_expand_21 (fun v25 hv25 => ?_)
          obtain ⟨r21, rfl, kr21⟩ := (show ∃ r : Nat, v25 = .ref r ∧ T r = some (20, 0) from hv25)
          refine lv_sipush (v := nI 168) hx hb dMH_expand_24 (by decide) ?_
          refine lv_bipush (v := nI 31) hx hb dMH_expand_27 (by decide) ?_
          obtain ⟨e21, pl, hP, hD, hk21, hO⟩ := open1 hP hD hO kr21 (nxg hc9 kr21 rfl)
          obtain ⟨am21, am22, am23, am24, am25, rt21, ps21, x21, rfl, km21, km22, km23, km24, km25, hr21, hr22, hr23⟩ := hk21
          obtain ⟨e22, pl, hP, hD, hk22, hO⟩ := open1 hP hD hO km21 (nmc (knd_ne km21 kr21 (by decide)) (nxg hc9 km21 rfl))
          obtain ⟨f21, rfl⟩ := hk22
          obtain ⟨e23, pl, hP, hD, hk23, hO⟩ := open1 hP hD hO km22 (nmc (knd_ne km22 km21 (by decide)) (nmc (knd_ne km22 kr21 (by decide)) (nxg hc9 km22 rfl)))
          obtain ⟨f22, rfl⟩ := hk23
          obtain ⟨e24, pl, hP, hD, hk24, hO⟩ := open1 hP hD hO km23 (nmc (knd_ne km23 km22 (by decide)) (nmc (knd_ne km23 km21 (by decide)) (nmc (knd_ne km23 kr21 (by decide)) (nxg hc9 km23 rfl))))
          obtain ⟨f23, rfl⟩ := hk24
          obtain ⟨e25, pl, hP, hD, hk25, hO⟩ := open1 hP hD hO km24 (nmc (knd_ne km24 km23 (by decide)) (nmc (knd_ne km24 km22 (by decide)) (nmc (knd_ne km24 km21 (by decide)) (nmc (knd_ne km24 kr21 (by decide)) (nxg hc9 km24 rfl)))))
          obtain ⟨f24, rfl⟩ := hk25
          obtain ⟨e26, pl, hP, hD, hk26, hO⟩ := open1 hP hD hO km25 (nmc (knd_ne km25 km24 (by decide)) (nmc (knd_ne km25 km23 (by decide)) (nmc (knd_ne km25 km22 (by decide)) (nmc (knd_ne km25 km21 (by decide)) (nmc (knd_ne km25 kr21 (by decide)) (nxg hc9 km25 rfl))))))
          obtain ⟨f25, rfl⟩ := hk26
          have hP : va_P g.1 vcl ([(r21, .inr (9, [.ref am21, .ref am22, .ref am23, .ref am24, .ref am25, .int (nI rt21), .int (nI ps21), .int x21])), (am21, .inl (g.2.1 2, 25, .inr (.inl f21))), (am22, .inl (g.2.1 2, 25, .inr (.inl f22))), (am23, .inl (g.2.1 2, 5, .inr (.inl f23))), (am24, .inl (g.2.1 2, 24, .inr (.inl f24))), (am25, .inl (g.2.1 0, 25, .inl f25))] ++ pl) _ := hP
          have hD : va_D _ ([(r21, .inr (9, [.ref am21, .ref am22, .ref am23, .ref am24, .ref am25, .int (nI rt21), .int (nI ps21), .int x21])), (am21, .inl (g.2.1 2, 25, .inr (.inl f21))), (am22, .inl (g.2.1 2, 25, .inr (.inl f22))), (am23, .inl (g.2.1 2, 5, .inr (.inl f23))), (am24, .inl (g.2.1 2, 24, .inr (.inl f24))), (am25, .inl (g.2.1 0, 25, .inl f25))] ++ pl) := hD
          refine mp_v (cx := [(r21, .inr (9, [.ref am21, .ref am22, .ref am23, .ref am24, .ref am25, .int (nI rt21), .int (nI ps21), .int x21])), (am21, .inl (g.2.1 2, 25, .inr (.inl f21))), (am22, .inl (g.2.1 2, 25, .inr (.inl f22))), (am23, .inl (g.2.1 2, 5, .inr (.inl f23))), (am24, .inl (g.2.1 2, 24, .inr (.inl f24))), (am25, .inl (g.2.1 0, 25, .inl f25))]) (wr := []) hP hD hS hA [0, 1, 2, 3, 4, 5] [] rfl rfl rfl (by decide) (va_runV (As := [.int (nI 168), .int (nI 31)]) (rest := []) F (x_MS_begin l g _ T (am25 :: (am24 :: (am23 :: (am22 :: (am21 :: (r21 :: xs)))))) pl hO hU  168 (nI 31) r21 am21 am22 am23 am24 am25 rt21 ps21 x21 f21 f22 f23 f24 f25 (by omega)) (cwV 2 hts (wg_app (wg_c kw_1727 (wg_c kw_1608 (wg_c kw_1609 (wg_c kw_10 wg_n)))) kw_1610) rfl rfl rfl (by decide +kernel) ⟨by decide, by decide⟩) (pp_V (en_ok g) (q0 := 0) hK hP hD hS hA hE [0, 1, 2, 3, 4, 5] rfl rfl rfl rfl) rfl rfl hl.1 rfl (lv_room (Nat.le_of_ble_eq_true rfl)) dMH_expand_29 ⟨by omega, by omega⟩) (fun  u21 H locs hu21 hP hD hS => ?_)
          obtain ⟨u22, pl⟩ := u21
          obtain ⟨hq21, hO⟩ := hu21
          have hP : va_P g.1 vcl ([(r21, .inr (9, [.ref am21, .ref am22, .ref am23, .ref am24, .ref am25, .int (nI 168), .int (nI 0), .int (nI 31)])), (am21, .inl (g.2.1 2, 25, .inr (.inl u22))), (am22, .inl (g.2.1 2, 25, .inr (.inl f22))), (am23, .inl (g.2.1 2, 5, .inr (.inl f23))), (am24, .inl (g.2.1 2, 24, .inr (.inl f24))), (am25, .inl (g.2.1 0, 25, .inl f25))] ++ pl) _ := hP
          have hD : va_D _ ([(r21, .inr (9, [.ref am21, .ref am22, .ref am23, .ref am24, .ref am25, .int (nI 168), .int (nI 0), .int (nI 31)])), (am21, .inl (g.2.1 2, 25, .inr (.inl u22))), (am22, .inl (g.2.1 2, 25, .inr (.inl f22))), (am23, .inl (g.2.1 2, 5, .inr (.inl f23))), (am24, .inl (g.2.1 2, 24, .inr (.inl f24))), (am25, .inl (g.2.1 0, 25, .inl f25))] ++ pl) := hD
          have hq21 : ∀ j, j < 25 → u22 j = 0 := hq21
          refine W.widen (k := 0) (n := 0) (by omega) (by omega) ?_
          refine lv_aload_n hx hb dMH_expand_32 rfl (lv_at hl 2 rfl) ?_
          refine ty_get (ci := 12) (C := "LatticeKeysModel$Hands") (TT := T_MH) (N := 31) (kd := (46, 0)) hx hb hts (wg_ft i_MH) hown hK hO k_h0 (nxg (clo_cons (clo_cons (clo_cons (clo_cons (clo_cons (clo_cons hc0 kr21 (by decide)) km21 (by decide)) km22 (by decide)) km23 (by decide)) km24 (by decide)) km25 (by decide)) k_h0 rfl) hP (fun _ h9 => h9) rfl 0 (by decide) (hts _ (wg_t kw_1432)) (fun _ h9 => h9) (cd := (3, 20, 0)) rfl dMH_expand_33 (fun v26 hv26 => ?_)
          obtain ⟨r22, rfl, kr22⟩ := (show ∃ r : Nat, v26 = .ref r ∧ T r = some (20, 0) from hv26)
          obtain rfl : r21 = r22 := hU _ _ _ (by decide) kr21 kr22
          refine lv_aload_n hx hb dMH_expand_36 rfl (lv_at hl 3 rfl) ?_
          refine lv_iconst (v := nI 0) hx hb dMH_expand_37 (by decide) ?_
          refine lv_bipush (v := nI 32) hx hb dMH_expand_38 (by decide) ?_
          refine mp_v (cx := [(r21, .inr (9, [.ref am21, .ref am22, .ref am23, .ref am24, .ref am25, .int (nI 168), .int (nI 0), .int (nI 31)])), (am21, .inl (g.2.1 2, 25, .inr (.inl u22))), (am22, .inl (g.2.1 2, 25, .inr (.inl f22))), (am23, .inl (g.2.1 2, 5, .inr (.inl f23))), (am24, .inl (g.2.1 2, 24, .inr (.inl f24))), (am25, .inl (g.2.1 0, 25, .inl f25))]) (wr := []) hP hD hS hA [0, 1, 2, 3, 4, 5] [] rfl rfl rfl (by decide) (va_runV (As := [.ref b, .int (nI 0), .int (nI 32)]) (rest := []) F (x_MS_puts l g _ T (am25 :: (am24 :: (am23 :: (am22 :: (am21 :: (r21 :: xs)))))) pl hO hU (clo_cons (clo_cons (clo_cons (clo_cons (clo_cons (clo_cons hc0 kr21 (by decide)) km21 (by decide)) km22 (by decide)) km23 (by decide)) km24 (by decide)) km25 (by decide)) b n 0 32 r21 am21 am22 am23 am24 am25 168 0 (nI 31) u22 f22 f23 f24 f25 k_b (by omega) (by omega) (by omega) (by omega)) (cwV 3 hts (wg_app (wg_c kw_1719 (wg_c kw_1612 (wg_c kw_1613 (wg_c kw_10 wg_n)))) kw_1614) rfl rfl rfl (by decide +kernel) ⟨by decide, by decide⟩) (pp_V (en_ok g) (q0 := 0) hK hP hD hS hA hE [0, 1, 2, 3, 4, 5] rfl rfl rfl rfl) rfl rfl hl.1 rfl (lv_room (Nat.le_of_ble_eq_true rfl)) dMH_expand_40 ⟨by omega, by omega⟩) (fun  u23 H locs hu22 hP hD hS => ?_)
          obtain ⟨u24, pl⟩ := u23
          obtain ⟨hq22, hO⟩ := hu22
          have hP : va_P g.1 vcl ([(r21, .inr (9, [.ref am21, .ref am22, .ref am23, .ref am24, .ref am25, .int (nI 168), .int (nI 32), .int (nI 31)])), (am21, .inl (g.2.1 2, 25, .inr (.inl u24))), (am22, .inl (g.2.1 2, 25, .inr (.inl f22))), (am23, .inl (g.2.1 2, 5, .inr (.inl f23))), (am24, .inl (g.2.1 2, 24, .inr (.inl f24))), (am25, .inl (g.2.1 0, 25, .inl f25))] ++ pl) _ := hP
          have hD : va_D _ ([(r21, .inr (9, [.ref am21, .ref am22, .ref am23, .ref am24, .ref am25, .int (nI 168), .int (nI 32), .int (nI 31)])), (am21, .inl (g.2.1 2, 25, .inr (.inl u24))), (am22, .inl (g.2.1 2, 25, .inr (.inl f22))), (am23, .inl (g.2.1 2, 5, .inr (.inl f23))), (am24, .inl (g.2.1 2, 24, .inr (.inl f24))), (am25, .inl (g.2.1 0, 25, .inl f25))] ++ pl) := hD
          refine W.widen (k := 0) (n := 0) (by omega) (by omega) ?_
          refine lv_aload_n hx hb dMH_expand_43 rfl (lv_at hl 2 rfl) ?_
          refine ty_get (ci := 12) (C := "LatticeKeysModel$Hands") (TT := T_MH) (N := 31) (kd := (46, 0)) hx hb hts (wg_ft i_MH) hown hK hO k_h0 (nxg (clo_cons (clo_cons (clo_cons (clo_cons (clo_cons (clo_cons hc0 kr21 (by decide)) km21 (by decide)) km22 (by decide)) km23 (by decide)) km24 (by decide)) km25 (by decide)) k_h0 rfl) hP (fun _ h9 => h9) rfl 0 (by decide) (hts _ (wg_t kw_1432)) (fun _ h9 => h9) (cd := (3, 20, 0)) rfl dMH_expand_44 (fun v27 hv27 => ?_)
          obtain ⟨r23, rfl, kr23⟩ := (show ∃ r : Nat, v27 = .ref r ∧ T r = some (20, 0) from hv27)
          obtain rfl : r21 = r23 := hU _ _ _ (by decide) kr21 kr23
          refine lv_iload_n hx hb dMH_expand_47 rfl (lv_at hl 0 rfl) ?_
          refine mp_v (cx := [(r21, .inr (9, [.ref am21, .ref am22, .ref am23, .ref am24, .ref am25, .int (nI 168), .int (nI 32), .int (nI 31)])), (am21, .inl (g.2.1 2, 25, .inr (.inl u24))), (am22, .inl (g.2.1 2, 25, .inr (.inl f22))), (am23, .inl (g.2.1 2, 5, .inr (.inl f23))), (am24, .inl (g.2.1 2, 24, .inr (.inl f24))), (am25, .inl (g.2.1 0, 25, .inl f25))]) (wr := []) hP hD hS hA [0, 1, 2, 3, 4, 5] [] rfl rfl rfl (by decide) (va_runV (As := [.int (nI i22)]) (rest := []) F (x_MS_put l g _ T (am25 :: (am24 :: (am23 :: (am22 :: (am21 :: (r21 :: xs)))))) pl hO hU  (nI i22) r21 am21 am22 am23 am24 am25 168 32 (nI 31) u24 f22 f23 f24 f25 (by omega) (by omega)) (cwV 1 hts (wg_app (wg_c kw_1720 (wg_c kw_1616 (wg_c kw_1617 (wg_c kw_10 wg_n)))) kw_1618) rfl rfl rfl (by decide +kernel) ⟨by decide, by decide⟩) (pp_V (en_ok g) (q0 := 0) hK hP hD hS hA hE [0, 1, 2, 3, 4, 5] rfl rfl rfl rfl) rfl rfl hl.1 rfl (lv_room (Nat.le_of_ble_eq_true rfl)) dMH_expand_48 ⟨by omega, by omega⟩) (fun  u25 H locs hu23 hP hD hS => ?_)
          obtain ⟨u26, pl⟩ := u25
          obtain ⟨hq23, hO⟩ := hu23
          have hP : va_P g.1 vcl ([(r21, .inr (9, [.ref am21, .ref am22, .ref am23, .ref am24, .ref am25, .int (nI 168), .int (nI 33), .int (nI 31)])), (am21, .inl (g.2.1 2, 25, .inr (.inl u26))), (am22, .inl (g.2.1 2, 25, .inr (.inl f22))), (am23, .inl (g.2.1 2, 5, .inr (.inl f23))), (am24, .inl (g.2.1 2, 24, .inr (.inl f24))), (am25, .inl (g.2.1 0, 25, .inl f25))] ++ pl) _ := hP
          have hD : va_D _ ([(r21, .inr (9, [.ref am21, .ref am22, .ref am23, .ref am24, .ref am25, .int (nI 168), .int (nI 33), .int (nI 31)])), (am21, .inl (g.2.1 2, 25, .inr (.inl u26))), (am22, .inl (g.2.1 2, 25, .inr (.inl f22))), (am23, .inl (g.2.1 2, 5, .inr (.inl f23))), (am24, .inl (g.2.1 2, 24, .inr (.inl f24))), (am25, .inl (g.2.1 0, 25, .inl f25))] ++ pl) := hD
          refine W.widen (k := 0) (n := 0) (by omega) (by omega) ?_
          refine lv_aload_n hx hb dMH_expand_51 rfl (lv_at hl 2 rfl) ?_
          refine ty_get (ci := 12) (C := "LatticeKeysModel$Hands") (TT := T_MH) (N := 31) (kd := (46, 0)) hx hb hts (wg_ft i_MH) hown hK hO k_h0 (nxg (clo_cons (clo_cons (clo_cons (clo_cons (clo_cons (clo_cons hc0 kr21 (by decide)) km21 (by decide)) km22 (by decide)) km23 (by decide)) km24 (by decide)) km25 (by decide)) k_h0 rfl) hP (fun _ h9 => h9) rfl 0 (by decide) (hts _ (wg_t kw_1432)) (fun _ h9 => h9) (cd := (3, 20, 0)) rfl dMH_expand_52 (fun v28 hv28 => ?_)
          obtain ⟨r24, rfl, kr24⟩ := (show ∃ r : Nat, v28 = .ref r ∧ T r = some (20, 0) from hv28)
          obtain rfl : r21 = r24 := hU _ _ _ (by decide) kr21 kr24
          refine lv_iload_n hx hb dMH_expand_55 rfl (lv_at hl 1 rfl) ?_
          refine mp_v (cx := [(r21, .inr (9, [.ref am21, .ref am22, .ref am23, .ref am24, .ref am25, .int (nI 168), .int (nI 33), .int (nI 31)])), (am21, .inl (g.2.1 2, 25, .inr (.inl u26))), (am22, .inl (g.2.1 2, 25, .inr (.inl f22))), (am23, .inl (g.2.1 2, 5, .inr (.inl f23))), (am24, .inl (g.2.1 2, 24, .inr (.inl f24))), (am25, .inl (g.2.1 0, 25, .inl f25))]) (wr := []) hP hD hS hA [0, 1, 2, 3, 4, 5] [] rfl rfl rfl (by decide) (va_runV (As := [.int (nI i21)]) (rest := []) F (x_MS_put l g _ T (am25 :: (am24 :: (am23 :: (am22 :: (am21 :: (r21 :: xs)))))) pl hO hU  (nI i21) r21 am21 am22 am23 am24 am25 168 33 (nI 31) u26 f22 f23 f24 f25 (by omega) (by omega)) (cwV 1 hts (wg_app (wg_c kw_1720 (wg_c kw_1616 (wg_c kw_1617 (wg_c kw_10 wg_n)))) kw_1618) rfl rfl rfl (by decide +kernel) ⟨by decide, by decide⟩) (pp_V (en_ok g) (q0 := 0) hK hP hD hS hA hE [0, 1, 2, 3, 4, 5] rfl rfl rfl rfl) rfl rfl hl.1 rfl (lv_room (Nat.le_of_ble_eq_true rfl)) dMH_expand_56 ⟨by omega, by omega⟩) (fun  u27 H locs hu24 hP hD hS => ?_)
          obtain ⟨u28, pl⟩ := u27
          obtain ⟨hq24, hO⟩ := hu24
          have hP : va_P g.1 vcl ([(r21, .inr (9, [.ref am21, .ref am22, .ref am23, .ref am24, .ref am25, .int (nI 168), .int (nI 34), .int (nI 31)])), (am21, .inl (g.2.1 2, 25, .inr (.inl u28))), (am22, .inl (g.2.1 2, 25, .inr (.inl f22))), (am23, .inl (g.2.1 2, 5, .inr (.inl f23))), (am24, .inl (g.2.1 2, 24, .inr (.inl f24))), (am25, .inl (g.2.1 0, 25, .inl f25))] ++ pl) _ := hP
          have hD : va_D _ ([(r21, .inr (9, [.ref am21, .ref am22, .ref am23, .ref am24, .ref am25, .int (nI 168), .int (nI 34), .int (nI 31)])), (am21, .inl (g.2.1 2, 25, .inr (.inl u28))), (am22, .inl (g.2.1 2, 25, .inr (.inl f22))), (am23, .inl (g.2.1 2, 5, .inr (.inl f23))), (am24, .inl (g.2.1 2, 24, .inr (.inl f24))), (am25, .inl (g.2.1 0, 25, .inl f25))] ++ pl) := hD
          refine W.widen (k := 0) (n := 0) (by omega) (by omega) ?_
          refine lv_aload_n hx hb dMH_expand_59 rfl (lv_at hl 2 rfl) ?_
          refine ty_get (ci := 12) (C := "LatticeKeysModel$Hands") (TT := T_MH) (N := 31) (kd := (46, 0)) hx hb hts (wg_ft i_MH) hown hK hO k_h0 (nxg (clo_cons (clo_cons (clo_cons (clo_cons (clo_cons (clo_cons hc0 kr21 (by decide)) km21 (by decide)) km22 (by decide)) km23 (by decide)) km24 (by decide)) km25 (by decide)) k_h0 rfl) hP (fun _ h9 => h9) rfl 0 (by decide) (hts _ (wg_t kw_1432)) (fun _ h9 => h9) (cd := (3, 20, 0)) rfl dMH_expand_60 (fun v29 hv29 => ?_)
          obtain ⟨r25, rfl, kr25⟩ := (show ∃ r : Nat, v29 = .ref r ∧ T r = some (20, 0) from hv29)
          obtain rfl : r21 = r25 := hU _ _ _ (by decide) kr21 kr25
          refine mp_v (cx := [(r21, .inr (9, [.ref am21, .ref am22, .ref am23, .ref am24, .ref am25, .int (nI 168), .int (nI 34), .int (nI 31)])), (am21, .inl (g.2.1 2, 25, .inr (.inl u28))), (am22, .inl (g.2.1 2, 25, .inr (.inl f22))), (am23, .inl (g.2.1 2, 5, .inr (.inl f23))), (am24, .inl (g.2.1 2, 24, .inr (.inl f24))), (am25, .inl (g.2.1 0, 25, .inl f25))]) (wr := []) hP hD hS hA [0, 1, 2, 3, 4, 5] [] rfl rfl rfl (by decide) (va_runV (As := []) (rest := []) F (x_MS_end l g _ T (am25 :: (am24 :: (am23 :: (am22 :: (am21 :: (r21 :: xs)))))) pl hO hU  r21 am21 am22 am23 am24 am25 168 34 (nI 31) u28 f22 f23 f24 f25 (by omega) (by omega)) (cwV 0 hts (wg_app (wg_c kw_1721 (wg_c kw_1634 (wg_c kw_1635 (wg_c kw_10 wg_n)))) kw_1636) rfl rfl rfl (by decide +kernel) ⟨by decide, by decide⟩) (pp_V (en_ok g) (q0 := 0) hK hP hD hS hA hE [0, 1, 2, 3, 4, 5] rfl rfl rfl rfl) rfl rfl hl.1 rfl (lv_room (Nat.le_of_ble_eq_true rfl)) dMH_expand_63 ⟨by omega, by omega⟩) (fun  u29 H locs hu25 hP hD hS => ?_)
          obtain ⟨u30, pl⟩ := u29
          obtain ⟨hq25, hO⟩ := hu25
          obtain ⟨f26, f27, f28, f29⟩ := u30
          have hP : va_P g.1 vcl ([(r21, .inr (9, [.ref am21, .ref am22, .ref am23, .ref am24, .ref am25, .int (nI 168), .int (nI 0), .int (nI 31)])), (am21, .inl (g.2.1 2, 25, .inr (.inl f26))), (am22, .inl (g.2.1 2, 25, .inr (.inl f27))), (am23, .inl (g.2.1 2, 5, .inr (.inl f28))), (am24, .inl (g.2.1 2, 24, .inr (.inl f24))), (am25, .inl (g.2.1 0, 25, .inl f25))] ++ pl) _ := hP
          have hD : va_D _ ([(r21, .inr (9, [.ref am21, .ref am22, .ref am23, .ref am24, .ref am25, .int (nI 168), .int (nI 0), .int (nI 31)])), (am21, .inl (g.2.1 2, 25, .inr (.inl f26))), (am22, .inl (g.2.1 2, 25, .inr (.inl f27))), (am23, .inl (g.2.1 2, 5, .inr (.inl f28))), (am24, .inl (g.2.1 2, 24, .inr (.inl f24))), (am25, .inl (g.2.1 0, 25, .inl f25))] ++ pl) := hD
          refine W.widen (k := 0) (n := 0) (by omega) (by omega) ?_
          have hz : ∀ j, 5 ≤ j → j < 20 → f29 j = 0 := fun j h8 h9 => ((((hq25.2 j (by omega) (by omega)).trans (hq24 j (by omega))).trans (hq23 j (by omega))).trans (hq22 j (by omega))).trans (hq21 j (by omega))
          have hs : str f25 f24 f29 168 168 0 f26 := ⟨1, by omega, by omega, hq25.1⟩
          obtain ⟨mB, hm0, hmP⟩ := blk_back f25 f24 f29
          refine lv_iconst (v := nI 0) hx hb dMH_expand_66 (by decide) ?_
          refine lv_istore (lv' := [(4, .int (nI 0)), (3, .int (nI i22)), (2, .int (nI i21)), (0, .ref h0), (1, .ref b)]) hx hb dMH_expand_67 hl (by decide) rfl (fun ls hl => ?_)
          have lp23 : ∀ (q21 : Nat) (d21 : Nat) (c21 t21 : Nat) (i23 : Nat) (ps22 : Nat) (f30 f31 f32 : Nat → Int64) (pl : va_W) (ls : Array Slot) (H : Heap) (locs : List Loc), 256 ≤ i23 + q21 → i23 ≤ 256 → t21 + 3 * d21 = c21 * mB * 168 + 42 → str f25 f24 f29 168 t21 ps22 f30 → lv_has ls 6 [(4, .int (nI i23)), (3, .int (nI i22)), (2, .int (nI i21)), (0, .ref h0), (1, .ref b)] → okx g T (am25 :: (am24 :: (am23 :: (am22 :: (am21 :: (r21 :: xs)))))) pl → va_P g.1 vcl ([(r21, .inr (9, [.ref am21, .ref am22, .ref am23, .ref am24, .ref am25, .int (nI 168), .int (nI ps22), .int (nI 31)])), (am21, .inl (g.2.1 2, 25, .inr (.inl f30))), (am22, .inl (g.2.1 2, 25, .inr (.inl f31))), (am23, .inl (g.2.1 2, 5, .inr (.inl f32))), (am24, .inl (g.2.1 2, 24, .inr (.inl f24))), (am25, .inl (g.2.1 0, 25, .inl f25))] ++ pl) H → va_D A ([(r21, .inr (9, [.ref am21, .ref am22, .ref am23, .ref am24, .ref am25, .int (nI 168), .int (nI ps22), .int (nI 31)])), (am21, .inl (g.2.1 2, 25, .inr (.inl f30))), (am22, .inl (g.2.1 2, 25, .inr (.inl f31))), (am23, .inl (g.2.1 2, 5, .inr (.inl f32))), (am24, .inl (g.2.1 2, 24, .inr (.inl f24))), (am25, .inl (g.2.1 0, 25, .inl f25))] ++ pl) → va_S A s.heap H locs → W p l e ({ frames := 3, cells := 0, slots := 0, locals := 67 } : Room) s m args below meth c H locs 0 0 (MQ below (va_Qv (fun (u : va_W) => (True) ∧ okx g T xs u) (po g.1 vcl A (fun (u : va_W) => [] ++ u)) A) args s 0 0 A) (F0 m 69 ls []) := by
            intro q21
            induction q21 with
            | zero =>
              intro d21
              intro c21 t21 i23 ps22 f30 f31 f32 pl ls H locs hi21 hi22 hd21 hs hl hO hP hD hS
              have hsl := str_le hs
              refine lv_iload hx hb dMH_expand_69 (lv_at hl 0 rfl) ?_
              refine lv_sipush (v := nI 256) hx hb dMH_expand_71 (by decide) ?_
              refine mi_ge (tgt := 151) hx hb dMH_expand_74 (by decide) (by omega) (by omega) (fun h25 => ?_) (fun h25 => absurd h25 (by omega))
              refine mi_iinc (k := 1) (x := i22) (d := 1) (y := i22 + 1) (lv' := [(3, .int (nI (i22 + 1))), (4, .int (nI i23)), (2, .int (nI i21)), (0, .ref h0), (1, .ref b)]) hx hb dMH_expand_151 hl rfl (by decide) rfl (by decide) rfl (fun ls hl => ?_)
              refine lv_goto (tgt := 12) hx hb dMH_expand_154 (by decide) ?_
              have hO := close1 (e := .inl (g.2.1 0, 25, .inl f25)) hO km25 ⟨_, rfl⟩
              have hO := close1 (e := .inl (g.2.1 2, 24, .inr (.inl f24))) hO km24 ⟨_, rfl⟩
              have hO := close1 (e := .inl (g.2.1 2, 5, .inr (.inl f32))) hO km23 ⟨_, rfl⟩
              have hO := close1 (e := .inl (g.2.1 2, 25, .inr (.inl f31))) hO km22 ⟨_, rfl⟩
              have hO := close1 (e := .inl (g.2.1 2, 25, .inr (.inl f30))) hO km21 ⟨_, rfl⟩
              have hO := close1 (e := .inr (9, [.ref am21, .ref am22, .ref am23, .ref am24, .ref am25, .int (nI 168), .int (nI ps22), .int (nI 31)])) hO kr21 ⟨_, _, _, _, _, _, _, _, rfl, km21, km22, km23, km24, km25, by omega, by omega, by omega⟩
              have hO : okx g T xs ((r21, .inr (9, [.ref am21, .ref am22, .ref am23, .ref am24, .ref am25, .int (nI 168), .int (nI ps22), .int (nI 31)])) :: (am21, .inl (g.2.1 2, 25, .inr (.inl f30))) :: (am22, .inl (g.2.1 2, 25, .inr (.inl f31))) :: (am23, .inl (g.2.1 2, 5, .inr (.inl f32))) :: (am24, .inl (g.2.1 2, 24, .inr (.inl f24))) :: (am25, .inl (g.2.1 0, 25, .inl f25)) :: pl) := hO
              have hP : va_P g.1 vcl ([] ++ ((r21, .inr (9, [.ref am21, .ref am22, .ref am23, .ref am24, .ref am25, .int (nI 168), .int (nI ps22), .int (nI 31)])) :: (am21, .inl (g.2.1 2, 25, .inr (.inl f30))) :: (am22, .inl (g.2.1 2, 25, .inr (.inl f31))) :: (am23, .inl (g.2.1 2, 5, .inr (.inl f32))) :: (am24, .inl (g.2.1 2, 24, .inr (.inl f24))) :: (am25, .inl (g.2.1 0, 25, .inl f25)) :: pl)) _ := hP
              have hD : va_D _ ([] ++ ((r21, .inr (9, [.ref am21, .ref am22, .ref am23, .ref am24, .ref am25, .int (nI 168), .int (nI ps22), .int (nI 31)])) :: (am21, .inl (g.2.1 2, 25, .inr (.inl f30))) :: (am22, .inl (g.2.1 2, 25, .inr (.inl f31))) :: (am23, .inl (g.2.1 2, 5, .inr (.inl f32))) :: (am24, .inl (g.2.1 2, 24, .inr (.inl f24))) :: (am25, .inl (g.2.1 0, 25, .inl f25)) :: pl)) := hD
              generalize ((r21, .inr (9, [.ref am21, .ref am22, .ref am23, .ref am24, .ref am25, .int (nI 168), .int (nI ps22), .int (nI 31)])) :: (am21, .inl (g.2.1 2, 25, .inr (.inl f30))) :: (am22, .inl (g.2.1 2, 25, .inr (.inl f31))) :: (am23, .inl (g.2.1 2, 5, .inr (.inl f32))) :: (am24, .inl (g.2.1 2, 24, .inr (.inl f24))) :: (am25, .inl (g.2.1 0, 25, .inl f25)) :: pl) = pl at hO hP hD
              exact ih22 (i22 + 1) pl ls H locs (by omega) (lv_sub hl [0, 2, 3, 4] rfl) hO hP hD hS
            | succ q21 ihq21 =>
              intro d21
              induction d21 with
              | zero =>
                intro c21 t21 i23 ps22 f30 f31 f32 pl ls H locs hi21 hi22 hd21 hs hl hO hP hD hS
                have hsl := str_le hs
                refine lv_iload hx hb dMH_expand_69 (lv_at hl 0 rfl) ?_
                refine lv_sipush (v := nI 256) hx hb dMH_expand_71 (by decide) ?_
                refine mi_ge (tgt := 151) hx hb dMH_expand_74 (by decide) (by omega) (by omega) (fun h26 => ?_) (fun h26 => ?_)
                · refine mi_iinc (k := 1) (x := i22) (d := 1) (y := i22 + 1) (lv' := [(3, .int (nI (i22 + 1))), (4, .int (nI i23)), (2, .int (nI i21)), (0, .ref h0), (1, .ref b)]) hx hb dMH_expand_151 hl rfl (by decide) rfl (by decide) rfl (fun ls hl => ?_)
                  refine lv_goto (tgt := 12) hx hb dMH_expand_154 (by decide) ?_
                  have hO := close1 (e := .inl (g.2.1 0, 25, .inl f25)) hO km25 ⟨_, rfl⟩
                  have hO := close1 (e := .inl (g.2.1 2, 24, .inr (.inl f24))) hO km24 ⟨_, rfl⟩
                  have hO := close1 (e := .inl (g.2.1 2, 5, .inr (.inl f32))) hO km23 ⟨_, rfl⟩
                  have hO := close1 (e := .inl (g.2.1 2, 25, .inr (.inl f31))) hO km22 ⟨_, rfl⟩
                  have hO := close1 (e := .inl (g.2.1 2, 25, .inr (.inl f30))) hO km21 ⟨_, rfl⟩
                  have hO := close1 (e := .inr (9, [.ref am21, .ref am22, .ref am23, .ref am24, .ref am25, .int (nI 168), .int (nI ps22), .int (nI 31)])) hO kr21 ⟨_, _, _, _, _, _, _, _, rfl, km21, km22, km23, km24, km25, by omega, by omega, by omega⟩
                  have hO : okx g T xs ((r21, .inr (9, [.ref am21, .ref am22, .ref am23, .ref am24, .ref am25, .int (nI 168), .int (nI ps22), .int (nI 31)])) :: (am21, .inl (g.2.1 2, 25, .inr (.inl f30))) :: (am22, .inl (g.2.1 2, 25, .inr (.inl f31))) :: (am23, .inl (g.2.1 2, 5, .inr (.inl f32))) :: (am24, .inl (g.2.1 2, 24, .inr (.inl f24))) :: (am25, .inl (g.2.1 0, 25, .inl f25)) :: pl) := hO
                  have hP : va_P g.1 vcl ([] ++ ((r21, .inr (9, [.ref am21, .ref am22, .ref am23, .ref am24, .ref am25, .int (nI 168), .int (nI ps22), .int (nI 31)])) :: (am21, .inl (g.2.1 2, 25, .inr (.inl f30))) :: (am22, .inl (g.2.1 2, 25, .inr (.inl f31))) :: (am23, .inl (g.2.1 2, 5, .inr (.inl f32))) :: (am24, .inl (g.2.1 2, 24, .inr (.inl f24))) :: (am25, .inl (g.2.1 0, 25, .inl f25)) :: pl)) _ := hP
                  have hD : va_D _ ([] ++ ((r21, .inr (9, [.ref am21, .ref am22, .ref am23, .ref am24, .ref am25, .int (nI 168), .int (nI ps22), .int (nI 31)])) :: (am21, .inl (g.2.1 2, 25, .inr (.inl f30))) :: (am22, .inl (g.2.1 2, 25, .inr (.inl f31))) :: (am23, .inl (g.2.1 2, 5, .inr (.inl f32))) :: (am24, .inl (g.2.1 2, 24, .inr (.inl f24))) :: (am25, .inl (g.2.1 0, 25, .inl f25)) :: pl)) := hD
                  generalize ((r21, .inr (9, [.ref am21, .ref am22, .ref am23, .ref am24, .ref am25, .int (nI 168), .int (nI ps22), .int (nI 31)])) :: (am21, .inl (g.2.1 2, 25, .inr (.inl f30))) :: (am22, .inl (g.2.1 2, 25, .inr (.inl f31))) :: (am23, .inl (g.2.1 2, 5, .inr (.inl f32))) :: (am24, .inl (g.2.1 2, 24, .inr (.inl f24))) :: (am25, .inl (g.2.1 0, 25, .inl f25)) :: pl) = pl at hO hP hD
                  exact ih22 (i22 + 1) pl ls H locs (by omega) (lv_sub hl [0, 2, 3, 4] rfl) hO hP hD hS
                · refine lv_aload_n hx hb dMH_expand_77 rfl (lv_at hl 3 rfl) ?_
                  refine ty_get (ci := 12) (C := "LatticeKeysModel$Hands") (TT := T_MH) (N := 31) (kd := (46, 0)) hx hb hts (wg_ft i_MH) hown hK hO k_h0 (nxg (clo_cons (clo_cons (clo_cons (clo_cons (clo_cons (clo_cons hc0 kr21 (by decide)) km21 (by decide)) km22 (by decide)) km23 (by decide)) km24 (by decide)) km25 (by decide)) k_h0 rfl) hP (fun _ h9 => h9) rfl 0 (by decide) (hts _ (wg_t kw_1432)) (fun _ h9 => h9) (cd := (3, 20, 0)) rfl dMH_expand_78 (fun v30 hv30 => ?_)
                  obtain ⟨r26, rfl, kr26⟩ := (show ∃ r : Nat, v30 = .ref r ∧ T r = some (20, 0) from hv30)
                  obtain rfl : r21 = r26 := hU _ _ _ (by decide) kr21 kr26
                  refine mp_i (cx := [(r21, .inr (9, [.ref am21, .ref am22, .ref am23, .ref am24, .ref am25, .int (nI 168), .int (nI ps22), .int (nI 31)])), (am21, .inl (g.2.1 2, 25, .inr (.inl f30))), (am22, .inl (g.2.1 2, 25, .inr (.inl f31))), (am23, .inl (g.2.1 2, 5, .inr (.inl f32))), (am24, .inl (g.2.1 2, 24, .inr (.inl f24))), (am25, .inl (g.2.1 0, 25, .inl f25))]) (wr := []) hP hD hS hA [0, 1, 2, 3, 4, 5] [] rfl rfl rfl (by decide) (va_runV (As := []) (rest := []) F (x_MS_next l g _ T (am25 :: (am24 :: (am23 :: (am22 :: (am21 :: (r21 :: xs)))))) pl hO hU  r21 am21 am22 am23 am24 am25 168 ps22 (nI 31) f30 f31 f32 f24 f25 (by omega) (by omega)) (cwV 0 hts (wg_app (wg_c kw_1728 (wg_c kw_1642 (wg_c kw_1643 (wg_c kw_10 wg_n)))) kw_1644) rfl rfl rfl (by decide +kernel) ⟨by decide, by decide⟩) (pp_V (en_ok g) (q0 := 0) hK hP hD hS hA hE [0, 1, 2, 3, 4, 5] rfl rfl rfl rfl) rfl rfl hl.1 rfl (lv_room (Nat.le_of_ble_eq_true rfl)) dMH_expand_81 ⟨by omega, by omega⟩) (fun r27 u31 H locs hu26 hP hD hS => ?_)
                  obtain ⟨u32, pl⟩ := u31
                  obtain ⟨hq26, hO⟩ := hu26
                  obtain ⟨ps23, f33, f34, f35⟩ := u32
                  have hP : va_P g.1 vcl ([(r21, .inr (9, [.ref am21, .ref am22, .ref am23, .ref am24, .ref am25, .int (nI 168), .int (nI ps23), .int (nI 31)])), (am21, .inl (g.2.1 2, 25, .inr (.inl f33))), (am22, .inl (g.2.1 2, 25, .inr (.inl f34))), (am23, .inl (g.2.1 2, 5, .inr (.inl f35))), (am24, .inl (g.2.1 2, 24, .inr (.inl f24))), (am25, .inl (g.2.1 0, 25, .inl f25))] ++ pl) _ := hP
                  have hD : va_D _ ([(r21, .inr (9, [.ref am21, .ref am22, .ref am23, .ref am24, .ref am25, .int (nI 168), .int (nI ps23), .int (nI 31)])), (am21, .inl (g.2.1 2, 25, .inr (.inl f33))), (am22, .inl (g.2.1 2, 25, .inr (.inl f34))), (am23, .inl (g.2.1 2, 5, .inr (.inl f35))), (am24, .inl (g.2.1 2, 24, .inr (.inl f24))), (am25, .inl (g.2.1 0, 25, .inl f25))] ++ pl) := hD
                  obtain ⟨hn21, hl21, z21, hz21, rfl, h0z21⟩ := hq26
                  have hl21 : ps23 ≤ 168 := hl21
                  have hzzz21 : z21 = 0 := str_zero (q := 42) (hmP c21) hs hn21 (by omega) (by decide) (by decide) (hz 5 (by decide) (by decide)) (by decide) h0z21
                  have hs := str_next (by decide) hs hn21
                  refine W.widen (k := 0) (n := 0) (by omega) (by omega) ?_
                  refine lv_istore (lv' := [(5, .int (nI z21)), (4, .int (nI i23)), (3, .int (nI i22)), (2, .int (nI i21)), (0, .ref h0), (1, .ref b)]) hx hb dMH_expand_84 hl (by decide) rfl (fun ls hl => ?_)
                  refine lv_iload hx hb dMH_expand_86 (lv_at hl 0 rfl) ?_
                  refine lv_aload_n hx hb dMH_expand_88 rfl (lv_at hl 4 rfl) ?_
                  refine ty_get (ci := 12) (C := "LatticeKeysModel$Hands") (TT := T_MH) (N := 31) (kd := (46, 0)) hx hb hts (wg_ft i_MH) hown hK hO k_h0 (nxg (clo_cons (clo_cons (clo_cons (clo_cons (clo_cons (clo_cons hc0 kr21 (by decide)) km21 (by decide)) km22 (by decide)) km23 (by decide)) km24 (by decide)) km25 (by decide)) k_h0 rfl) hP (fun _ h9 => h9) rfl 0 (by decide) (hts _ (wg_t kw_1432)) (fun _ h9 => h9) (cd := (3, 20, 0)) rfl dMH_expand_89 (fun v31 hv31 => ?_)
                  obtain ⟨r28, rfl, kr27⟩ := (show ∃ r : Nat, v31 = .ref r ∧ T r = some (20, 0) from hv31)
                  obtain rfl : r21 = r28 := hU _ _ _ (by decide) kr21 kr27
                  refine mp_i (cx := [(r21, .inr (9, [.ref am21, .ref am22, .ref am23, .ref am24, .ref am25, .int (nI 168), .int (nI ps23), .int (nI 31)])), (am21, .inl (g.2.1 2, 25, .inr (.inl f33))), (am22, .inl (g.2.1 2, 25, .inr (.inl f34))), (am23, .inl (g.2.1 2, 5, .inr (.inl f35))), (am24, .inl (g.2.1 2, 24, .inr (.inl f24))), (am25, .inl (g.2.1 0, 25, .inl f25))]) (wr := []) hP hD hS hA [0, 1, 2, 3, 4, 5] [] rfl rfl rfl (by decide) (va_runV (As := []) (rest := [.int (nI z21)]) F (x_MS_next l g _ T (am25 :: (am24 :: (am23 :: (am22 :: (am21 :: (r21 :: xs)))))) pl hO hU  r21 am21 am22 am23 am24 am25 168 ps23 (nI 31) f33 f34 f35 f24 f25 (by omega) (by omega)) (cwV 0 hts (wg_app (wg_c kw_1728 (wg_c kw_1642 (wg_c kw_1643 (wg_c kw_10 wg_n)))) kw_1644) rfl rfl rfl (by decide +kernel) ⟨by decide, by decide⟩) (pp_V (en_ok g) (q0 := 0) hK hP hD hS hA hE [0, 1, 2, 3, 4, 5] rfl rfl rfl rfl) rfl rfl hl.1 rfl (lv_room (Nat.le_of_ble_eq_true rfl)) dMH_expand_92 ⟨by omega, by omega⟩) (fun r29 u33 H locs hu27 hP hD hS => ?_)
                  obtain ⟨u34, pl⟩ := u33
                  obtain ⟨hq27, hO⟩ := hu27
                  obtain ⟨ps24, f36, f37, f38⟩ := u34
                  have hP : va_P g.1 vcl ([(r21, .inr (9, [.ref am21, .ref am22, .ref am23, .ref am24, .ref am25, .int (nI 168), .int (nI ps24), .int (nI 31)])), (am21, .inl (g.2.1 2, 25, .inr (.inl f36))), (am22, .inl (g.2.1 2, 25, .inr (.inl f37))), (am23, .inl (g.2.1 2, 5, .inr (.inl f38))), (am24, .inl (g.2.1 2, 24, .inr (.inl f24))), (am25, .inl (g.2.1 0, 25, .inl f25))] ++ pl) _ := hP
                  have hD : va_D _ ([(r21, .inr (9, [.ref am21, .ref am22, .ref am23, .ref am24, .ref am25, .int (nI 168), .int (nI ps24), .int (nI 31)])), (am21, .inl (g.2.1 2, 25, .inr (.inl f36))), (am22, .inl (g.2.1 2, 25, .inr (.inl f37))), (am23, .inl (g.2.1 2, 5, .inr (.inl f38))), (am24, .inl (g.2.1 2, 24, .inr (.inl f24))), (am25, .inl (g.2.1 0, 25, .inl f25))] ++ pl) := hD
                  obtain ⟨hn22, hl22, z22, hz22, rfl, h0z22⟩ := hq27
                  have hl22 : ps24 ≤ 168 := hl22
                  have hzzz22 : z22 = 0 := str_zero (q := 43) (hmP c21) hs hn22 (by omega) (by decide) (by decide) (hz 5 (by decide) (by decide)) (by decide) h0z22
                  have hs := str_next (by decide) hs hn22
                  refine W.widen (k := 0) (n := 0) (by omega) (by omega) ?_
                  refine lv_bipush (v := nI 8) hx hb dMH_expand_95 (by decide) ?_
                  refine mi_ishl hx hb dMH_expand_97 (by omega) (by decide) ?_
                  refine mi_as (show nI (z22 * 2 ^ 8) = nI (z22 * 256) from rfl) ?_
                  refine mi_iadd hx hb dMH_expand_98 ?_
                  refine lv_istore (lv' := [(5, .int (nI (z21 + (z22 * 256)))), (4, .int (nI i23)), (3, .int (nI i22)), (2, .int (nI i21)), (0, .ref h0), (1, .ref b)]) hx hb dMH_expand_99 hl (by decide) rfl (fun ls hl => ?_)
                  refine lv_iload hx hb dMH_expand_101 (lv_at hl 0 rfl) ?_
                  refine lv_aload_n hx hb dMH_expand_103 rfl (lv_at hl 4 rfl) ?_
                  refine ty_get (ci := 12) (C := "LatticeKeysModel$Hands") (TT := T_MH) (N := 31) (kd := (46, 0)) hx hb hts (wg_ft i_MH) hown hK hO k_h0 (nxg (clo_cons (clo_cons (clo_cons (clo_cons (clo_cons (clo_cons hc0 kr21 (by decide)) km21 (by decide)) km22 (by decide)) km23 (by decide)) km24 (by decide)) km25 (by decide)) k_h0 rfl) hP (fun _ h9 => h9) rfl 0 (by decide) (hts _ (wg_t kw_1432)) (fun _ h9 => h9) (cd := (3, 20, 0)) rfl dMH_expand_104 (fun v32 hv32 => ?_)
                  obtain ⟨r30, rfl, kr28⟩ := (show ∃ r : Nat, v32 = .ref r ∧ T r = some (20, 0) from hv32)
                  obtain rfl : r21 = r30 := hU _ _ _ (by decide) kr21 kr28
                  refine mp_i (cx := [(r21, .inr (9, [.ref am21, .ref am22, .ref am23, .ref am24, .ref am25, .int (nI 168), .int (nI ps24), .int (nI 31)])), (am21, .inl (g.2.1 2, 25, .inr (.inl f36))), (am22, .inl (g.2.1 2, 25, .inr (.inl f37))), (am23, .inl (g.2.1 2, 5, .inr (.inl f38))), (am24, .inl (g.2.1 2, 24, .inr (.inl f24))), (am25, .inl (g.2.1 0, 25, .inl f25))]) (wr := []) hP hD hS hA [0, 1, 2, 3, 4, 5] [] rfl rfl rfl (by decide) (va_runV (As := []) (rest := [.int (nI (z21 + (z22 * 256)))]) F (x_MS_next l g _ T (am25 :: (am24 :: (am23 :: (am22 :: (am21 :: (r21 :: xs)))))) pl hO hU  r21 am21 am22 am23 am24 am25 168 ps24 (nI 31) f36 f37 f38 f24 f25 (by omega) (by omega)) (cwV 0 hts (wg_app (wg_c kw_1728 (wg_c kw_1642 (wg_c kw_1643 (wg_c kw_10 wg_n)))) kw_1644) rfl rfl rfl (by decide +kernel) ⟨by decide, by decide⟩) (pp_V (en_ok g) (q0 := 0) hK hP hD hS hA hE [0, 1, 2, 3, 4, 5] rfl rfl rfl rfl) rfl rfl hl.1 rfl (lv_room (Nat.le_of_ble_eq_true rfl)) dMH_expand_107 ⟨by omega, by omega⟩) (fun r31 u35 H locs hu28 hP hD hS => ?_)
                  obtain ⟨u36, pl⟩ := u35
                  obtain ⟨hq28, hO⟩ := hu28
                  obtain ⟨ps25, f39, f40, f41⟩ := u36
                  have hP : va_P g.1 vcl ([(r21, .inr (9, [.ref am21, .ref am22, .ref am23, .ref am24, .ref am25, .int (nI 168), .int (nI ps25), .int (nI 31)])), (am21, .inl (g.2.1 2, 25, .inr (.inl f39))), (am22, .inl (g.2.1 2, 25, .inr (.inl f40))), (am23, .inl (g.2.1 2, 5, .inr (.inl f41))), (am24, .inl (g.2.1 2, 24, .inr (.inl f24))), (am25, .inl (g.2.1 0, 25, .inl f25))] ++ pl) _ := hP
                  have hD : va_D _ ([(r21, .inr (9, [.ref am21, .ref am22, .ref am23, .ref am24, .ref am25, .int (nI 168), .int (nI ps25), .int (nI 31)])), (am21, .inl (g.2.1 2, 25, .inr (.inl f39))), (am22, .inl (g.2.1 2, 25, .inr (.inl f40))), (am23, .inl (g.2.1 2, 5, .inr (.inl f41))), (am24, .inl (g.2.1 2, 24, .inr (.inl f24))), (am25, .inl (g.2.1 0, 25, .inl f25))] ++ pl) := hD
                  obtain ⟨hn23, hl23, z23, hz23, rfl, h0z23⟩ := hq28
                  have hl23 : ps25 ≤ 168 := hl23
                  have hzzz23 : z23 = 0 := str_zero (q := 44) (hmP c21) hs hn23 (by omega) (by decide) (by decide) (hz 5 (by decide) (by decide)) (by decide) h0z23
                  have hs := str_next (by decide) hs hn23
                  refine W.widen (k := 0) (n := 0) (by omega) (by omega) ?_
                  refine lv_bipush (v := nI 127) hx hb dMH_expand_110 (by decide) ?_
                  refine mi_iandE hx hb 7 dMH_expand_112 (by decide) (fun z24 hz24 ez21 => ?_)
                  have hzzz24 : z24 = 0 := and_zero hzzz23 (by decide) hz24 ez21
                  have hz24 : z24 < 128 := hz24
                  refine lv_bipush (v := nI 16) hx hb dMH_expand_113 (by decide) ?_
                  refine mi_ishl hx hb dMH_expand_115 (by omega) (by decide) ?_
                  refine mi_as (show nI (z24 * 2 ^ 16) = nI (z24 * 65536) from rfl) ?_
                  refine mi_iadd hx hb dMH_expand_116 ?_
                  refine lv_istore (lv' := [(5, .int (nI ((z21 + (z22 * 256)) + (z24 * 65536)))), (4, .int (nI i23)), (3, .int (nI i22)), (2, .int (nI i21)), (0, .ref h0), (1, .ref b)]) hx hb dMH_expand_117 hl (by decide) rfl (fun ls hl => ?_)
                  refine lv_iload hx hb dMH_expand_119 (lv_at hl 0 rfl) ?_
                  refine lv_ldc (v := 8380417) hx hb hown (hts _ (wg_t kw_1429)) dMH_expand_121 ?_
                  refine mi_as (show (8380417 : Int32) = nI 8380417 by decide) ?_
                  refine mi_lt (tgt := 129) hx hb dMH_expand_123 (by decide) (by omega) (by omega) (fun h27 => ?_) (fun h27 => ?_)
                  · refine lv_aload_n hx hb dMH_expand_129 rfl (lv_at hl 4 rfl) ?_
                    refine ty_get (ci := 12) (C := "LatticeKeysModel$Hands") (TT := T_MH) (N := 31) (kd := (46, 0)) hx hb hts (wg_ft i_MH) hown hK hO k_h0 (nxg (clo_cons (clo_cons (clo_cons (clo_cons (clo_cons (clo_cons hc0 kr21 (by decide)) km21 (by decide)) km22 (by decide)) km23 (by decide)) km24 (by decide)) km25 (by decide)) k_h0 rfl) hP (fun _ h9 => h9) rfl 2 (by decide) (hts _ (wg_t kw_1434)) (fun _ h9 => h9) (cd := (3, 3, 64)) rfl dMH_expand_130 (fun v33 hv33 => ?_)
                    obtain ⟨r32, rfl, kr29⟩ := (show ∃ r : Nat, v33 = .ref r ∧ T r = some (3, 64) from hv33)
                    refine lv_bipush (v := nI 8) hx hb dMH_expand_133 (by decide) ?_
                    refine lv_iload_n hx hb dMH_expand_135 rfl (lv_at hl 3 rfl) ?_
                    refine mi_imul hx hb dMH_expand_136 ?_
                    refine lv_iload_n hx hb dMH_expand_137 rfl (lv_at hl 2 rfl) ?_
                    refine mi_iadd hx hb dMH_expand_138 ?_
                    refine ty_aald3 hx hb hK hO kr29 (nxg (clo_cons (clo_cons (clo_cons (clo_cons (clo_cons (clo_cons hc0 kr21 (by decide)) km21 (by decide)) km22 (by decide)) km23 (by decide)) km24 (by decide)) km25 (by decide)) kr29 rfl) hP (by omega) (by decide) dMH_expand_139 (fun r33 kr30 => ?_)
                    refine lv_iload hx hb dMH_expand_140 (lv_at hl 1 rfl) ?_
                    refine lv_iload hx hb dMH_expand_142 (lv_at hl 0 rfl) ?_
                    refine ty_iast hx hb hK hO kr30 (nxg (clo_cons (clo_cons (clo_cons (clo_cons (clo_cons (clo_cons hc0 kr21 (by decide)) km21 (by decide)) km22 (by decide)) km23 (by decide)) km24 (by decide)) km25 (by decide)) kr30 rfl) hP hD hS (vp_in_nI (by omega) (by decide)) dMH_expand_144 (fun pl H locs hO hP hD hS => ?_)
                    refine mi_iinc (k := 1) (x := i23) (d := 1) (y := i23 + 1) (lv' := [(4, .int (nI (i23 + 1))), (5, .int (nI ((z21 + (z22 * 256)) + (z24 * 65536)))), (3, .int (nI i22)), (2, .int (nI i21)), (0, .ref h0), (1, .ref b)]) hx hb dMH_expand_145 hl rfl (by decide) rfl (by decide) rfl (fun ls hl => ?_)
                    refine lv_goto (tgt := 69) hx hb dMH_expand_148 (by decide) ?_
                    have hcm := cm_succ (c := c21) (m := mB) (k := 168)
                    exact ihq21 (mB * 56 - 1) (c21 + 1) (t21 + 1 + 1 + 1) (i23 + 1) ps25 f39 f40 f41 pl ls H locs (by omega) (by omega) (by omega) hs (lv_sub hl [0, 2, 3, 4, 5] rfl) hO hP hD hS
                  · refine lv_goto (tgt := 69) hx hb dMH_expand_126 (by decide) ?_
                    exfalso
                    omega
              | succ d21 ihd21 =>
                intro c21 t21 i23 ps22 f30 f31 f32 pl ls H locs hi21 hi22 hd21 hs hl hO hP hD hS
                have hsl := str_le hs
                refine lv_iload hx hb dMH_expand_69 (lv_at hl 0 rfl) ?_
                refine lv_sipush (v := nI 256) hx hb dMH_expand_71 (by decide) ?_
                refine mi_ge (tgt := 151) hx hb dMH_expand_74 (by decide) (by omega) (by omega) (fun h28 => ?_) (fun h28 => ?_)
                · refine mi_iinc (k := 1) (x := i22) (d := 1) (y := i22 + 1) (lv' := [(3, .int (nI (i22 + 1))), (4, .int (nI i23)), (2, .int (nI i21)), (0, .ref h0), (1, .ref b)]) hx hb dMH_expand_151 hl rfl (by decide) rfl (by decide) rfl (fun ls hl => ?_)
                  refine lv_goto (tgt := 12) hx hb dMH_expand_154 (by decide) ?_
                  have hO := close1 (e := .inl (g.2.1 0, 25, .inl f25)) hO km25 ⟨_, rfl⟩
                  have hO := close1 (e := .inl (g.2.1 2, 24, .inr (.inl f24))) hO km24 ⟨_, rfl⟩
                  have hO := close1 (e := .inl (g.2.1 2, 5, .inr (.inl f32))) hO km23 ⟨_, rfl⟩
                  have hO := close1 (e := .inl (g.2.1 2, 25, .inr (.inl f31))) hO km22 ⟨_, rfl⟩
                  have hO := close1 (e := .inl (g.2.1 2, 25, .inr (.inl f30))) hO km21 ⟨_, rfl⟩
                  have hO := close1 (e := .inr (9, [.ref am21, .ref am22, .ref am23, .ref am24, .ref am25, .int (nI 168), .int (nI ps22), .int (nI 31)])) hO kr21 ⟨_, _, _, _, _, _, _, _, rfl, km21, km22, km23, km24, km25, by omega, by omega, by omega⟩
                  have hO : okx g T xs ((r21, .inr (9, [.ref am21, .ref am22, .ref am23, .ref am24, .ref am25, .int (nI 168), .int (nI ps22), .int (nI 31)])) :: (am21, .inl (g.2.1 2, 25, .inr (.inl f30))) :: (am22, .inl (g.2.1 2, 25, .inr (.inl f31))) :: (am23, .inl (g.2.1 2, 5, .inr (.inl f32))) :: (am24, .inl (g.2.1 2, 24, .inr (.inl f24))) :: (am25, .inl (g.2.1 0, 25, .inl f25)) :: pl) := hO
                  have hP : va_P g.1 vcl ([] ++ ((r21, .inr (9, [.ref am21, .ref am22, .ref am23, .ref am24, .ref am25, .int (nI 168), .int (nI ps22), .int (nI 31)])) :: (am21, .inl (g.2.1 2, 25, .inr (.inl f30))) :: (am22, .inl (g.2.1 2, 25, .inr (.inl f31))) :: (am23, .inl (g.2.1 2, 5, .inr (.inl f32))) :: (am24, .inl (g.2.1 2, 24, .inr (.inl f24))) :: (am25, .inl (g.2.1 0, 25, .inl f25)) :: pl)) _ := hP
                  have hD : va_D _ ([] ++ ((r21, .inr (9, [.ref am21, .ref am22, .ref am23, .ref am24, .ref am25, .int (nI 168), .int (nI ps22), .int (nI 31)])) :: (am21, .inl (g.2.1 2, 25, .inr (.inl f30))) :: (am22, .inl (g.2.1 2, 25, .inr (.inl f31))) :: (am23, .inl (g.2.1 2, 5, .inr (.inl f32))) :: (am24, .inl (g.2.1 2, 24, .inr (.inl f24))) :: (am25, .inl (g.2.1 0, 25, .inl f25)) :: pl)) := hD
                  generalize ((r21, .inr (9, [.ref am21, .ref am22, .ref am23, .ref am24, .ref am25, .int (nI 168), .int (nI ps22), .int (nI 31)])) :: (am21, .inl (g.2.1 2, 25, .inr (.inl f30))) :: (am22, .inl (g.2.1 2, 25, .inr (.inl f31))) :: (am23, .inl (g.2.1 2, 5, .inr (.inl f32))) :: (am24, .inl (g.2.1 2, 24, .inr (.inl f24))) :: (am25, .inl (g.2.1 0, 25, .inl f25)) :: pl) = pl at hO hP hD
                  exact ih22 (i22 + 1) pl ls H locs (by omega) (lv_sub hl [0, 2, 3, 4] rfl) hO hP hD hS
                · refine lv_aload_n hx hb dMH_expand_77 rfl (lv_at hl 3 rfl) ?_
                  refine ty_get (ci := 12) (C := "LatticeKeysModel$Hands") (TT := T_MH) (N := 31) (kd := (46, 0)) hx hb hts (wg_ft i_MH) hown hK hO k_h0 (nxg (clo_cons (clo_cons (clo_cons (clo_cons (clo_cons (clo_cons hc0 kr21 (by decide)) km21 (by decide)) km22 (by decide)) km23 (by decide)) km24 (by decide)) km25 (by decide)) k_h0 rfl) hP (fun _ h9 => h9) rfl 0 (by decide) (hts _ (wg_t kw_1432)) (fun _ h9 => h9) (cd := (3, 20, 0)) rfl dMH_expand_78 (fun v34 hv34 => ?_)
                  obtain ⟨r34, rfl, kr31⟩ := (show ∃ r : Nat, v34 = .ref r ∧ T r = some (20, 0) from hv34)
                  obtain rfl : r21 = r34 := hU _ _ _ (by decide) kr21 kr31
                  refine mp_i (cx := [(r21, .inr (9, [.ref am21, .ref am22, .ref am23, .ref am24, .ref am25, .int (nI 168), .int (nI ps22), .int (nI 31)])), (am21, .inl (g.2.1 2, 25, .inr (.inl f30))), (am22, .inl (g.2.1 2, 25, .inr (.inl f31))), (am23, .inl (g.2.1 2, 5, .inr (.inl f32))), (am24, .inl (g.2.1 2, 24, .inr (.inl f24))), (am25, .inl (g.2.1 0, 25, .inl f25))]) (wr := []) hP hD hS hA [0, 1, 2, 3, 4, 5] [] rfl rfl rfl (by decide) (va_runV (As := []) (rest := []) F (x_MS_next l g _ T (am25 :: (am24 :: (am23 :: (am22 :: (am21 :: (r21 :: xs)))))) pl hO hU  r21 am21 am22 am23 am24 am25 168 ps22 (nI 31) f30 f31 f32 f24 f25 (by omega) (by omega)) (cwV 0 hts (wg_app (wg_c kw_1728 (wg_c kw_1642 (wg_c kw_1643 (wg_c kw_10 wg_n)))) kw_1644) rfl rfl rfl (by decide +kernel) ⟨by decide, by decide⟩) (pp_V (en_ok g) (q0 := 0) hK hP hD hS hA hE [0, 1, 2, 3, 4, 5] rfl rfl rfl rfl) rfl rfl hl.1 rfl (lv_room (Nat.le_of_ble_eq_true rfl)) dMH_expand_81 ⟨by omega, by omega⟩) (fun r35 u37 H locs hu29 hP hD hS => ?_)
                  obtain ⟨u38, pl⟩ := u37
                  obtain ⟨hq29, hO⟩ := hu29
                  obtain ⟨ps26, f42, f43, f44⟩ := u38
                  have hP : va_P g.1 vcl ([(r21, .inr (9, [.ref am21, .ref am22, .ref am23, .ref am24, .ref am25, .int (nI 168), .int (nI ps26), .int (nI 31)])), (am21, .inl (g.2.1 2, 25, .inr (.inl f42))), (am22, .inl (g.2.1 2, 25, .inr (.inl f43))), (am23, .inl (g.2.1 2, 5, .inr (.inl f44))), (am24, .inl (g.2.1 2, 24, .inr (.inl f24))), (am25, .inl (g.2.1 0, 25, .inl f25))] ++ pl) _ := hP
                  have hD : va_D _ ([(r21, .inr (9, [.ref am21, .ref am22, .ref am23, .ref am24, .ref am25, .int (nI 168), .int (nI ps26), .int (nI 31)])), (am21, .inl (g.2.1 2, 25, .inr (.inl f42))), (am22, .inl (g.2.1 2, 25, .inr (.inl f43))), (am23, .inl (g.2.1 2, 5, .inr (.inl f44))), (am24, .inl (g.2.1 2, 24, .inr (.inl f24))), (am25, .inl (g.2.1 0, 25, .inl f25))] ++ pl) := hD
                  obtain ⟨hn24, hl24, z25, hz25, rfl, h0z24⟩ := hq29
                  have hl24 : ps26 ≤ 168 := hl24
                  have hs := str_next (by decide) hs hn24
                  refine W.widen (k := 0) (n := 0) (by omega) (by omega) ?_
                  refine lv_istore (lv' := [(5, .int (nI z25)), (4, .int (nI i23)), (3, .int (nI i22)), (2, .int (nI i21)), (0, .ref h0), (1, .ref b)]) hx hb dMH_expand_84 hl (by decide) rfl (fun ls hl => ?_)
                  refine lv_iload hx hb dMH_expand_86 (lv_at hl 0 rfl) ?_
                  refine lv_aload_n hx hb dMH_expand_88 rfl (lv_at hl 4 rfl) ?_
                  refine ty_get (ci := 12) (C := "LatticeKeysModel$Hands") (TT := T_MH) (N := 31) (kd := (46, 0)) hx hb hts (wg_ft i_MH) hown hK hO k_h0 (nxg (clo_cons (clo_cons (clo_cons (clo_cons (clo_cons (clo_cons hc0 kr21 (by decide)) km21 (by decide)) km22 (by decide)) km23 (by decide)) km24 (by decide)) km25 (by decide)) k_h0 rfl) hP (fun _ h9 => h9) rfl 0 (by decide) (hts _ (wg_t kw_1432)) (fun _ h9 => h9) (cd := (3, 20, 0)) rfl dMH_expand_89 (fun v35 hv35 => ?_)
                  obtain ⟨r36, rfl, kr32⟩ := (show ∃ r : Nat, v35 = .ref r ∧ T r = some (20, 0) from hv35)
                  obtain rfl : r21 = r36 := hU _ _ _ (by decide) kr21 kr32
                  refine mp_i (cx := [(r21, .inr (9, [.ref am21, .ref am22, .ref am23, .ref am24, .ref am25, .int (nI 168), .int (nI ps26), .int (nI 31)])), (am21, .inl (g.2.1 2, 25, .inr (.inl f42))), (am22, .inl (g.2.1 2, 25, .inr (.inl f43))), (am23, .inl (g.2.1 2, 5, .inr (.inl f44))), (am24, .inl (g.2.1 2, 24, .inr (.inl f24))), (am25, .inl (g.2.1 0, 25, .inl f25))]) (wr := []) hP hD hS hA [0, 1, 2, 3, 4, 5] [] rfl rfl rfl (by decide) (va_runV (As := []) (rest := [.int (nI z25)]) F (x_MS_next l g _ T (am25 :: (am24 :: (am23 :: (am22 :: (am21 :: (r21 :: xs)))))) pl hO hU  r21 am21 am22 am23 am24 am25 168 ps26 (nI 31) f42 f43 f44 f24 f25 (by omega) (by omega)) (cwV 0 hts (wg_app (wg_c kw_1728 (wg_c kw_1642 (wg_c kw_1643 (wg_c kw_10 wg_n)))) kw_1644) rfl rfl rfl (by decide +kernel) ⟨by decide, by decide⟩) (pp_V (en_ok g) (q0 := 0) hK hP hD hS hA hE [0, 1, 2, 3, 4, 5] rfl rfl rfl rfl) rfl rfl hl.1 rfl (lv_room (Nat.le_of_ble_eq_true rfl)) dMH_expand_92 ⟨by omega, by omega⟩) (fun r37 u39 H locs hu30 hP hD hS => ?_)
                  obtain ⟨u40, pl⟩ := u39
                  obtain ⟨hq30, hO⟩ := hu30
                  obtain ⟨ps27, f45, f46, f47⟩ := u40
                  have hP : va_P g.1 vcl ([(r21, .inr (9, [.ref am21, .ref am22, .ref am23, .ref am24, .ref am25, .int (nI 168), .int (nI ps27), .int (nI 31)])), (am21, .inl (g.2.1 2, 25, .inr (.inl f45))), (am22, .inl (g.2.1 2, 25, .inr (.inl f46))), (am23, .inl (g.2.1 2, 5, .inr (.inl f47))), (am24, .inl (g.2.1 2, 24, .inr (.inl f24))), (am25, .inl (g.2.1 0, 25, .inl f25))] ++ pl) _ := hP
                  have hD : va_D _ ([(r21, .inr (9, [.ref am21, .ref am22, .ref am23, .ref am24, .ref am25, .int (nI 168), .int (nI ps27), .int (nI 31)])), (am21, .inl (g.2.1 2, 25, .inr (.inl f45))), (am22, .inl (g.2.1 2, 25, .inr (.inl f46))), (am23, .inl (g.2.1 2, 5, .inr (.inl f47))), (am24, .inl (g.2.1 2, 24, .inr (.inl f24))), (am25, .inl (g.2.1 0, 25, .inl f25))] ++ pl) := hD
                  obtain ⟨hn25, hl25, z26, hz26, rfl, h0z25⟩ := hq30
                  have hl25 : ps27 ≤ 168 := hl25
                  have hs := str_next (by decide) hs hn25
                  refine W.widen (k := 0) (n := 0) (by omega) (by omega) ?_
                  refine lv_bipush (v := nI 8) hx hb dMH_expand_95 (by decide) ?_
                  refine mi_ishl hx hb dMH_expand_97 (by omega) (by decide) ?_
                  refine mi_as (show nI (z26 * 2 ^ 8) = nI (z26 * 256) from rfl) ?_
                  refine mi_iadd hx hb dMH_expand_98 ?_
                  refine lv_istore (lv' := [(5, .int (nI (z25 + (z26 * 256)))), (4, .int (nI i23)), (3, .int (nI i22)), (2, .int (nI i21)), (0, .ref h0), (1, .ref b)]) hx hb dMH_expand_99 hl (by decide) rfl (fun ls hl => ?_)
                  refine lv_iload hx hb dMH_expand_101 (lv_at hl 0 rfl) ?_
                  refine lv_aload_n hx hb dMH_expand_103 rfl (lv_at hl 4 rfl) ?_
                  refine ty_get (ci := 12) (C := "LatticeKeysModel$Hands") (TT := T_MH) (N := 31) (kd := (46, 0)) hx hb hts (wg_ft i_MH) hown hK hO k_h0 (nxg (clo_cons (clo_cons (clo_cons (clo_cons (clo_cons (clo_cons hc0 kr21 (by decide)) km21 (by decide)) km22 (by decide)) km23 (by decide)) km24 (by decide)) km25 (by decide)) k_h0 rfl) hP (fun _ h9 => h9) rfl 0 (by decide) (hts _ (wg_t kw_1432)) (fun _ h9 => h9) (cd := (3, 20, 0)) rfl dMH_expand_104 (fun v36 hv36 => ?_)
                  obtain ⟨r38, rfl, kr33⟩ := (show ∃ r : Nat, v36 = .ref r ∧ T r = some (20, 0) from hv36)
                  obtain rfl : r21 = r38 := hU _ _ _ (by decide) kr21 kr33
                  refine mp_i (cx := [(r21, .inr (9, [.ref am21, .ref am22, .ref am23, .ref am24, .ref am25, .int (nI 168), .int (nI ps27), .int (nI 31)])), (am21, .inl (g.2.1 2, 25, .inr (.inl f45))), (am22, .inl (g.2.1 2, 25, .inr (.inl f46))), (am23, .inl (g.2.1 2, 5, .inr (.inl f47))), (am24, .inl (g.2.1 2, 24, .inr (.inl f24))), (am25, .inl (g.2.1 0, 25, .inl f25))]) (wr := []) hP hD hS hA [0, 1, 2, 3, 4, 5] [] rfl rfl rfl (by decide) (va_runV (As := []) (rest := [.int (nI (z25 + (z26 * 256)))]) F (x_MS_next l g _ T (am25 :: (am24 :: (am23 :: (am22 :: (am21 :: (r21 :: xs)))))) pl hO hU  r21 am21 am22 am23 am24 am25 168 ps27 (nI 31) f45 f46 f47 f24 f25 (by omega) (by omega)) (cwV 0 hts (wg_app (wg_c kw_1728 (wg_c kw_1642 (wg_c kw_1643 (wg_c kw_10 wg_n)))) kw_1644) rfl rfl rfl (by decide +kernel) ⟨by decide, by decide⟩) (pp_V (en_ok g) (q0 := 0) hK hP hD hS hA hE [0, 1, 2, 3, 4, 5] rfl rfl rfl rfl) rfl rfl hl.1 rfl (lv_room (Nat.le_of_ble_eq_true rfl)) dMH_expand_107 ⟨by omega, by omega⟩) (fun r39 u41 H locs hu31 hP hD hS => ?_)
                  obtain ⟨u42, pl⟩ := u41
                  obtain ⟨hq31, hO⟩ := hu31
                  obtain ⟨ps28, f48, f49, f50⟩ := u42
                  have hP : va_P g.1 vcl ([(r21, .inr (9, [.ref am21, .ref am22, .ref am23, .ref am24, .ref am25, .int (nI 168), .int (nI ps28), .int (nI 31)])), (am21, .inl (g.2.1 2, 25, .inr (.inl f48))), (am22, .inl (g.2.1 2, 25, .inr (.inl f49))), (am23, .inl (g.2.1 2, 5, .inr (.inl f50))), (am24, .inl (g.2.1 2, 24, .inr (.inl f24))), (am25, .inl (g.2.1 0, 25, .inl f25))] ++ pl) _ := hP
                  have hD : va_D _ ([(r21, .inr (9, [.ref am21, .ref am22, .ref am23, .ref am24, .ref am25, .int (nI 168), .int (nI ps28), .int (nI 31)])), (am21, .inl (g.2.1 2, 25, .inr (.inl f48))), (am22, .inl (g.2.1 2, 25, .inr (.inl f49))), (am23, .inl (g.2.1 2, 5, .inr (.inl f50))), (am24, .inl (g.2.1 2, 24, .inr (.inl f24))), (am25, .inl (g.2.1 0, 25, .inl f25))] ++ pl) := hD
                  obtain ⟨hn26, hl26, z27, hz27, rfl, h0z26⟩ := hq31
                  have hl26 : ps28 ≤ 168 := hl26
                  have hs := str_next (by decide) hs hn26
                  refine W.widen (k := 0) (n := 0) (by omega) (by omega) ?_
                  refine lv_bipush (v := nI 127) hx hb dMH_expand_110 (by decide) ?_
                  refine mi_iandE hx hb 7 dMH_expand_112 (by decide) (fun z28 hz28 ez22 => ?_)
                  have hz28 : z28 < 128 := hz28
                  refine lv_bipush (v := nI 16) hx hb dMH_expand_113 (by decide) ?_
                  refine mi_ishl hx hb dMH_expand_115 (by omega) (by decide) ?_
                  refine mi_as (show nI (z28 * 2 ^ 16) = nI (z28 * 65536) from rfl) ?_
                  refine mi_iadd hx hb dMH_expand_116 ?_
                  refine lv_istore (lv' := [(5, .int (nI ((z25 + (z26 * 256)) + (z28 * 65536)))), (4, .int (nI i23)), (3, .int (nI i22)), (2, .int (nI i21)), (0, .ref h0), (1, .ref b)]) hx hb dMH_expand_117 hl (by decide) rfl (fun ls hl => ?_)
                  refine lv_iload hx hb dMH_expand_119 (lv_at hl 0 rfl) ?_
                  refine lv_ldc (v := 8380417) hx hb hown (hts _ (wg_t kw_1429)) dMH_expand_121 ?_
                  refine mi_as (show (8380417 : Int32) = nI 8380417 by decide) ?_
                  refine mi_lt (tgt := 129) hx hb dMH_expand_123 (by decide) (by omega) (by omega) (fun h29 => ?_) (fun h29 => ?_)
                  · refine lv_aload_n hx hb dMH_expand_129 rfl (lv_at hl 4 rfl) ?_
                    refine ty_get (ci := 12) (C := "LatticeKeysModel$Hands") (TT := T_MH) (N := 31) (kd := (46, 0)) hx hb hts (wg_ft i_MH) hown hK hO k_h0 (nxg (clo_cons (clo_cons (clo_cons (clo_cons (clo_cons (clo_cons hc0 kr21 (by decide)) km21 (by decide)) km22 (by decide)) km23 (by decide)) km24 (by decide)) km25 (by decide)) k_h0 rfl) hP (fun _ h9 => h9) rfl 2 (by decide) (hts _ (wg_t kw_1434)) (fun _ h9 => h9) (cd := (3, 3, 64)) rfl dMH_expand_130 (fun v37 hv37 => ?_)
                    obtain ⟨r40, rfl, kr34⟩ := (show ∃ r : Nat, v37 = .ref r ∧ T r = some (3, 64) from hv37)
                    refine lv_bipush (v := nI 8) hx hb dMH_expand_133 (by decide) ?_
                    refine lv_iload_n hx hb dMH_expand_135 rfl (lv_at hl 3 rfl) ?_
                    refine mi_imul hx hb dMH_expand_136 ?_
                    refine lv_iload_n hx hb dMH_expand_137 rfl (lv_at hl 2 rfl) ?_
                    refine mi_iadd hx hb dMH_expand_138 ?_
                    refine ty_aald3 hx hb hK hO kr34 (nxg (clo_cons (clo_cons (clo_cons (clo_cons (clo_cons (clo_cons hc0 kr21 (by decide)) km21 (by decide)) km22 (by decide)) km23 (by decide)) km24 (by decide)) km25 (by decide)) kr34 rfl) hP (by omega) (by decide) dMH_expand_139 (fun r41 kr35 => ?_)
                    refine lv_iload hx hb dMH_expand_140 (lv_at hl 1 rfl) ?_
                    refine lv_iload hx hb dMH_expand_142 (lv_at hl 0 rfl) ?_
                    refine ty_iast hx hb hK hO kr35 (nxg (clo_cons (clo_cons (clo_cons (clo_cons (clo_cons (clo_cons hc0 kr21 (by decide)) km21 (by decide)) km22 (by decide)) km23 (by decide)) km24 (by decide)) km25 (by decide)) kr35 rfl) hP hD hS (vp_in_nI (by omega) (by decide)) dMH_expand_144 (fun pl H locs hO hP hD hS => ?_)
                    refine mi_iinc (k := 1) (x := i23) (d := 1) (y := i23 + 1) (lv' := [(4, .int (nI (i23 + 1))), (5, .int (nI ((z25 + (z26 * 256)) + (z28 * 65536)))), (3, .int (nI i22)), (2, .int (nI i21)), (0, .ref h0), (1, .ref b)]) hx hb dMH_expand_145 hl rfl (by decide) rfl (by decide) rfl (fun ls hl => ?_)
                    refine lv_goto (tgt := 69) hx hb dMH_expand_148 (by decide) ?_
                    exact ihq21 d21 c21 (t21 + 1 + 1 + 1) (i23 + 1) ps28 f48 f49 f50 pl ls H locs (by omega) (by omega) (by omega) hs (lv_sub hl [0, 2, 3, 4, 5] rfl) hO hP hD hS
                  · refine lv_goto (tgt := 69) hx hb dMH_expand_126 (by decide) ?_
                    exact ihd21 c21 (t21 + 1 + 1 + 1) i23 ps28 f48 f49 f50 pl ls H locs (by omega) (by omega) (by omega) hs (lv_sub hl [1, 2, 3, 4, 5] rfl) hO hP hD hS
          have htg := tgt_le (m := mB) (t := 168) (rt := 168) (p := 42) hm0 (by decide)
          exact lp23 256 (((168 + 1) * mB * 168 + 42 - (168)) / 3) (168 + 1) (168) 0 0 f26 f27 f28 pl ls _ _ (by omega) (by omega) (by omega) hs (lv_sub hl [0, 1, 2, 3, 4] rfl) hO hP hD hS
      exact lp22 4 0 pl ls _ _ (by omega) (lv_sub hl [0, 1, 2, 3] rfl) hO hP hD hS
  exact lp21 4 0 pl ls _ _ (by omega) (lv_sub hl [0, 1, 2] rfl) hO hP hD hS
set_option maxHeartbeats 400000 in
set_option maxRecDepth 100000 in
theorem t_MH_expand_1 (l : Launch) (g : Gd) (sz : Nat) (T : Ty) (xs : List Nat) (pl : va_W) (hO : okx g T xs pl) (hU : uni T) (hc0 : clo T xs 0) (hc9 : clo T xs 9) (h0 b n : Nat) (k_h0 : T h0 = some (47, 0)) (k_b : T b = some (1, n)) (h1 : 32 ≤ n) (h2 : n < 65536)  : Met l y_MH_expand w_MH_expand ({ frames := 3, cells := 0, slots := 0, locals := 67 } : Room) (va_Pc [.ref h0, .ref b] (pr (en g) g.1 vcl sz ([] ++ pl))) (va_Qv (fun (u : va_W) => (True) ∧ okx g T xs u) (po g.1 vcl (va_A ([] ++ pl) sz) (fun (u : va_W) => [] ++ u)) (va_A ([] ++ pl) sz)) 0 0 (va_A ([] ++ pl) sz) := by
  refine mc_entry (cc := c_MH_expand) (maxL := 6) (ret := none) (by decide) rfl (Nat.le_of_ble_eq_true rfl) ?_
  intro p e s m args below meth c ls F hr hlk hnm hsz hP hD hE hA hl
  obtain ⟨hx, hb, hml, hown, hts⟩ := id F
  have hK := hE.1
  generalize va_A ([] ++ pl) sz = A at hD hE hA ⊢
  have hS : va_S A s.heap s.heap [] := va_S.rf
  have hl : lv_has ls 6 [(0, .ref h0), (1, .ref b)] := hl
  refine lv_iconst (v := nI 0) hx hb dMH_expand_0 (by decide) ?_
  refine lv_istore_n (lv' := [(2, .int (nI 0)), (0, .ref h0), (1, .ref b)]) hx hb dMH_expand_1 rfl hl (by decide) rfl (fun ls hl => ?_)
  have lp21 : ∀ (n21 : Nat) (i21 : Nat) (pl : va_W) (ls : Array Slot) (H : Heap) (locs : List Loc), n21 + i21 = 6 → lv_has ls 6 [(2, .int (nI i21)), (0, .ref h0), (1, .ref b)] → okx g T xs pl → va_P g.1 vcl ([] ++ pl) H → va_D A ([] ++ pl) → va_S A s.heap H locs → W p l e ({ frames := 3, cells := 0, slots := 0, locals := 67 } : Room) s m args below meth c H locs 0 0 (MQ below (va_Qv (fun (u : va_W) => (True) ∧ okx g T xs u) (po g.1 vcl A (fun (u : va_W) => [] ++ u)) A) args s 0 0 A) (F0 m 2 ls []) := by
    intro n21
    induction n21 with
    | zero =>
      intro i21 pl ls H locs hm21  hl hO hP hD hS
      refine lv_iload_n hx hb dMH_expand_2 rfl (lv_at hl 0 rfl) ?_
      refine lv_aload_n hx hb dMH_expand_3 rfl (lv_at hl 1 rfl) ?_
      refine ty_get (ci := 12) (C := "LatticeKeysModel$Hands") (TT := T_MH) (N := 31) (kd := (47, 0)) hx hb hts (wg_ft i_MH) hown hK hO k_h0 (nxg hc0 k_h0 rfl) hP (fun _ h9 => h9) rfl 24 (by decide) (hts _ (wg_t kw_1456)) (fun _ h9 => h9) (cd := (1, 0, 6)) rfl dMH_expand_4 (fun v21 hv21 => ?_)
      obtain rfl := (show v21 = .int (nI 6) from hv21)
      refine mi_ge (tgt := 163) hx hb dMH_expand_7 (by decide) (by omega) (by omega) (fun h21 => ?_) (fun h21 => absurd h21 (by omega))
      exact mp_vret hx hb hr hlk hP hD hS pl ⟨trivial, hO⟩ [] rfl rfl rfl (by omega) (by omega) dMH_expand_163
    | succ n21 ih21 =>
      intro i21 pl ls H locs hm21  hl hO hP hD hS
      refine lv_iload_n hx hb dMH_expand_2 rfl (lv_at hl 0 rfl) ?_
      refine lv_aload_n hx hb dMH_expand_3 rfl (lv_at hl 1 rfl) ?_
      refine ty_get (ci := 12) (C := "LatticeKeysModel$Hands") (TT := T_MH) (N := 31) (kd := (47, 0)) hx hb hts (wg_ft i_MH) hown hK hO k_h0 (nxg hc0 k_h0 rfl) hP (fun _ h9 => h9) rfl 24 (by decide) (hts _ (wg_t kw_1456)) (fun _ h9 => h9) (cd := (1, 0, 6)) rfl dMH_expand_4 (fun v22 hv22 => ?_)
      obtain rfl := (show v22 = .int (nI 6) from hv22)
      refine mi_ge (tgt := 163) hx hb dMH_expand_7 (by decide) (by omega) (by omega) (fun h22 => absurd h22 (by omega)) (fun h22 => ?_)
      refine lv_iconst (v := nI 0) hx hb dMH_expand_10 (by decide) ?_
      refine lv_istore_n (lv' := [(3, .int (nI 0)), (2, .int (nI i21)), (0, .ref h0), (1, .ref b)]) hx hb dMH_expand_11 rfl hl (by decide) rfl (fun ls hl => ?_)
      have lp22 : ∀ (n22 : Nat) (i22 : Nat) (pl : va_W) (ls : Array Slot) (H : Heap) (locs : List Loc), n22 + i22 = 5 → lv_has ls 6 [(3, .int (nI i22)), (2, .int (nI i21)), (0, .ref h0), (1, .ref b)] → okx g T xs pl → va_P g.1 vcl ([] ++ pl) H → va_D A ([] ++ pl) → va_S A s.heap H locs → W p l e ({ frames := 3, cells := 0, slots := 0, locals := 67 } : Room) s m args below meth c H locs 0 0 (MQ below (va_Qv (fun (u : va_W) => (True) ∧ okx g T xs u) (po g.1 vcl A (fun (u : va_W) => [] ++ u)) A) args s 0 0 A) (F0 m 12 ls []) := by
        intro n22
        induction n22 with
        | zero =>
          intro i22 pl ls H locs hm22  hl hO hP hD hS
          refine lv_iload_n hx hb dMH_expand_12 rfl (lv_at hl 0 rfl) ?_
          refine lv_aload_n hx hb dMH_expand_13 rfl (lv_at hl 2 rfl) ?_
          refine ty_get (ci := 12) (C := "LatticeKeysModel$Hands") (TT := T_MH) (N := 31) (kd := (47, 0)) hx hb hts (wg_ft i_MH) hown hK hO k_h0 (nxg hc0 k_h0 rfl) hP (fun _ h9 => h9) rfl 25 (by decide) (hts _ (wg_t kw_1457)) (fun _ h9 => h9) (cd := (1, 0, 5)) rfl dMH_expand_14 (fun v23 hv23 => ?_)
          obtain rfl := (show v23 = .int (nI 5) from hv23)
          refine mi_ge (tgt := 157) hx hb dMH_expand_17 (by decide) (by omega) (by omega) (fun h23 => ?_) (fun h23 => absurd h23 (by omega))
          refine mi_iinc (k := 1) (x := i21) (d := 1) (y := i21 + 1) (lv' := [(2, .int (nI (i21 + 1))), (3, .int (nI i22)), (0, .ref h0), (1, .ref b)]) hx hb dMH_expand_157 hl rfl (by decide) rfl (by decide) rfl (fun ls hl => ?_)
          refine lv_goto (tgt := 2) hx hb dMH_expand_160 (by decide) ?_
          exact ih21 (i21 + 1) pl ls H locs (by omega) (lv_sub hl [0, 2, 3] rfl) hO hP hD hS
        | succ n22 ih22 =>
          intro i22 pl ls H locs hm22  hl hO hP hD hS
          refine lv_iload_n hx hb dMH_expand_12 rfl (lv_at hl 0 rfl) ?_
          refine lv_aload_n hx hb dMH_expand_13 rfl (lv_at hl 2 rfl) ?_
          refine ty_get (ci := 12) (C := "LatticeKeysModel$Hands") (TT := T_MH) (N := 31) (kd := (47, 0)) hx hb hts (wg_ft i_MH) hown hK hO k_h0 (nxg hc0 k_h0 rfl) hP (fun _ h9 => h9) rfl 25 (by decide) (hts _ (wg_t kw_1457)) (fun _ h9 => h9) (cd := (1, 0, 5)) rfl dMH_expand_14 (fun v24 hv24 => ?_)
          obtain rfl := (show v24 = .int (nI 5) from hv24)
          refine mi_ge (tgt := 157) hx hb dMH_expand_17 (by decide) (by omega) (by omega) (fun h24 => absurd h24 (by omega)) (fun h24 => ?_)
          refine lv_aload_n hx hb dMH_expand_20 rfl (lv_at hl 2 rfl) ?_
          refine ty_get (ci := 12) (C := "LatticeKeysModel$Hands") (TT := T_MH) (N := 31) (kd := (47, 0)) hx hb hts (wg_ft i_MH) hown hK hO k_h0 (nxg hc0 k_h0 rfl) hP (fun _ h9 => h9) rfl 0 (by decide) (hts _ (wg_t kw_1432)) (fun _ h9 => h9) (cd := (3, 20, 0)) rfl dMH_expand_21 (fun v25 hv25 => ?_)
          obtain ⟨r21, rfl, kr21⟩ := (show ∃ r : Nat, v25 = .ref r ∧ T r = some (20, 0) from hv25)
          refine lv_sipush (v := nI 168) hx hb dMH_expand_24 (by decide) ?_
          refine lv_bipush (v := nI 31) hx hb dMH_expand_27 (by decide) ?_
          obtain ⟨e21, pl, hP, hD, hk21, hO⟩ := open1 hP hD hO kr21 (nxg hc9 kr21 rfl)
          obtain ⟨am21, am22, am23, am24, am25, rt21, ps21, x21, rfl, km21, km22, km23, km24, km25, hr21, hr22, hr23⟩ := hk21
          obtain ⟨e22, pl, hP, hD, hk22, hO⟩ := open1 hP hD hO km21 (nmc (knd_ne km21 kr21 (by decide)) (nxg hc9 km21 rfl))
          obtain ⟨f21, rfl⟩ := hk22
          obtain ⟨e23, pl, hP, hD, hk23, hO⟩ := open1 hP hD hO km22 (nmc (knd_ne km22 km21 (by decide)) (nmc (knd_ne km22 kr21 (by decide)) (nxg hc9 km22 rfl)))
          obtain ⟨f22, rfl⟩ := hk23
          obtain ⟨e24, pl, hP, hD, hk24, hO⟩ := open1 hP hD hO km23 (nmc (knd_ne km23 km22 (by decide)) (nmc (knd_ne km23 km21 (by decide)) (nmc (knd_ne km23 kr21 (by decide)) (nxg hc9 km23 rfl))))
          obtain ⟨f23, rfl⟩ := hk24
          obtain ⟨e25, pl, hP, hD, hk25, hO⟩ := open1 hP hD hO km24 (nmc (knd_ne km24 km23 (by decide)) (nmc (knd_ne km24 km22 (by decide)) (nmc (knd_ne km24 km21 (by decide)) (nmc (knd_ne km24 kr21 (by decide)) (nxg hc9 km24 rfl)))))
          obtain ⟨f24, rfl⟩ := hk25
          obtain ⟨e26, pl, hP, hD, hk26, hO⟩ := open1 hP hD hO km25 (nmc (knd_ne km25 km24 (by decide)) (nmc (knd_ne km25 km23 (by decide)) (nmc (knd_ne km25 km22 (by decide)) (nmc (knd_ne km25 km21 (by decide)) (nmc (knd_ne km25 kr21 (by decide)) (nxg hc9 km25 rfl))))))
          obtain ⟨f25, rfl⟩ := hk26
          have hP : va_P g.1 vcl ([(r21, .inr (9, [.ref am21, .ref am22, .ref am23, .ref am24, .ref am25, .int (nI rt21), .int (nI ps21), .int x21])), (am21, .inl (g.2.1 2, 25, .inr (.inl f21))), (am22, .inl (g.2.1 2, 25, .inr (.inl f22))), (am23, .inl (g.2.1 2, 5, .inr (.inl f23))), (am24, .inl (g.2.1 2, 24, .inr (.inl f24))), (am25, .inl (g.2.1 0, 25, .inl f25))] ++ pl) _ := hP
          have hD : va_D _ ([(r21, .inr (9, [.ref am21, .ref am22, .ref am23, .ref am24, .ref am25, .int (nI rt21), .int (nI ps21), .int x21])), (am21, .inl (g.2.1 2, 25, .inr (.inl f21))), (am22, .inl (g.2.1 2, 25, .inr (.inl f22))), (am23, .inl (g.2.1 2, 5, .inr (.inl f23))), (am24, .inl (g.2.1 2, 24, .inr (.inl f24))), (am25, .inl (g.2.1 0, 25, .inl f25))] ++ pl) := hD
          refine mp_v (cx := [(r21, .inr (9, [.ref am21, .ref am22, .ref am23, .ref am24, .ref am25, .int (nI rt21), .int (nI ps21), .int x21])), (am21, .inl (g.2.1 2, 25, .inr (.inl f21))), (am22, .inl (g.2.1 2, 25, .inr (.inl f22))), (am23, .inl (g.2.1 2, 5, .inr (.inl f23))), (am24, .inl (g.2.1 2, 24, .inr (.inl f24))), (am25, .inl (g.2.1 0, 25, .inl f25))]) (wr := []) hP hD hS hA [0, 1, 2, 3, 4, 5] [] rfl rfl rfl (by decide) (va_runV (As := [.int (nI 168), .int (nI 31)]) (rest := []) F (x_MS_begin l g _ T (am25 :: (am24 :: (am23 :: (am22 :: (am21 :: (r21 :: xs)))))) pl hO hU  168 (nI 31) r21 am21 am22 am23 am24 am25 rt21 ps21 x21 f21 f22 f23 f24 f25 (by omega)) (cwV 2 hts (wg_app (wg_c kw_1727 (wg_c kw_1608 (wg_c kw_1609 (wg_c kw_10 wg_n)))) kw_1610) rfl rfl rfl (by decide +kernel) ⟨by decide, by decide⟩) (pp_V (en_ok g) (q0 := 0) hK hP hD hS hA hE [0, 1, 2, 3, 4, 5] rfl rfl rfl rfl) rfl rfl hl.1 rfl (lv_room (Nat.le_of_ble_eq_true rfl)) dMH_expand_29 ⟨by omega, by omega⟩) (fun  u21 H locs hu21 hP hD hS => ?_)
          obtain ⟨u22, pl⟩ := u21
          obtain ⟨hq21, hO⟩ := hu21
          have hP : va_P g.1 vcl ([(r21, .inr (9, [.ref am21, .ref am22, .ref am23, .ref am24, .ref am25, .int (nI 168), .int (nI 0), .int (nI 31)])), (am21, .inl (g.2.1 2, 25, .inr (.inl u22))), (am22, .inl (g.2.1 2, 25, .inr (.inl f22))), (am23, .inl (g.2.1 2, 5, .inr (.inl f23))), (am24, .inl (g.2.1 2, 24, .inr (.inl f24))), (am25, .inl (g.2.1 0, 25, .inl f25))] ++ pl) _ := hP
          have hD : va_D _ ([(r21, .inr (9, [.ref am21, .ref am22, .ref am23, .ref am24, .ref am25, .int (nI 168), .int (nI 0), .int (nI 31)])), (am21, .inl (g.2.1 2, 25, .inr (.inl u22))), (am22, .inl (g.2.1 2, 25, .inr (.inl f22))), (am23, .inl (g.2.1 2, 5, .inr (.inl f23))), (am24, .inl (g.2.1 2, 24, .inr (.inl f24))), (am25, .inl (g.2.1 0, 25, .inl f25))] ++ pl) := hD
          have hq21 : ∀ j, j < 25 → u22 j = 0 := hq21
          refine W.widen (k := 0) (n := 0) (by omega) (by omega) ?_
          refine lv_aload_n hx hb dMH_expand_32 rfl (lv_at hl 2 rfl) ?_
          refine ty_get (ci := 12) (C := "LatticeKeysModel$Hands") (TT := T_MH) (N := 31) (kd := (47, 0)) hx hb hts (wg_ft i_MH) hown hK hO k_h0 (nxg (clo_cons (clo_cons (clo_cons (clo_cons (clo_cons (clo_cons hc0 kr21 (by decide)) km21 (by decide)) km22 (by decide)) km23 (by decide)) km24 (by decide)) km25 (by decide)) k_h0 rfl) hP (fun _ h9 => h9) rfl 0 (by decide) (hts _ (wg_t kw_1432)) (fun _ h9 => h9) (cd := (3, 20, 0)) rfl dMH_expand_33 (fun v26 hv26 => ?_)
          obtain ⟨r22, rfl, kr22⟩ := (show ∃ r : Nat, v26 = .ref r ∧ T r = some (20, 0) from hv26)
          obtain rfl : r21 = r22 := hU _ _ _ (by decide) kr21 kr22
          refine lv_aload_n hx hb dMH_expand_36 rfl (lv_at hl 3 rfl) ?_
          refine lv_iconst (v := nI 0) hx hb dMH_expand_37 (by decide) ?_
          refine lv_bipush (v := nI 32) hx hb dMH_expand_38 (by decide) ?_
          refine mp_v (cx := [(r21, .inr (9, [.ref am21, .ref am22, .ref am23, .ref am24, .ref am25, .int (nI 168), .int (nI 0), .int (nI 31)])), (am21, .inl (g.2.1 2, 25, .inr (.inl u22))), (am22, .inl (g.2.1 2, 25, .inr (.inl f22))), (am23, .inl (g.2.1 2, 5, .inr (.inl f23))), (am24, .inl (g.2.1 2, 24, .inr (.inl f24))), (am25, .inl (g.2.1 0, 25, .inl f25))]) (wr := []) hP hD hS hA [0, 1, 2, 3, 4, 5] [] rfl rfl rfl (by decide) (va_runV (As := [.ref b, .int (nI 0), .int (nI 32)]) (rest := []) F (x_MS_puts l g _ T (am25 :: (am24 :: (am23 :: (am22 :: (am21 :: (r21 :: xs)))))) pl hO hU (clo_cons (clo_cons (clo_cons (clo_cons (clo_cons (clo_cons hc0 kr21 (by decide)) km21 (by decide)) km22 (by decide)) km23 (by decide)) km24 (by decide)) km25 (by decide)) b n 0 32 r21 am21 am22 am23 am24 am25 168 0 (nI 31) u22 f22 f23 f24 f25 k_b (by omega) (by omega) (by omega) (by omega)) (cwV 3 hts (wg_app (wg_c kw_1719 (wg_c kw_1612 (wg_c kw_1613 (wg_c kw_10 wg_n)))) kw_1614) rfl rfl rfl (by decide +kernel) ⟨by decide, by decide⟩) (pp_V (en_ok g) (q0 := 0) hK hP hD hS hA hE [0, 1, 2, 3, 4, 5] rfl rfl rfl rfl) rfl rfl hl.1 rfl (lv_room (Nat.le_of_ble_eq_true rfl)) dMH_expand_40 ⟨by omega, by omega⟩) (fun  u23 H locs hu22 hP hD hS => ?_)
          obtain ⟨u24, pl⟩ := u23
          obtain ⟨hq22, hO⟩ := hu22
          have hP : va_P g.1 vcl ([(r21, .inr (9, [.ref am21, .ref am22, .ref am23, .ref am24, .ref am25, .int (nI 168), .int (nI 32), .int (nI 31)])), (am21, .inl (g.2.1 2, 25, .inr (.inl u24))), (am22, .inl (g.2.1 2, 25, .inr (.inl f22))), (am23, .inl (g.2.1 2, 5, .inr (.inl f23))), (am24, .inl (g.2.1 2, 24, .inr (.inl f24))), (am25, .inl (g.2.1 0, 25, .inl f25))] ++ pl) _ := hP
          have hD : va_D _ ([(r21, .inr (9, [.ref am21, .ref am22, .ref am23, .ref am24, .ref am25, .int (nI 168), .int (nI 32), .int (nI 31)])), (am21, .inl (g.2.1 2, 25, .inr (.inl u24))), (am22, .inl (g.2.1 2, 25, .inr (.inl f22))), (am23, .inl (g.2.1 2, 5, .inr (.inl f23))), (am24, .inl (g.2.1 2, 24, .inr (.inl f24))), (am25, .inl (g.2.1 0, 25, .inl f25))] ++ pl) := hD
          refine W.widen (k := 0) (n := 0) (by omega) (by omega) ?_
          refine lv_aload_n hx hb dMH_expand_43 rfl (lv_at hl 2 rfl) ?_
          refine ty_get (ci := 12) (C := "LatticeKeysModel$Hands") (TT := T_MH) (N := 31) (kd := (47, 0)) hx hb hts (wg_ft i_MH) hown hK hO k_h0 (nxg (clo_cons (clo_cons (clo_cons (clo_cons (clo_cons (clo_cons hc0 kr21 (by decide)) km21 (by decide)) km22 (by decide)) km23 (by decide)) km24 (by decide)) km25 (by decide)) k_h0 rfl) hP (fun _ h9 => h9) rfl 0 (by decide) (hts _ (wg_t kw_1432)) (fun _ h9 => h9) (cd := (3, 20, 0)) rfl dMH_expand_44 (fun v27 hv27 => ?_)
          obtain ⟨r23, rfl, kr23⟩ := (show ∃ r : Nat, v27 = .ref r ∧ T r = some (20, 0) from hv27)
          obtain rfl : r21 = r23 := hU _ _ _ (by decide) kr21 kr23
          refine lv_iload_n hx hb dMH_expand_47 rfl (lv_at hl 0 rfl) ?_
          refine mp_v (cx := [(r21, .inr (9, [.ref am21, .ref am22, .ref am23, .ref am24, .ref am25, .int (nI 168), .int (nI 32), .int (nI 31)])), (am21, .inl (g.2.1 2, 25, .inr (.inl u24))), (am22, .inl (g.2.1 2, 25, .inr (.inl f22))), (am23, .inl (g.2.1 2, 5, .inr (.inl f23))), (am24, .inl (g.2.1 2, 24, .inr (.inl f24))), (am25, .inl (g.2.1 0, 25, .inl f25))]) (wr := []) hP hD hS hA [0, 1, 2, 3, 4, 5] [] rfl rfl rfl (by decide) (va_runV (As := [.int (nI i22)]) (rest := []) F (x_MS_put l g _ T (am25 :: (am24 :: (am23 :: (am22 :: (am21 :: (r21 :: xs)))))) pl hO hU  (nI i22) r21 am21 am22 am23 am24 am25 168 32 (nI 31) u24 f22 f23 f24 f25 (by omega) (by omega)) (cwV 1 hts (wg_app (wg_c kw_1720 (wg_c kw_1616 (wg_c kw_1617 (wg_c kw_10 wg_n)))) kw_1618) rfl rfl rfl (by decide +kernel) ⟨by decide, by decide⟩) (pp_V (en_ok g) (q0 := 0) hK hP hD hS hA hE [0, 1, 2, 3, 4, 5] rfl rfl rfl rfl) rfl rfl hl.1 rfl (lv_room (Nat.le_of_ble_eq_true rfl)) dMH_expand_48 ⟨by omega, by omega⟩) (fun  u25 H locs hu23 hP hD hS => ?_)
          obtain ⟨u26, pl⟩ := u25
          obtain ⟨hq23, hO⟩ := hu23
          have hP : va_P g.1 vcl ([(r21, .inr (9, [.ref am21, .ref am22, .ref am23, .ref am24, .ref am25, .int (nI 168), .int (nI 33), .int (nI 31)])), (am21, .inl (g.2.1 2, 25, .inr (.inl u26))), (am22, .inl (g.2.1 2, 25, .inr (.inl f22))), (am23, .inl (g.2.1 2, 5, .inr (.inl f23))), (am24, .inl (g.2.1 2, 24, .inr (.inl f24))), (am25, .inl (g.2.1 0, 25, .inl f25))] ++ pl) _ := hP
          have hD : va_D _ ([(r21, .inr (9, [.ref am21, .ref am22, .ref am23, .ref am24, .ref am25, .int (nI 168), .int (nI 33), .int (nI 31)])), (am21, .inl (g.2.1 2, 25, .inr (.inl u26))), (am22, .inl (g.2.1 2, 25, .inr (.inl f22))), (am23, .inl (g.2.1 2, 5, .inr (.inl f23))), (am24, .inl (g.2.1 2, 24, .inr (.inl f24))), (am25, .inl (g.2.1 0, 25, .inl f25))] ++ pl) := hD
          refine W.widen (k := 0) (n := 0) (by omega) (by omega) ?_
          refine lv_aload_n hx hb dMH_expand_51 rfl (lv_at hl 2 rfl) ?_
          refine ty_get (ci := 12) (C := "LatticeKeysModel$Hands") (TT := T_MH) (N := 31) (kd := (47, 0)) hx hb hts (wg_ft i_MH) hown hK hO k_h0 (nxg (clo_cons (clo_cons (clo_cons (clo_cons (clo_cons (clo_cons hc0 kr21 (by decide)) km21 (by decide)) km22 (by decide)) km23 (by decide)) km24 (by decide)) km25 (by decide)) k_h0 rfl) hP (fun _ h9 => h9) rfl 0 (by decide) (hts _ (wg_t kw_1432)) (fun _ h9 => h9) (cd := (3, 20, 0)) rfl dMH_expand_52 (fun v28 hv28 => ?_)
          obtain ⟨r24, rfl, kr24⟩ := (show ∃ r : Nat, v28 = .ref r ∧ T r = some (20, 0) from hv28)
          obtain rfl : r21 = r24 := hU _ _ _ (by decide) kr21 kr24
          refine lv_iload_n hx hb dMH_expand_55 rfl (lv_at hl 1 rfl) ?_
          refine mp_v (cx := [(r21, .inr (9, [.ref am21, .ref am22, .ref am23, .ref am24, .ref am25, .int (nI 168), .int (nI 33), .int (nI 31)])), (am21, .inl (g.2.1 2, 25, .inr (.inl u26))), (am22, .inl (g.2.1 2, 25, .inr (.inl f22))), (am23, .inl (g.2.1 2, 5, .inr (.inl f23))), (am24, .inl (g.2.1 2, 24, .inr (.inl f24))), (am25, .inl (g.2.1 0, 25, .inl f25))]) (wr := []) hP hD hS hA [0, 1, 2, 3, 4, 5] [] rfl rfl rfl (by decide) (va_runV (As := [.int (nI i21)]) (rest := []) F (x_MS_put l g _ T (am25 :: (am24 :: (am23 :: (am22 :: (am21 :: (r21 :: xs)))))) pl hO hU  (nI i21) r21 am21 am22 am23 am24 am25 168 33 (nI 31) u26 f22 f23 f24 f25 (by omega) (by omega)) (cwV 1 hts (wg_app (wg_c kw_1720 (wg_c kw_1616 (wg_c kw_1617 (wg_c kw_10 wg_n)))) kw_1618) rfl rfl rfl (by decide +kernel) ⟨by decide, by decide⟩) (pp_V (en_ok g) (q0 := 0) hK hP hD hS hA hE [0, 1, 2, 3, 4, 5] rfl rfl rfl rfl) rfl rfl hl.1 rfl (lv_room (Nat.le_of_ble_eq_true rfl)) dMH_expand_56 ⟨by omega, by omega⟩) (fun  u27 H locs hu24 hP hD hS => ?_)
          obtain ⟨u28, pl⟩ := u27
          obtain ⟨hq24, hO⟩ := hu24
          have hP : va_P g.1 vcl ([(r21, .inr (9, [.ref am21, .ref am22, .ref am23, .ref am24, .ref am25, .int (nI 168), .int (nI 34), .int (nI 31)])), (am21, .inl (g.2.1 2, 25, .inr (.inl u28))), (am22, .inl (g.2.1 2, 25, .inr (.inl f22))), (am23, .inl (g.2.1 2, 5, .inr (.inl f23))), (am24, .inl (g.2.1 2, 24, .inr (.inl f24))), (am25, .inl (g.2.1 0, 25, .inl f25))] ++ pl) _ := hP
          have hD : va_D _ ([(r21, .inr (9, [.ref am21, .ref am22, .ref am23, .ref am24, .ref am25, .int (nI 168), .int (nI 34), .int (nI 31)])), (am21, .inl (g.2.1 2, 25, .inr (.inl u28))), (am22, .inl (g.2.1 2, 25, .inr (.inl f22))), (am23, .inl (g.2.1 2, 5, .inr (.inl f23))), (am24, .inl (g.2.1 2, 24, .inr (.inl f24))), (am25, .inl (g.2.1 0, 25, .inl f25))] ++ pl) := hD
          refine W.widen (k := 0) (n := 0) (by omega) (by omega) ?_
          refine lv_aload_n hx hb dMH_expand_59 rfl (lv_at hl 2 rfl) ?_
          refine ty_get (ci := 12) (C := "LatticeKeysModel$Hands") (TT := T_MH) (N := 31) (kd := (47, 0)) hx hb hts (wg_ft i_MH) hown hK hO k_h0 (nxg (clo_cons (clo_cons (clo_cons (clo_cons (clo_cons (clo_cons hc0 kr21 (by decide)) km21 (by decide)) km22 (by decide)) km23 (by decide)) km24 (by decide)) km25 (by decide)) k_h0 rfl) hP (fun _ h9 => h9) rfl 0 (by decide) (hts _ (wg_t kw_1432)) (fun _ h9 => h9) (cd := (3, 20, 0)) rfl dMH_expand_60 (fun v29 hv29 => ?_)
          obtain ⟨r25, rfl, kr25⟩ := (show ∃ r : Nat, v29 = .ref r ∧ T r = some (20, 0) from hv29)
          obtain rfl : r21 = r25 := hU _ _ _ (by decide) kr21 kr25
          refine mp_v (cx := [(r21, .inr (9, [.ref am21, .ref am22, .ref am23, .ref am24, .ref am25, .int (nI 168), .int (nI 34), .int (nI 31)])), (am21, .inl (g.2.1 2, 25, .inr (.inl u28))), (am22, .inl (g.2.1 2, 25, .inr (.inl f22))), (am23, .inl (g.2.1 2, 5, .inr (.inl f23))), (am24, .inl (g.2.1 2, 24, .inr (.inl f24))), (am25, .inl (g.2.1 0, 25, .inl f25))]) (wr := []) hP hD hS hA [0, 1, 2, 3, 4, 5] [] rfl rfl rfl (by decide) (va_runV (As := []) (rest := []) F (x_MS_end l g _ T (am25 :: (am24 :: (am23 :: (am22 :: (am21 :: (r21 :: xs)))))) pl hO hU  r21 am21 am22 am23 am24 am25 168 34 (nI 31) u28 f22 f23 f24 f25 (by omega) (by omega)) (cwV 0 hts (wg_app (wg_c kw_1721 (wg_c kw_1634 (wg_c kw_1635 (wg_c kw_10 wg_n)))) kw_1636) rfl rfl rfl (by decide +kernel) ⟨by decide, by decide⟩) (pp_V (en_ok g) (q0 := 0) hK hP hD hS hA hE [0, 1, 2, 3, 4, 5] rfl rfl rfl rfl) rfl rfl hl.1 rfl (lv_room (Nat.le_of_ble_eq_true rfl)) dMH_expand_63 ⟨by omega, by omega⟩) (fun  u29 H locs hu25 hP hD hS => ?_)
          obtain ⟨u30, pl⟩ := u29
          obtain ⟨hq25, hO⟩ := hu25
          obtain ⟨f26, f27, f28, f29⟩ := u30
          have hP : va_P g.1 vcl ([(r21, .inr (9, [.ref am21, .ref am22, .ref am23, .ref am24, .ref am25, .int (nI 168), .int (nI 0), .int (nI 31)])), (am21, .inl (g.2.1 2, 25, .inr (.inl f26))), (am22, .inl (g.2.1 2, 25, .inr (.inl f27))), (am23, .inl (g.2.1 2, 5, .inr (.inl f28))), (am24, .inl (g.2.1 2, 24, .inr (.inl f24))), (am25, .inl (g.2.1 0, 25, .inl f25))] ++ pl) _ := hP
          have hD : va_D _ ([(r21, .inr (9, [.ref am21, .ref am22, .ref am23, .ref am24, .ref am25, .int (nI 168), .int (nI 0), .int (nI 31)])), (am21, .inl (g.2.1 2, 25, .inr (.inl f26))), (am22, .inl (g.2.1 2, 25, .inr (.inl f27))), (am23, .inl (g.2.1 2, 5, .inr (.inl f28))), (am24, .inl (g.2.1 2, 24, .inr (.inl f24))), (am25, .inl (g.2.1 0, 25, .inl f25))] ++ pl) := hD
          refine W.widen (k := 0) (n := 0) (by omega) (by omega) ?_
          have hz : ∀ j, 5 ≤ j → j < 20 → f29 j = 0 := fun j h8 h9 => ((((hq25.2 j (by omega) (by omega)).trans (hq24 j (by omega))).trans (hq23 j (by omega))).trans (hq22 j (by omega))).trans (hq21 j (by omega))
          have hs : str f25 f24 f29 168 168 0 f26 := ⟨1, by omega, by omega, hq25.1⟩
          obtain ⟨mB, hm0, hmP⟩ := blk_back f25 f24 f29
          refine lv_iconst (v := nI 0) hx hb dMH_expand_66 (by decide) ?_
          refine lv_istore (lv' := [(4, .int (nI 0)), (3, .int (nI i22)), (2, .int (nI i21)), (0, .ref h0), (1, .ref b)]) hx hb dMH_expand_67 hl (by decide) rfl (fun ls hl => ?_)
          have lp23 : ∀ (q21 : Nat) (d21 : Nat) (c21 t21 : Nat) (i23 : Nat) (ps22 : Nat) (f30 f31 f32 : Nat → Int64) (pl : va_W) (ls : Array Slot) (H : Heap) (locs : List Loc), 256 ≤ i23 + q21 → i23 ≤ 256 → t21 + 3 * d21 = c21 * mB * 168 + 42 → str f25 f24 f29 168 t21 ps22 f30 → lv_has ls 6 [(4, .int (nI i23)), (3, .int (nI i22)), (2, .int (nI i21)), (0, .ref h0), (1, .ref b)] → okx g T (am25 :: (am24 :: (am23 :: (am22 :: (am21 :: (r21 :: xs)))))) pl → va_P g.1 vcl ([(r21, .inr (9, [.ref am21, .ref am22, .ref am23, .ref am24, .ref am25, .int (nI 168), .int (nI ps22), .int (nI 31)])), (am21, .inl (g.2.1 2, 25, .inr (.inl f30))), (am22, .inl (g.2.1 2, 25, .inr (.inl f31))), (am23, .inl (g.2.1 2, 5, .inr (.inl f32))), (am24, .inl (g.2.1 2, 24, .inr (.inl f24))), (am25, .inl (g.2.1 0, 25, .inl f25))] ++ pl) H → va_D A ([(r21, .inr (9, [.ref am21, .ref am22, .ref am23, .ref am24, .ref am25, .int (nI 168), .int (nI ps22), .int (nI 31)])), (am21, .inl (g.2.1 2, 25, .inr (.inl f30))), (am22, .inl (g.2.1 2, 25, .inr (.inl f31))), (am23, .inl (g.2.1 2, 5, .inr (.inl f32))), (am24, .inl (g.2.1 2, 24, .inr (.inl f24))), (am25, .inl (g.2.1 0, 25, .inl f25))] ++ pl) → va_S A s.heap H locs → W p l e ({ frames := 3, cells := 0, slots := 0, locals := 67 } : Room) s m args below meth c H locs 0 0 (MQ below (va_Qv (fun (u : va_W) => (True) ∧ okx g T xs u) (po g.1 vcl A (fun (u : va_W) => [] ++ u)) A) args s 0 0 A) (F0 m 69 ls []) := by
            intro q21
            induction q21 with
            | zero =>
              intro d21
              intro c21 t21 i23 ps22 f30 f31 f32 pl ls H locs hi21 hi22 hd21 hs hl hO hP hD hS
              have hsl := str_le hs
              refine lv_iload hx hb dMH_expand_69 (lv_at hl 0 rfl) ?_
              refine lv_sipush (v := nI 256) hx hb dMH_expand_71 (by decide) ?_
              refine mi_ge (tgt := 151) hx hb dMH_expand_74 (by decide) (by omega) (by omega) (fun h25 => ?_) (fun h25 => absurd h25 (by omega))
              refine mi_iinc (k := 1) (x := i22) (d := 1) (y := i22 + 1) (lv' := [(3, .int (nI (i22 + 1))), (4, .int (nI i23)), (2, .int (nI i21)), (0, .ref h0), (1, .ref b)]) hx hb dMH_expand_151 hl rfl (by decide) rfl (by decide) rfl (fun ls hl => ?_)
              refine lv_goto (tgt := 12) hx hb dMH_expand_154 (by decide) ?_
              have hO := close1 (e := .inl (g.2.1 0, 25, .inl f25)) hO km25 ⟨_, rfl⟩
              have hO := close1 (e := .inl (g.2.1 2, 24, .inr (.inl f24))) hO km24 ⟨_, rfl⟩
              have hO := close1 (e := .inl (g.2.1 2, 5, .inr (.inl f32))) hO km23 ⟨_, rfl⟩
              have hO := close1 (e := .inl (g.2.1 2, 25, .inr (.inl f31))) hO km22 ⟨_, rfl⟩
              have hO := close1 (e := .inl (g.2.1 2, 25, .inr (.inl f30))) hO km21 ⟨_, rfl⟩
              have hO := close1 (e := .inr (9, [.ref am21, .ref am22, .ref am23, .ref am24, .ref am25, .int (nI 168), .int (nI ps22), .int (nI 31)])) hO kr21 ⟨_, _, _, _, _, _, _, _, rfl, km21, km22, km23, km24, km25, by omega, by omega, by omega⟩
              have hO : okx g T xs ((r21, .inr (9, [.ref am21, .ref am22, .ref am23, .ref am24, .ref am25, .int (nI 168), .int (nI ps22), .int (nI 31)])) :: (am21, .inl (g.2.1 2, 25, .inr (.inl f30))) :: (am22, .inl (g.2.1 2, 25, .inr (.inl f31))) :: (am23, .inl (g.2.1 2, 5, .inr (.inl f32))) :: (am24, .inl (g.2.1 2, 24, .inr (.inl f24))) :: (am25, .inl (g.2.1 0, 25, .inl f25)) :: pl) := hO
              have hP : va_P g.1 vcl ([] ++ ((r21, .inr (9, [.ref am21, .ref am22, .ref am23, .ref am24, .ref am25, .int (nI 168), .int (nI ps22), .int (nI 31)])) :: (am21, .inl (g.2.1 2, 25, .inr (.inl f30))) :: (am22, .inl (g.2.1 2, 25, .inr (.inl f31))) :: (am23, .inl (g.2.1 2, 5, .inr (.inl f32))) :: (am24, .inl (g.2.1 2, 24, .inr (.inl f24))) :: (am25, .inl (g.2.1 0, 25, .inl f25)) :: pl)) _ := hP
              have hD : va_D _ ([] ++ ((r21, .inr (9, [.ref am21, .ref am22, .ref am23, .ref am24, .ref am25, .int (nI 168), .int (nI ps22), .int (nI 31)])) :: (am21, .inl (g.2.1 2, 25, .inr (.inl f30))) :: (am22, .inl (g.2.1 2, 25, .inr (.inl f31))) :: (am23, .inl (g.2.1 2, 5, .inr (.inl f32))) :: (am24, .inl (g.2.1 2, 24, .inr (.inl f24))) :: (am25, .inl (g.2.1 0, 25, .inl f25)) :: pl)) := hD
              generalize ((r21, .inr (9, [.ref am21, .ref am22, .ref am23, .ref am24, .ref am25, .int (nI 168), .int (nI ps22), .int (nI 31)])) :: (am21, .inl (g.2.1 2, 25, .inr (.inl f30))) :: (am22, .inl (g.2.1 2, 25, .inr (.inl f31))) :: (am23, .inl (g.2.1 2, 5, .inr (.inl f32))) :: (am24, .inl (g.2.1 2, 24, .inr (.inl f24))) :: (am25, .inl (g.2.1 0, 25, .inl f25)) :: pl) = pl at hO hP hD
              exact ih22 (i22 + 1) pl ls H locs (by omega) (lv_sub hl [0, 2, 3, 4] rfl) hO hP hD hS
            | succ q21 ihq21 =>
              intro d21
              induction d21 with
              | zero =>
                intro c21 t21 i23 ps22 f30 f31 f32 pl ls H locs hi21 hi22 hd21 hs hl hO hP hD hS
                have hsl := str_le hs
                refine lv_iload hx hb dMH_expand_69 (lv_at hl 0 rfl) ?_
                refine lv_sipush (v := nI 256) hx hb dMH_expand_71 (by decide) ?_
                refine mi_ge (tgt := 151) hx hb dMH_expand_74 (by decide) (by omega) (by omega) (fun h26 => ?_) (fun h26 => ?_)
                · refine mi_iinc (k := 1) (x := i22) (d := 1) (y := i22 + 1) (lv' := [(3, .int (nI (i22 + 1))), (4, .int (nI i23)), (2, .int (nI i21)), (0, .ref h0), (1, .ref b)]) hx hb dMH_expand_151 hl rfl (by decide) rfl (by decide) rfl (fun ls hl => ?_)
                  refine lv_goto (tgt := 12) hx hb dMH_expand_154 (by decide) ?_
                  have hO := close1 (e := .inl (g.2.1 0, 25, .inl f25)) hO km25 ⟨_, rfl⟩
                  have hO := close1 (e := .inl (g.2.1 2, 24, .inr (.inl f24))) hO km24 ⟨_, rfl⟩
                  have hO := close1 (e := .inl (g.2.1 2, 5, .inr (.inl f32))) hO km23 ⟨_, rfl⟩
                  have hO := close1 (e := .inl (g.2.1 2, 25, .inr (.inl f31))) hO km22 ⟨_, rfl⟩
                  have hO := close1 (e := .inl (g.2.1 2, 25, .inr (.inl f30))) hO km21 ⟨_, rfl⟩
                  have hO := close1 (e := .inr (9, [.ref am21, .ref am22, .ref am23, .ref am24, .ref am25, .int (nI 168), .int (nI ps22), .int (nI 31)])) hO kr21 ⟨_, _, _, _, _, _, _, _, rfl, km21, km22, km23, km24, km25, by omega, by omega, by omega⟩
                  have hO : okx g T xs ((r21, .inr (9, [.ref am21, .ref am22, .ref am23, .ref am24, .ref am25, .int (nI 168), .int (nI ps22), .int (nI 31)])) :: (am21, .inl (g.2.1 2, 25, .inr (.inl f30))) :: (am22, .inl (g.2.1 2, 25, .inr (.inl f31))) :: (am23, .inl (g.2.1 2, 5, .inr (.inl f32))) :: (am24, .inl (g.2.1 2, 24, .inr (.inl f24))) :: (am25, .inl (g.2.1 0, 25, .inl f25)) :: pl) := hO
                  have hP : va_P g.1 vcl ([] ++ ((r21, .inr (9, [.ref am21, .ref am22, .ref am23, .ref am24, .ref am25, .int (nI 168), .int (nI ps22), .int (nI 31)])) :: (am21, .inl (g.2.1 2, 25, .inr (.inl f30))) :: (am22, .inl (g.2.1 2, 25, .inr (.inl f31))) :: (am23, .inl (g.2.1 2, 5, .inr (.inl f32))) :: (am24, .inl (g.2.1 2, 24, .inr (.inl f24))) :: (am25, .inl (g.2.1 0, 25, .inl f25)) :: pl)) _ := hP
                  have hD : va_D _ ([] ++ ((r21, .inr (9, [.ref am21, .ref am22, .ref am23, .ref am24, .ref am25, .int (nI 168), .int (nI ps22), .int (nI 31)])) :: (am21, .inl (g.2.1 2, 25, .inr (.inl f30))) :: (am22, .inl (g.2.1 2, 25, .inr (.inl f31))) :: (am23, .inl (g.2.1 2, 5, .inr (.inl f32))) :: (am24, .inl (g.2.1 2, 24, .inr (.inl f24))) :: (am25, .inl (g.2.1 0, 25, .inl f25)) :: pl)) := hD
                  generalize ((r21, .inr (9, [.ref am21, .ref am22, .ref am23, .ref am24, .ref am25, .int (nI 168), .int (nI ps22), .int (nI 31)])) :: (am21, .inl (g.2.1 2, 25, .inr (.inl f30))) :: (am22, .inl (g.2.1 2, 25, .inr (.inl f31))) :: (am23, .inl (g.2.1 2, 5, .inr (.inl f32))) :: (am24, .inl (g.2.1 2, 24, .inr (.inl f24))) :: (am25, .inl (g.2.1 0, 25, .inl f25)) :: pl) = pl at hO hP hD
                  exact ih22 (i22 + 1) pl ls H locs (by omega) (lv_sub hl [0, 2, 3, 4] rfl) hO hP hD hS
                · refine lv_aload_n hx hb dMH_expand_77 rfl (lv_at hl 3 rfl) ?_
                  refine ty_get (ci := 12) (C := "LatticeKeysModel$Hands") (TT := T_MH) (N := 31) (kd := (47, 0)) hx hb hts (wg_ft i_MH) hown hK hO k_h0 (nxg (clo_cons (clo_cons (clo_cons (clo_cons (clo_cons (clo_cons hc0 kr21 (by decide)) km21 (by decide)) km22 (by decide)) km23 (by decide)) km24 (by decide)) km25 (by decide)) k_h0 rfl) hP (fun _ h9 => h9) rfl 0 (by decide) (hts _ (wg_t kw_1432)) (fun _ h9 => h9) (cd := (3, 20, 0)) rfl dMH_expand_78 (fun v30 hv30 => ?_)
                  obtain ⟨r26, rfl, kr26⟩ := (show ∃ r : Nat, v30 = .ref r ∧ T r = some (20, 0) from hv30)
                  obtain rfl : r21 = r26 := hU _ _ _ (by decide) kr21 kr26
                  refine mp_i (cx := [(r21, .inr (9, [.ref am21, .ref am22, .ref am23, .ref am24, .ref am25, .int (nI 168), .int (nI ps22), .int (nI 31)])), (am21, .inl (g.2.1 2, 25, .inr (.inl f30))), (am22, .inl (g.2.1 2, 25, .inr (.inl f31))), (am23, .inl (g.2.1 2, 5, .inr (.inl f32))), (am24, .inl (g.2.1 2, 24, .inr (.inl f24))), (am25, .inl (g.2.1 0, 25, .inl f25))]) (wr := []) hP hD hS hA [0, 1, 2, 3, 4, 5] [] rfl rfl rfl (by decide) (va_runV (As := []) (rest := []) F (x_MS_next l g _ T (am25 :: (am24 :: (am23 :: (am22 :: (am21 :: (r21 :: xs)))))) pl hO hU  r21 am21 am22 am23 am24 am25 168 ps22 (nI 31) f30 f31 f32 f24 f25 (by omega) (by omega)) (cwV 0 hts (wg_app (wg_c kw_1728 (wg_c kw_1642 (wg_c kw_1643 (wg_c kw_10 wg_n)))) kw_1644) rfl rfl rfl (by decide +kernel) ⟨by decide, by decide⟩) (pp_V (en_ok g) (q0 := 0) hK hP hD hS hA hE [0, 1, 2, 3, 4, 5] rfl rfl rfl rfl) rfl rfl hl.1 rfl (lv_room (Nat.le_of_ble_eq_true rfl)) dMH_expand_81 ⟨by omega, by omega⟩) (fun r27 u31 H locs hu26 hP hD hS => ?_)
                  obtain ⟨u32, pl⟩ := u31
                  obtain ⟨hq26, hO⟩ := hu26
                  obtain ⟨ps23, f33, f34, f35⟩ := u32
                  have hP : va_P g.1 vcl ([(r21, .inr (9, [.ref am21, .ref am22, .ref am23, .ref am24, .ref am25, .int (nI 168), .int (nI ps23), .int (nI 31)])), (am21, .inl (g.2.1 2, 25, .inr (.inl f33))), (am22, .inl (g.2.1 2, 25, .inr (.inl f34))), (am23, .inl (g.2.1 2, 5, .inr (.inl f35))), (am24, .inl (g.2.1 2, 24, .inr (.inl f24))), (am25, .inl (g.2.1 0, 25, .inl f25))] ++ pl) _ := hP
                  have hD : va_D _ ([(r21, .inr (9, [.ref am21, .ref am22, .ref am23, .ref am24, .ref am25, .int (nI 168), .int (nI ps23), .int (nI 31)])), (am21, .inl (g.2.1 2, 25, .inr (.inl f33))), (am22, .inl (g.2.1 2, 25, .inr (.inl f34))), (am23, .inl (g.2.1 2, 5, .inr (.inl f35))), (am24, .inl (g.2.1 2, 24, .inr (.inl f24))), (am25, .inl (g.2.1 0, 25, .inl f25))] ++ pl) := hD
                  obtain ⟨hn21, hl21, z21, hz21, rfl, h0z21⟩ := hq26
                  have hl21 : ps23 ≤ 168 := hl21
                  have hzzz21 : z21 = 0 := str_zero (q := 42) (hmP c21) hs hn21 (by omega) (by decide) (by decide) (hz 5 (by decide) (by decide)) (by decide) h0z21
                  have hs := str_next (by decide) hs hn21
                  refine W.widen (k := 0) (n := 0) (by omega) (by omega) ?_
                  refine lv_istore (lv' := [(5, .int (nI z21)), (4, .int (nI i23)), (3, .int (nI i22)), (2, .int (nI i21)), (0, .ref h0), (1, .ref b)]) hx hb dMH_expand_84 hl (by decide) rfl (fun ls hl => ?_)
                  refine lv_iload hx hb dMH_expand_86 (lv_at hl 0 rfl) ?_
                  refine lv_aload_n hx hb dMH_expand_88 rfl (lv_at hl 4 rfl) ?_
                  refine ty_get (ci := 12) (C := "LatticeKeysModel$Hands") (TT := T_MH) (N := 31) (kd := (47, 0)) hx hb hts (wg_ft i_MH) hown hK hO k_h0 (nxg (clo_cons (clo_cons (clo_cons (clo_cons (clo_cons (clo_cons hc0 kr21 (by decide)) km21 (by decide)) km22 (by decide)) km23 (by decide)) km24 (by decide)) km25 (by decide)) k_h0 rfl) hP (fun _ h9 => h9) rfl 0 (by decide) (hts _ (wg_t kw_1432)) (fun _ h9 => h9) (cd := (3, 20, 0)) rfl dMH_expand_89 (fun v31 hv31 => ?_)
                  obtain ⟨r28, rfl, kr27⟩ := (show ∃ r : Nat, v31 = .ref r ∧ T r = some (20, 0) from hv31)
                  obtain rfl : r21 = r28 := hU _ _ _ (by decide) kr21 kr27
                  refine mp_i (cx := [(r21, .inr (9, [.ref am21, .ref am22, .ref am23, .ref am24, .ref am25, .int (nI 168), .int (nI ps23), .int (nI 31)])), (am21, .inl (g.2.1 2, 25, .inr (.inl f33))), (am22, .inl (g.2.1 2, 25, .inr (.inl f34))), (am23, .inl (g.2.1 2, 5, .inr (.inl f35))), (am24, .inl (g.2.1 2, 24, .inr (.inl f24))), (am25, .inl (g.2.1 0, 25, .inl f25))]) (wr := []) hP hD hS hA [0, 1, 2, 3, 4, 5] [] rfl rfl rfl (by decide) (va_runV (As := []) (rest := [.int (nI z21)]) F (x_MS_next l g _ T (am25 :: (am24 :: (am23 :: (am22 :: (am21 :: (r21 :: xs)))))) pl hO hU  r21 am21 am22 am23 am24 am25 168 ps23 (nI 31) f33 f34 f35 f24 f25 (by omega) (by omega)) (cwV 0 hts (wg_app (wg_c kw_1728 (wg_c kw_1642 (wg_c kw_1643 (wg_c kw_10 wg_n)))) kw_1644) rfl rfl rfl (by decide +kernel) ⟨by decide, by decide⟩) (pp_V (en_ok g) (q0 := 0) hK hP hD hS hA hE [0, 1, 2, 3, 4, 5] rfl rfl rfl rfl) rfl rfl hl.1 rfl (lv_room (Nat.le_of_ble_eq_true rfl)) dMH_expand_92 ⟨by omega, by omega⟩) (fun r29 u33 H locs hu27 hP hD hS => ?_)
                  obtain ⟨u34, pl⟩ := u33
                  obtain ⟨hq27, hO⟩ := hu27
                  obtain ⟨ps24, f36, f37, f38⟩ := u34
                  have hP : va_P g.1 vcl ([(r21, .inr (9, [.ref am21, .ref am22, .ref am23, .ref am24, .ref am25, .int (nI 168), .int (nI ps24), .int (nI 31)])), (am21, .inl (g.2.1 2, 25, .inr (.inl f36))), (am22, .inl (g.2.1 2, 25, .inr (.inl f37))), (am23, .inl (g.2.1 2, 5, .inr (.inl f38))), (am24, .inl (g.2.1 2, 24, .inr (.inl f24))), (am25, .inl (g.2.1 0, 25, .inl f25))] ++ pl) _ := hP
                  have hD : va_D _ ([(r21, .inr (9, [.ref am21, .ref am22, .ref am23, .ref am24, .ref am25, .int (nI 168), .int (nI ps24), .int (nI 31)])), (am21, .inl (g.2.1 2, 25, .inr (.inl f36))), (am22, .inl (g.2.1 2, 25, .inr (.inl f37))), (am23, .inl (g.2.1 2, 5, .inr (.inl f38))), (am24, .inl (g.2.1 2, 24, .inr (.inl f24))), (am25, .inl (g.2.1 0, 25, .inl f25))] ++ pl) := hD
                  obtain ⟨hn22, hl22, z22, hz22, rfl, h0z22⟩ := hq27
                  have hl22 : ps24 ≤ 168 := hl22
                  have hzzz22 : z22 = 0 := str_zero (q := 43) (hmP c21) hs hn22 (by omega) (by decide) (by decide) (hz 5 (by decide) (by decide)) (by decide) h0z22
                  have hs := str_next (by decide) hs hn22
                  refine W.widen (k := 0) (n := 0) (by omega) (by omega) ?_
                  refine lv_bipush (v := nI 8) hx hb dMH_expand_95 (by decide) ?_
                  refine mi_ishl hx hb dMH_expand_97 (by omega) (by decide) ?_
                  refine mi_as (show nI (z22 * 2 ^ 8) = nI (z22 * 256) from rfl) ?_
                  refine mi_iadd hx hb dMH_expand_98 ?_
                  refine lv_istore (lv' := [(5, .int (nI (z21 + (z22 * 256)))), (4, .int (nI i23)), (3, .int (nI i22)), (2, .int (nI i21)), (0, .ref h0), (1, .ref b)]) hx hb dMH_expand_99 hl (by decide) rfl (fun ls hl => ?_)
                  refine lv_iload hx hb dMH_expand_101 (lv_at hl 0 rfl) ?_
                  refine lv_aload_n hx hb dMH_expand_103 rfl (lv_at hl 4 rfl) ?_
                  refine ty_get (ci := 12) (C := "LatticeKeysModel$Hands") (TT := T_MH) (N := 31) (kd := (47, 0)) hx hb hts (wg_ft i_MH) hown hK hO k_h0 (nxg (clo_cons (clo_cons (clo_cons (clo_cons (clo_cons (clo_cons hc0 kr21 (by decide)) km21 (by decide)) km22 (by decide)) km23 (by decide)) km24 (by decide)) km25 (by decide)) k_h0 rfl) hP (fun _ h9 => h9) rfl 0 (by decide) (hts _ (wg_t kw_1432)) (fun _ h9 => h9) (cd := (3, 20, 0)) rfl dMH_expand_104 (fun v32 hv32 => ?_)
                  obtain ⟨r30, rfl, kr28⟩ := (show ∃ r : Nat, v32 = .ref r ∧ T r = some (20, 0) from hv32)
                  obtain rfl : r21 = r30 := hU _ _ _ (by decide) kr21 kr28
                  refine mp_i (cx := [(r21, .inr (9, [.ref am21, .ref am22, .ref am23, .ref am24, .ref am25, .int (nI 168), .int (nI ps24), .int (nI 31)])), (am21, .inl (g.2.1 2, 25, .inr (.inl f36))), (am22, .inl (g.2.1 2, 25, .inr (.inl f37))), (am23, .inl (g.2.1 2, 5, .inr (.inl f38))), (am24, .inl (g.2.1 2, 24, .inr (.inl f24))), (am25, .inl (g.2.1 0, 25, .inl f25))]) (wr := []) hP hD hS hA [0, 1, 2, 3, 4, 5] [] rfl rfl rfl (by decide) (va_runV (As := []) (rest := [.int (nI (z21 + (z22 * 256)))]) F (x_MS_next l g _ T (am25 :: (am24 :: (am23 :: (am22 :: (am21 :: (r21 :: xs)))))) pl hO hU  r21 am21 am22 am23 am24 am25 168 ps24 (nI 31) f36 f37 f38 f24 f25 (by omega) (by omega)) (cwV 0 hts (wg_app (wg_c kw_1728 (wg_c kw_1642 (wg_c kw_1643 (wg_c kw_10 wg_n)))) kw_1644) rfl rfl rfl (by decide +kernel) ⟨by decide, by decide⟩) (pp_V (en_ok g) (q0 := 0) hK hP hD hS hA hE [0, 1, 2, 3, 4, 5] rfl rfl rfl rfl) rfl rfl hl.1 rfl (lv_room (Nat.le_of_ble_eq_true rfl)) dMH_expand_107 ⟨by omega, by omega⟩) (fun r31 u35 H locs hu28 hP hD hS => ?_)
                  obtain ⟨u36, pl⟩ := u35
                  obtain ⟨hq28, hO⟩ := hu28
                  obtain ⟨ps25, f39, f40, f41⟩ := u36
                  have hP : va_P g.1 vcl ([(r21, .inr (9, [.ref am21, .ref am22, .ref am23, .ref am24, .ref am25, .int (nI 168), .int (nI ps25), .int (nI 31)])), (am21, .inl (g.2.1 2, 25, .inr (.inl f39))), (am22, .inl (g.2.1 2, 25, .inr (.inl f40))), (am23, .inl (g.2.1 2, 5, .inr (.inl f41))), (am24, .inl (g.2.1 2, 24, .inr (.inl f24))), (am25, .inl (g.2.1 0, 25, .inl f25))] ++ pl) _ := hP
                  have hD : va_D _ ([(r21, .inr (9, [.ref am21, .ref am22, .ref am23, .ref am24, .ref am25, .int (nI 168), .int (nI ps25), .int (nI 31)])), (am21, .inl (g.2.1 2, 25, .inr (.inl f39))), (am22, .inl (g.2.1 2, 25, .inr (.inl f40))), (am23, .inl (g.2.1 2, 5, .inr (.inl f41))), (am24, .inl (g.2.1 2, 24, .inr (.inl f24))), (am25, .inl (g.2.1 0, 25, .inl f25))] ++ pl) := hD
                  obtain ⟨hn23, hl23, z23, hz23, rfl, h0z23⟩ := hq28
                  have hl23 : ps25 ≤ 168 := hl23
                  have hzzz23 : z23 = 0 := str_zero (q := 44) (hmP c21) hs hn23 (by omega) (by decide) (by decide) (hz 5 (by decide) (by decide)) (by decide) h0z23
                  have hs := str_next (by decide) hs hn23
                  refine W.widen (k := 0) (n := 0) (by omega) (by omega) ?_
                  refine lv_bipush (v := nI 127) hx hb dMH_expand_110 (by decide) ?_
                  refine mi_iandE hx hb 7 dMH_expand_112 (by decide) (fun z24 hz24 ez21 => ?_)
                  have hzzz24 : z24 = 0 := and_zero hzzz23 (by decide) hz24 ez21
                  have hz24 : z24 < 128 := hz24
                  refine lv_bipush (v := nI 16) hx hb dMH_expand_113 (by decide) ?_
                  refine mi_ishl hx hb dMH_expand_115 (by omega) (by decide) ?_
                  refine mi_as (show nI (z24 * 2 ^ 16) = nI (z24 * 65536) from rfl) ?_
                  refine mi_iadd hx hb dMH_expand_116 ?_
                  refine lv_istore (lv' := [(5, .int (nI ((z21 + (z22 * 256)) + (z24 * 65536)))), (4, .int (nI i23)), (3, .int (nI i22)), (2, .int (nI i21)), (0, .ref h0), (1, .ref b)]) hx hb dMH_expand_117 hl (by decide) rfl (fun ls hl => ?_)
                  refine lv_iload hx hb dMH_expand_119 (lv_at hl 0 rfl) ?_
                  refine lv_ldc (v := 8380417) hx hb hown (hts _ (wg_t kw_1429)) dMH_expand_121 ?_
                  refine mi_as (show (8380417 : Int32) = nI 8380417 by decide) ?_
                  refine mi_lt (tgt := 129) hx hb dMH_expand_123 (by decide) (by omega) (by omega) (fun h27 => ?_) (fun h27 => ?_)
                  · refine lv_aload_n hx hb dMH_expand_129 rfl (lv_at hl 4 rfl) ?_
                    refine ty_get (ci := 12) (C := "LatticeKeysModel$Hands") (TT := T_MH) (N := 31) (kd := (47, 0)) hx hb hts (wg_ft i_MH) hown hK hO k_h0 (nxg (clo_cons (clo_cons (clo_cons (clo_cons (clo_cons (clo_cons hc0 kr21 (by decide)) km21 (by decide)) km22 (by decide)) km23 (by decide)) km24 (by decide)) km25 (by decide)) k_h0 rfl) hP (fun _ h9 => h9) rfl 2 (by decide) (hts _ (wg_t kw_1434)) (fun _ h9 => h9) (cd := (3, 3, 64)) rfl dMH_expand_130 (fun v33 hv33 => ?_)
                    obtain ⟨r32, rfl, kr29⟩ := (show ∃ r : Nat, v33 = .ref r ∧ T r = some (3, 64) from hv33)
                    refine lv_bipush (v := nI 8) hx hb dMH_expand_133 (by decide) ?_
                    refine lv_iload_n hx hb dMH_expand_135 rfl (lv_at hl 3 rfl) ?_
                    refine mi_imul hx hb dMH_expand_136 ?_
                    refine lv_iload_n hx hb dMH_expand_137 rfl (lv_at hl 2 rfl) ?_
                    refine mi_iadd hx hb dMH_expand_138 ?_
                    refine ty_aald3 hx hb hK hO kr29 (nxg (clo_cons (clo_cons (clo_cons (clo_cons (clo_cons (clo_cons hc0 kr21 (by decide)) km21 (by decide)) km22 (by decide)) km23 (by decide)) km24 (by decide)) km25 (by decide)) kr29 rfl) hP (by omega) (by decide) dMH_expand_139 (fun r33 kr30 => ?_)
                    refine lv_iload hx hb dMH_expand_140 (lv_at hl 1 rfl) ?_
                    refine lv_iload hx hb dMH_expand_142 (lv_at hl 0 rfl) ?_
                    refine ty_iast hx hb hK hO kr30 (nxg (clo_cons (clo_cons (clo_cons (clo_cons (clo_cons (clo_cons hc0 kr21 (by decide)) km21 (by decide)) km22 (by decide)) km23 (by decide)) km24 (by decide)) km25 (by decide)) kr30 rfl) hP hD hS (vp_in_nI (by omega) (by decide)) dMH_expand_144 (fun pl H locs hO hP hD hS => ?_)
                    refine mi_iinc (k := 1) (x := i23) (d := 1) (y := i23 + 1) (lv' := [(4, .int (nI (i23 + 1))), (5, .int (nI ((z21 + (z22 * 256)) + (z24 * 65536)))), (3, .int (nI i22)), (2, .int (nI i21)), (0, .ref h0), (1, .ref b)]) hx hb dMH_expand_145 hl rfl (by decide) rfl (by decide) rfl (fun ls hl => ?_)
                    refine lv_goto (tgt := 69) hx hb dMH_expand_148 (by decide) ?_
                    have hcm := cm_succ (c := c21) (m := mB) (k := 168)
                    exact ihq21 (mB * 56 - 1) (c21 + 1) (t21 + 1 + 1 + 1) (i23 + 1) ps25 f39 f40 f41 pl ls H locs (by omega) (by omega) (by omega) hs (lv_sub hl [0, 2, 3, 4, 5] rfl) hO hP hD hS
                  · refine lv_goto (tgt := 69) hx hb dMH_expand_126 (by decide) ?_
                    exfalso
                    omega
              | succ d21 ihd21 =>
                intro c21 t21 i23 ps22 f30 f31 f32 pl ls H locs hi21 hi22 hd21 hs hl hO hP hD hS
                have hsl := str_le hs
                refine lv_iload hx hb dMH_expand_69 (lv_at hl 0 rfl) ?_
                refine lv_sipush (v := nI 256) hx hb dMH_expand_71 (by decide) ?_
                refine mi_ge (tgt := 151) hx hb dMH_expand_74 (by decide) (by omega) (by omega) (fun h28 => ?_) (fun h28 => ?_)
                · refine mi_iinc (k := 1) (x := i22) (d := 1) (y := i22 + 1) (lv' := [(3, .int (nI (i22 + 1))), (4, .int (nI i23)), (2, .int (nI i21)), (0, .ref h0), (1, .ref b)]) hx hb dMH_expand_151 hl rfl (by decide) rfl (by decide) rfl (fun ls hl => ?_)
                  refine lv_goto (tgt := 12) hx hb dMH_expand_154 (by decide) ?_
                  have hO := close1 (e := .inl (g.2.1 0, 25, .inl f25)) hO km25 ⟨_, rfl⟩
                  have hO := close1 (e := .inl (g.2.1 2, 24, .inr (.inl f24))) hO km24 ⟨_, rfl⟩
                  have hO := close1 (e := .inl (g.2.1 2, 5, .inr (.inl f32))) hO km23 ⟨_, rfl⟩
                  have hO := close1 (e := .inl (g.2.1 2, 25, .inr (.inl f31))) hO km22 ⟨_, rfl⟩
                  have hO := close1 (e := .inl (g.2.1 2, 25, .inr (.inl f30))) hO km21 ⟨_, rfl⟩
                  have hO := close1 (e := .inr (9, [.ref am21, .ref am22, .ref am23, .ref am24, .ref am25, .int (nI 168), .int (nI ps22), .int (nI 31)])) hO kr21 ⟨_, _, _, _, _, _, _, _, rfl, km21, km22, km23, km24, km25, by omega, by omega, by omega⟩
                  have hO : okx g T xs ((r21, .inr (9, [.ref am21, .ref am22, .ref am23, .ref am24, .ref am25, .int (nI 168), .int (nI ps22), .int (nI 31)])) :: (am21, .inl (g.2.1 2, 25, .inr (.inl f30))) :: (am22, .inl (g.2.1 2, 25, .inr (.inl f31))) :: (am23, .inl (g.2.1 2, 5, .inr (.inl f32))) :: (am24, .inl (g.2.1 2, 24, .inr (.inl f24))) :: (am25, .inl (g.2.1 0, 25, .inl f25)) :: pl) := hO
                  have hP : va_P g.1 vcl ([] ++ ((r21, .inr (9, [.ref am21, .ref am22, .ref am23, .ref am24, .ref am25, .int (nI 168), .int (nI ps22), .int (nI 31)])) :: (am21, .inl (g.2.1 2, 25, .inr (.inl f30))) :: (am22, .inl (g.2.1 2, 25, .inr (.inl f31))) :: (am23, .inl (g.2.1 2, 5, .inr (.inl f32))) :: (am24, .inl (g.2.1 2, 24, .inr (.inl f24))) :: (am25, .inl (g.2.1 0, 25, .inl f25)) :: pl)) _ := hP
                  have hD : va_D _ ([] ++ ((r21, .inr (9, [.ref am21, .ref am22, .ref am23, .ref am24, .ref am25, .int (nI 168), .int (nI ps22), .int (nI 31)])) :: (am21, .inl (g.2.1 2, 25, .inr (.inl f30))) :: (am22, .inl (g.2.1 2, 25, .inr (.inl f31))) :: (am23, .inl (g.2.1 2, 5, .inr (.inl f32))) :: (am24, .inl (g.2.1 2, 24, .inr (.inl f24))) :: (am25, .inl (g.2.1 0, 25, .inl f25)) :: pl)) := hD
                  generalize ((r21, .inr (9, [.ref am21, .ref am22, .ref am23, .ref am24, .ref am25, .int (nI 168), .int (nI ps22), .int (nI 31)])) :: (am21, .inl (g.2.1 2, 25, .inr (.inl f30))) :: (am22, .inl (g.2.1 2, 25, .inr (.inl f31))) :: (am23, .inl (g.2.1 2, 5, .inr (.inl f32))) :: (am24, .inl (g.2.1 2, 24, .inr (.inl f24))) :: (am25, .inl (g.2.1 0, 25, .inl f25)) :: pl) = pl at hO hP hD
                  exact ih22 (i22 + 1) pl ls H locs (by omega) (lv_sub hl [0, 2, 3, 4] rfl) hO hP hD hS
                · refine lv_aload_n hx hb dMH_expand_77 rfl (lv_at hl 3 rfl) ?_
                  refine ty_get (ci := 12) (C := "LatticeKeysModel$Hands") (TT := T_MH) (N := 31) (kd := (47, 0)) hx hb hts (wg_ft i_MH) hown hK hO k_h0 (nxg (clo_cons (clo_cons (clo_cons (clo_cons (clo_cons (clo_cons hc0 kr21 (by decide)) km21 (by decide)) km22 (by decide)) km23 (by decide)) km24 (by decide)) km25 (by decide)) k_h0 rfl) hP (fun _ h9 => h9) rfl 0 (by decide) (hts _ (wg_t kw_1432)) (fun _ h9 => h9) (cd := (3, 20, 0)) rfl dMH_expand_78 (fun v34 hv34 => ?_)
                  obtain ⟨r34, rfl, kr31⟩ := (show ∃ r : Nat, v34 = .ref r ∧ T r = some (20, 0) from hv34)
                  obtain rfl : r21 = r34 := hU _ _ _ (by decide) kr21 kr31
                  refine mp_i (cx := [(r21, .inr (9, [.ref am21, .ref am22, .ref am23, .ref am24, .ref am25, .int (nI 168), .int (nI ps22), .int (nI 31)])), (am21, .inl (g.2.1 2, 25, .inr (.inl f30))), (am22, .inl (g.2.1 2, 25, .inr (.inl f31))), (am23, .inl (g.2.1 2, 5, .inr (.inl f32))), (am24, .inl (g.2.1 2, 24, .inr (.inl f24))), (am25, .inl (g.2.1 0, 25, .inl f25))]) (wr := []) hP hD hS hA [0, 1, 2, 3, 4, 5] [] rfl rfl rfl (by decide) (va_runV (As := []) (rest := []) F (x_MS_next l g _ T (am25 :: (am24 :: (am23 :: (am22 :: (am21 :: (r21 :: xs)))))) pl hO hU  r21 am21 am22 am23 am24 am25 168 ps22 (nI 31) f30 f31 f32 f24 f25 (by omega) (by omega)) (cwV 0 hts (wg_app (wg_c kw_1728 (wg_c kw_1642 (wg_c kw_1643 (wg_c kw_10 wg_n)))) kw_1644) rfl rfl rfl (by decide +kernel) ⟨by decide, by decide⟩) (pp_V (en_ok g) (q0 := 0) hK hP hD hS hA hE [0, 1, 2, 3, 4, 5] rfl rfl rfl rfl) rfl rfl hl.1 rfl (lv_room (Nat.le_of_ble_eq_true rfl)) dMH_expand_81 ⟨by omega, by omega⟩) (fun r35 u37 H locs hu29 hP hD hS => ?_)
                  obtain ⟨u38, pl⟩ := u37
                  obtain ⟨hq29, hO⟩ := hu29
                  obtain ⟨ps26, f42, f43, f44⟩ := u38
                  have hP : va_P g.1 vcl ([(r21, .inr (9, [.ref am21, .ref am22, .ref am23, .ref am24, .ref am25, .int (nI 168), .int (nI ps26), .int (nI 31)])), (am21, .inl (g.2.1 2, 25, .inr (.inl f42))), (am22, .inl (g.2.1 2, 25, .inr (.inl f43))), (am23, .inl (g.2.1 2, 5, .inr (.inl f44))), (am24, .inl (g.2.1 2, 24, .inr (.inl f24))), (am25, .inl (g.2.1 0, 25, .inl f25))] ++ pl) _ := hP
                  have hD : va_D _ ([(r21, .inr (9, [.ref am21, .ref am22, .ref am23, .ref am24, .ref am25, .int (nI 168), .int (nI ps26), .int (nI 31)])), (am21, .inl (g.2.1 2, 25, .inr (.inl f42))), (am22, .inl (g.2.1 2, 25, .inr (.inl f43))), (am23, .inl (g.2.1 2, 5, .inr (.inl f44))), (am24, .inl (g.2.1 2, 24, .inr (.inl f24))), (am25, .inl (g.2.1 0, 25, .inl f25))] ++ pl) := hD
                  obtain ⟨hn24, hl24, z25, hz25, rfl, h0z24⟩ := hq29
                  have hl24 : ps26 ≤ 168 := hl24
                  have hs := str_next (by decide) hs hn24
                  refine W.widen (k := 0) (n := 0) (by omega) (by omega) ?_
                  refine lv_istore (lv' := [(5, .int (nI z25)), (4, .int (nI i23)), (3, .int (nI i22)), (2, .int (nI i21)), (0, .ref h0), (1, .ref b)]) hx hb dMH_expand_84 hl (by decide) rfl (fun ls hl => ?_)
                  refine lv_iload hx hb dMH_expand_86 (lv_at hl 0 rfl) ?_
                  refine lv_aload_n hx hb dMH_expand_88 rfl (lv_at hl 4 rfl) ?_
                  refine ty_get (ci := 12) (C := "LatticeKeysModel$Hands") (TT := T_MH) (N := 31) (kd := (47, 0)) hx hb hts (wg_ft i_MH) hown hK hO k_h0 (nxg (clo_cons (clo_cons (clo_cons (clo_cons (clo_cons (clo_cons hc0 kr21 (by decide)) km21 (by decide)) km22 (by decide)) km23 (by decide)) km24 (by decide)) km25 (by decide)) k_h0 rfl) hP (fun _ h9 => h9) rfl 0 (by decide) (hts _ (wg_t kw_1432)) (fun _ h9 => h9) (cd := (3, 20, 0)) rfl dMH_expand_89 (fun v35 hv35 => ?_)
                  obtain ⟨r36, rfl, kr32⟩ := (show ∃ r : Nat, v35 = .ref r ∧ T r = some (20, 0) from hv35)
                  obtain rfl : r21 = r36 := hU _ _ _ (by decide) kr21 kr32
                  refine mp_i (cx := [(r21, .inr (9, [.ref am21, .ref am22, .ref am23, .ref am24, .ref am25, .int (nI 168), .int (nI ps26), .int (nI 31)])), (am21, .inl (g.2.1 2, 25, .inr (.inl f42))), (am22, .inl (g.2.1 2, 25, .inr (.inl f43))), (am23, .inl (g.2.1 2, 5, .inr (.inl f44))), (am24, .inl (g.2.1 2, 24, .inr (.inl f24))), (am25, .inl (g.2.1 0, 25, .inl f25))]) (wr := []) hP hD hS hA [0, 1, 2, 3, 4, 5] [] rfl rfl rfl (by decide) (va_runV (As := []) (rest := [.int (nI z25)]) F (x_MS_next l g _ T (am25 :: (am24 :: (am23 :: (am22 :: (am21 :: (r21 :: xs)))))) pl hO hU  r21 am21 am22 am23 am24 am25 168 ps26 (nI 31) f42 f43 f44 f24 f25 (by omega) (by omega)) (cwV 0 hts (wg_app (wg_c kw_1728 (wg_c kw_1642 (wg_c kw_1643 (wg_c kw_10 wg_n)))) kw_1644) rfl rfl rfl (by decide +kernel) ⟨by decide, by decide⟩) (pp_V (en_ok g) (q0 := 0) hK hP hD hS hA hE [0, 1, 2, 3, 4, 5] rfl rfl rfl rfl) rfl rfl hl.1 rfl (lv_room (Nat.le_of_ble_eq_true rfl)) dMH_expand_92 ⟨by omega, by omega⟩) (fun r37 u39 H locs hu30 hP hD hS => ?_)
                  obtain ⟨u40, pl⟩ := u39
                  obtain ⟨hq30, hO⟩ := hu30
                  obtain ⟨ps27, f45, f46, f47⟩ := u40
                  have hP : va_P g.1 vcl ([(r21, .inr (9, [.ref am21, .ref am22, .ref am23, .ref am24, .ref am25, .int (nI 168), .int (nI ps27), .int (nI 31)])), (am21, .inl (g.2.1 2, 25, .inr (.inl f45))), (am22, .inl (g.2.1 2, 25, .inr (.inl f46))), (am23, .inl (g.2.1 2, 5, .inr (.inl f47))), (am24, .inl (g.2.1 2, 24, .inr (.inl f24))), (am25, .inl (g.2.1 0, 25, .inl f25))] ++ pl) _ := hP
                  have hD : va_D _ ([(r21, .inr (9, [.ref am21, .ref am22, .ref am23, .ref am24, .ref am25, .int (nI 168), .int (nI ps27), .int (nI 31)])), (am21, .inl (g.2.1 2, 25, .inr (.inl f45))), (am22, .inl (g.2.1 2, 25, .inr (.inl f46))), (am23, .inl (g.2.1 2, 5, .inr (.inl f47))), (am24, .inl (g.2.1 2, 24, .inr (.inl f24))), (am25, .inl (g.2.1 0, 25, .inl f25))] ++ pl) := hD
                  obtain ⟨hn25, hl25, z26, hz26, rfl, h0z25⟩ := hq30
                  have hl25 : ps27 ≤ 168 := hl25
                  have hs := str_next (by decide) hs hn25
                  refine W.widen (k := 0) (n := 0) (by omega) (by omega) ?_
                  refine lv_bipush (v := nI 8) hx hb dMH_expand_95 (by decide) ?_
                  refine mi_ishl hx hb dMH_expand_97 (by omega) (by decide) ?_
                  refine mi_as (show nI (z26 * 2 ^ 8) = nI (z26 * 256) from rfl) ?_
                  refine mi_iadd hx hb dMH_expand_98 ?_
                  refine lv_istore (lv' := [(5, .int (nI (z25 + (z26 * 256)))), (4, .int (nI i23)), (3, .int (nI i22)), (2, .int (nI i21)), (0, .ref h0), (1, .ref b)]) hx hb dMH_expand_99 hl (by decide) rfl (fun ls hl => ?_)
                  refine lv_iload hx hb dMH_expand_101 (lv_at hl 0 rfl) ?_
                  refine lv_aload_n hx hb dMH_expand_103 rfl (lv_at hl 4 rfl) ?_
                  refine ty_get (ci := 12) (C := "LatticeKeysModel$Hands") (TT := T_MH) (N := 31) (kd := (47, 0)) hx hb hts (wg_ft i_MH) hown hK hO k_h0 (nxg (clo_cons (clo_cons (clo_cons (clo_cons (clo_cons (clo_cons hc0 kr21 (by decide)) km21 (by decide)) km22 (by decide)) km23 (by decide)) km24 (by decide)) km25 (by decide)) k_h0 rfl) hP (fun _ h9 => h9) rfl 0 (by decide) (hts _ (wg_t kw_1432)) (fun _ h9 => h9) (cd := (3, 20, 0)) rfl dMH_expand_104 (fun v36 hv36 => ?_)
                  obtain ⟨r38, rfl, kr33⟩ := (show ∃ r : Nat, v36 = .ref r ∧ T r = some (20, 0) from hv36)
                  obtain rfl : r21 = r38 := hU _ _ _ (by decide) kr21 kr33
                  refine mp_i (cx := [(r21, .inr (9, [.ref am21, .ref am22, .ref am23, .ref am24, .ref am25, .int (nI 168), .int (nI ps27), .int (nI 31)])), (am21, .inl (g.2.1 2, 25, .inr (.inl f45))), (am22, .inl (g.2.1 2, 25, .inr (.inl f46))), (am23, .inl (g.2.1 2, 5, .inr (.inl f47))), (am24, .inl (g.2.1 2, 24, .inr (.inl f24))), (am25, .inl (g.2.1 0, 25, .inl f25))]) (wr := []) hP hD hS hA [0, 1, 2, 3, 4, 5] [] rfl rfl rfl (by decide) (va_runV (As := []) (rest := [.int (nI (z25 + (z26 * 256)))]) F (x_MS_next l g _ T (am25 :: (am24 :: (am23 :: (am22 :: (am21 :: (r21 :: xs)))))) pl hO hU  r21 am21 am22 am23 am24 am25 168 ps27 (nI 31) f45 f46 f47 f24 f25 (by omega) (by omega)) (cwV 0 hts (wg_app (wg_c kw_1728 (wg_c kw_1642 (wg_c kw_1643 (wg_c kw_10 wg_n)))) kw_1644) rfl rfl rfl (by decide +kernel) ⟨by decide, by decide⟩) (pp_V (en_ok g) (q0 := 0) hK hP hD hS hA hE [0, 1, 2, 3, 4, 5] rfl rfl rfl rfl) rfl rfl hl.1 rfl (lv_room (Nat.le_of_ble_eq_true rfl)) dMH_expand_107 ⟨by omega, by omega⟩) (fun r39 u41 H locs hu31 hP hD hS => ?_)
                  obtain ⟨u42, pl⟩ := u41
                  obtain ⟨hq31, hO⟩ := hu31
                  obtain ⟨ps28, f48, f49, f50⟩ := u42
                  have hP : va_P g.1 vcl ([(r21, .inr (9, [.ref am21, .ref am22, .ref am23, .ref am24, .ref am25, .int (nI 168), .int (nI ps28), .int (nI 31)])), (am21, .inl (g.2.1 2, 25, .inr (.inl f48))), (am22, .inl (g.2.1 2, 25, .inr (.inl f49))), (am23, .inl (g.2.1 2, 5, .inr (.inl f50))), (am24, .inl (g.2.1 2, 24, .inr (.inl f24))), (am25, .inl (g.2.1 0, 25, .inl f25))] ++ pl) _ := hP
                  have hD : va_D _ ([(r21, .inr (9, [.ref am21, .ref am22, .ref am23, .ref am24, .ref am25, .int (nI 168), .int (nI ps28), .int (nI 31)])), (am21, .inl (g.2.1 2, 25, .inr (.inl f48))), (am22, .inl (g.2.1 2, 25, .inr (.inl f49))), (am23, .inl (g.2.1 2, 5, .inr (.inl f50))), (am24, .inl (g.2.1 2, 24, .inr (.inl f24))), (am25, .inl (g.2.1 0, 25, .inl f25))] ++ pl) := hD
                  obtain ⟨hn26, hl26, z27, hz27, rfl, h0z26⟩ := hq31
                  have hl26 : ps28 ≤ 168 := hl26
                  have hs := str_next (by decide) hs hn26
                  refine W.widen (k := 0) (n := 0) (by omega) (by omega) ?_
                  refine lv_bipush (v := nI 127) hx hb dMH_expand_110 (by decide) ?_
                  refine mi_iandE hx hb 7 dMH_expand_112 (by decide) (fun z28 hz28 ez22 => ?_)
                  have hz28 : z28 < 128 := hz28
                  refine lv_bipush (v := nI 16) hx hb dMH_expand_113 (by decide) ?_
                  refine mi_ishl hx hb dMH_expand_115 (by omega) (by decide) ?_
                  refine mi_as (show nI (z28 * 2 ^ 16) = nI (z28 * 65536) from rfl) ?_
                  refine mi_iadd hx hb dMH_expand_116 ?_
                  refine lv_istore (lv' := [(5, .int (nI ((z25 + (z26 * 256)) + (z28 * 65536)))), (4, .int (nI i23)), (3, .int (nI i22)), (2, .int (nI i21)), (0, .ref h0), (1, .ref b)]) hx hb dMH_expand_117 hl (by decide) rfl (fun ls hl => ?_)
                  refine lv_iload hx hb dMH_expand_119 (lv_at hl 0 rfl) ?_
                  refine lv_ldc (v := 8380417) hx hb hown (hts _ (wg_t kw_1429)) dMH_expand_121 ?_
                  refine mi_as (show (8380417 : Int32) = nI 8380417 by decide) ?_
                  refine mi_lt (tgt := 129) hx hb dMH_expand_123 (by decide) (by omega) (by omega) (fun h29 => ?_) (fun h29 => ?_)
                  · refine lv_aload_n hx hb dMH_expand_129 rfl (lv_at hl 4 rfl) ?_
                    refine ty_get (ci := 12) (C := "LatticeKeysModel$Hands") (TT := T_MH) (N := 31) (kd := (47, 0)) hx hb hts (wg_ft i_MH) hown hK hO k_h0 (nxg (clo_cons (clo_cons (clo_cons (clo_cons (clo_cons (clo_cons hc0 kr21 (by decide)) km21 (by decide)) km22 (by decide)) km23 (by decide)) km24 (by decide)) km25 (by decide)) k_h0 rfl) hP (fun _ h9 => h9) rfl 2 (by decide) (hts _ (wg_t kw_1434)) (fun _ h9 => h9) (cd := (3, 3, 64)) rfl dMH_expand_130 (fun v37 hv37 => ?_)
                    obtain ⟨r40, rfl, kr34⟩ := (show ∃ r : Nat, v37 = .ref r ∧ T r = some (3, 64) from hv37)
                    refine lv_bipush (v := nI 8) hx hb dMH_expand_133 (by decide) ?_
                    refine lv_iload_n hx hb dMH_expand_135 rfl (lv_at hl 3 rfl) ?_
                    refine mi_imul hx hb dMH_expand_136 ?_
                    refine lv_iload_n hx hb dMH_expand_137 rfl (lv_at hl 2 rfl) ?_
                    refine mi_iadd hx hb dMH_expand_138 ?_
                    refine ty_aald3 hx hb hK hO kr34 (nxg (clo_cons (clo_cons (clo_cons (clo_cons (clo_cons (clo_cons hc0 kr21 (by decide)) km21 (by decide)) km22 (by decide)) km23 (by decide)) km24 (by decide)) km25 (by decide)) kr34 rfl) hP (by omega) (by decide) dMH_expand_139 (fun r41 kr35 => ?_)
                    refine lv_iload hx hb dMH_expand_140 (lv_at hl 1 rfl) ?_
                    refine lv_iload hx hb dMH_expand_142 (lv_at hl 0 rfl) ?_
                    refine ty_iast hx hb hK hO kr35 (nxg (clo_cons (clo_cons (clo_cons (clo_cons (clo_cons (clo_cons hc0 kr21 (by decide)) km21 (by decide)) km22 (by decide)) km23 (by decide)) km24 (by decide)) km25 (by decide)) kr35 rfl) hP hD hS (vp_in_nI (by omega) (by decide)) dMH_expand_144 (fun pl H locs hO hP hD hS => ?_)
                    refine mi_iinc (k := 1) (x := i23) (d := 1) (y := i23 + 1) (lv' := [(4, .int (nI (i23 + 1))), (5, .int (nI ((z25 + (z26 * 256)) + (z28 * 65536)))), (3, .int (nI i22)), (2, .int (nI i21)), (0, .ref h0), (1, .ref b)]) hx hb dMH_expand_145 hl rfl (by decide) rfl (by decide) rfl (fun ls hl => ?_)
                    refine lv_goto (tgt := 69) hx hb dMH_expand_148 (by decide) ?_
                    exact ihq21 d21 c21 (t21 + 1 + 1 + 1) (i23 + 1) ps28 f48 f49 f50 pl ls H locs (by omega) (by omega) (by omega) hs (lv_sub hl [0, 2, 3, 4, 5] rfl) hO hP hD hS
                  · refine lv_goto (tgt := 69) hx hb dMH_expand_126 (by decide) ?_
                    exact ihd21 c21 (t21 + 1 + 1 + 1) i23 ps28 f48 f49 f50 pl ls H locs (by omega) (by omega) (by omega) hs (lv_sub hl [1, 2, 3, 4, 5] rfl) hO hP hD hS
          have htg := tgt_le (m := mB) (t := 168) (rt := 168) (p := 42) hm0 (by decide)
          exact lp23 256 (((168 + 1) * mB * 168 + 42 - (168)) / 3) (168 + 1) (168) 0 0 f26 f27 f28 pl ls _ _ (by omega) (by omega) (by omega) hs (lv_sub hl [0, 1, 2, 3, 4] rfl) hO hP hD hS
      exact lp22 5 0 pl ls _ _ (by omega) (lv_sub hl [0, 1, 2, 3] rfl) hO hP hD hS
  exact lp21 6 0 pl ls _ _ (by omega) (lv_sub hl [0, 1, 2] rfl) hO hP hD hS
set_option maxHeartbeats 400000 in
set_option maxRecDepth 100000 in
theorem t_MH_expand_2 (l : Launch) (g : Gd) (sz : Nat) (T : Ty) (xs : List Nat) (pl : va_W) (hO : okx g T xs pl) (hU : uni T) (hc0 : clo T xs 0) (hc9 : clo T xs 9) (h0 b n : Nat) (k_h0 : T h0 = some (48, 0)) (k_b : T b = some (1, n)) (h1 : 32 ≤ n) (h2 : n < 65536)  : Met l y_MH_expand w_MH_expand ({ frames := 3, cells := 0, slots := 0, locals := 67 } : Room) (va_Pc [.ref h0, .ref b] (pr (en g) g.1 vcl sz ([] ++ pl))) (va_Qv (fun (u : va_W) => (True) ∧ okx g T xs u) (po g.1 vcl (va_A ([] ++ pl) sz) (fun (u : va_W) => [] ++ u)) (va_A ([] ++ pl) sz)) 0 0 (va_A ([] ++ pl) sz) := by
  refine mc_entry (cc := c_MH_expand) (maxL := 6) (ret := none) (by decide) rfl (Nat.le_of_ble_eq_true rfl) ?_
  intro p e s m args below meth c ls F hr hlk hnm hsz hP hD hE hA hl
  obtain ⟨hx, hb, hml, hown, hts⟩ := id F
  have hK := hE.1
  generalize va_A ([] ++ pl) sz = A at hD hE hA ⊢
  have hS : va_S A s.heap s.heap [] := va_S.rf
  have hl : lv_has ls 6 [(0, .ref h0), (1, .ref b)] := hl
  refine lv_iconst (v := nI 0) hx hb dMH_expand_0 (by decide) ?_
  refine lv_istore_n (lv' := [(2, .int (nI 0)), (0, .ref h0), (1, .ref b)]) hx hb dMH_expand_1 rfl hl (by decide) rfl (fun ls hl => ?_)
  have lp21 : ∀ (n21 : Nat) (i21 : Nat) (pl : va_W) (ls : Array Slot) (H : Heap) (locs : List Loc), n21 + i21 = 8 → lv_has ls 6 [(2, .int (nI i21)), (0, .ref h0), (1, .ref b)] → okx g T xs pl → va_P g.1 vcl ([] ++ pl) H → va_D A ([] ++ pl) → va_S A s.heap H locs → W p l e ({ frames := 3, cells := 0, slots := 0, locals := 67 } : Room) s m args below meth c H locs 0 0 (MQ below (va_Qv (fun (u : va_W) => (True) ∧ okx g T xs u) (po g.1 vcl A (fun (u : va_W) => [] ++ u)) A) args s 0 0 A) (F0 m 2 ls []) := by
    intro n21
    induction n21 with
    | zero =>
      intro i21 pl ls H locs hm21  hl hO hP hD hS
      refine lv_iload_n hx hb dMH_expand_2 rfl (lv_at hl 0 rfl) ?_
      refine lv_aload_n hx hb dMH_expand_3 rfl (lv_at hl 1 rfl) ?_
      refine ty_get (ci := 12) (C := "LatticeKeysModel$Hands") (TT := T_MH) (N := 31) (kd := (48, 0)) hx hb hts (wg_ft i_MH) hown hK hO k_h0 (nxg hc0 k_h0 rfl) hP (fun _ h9 => h9) rfl 24 (by decide) (hts _ (wg_t kw_1456)) (fun _ h9 => h9) (cd := (1, 0, 8)) rfl dMH_expand_4 (fun v21 hv21 => ?_)
      obtain rfl := (show v21 = .int (nI 8) from hv21)
      refine mi_ge (tgt := 163) hx hb dMH_expand_7 (by decide) (by omega) (by omega) (fun h21 => ?_) (fun h21 => absurd h21 (by omega))
      exact mp_vret hx hb hr hlk hP hD hS pl ⟨trivial, hO⟩ [] rfl rfl rfl (by omega) (by omega) dMH_expand_163
    | succ n21 ih21 =>
      intro i21 pl ls H locs hm21  hl hO hP hD hS
      refine lv_iload_n hx hb dMH_expand_2 rfl (lv_at hl 0 rfl) ?_
      refine lv_aload_n hx hb dMH_expand_3 rfl (lv_at hl 1 rfl) ?_
      refine ty_get (ci := 12) (C := "LatticeKeysModel$Hands") (TT := T_MH) (N := 31) (kd := (48, 0)) hx hb hts (wg_ft i_MH) hown hK hO k_h0 (nxg hc0 k_h0 rfl) hP (fun _ h9 => h9) rfl 24 (by decide) (hts _ (wg_t kw_1456)) (fun _ h9 => h9) (cd := (1, 0, 8)) rfl dMH_expand_4 (fun v22 hv22 => ?_)
      obtain rfl := (show v22 = .int (nI 8) from hv22)
      refine mi_ge (tgt := 163) hx hb dMH_expand_7 (by decide) (by omega) (by omega) (fun h22 => absurd h22 (by omega)) (fun h22 => ?_)
      refine lv_iconst (v := nI 0) hx hb dMH_expand_10 (by decide) ?_
      refine lv_istore_n (lv' := [(3, .int (nI 0)), (2, .int (nI i21)), (0, .ref h0), (1, .ref b)]) hx hb dMH_expand_11 rfl hl (by decide) rfl (fun ls hl => ?_)
      have lp22 : ∀ (n22 : Nat) (i22 : Nat) (pl : va_W) (ls : Array Slot) (H : Heap) (locs : List Loc), n22 + i22 = 7 → lv_has ls 6 [(3, .int (nI i22)), (2, .int (nI i21)), (0, .ref h0), (1, .ref b)] → okx g T xs pl → va_P g.1 vcl ([] ++ pl) H → va_D A ([] ++ pl) → va_S A s.heap H locs → W p l e ({ frames := 3, cells := 0, slots := 0, locals := 67 } : Room) s m args below meth c H locs 0 0 (MQ below (va_Qv (fun (u : va_W) => (True) ∧ okx g T xs u) (po g.1 vcl A (fun (u : va_W) => [] ++ u)) A) args s 0 0 A) (F0 m 12 ls []) := by
        intro n22
        induction n22 with
        | zero =>
          intro i22 pl ls H locs hm22  hl hO hP hD hS
          refine lv_iload_n hx hb dMH_expand_12 rfl (lv_at hl 0 rfl) ?_
          refine lv_aload_n hx hb dMH_expand_13 rfl (lv_at hl 2 rfl) ?_
          refine ty_get (ci := 12) (C := "LatticeKeysModel$Hands") (TT := T_MH) (N := 31) (kd := (48, 0)) hx hb hts (wg_ft i_MH) hown hK hO k_h0 (nxg hc0 k_h0 rfl) hP (fun _ h9 => h9) rfl 25 (by decide) (hts _ (wg_t kw_1457)) (fun _ h9 => h9) (cd := (1, 0, 7)) rfl dMH_expand_14 (fun v23 hv23 => ?_)
          obtain rfl := (show v23 = .int (nI 7) from hv23)
          refine mi_ge (tgt := 157) hx hb dMH_expand_17 (by decide) (by omega) (by omega) (fun h23 => ?_) (fun h23 => absurd h23 (by omega))
          refine mi_iinc (k := 1) (x := i21) (d := 1) (y := i21 + 1) (lv' := [(2, .int (nI (i21 + 1))), (3, .int (nI i22)), (0, .ref h0), (1, .ref b)]) hx hb dMH_expand_157 hl rfl (by decide) rfl (by decide) rfl (fun ls hl => ?_)
          refine lv_goto (tgt := 2) hx hb dMH_expand_160 (by decide) ?_
          exact ih21 (i21 + 1) pl ls H locs (by omega) (lv_sub hl [0, 2, 3] rfl) hO hP hD hS
        | succ n22 ih22 =>
          intro i22 pl ls H locs hm22  hl hO hP hD hS
          refine lv_iload_n hx hb dMH_expand_12 rfl (lv_at hl 0 rfl) ?_
          refine lv_aload_n hx hb dMH_expand_13 rfl (lv_at hl 2 rfl) ?_
          refine ty_get (ci := 12) (C := "LatticeKeysModel$Hands") (TT := T_MH) (N := 31) (kd := (48, 0)) hx hb hts (wg_ft i_MH) hown hK hO k_h0 (nxg hc0 k_h0 rfl) hP (fun _ h9 => h9) rfl 25 (by decide) (hts _ (wg_t kw_1457)) (fun _ h9 => h9) (cd := (1, 0, 7)) rfl dMH_expand_14 (fun v24 hv24 => ?_)
          obtain rfl := (show v24 = .int (nI 7) from hv24)
          refine mi_ge (tgt := 157) hx hb dMH_expand_17 (by decide) (by omega) (by omega) (fun h24 => absurd h24 (by omega)) (fun h24 => ?_)
          refine lv_aload_n hx hb dMH_expand_20 rfl (lv_at hl 2 rfl) ?_
          refine ty_get (ci := 12) (C := "LatticeKeysModel$Hands") (TT := T_MH) (N := 31) (kd := (48, 0)) hx hb hts (wg_ft i_MH) hown hK hO k_h0 (nxg hc0 k_h0 rfl) hP (fun _ h9 => h9) rfl 0 (by decide) (hts _ (wg_t kw_1432)) (fun _ h9 => h9) (cd := (3, 20, 0)) rfl dMH_expand_21 (fun v25 hv25 => ?_)
          obtain ⟨r21, rfl, kr21⟩ := (show ∃ r : Nat, v25 = .ref r ∧ T r = some (20, 0) from hv25)
          refine lv_sipush (v := nI 168) hx hb dMH_expand_24 (by decide) ?_
          refine lv_bipush (v := nI 31) hx hb dMH_expand_27 (by decide) ?_
          obtain ⟨e21, pl, hP, hD, hk21, hO⟩ := open1 hP hD hO kr21 (nxg hc9 kr21 rfl)
          obtain ⟨am21, am22, am23, am24, am25, rt21, ps21, x21, rfl, km21, km22, km23, km24, km25, hr21, hr22, hr23⟩ := hk21
          obtain ⟨e22, pl, hP, hD, hk22, hO⟩ := open1 hP hD hO km21 (nmc (knd_ne km21 kr21 (by decide)) (nxg hc9 km21 rfl))
          obtain ⟨f21, rfl⟩ := hk22
          obtain ⟨e23, pl, hP, hD, hk23, hO⟩ := open1 hP hD hO km22 (nmc (knd_ne km22 km21 (by decide)) (nmc (knd_ne km22 kr21 (by decide)) (nxg hc9 km22 rfl)))
          obtain ⟨f22, rfl⟩ := hk23
          obtain ⟨e24, pl, hP, hD, hk24, hO⟩ := open1 hP hD hO km23 (nmc (knd_ne km23 km22 (by decide)) (nmc (knd_ne km23 km21 (by decide)) (nmc (knd_ne km23 kr21 (by decide)) (nxg hc9 km23 rfl))))
          obtain ⟨f23, rfl⟩ := hk24
          obtain ⟨e25, pl, hP, hD, hk25, hO⟩ := open1 hP hD hO km24 (nmc (knd_ne km24 km23 (by decide)) (nmc (knd_ne km24 km22 (by decide)) (nmc (knd_ne km24 km21 (by decide)) (nmc (knd_ne km24 kr21 (by decide)) (nxg hc9 km24 rfl)))))
          obtain ⟨f24, rfl⟩ := hk25
          obtain ⟨e26, pl, hP, hD, hk26, hO⟩ := open1 hP hD hO km25 (nmc (knd_ne km25 km24 (by decide)) (nmc (knd_ne km25 km23 (by decide)) (nmc (knd_ne km25 km22 (by decide)) (nmc (knd_ne km25 km21 (by decide)) (nmc (knd_ne km25 kr21 (by decide)) (nxg hc9 km25 rfl))))))
          obtain ⟨f25, rfl⟩ := hk26
          have hP : va_P g.1 vcl ([(r21, .inr (9, [.ref am21, .ref am22, .ref am23, .ref am24, .ref am25, .int (nI rt21), .int (nI ps21), .int x21])), (am21, .inl (g.2.1 2, 25, .inr (.inl f21))), (am22, .inl (g.2.1 2, 25, .inr (.inl f22))), (am23, .inl (g.2.1 2, 5, .inr (.inl f23))), (am24, .inl (g.2.1 2, 24, .inr (.inl f24))), (am25, .inl (g.2.1 0, 25, .inl f25))] ++ pl) _ := hP
          have hD : va_D _ ([(r21, .inr (9, [.ref am21, .ref am22, .ref am23, .ref am24, .ref am25, .int (nI rt21), .int (nI ps21), .int x21])), (am21, .inl (g.2.1 2, 25, .inr (.inl f21))), (am22, .inl (g.2.1 2, 25, .inr (.inl f22))), (am23, .inl (g.2.1 2, 5, .inr (.inl f23))), (am24, .inl (g.2.1 2, 24, .inr (.inl f24))), (am25, .inl (g.2.1 0, 25, .inl f25))] ++ pl) := hD
          refine mp_v (cx := [(r21, .inr (9, [.ref am21, .ref am22, .ref am23, .ref am24, .ref am25, .int (nI rt21), .int (nI ps21), .int x21])), (am21, .inl (g.2.1 2, 25, .inr (.inl f21))), (am22, .inl (g.2.1 2, 25, .inr (.inl f22))), (am23, .inl (g.2.1 2, 5, .inr (.inl f23))), (am24, .inl (g.2.1 2, 24, .inr (.inl f24))), (am25, .inl (g.2.1 0, 25, .inl f25))]) (wr := []) hP hD hS hA [0, 1, 2, 3, 4, 5] [] rfl rfl rfl (by decide) (va_runV (As := [.int (nI 168), .int (nI 31)]) (rest := []) F (x_MS_begin l g _ T (am25 :: (am24 :: (am23 :: (am22 :: (am21 :: (r21 :: xs)))))) pl hO hU  168 (nI 31) r21 am21 am22 am23 am24 am25 rt21 ps21 x21 f21 f22 f23 f24 f25 (by omega)) (cwV 2 hts (wg_app (wg_c kw_1727 (wg_c kw_1608 (wg_c kw_1609 (wg_c kw_10 wg_n)))) kw_1610) rfl rfl rfl (by decide +kernel) ⟨by decide, by decide⟩) (pp_V (en_ok g) (q0 := 0) hK hP hD hS hA hE [0, 1, 2, 3, 4, 5] rfl rfl rfl rfl) rfl rfl hl.1 rfl (lv_room (Nat.le_of_ble_eq_true rfl)) dMH_expand_29 ⟨by omega, by omega⟩) (fun  u21 H locs hu21 hP hD hS => ?_)
          obtain ⟨u22, pl⟩ := u21
          obtain ⟨hq21, hO⟩ := hu21
          have hP : va_P g.1 vcl ([(r21, .inr (9, [.ref am21, .ref am22, .ref am23, .ref am24, .ref am25, .int (nI 168), .int (nI 0), .int (nI 31)])), (am21, .inl (g.2.1 2, 25, .inr (.inl u22))), (am22, .inl (g.2.1 2, 25, .inr (.inl f22))), (am23, .inl (g.2.1 2, 5, .inr (.inl f23))), (am24, .inl (g.2.1 2, 24, .inr (.inl f24))), (am25, .inl (g.2.1 0, 25, .inl f25))] ++ pl) _ := hP
          have hD : va_D _ ([(r21, .inr (9, [.ref am21, .ref am22, .ref am23, .ref am24, .ref am25, .int (nI 168), .int (nI 0), .int (nI 31)])), (am21, .inl (g.2.1 2, 25, .inr (.inl u22))), (am22, .inl (g.2.1 2, 25, .inr (.inl f22))), (am23, .inl (g.2.1 2, 5, .inr (.inl f23))), (am24, .inl (g.2.1 2, 24, .inr (.inl f24))), (am25, .inl (g.2.1 0, 25, .inl f25))] ++ pl) := hD
          have hq21 : ∀ j, j < 25 → u22 j = 0 := hq21
          refine W.widen (k := 0) (n := 0) (by omega) (by omega) ?_
          refine lv_aload_n hx hb dMH_expand_32 rfl (lv_at hl 2 rfl) ?_
          refine ty_get (ci := 12) (C := "LatticeKeysModel$Hands") (TT := T_MH) (N := 31) (kd := (48, 0)) hx hb hts (wg_ft i_MH) hown hK hO k_h0 (nxg (clo_cons (clo_cons (clo_cons (clo_cons (clo_cons (clo_cons hc0 kr21 (by decide)) km21 (by decide)) km22 (by decide)) km23 (by decide)) km24 (by decide)) km25 (by decide)) k_h0 rfl) hP (fun _ h9 => h9) rfl 0 (by decide) (hts _ (wg_t kw_1432)) (fun _ h9 => h9) (cd := (3, 20, 0)) rfl dMH_expand_33 (fun v26 hv26 => ?_)
          obtain ⟨r22, rfl, kr22⟩ := (show ∃ r : Nat, v26 = .ref r ∧ T r = some (20, 0) from hv26)
          obtain rfl : r21 = r22 := hU _ _ _ (by decide) kr21 kr22
          refine lv_aload_n hx hb dMH_expand_36 rfl (lv_at hl 3 rfl) ?_
          refine lv_iconst (v := nI 0) hx hb dMH_expand_37 (by decide) ?_
          refine lv_bipush (v := nI 32) hx hb dMH_expand_38 (by decide) ?_
          refine mp_v (cx := [(r21, .inr (9, [.ref am21, .ref am22, .ref am23, .ref am24, .ref am25, .int (nI 168), .int (nI 0), .int (nI 31)])), (am21, .inl (g.2.1 2, 25, .inr (.inl u22))), (am22, .inl (g.2.1 2, 25, .inr (.inl f22))), (am23, .inl (g.2.1 2, 5, .inr (.inl f23))), (am24, .inl (g.2.1 2, 24, .inr (.inl f24))), (am25, .inl (g.2.1 0, 25, .inl f25))]) (wr := []) hP hD hS hA [0, 1, 2, 3, 4, 5] [] rfl rfl rfl (by decide) (va_runV (As := [.ref b, .int (nI 0), .int (nI 32)]) (rest := []) F (x_MS_puts l g _ T (am25 :: (am24 :: (am23 :: (am22 :: (am21 :: (r21 :: xs)))))) pl hO hU (clo_cons (clo_cons (clo_cons (clo_cons (clo_cons (clo_cons hc0 kr21 (by decide)) km21 (by decide)) km22 (by decide)) km23 (by decide)) km24 (by decide)) km25 (by decide)) b n 0 32 r21 am21 am22 am23 am24 am25 168 0 (nI 31) u22 f22 f23 f24 f25 k_b (by omega) (by omega) (by omega) (by omega)) (cwV 3 hts (wg_app (wg_c kw_1719 (wg_c kw_1612 (wg_c kw_1613 (wg_c kw_10 wg_n)))) kw_1614) rfl rfl rfl (by decide +kernel) ⟨by decide, by decide⟩) (pp_V (en_ok g) (q0 := 0) hK hP hD hS hA hE [0, 1, 2, 3, 4, 5] rfl rfl rfl rfl) rfl rfl hl.1 rfl (lv_room (Nat.le_of_ble_eq_true rfl)) dMH_expand_40 ⟨by omega, by omega⟩) (fun  u23 H locs hu22 hP hD hS => ?_)
          obtain ⟨u24, pl⟩ := u23
          obtain ⟨hq22, hO⟩ := hu22
          have hP : va_P g.1 vcl ([(r21, .inr (9, [.ref am21, .ref am22, .ref am23, .ref am24, .ref am25, .int (nI 168), .int (nI 32), .int (nI 31)])), (am21, .inl (g.2.1 2, 25, .inr (.inl u24))), (am22, .inl (g.2.1 2, 25, .inr (.inl f22))), (am23, .inl (g.2.1 2, 5, .inr (.inl f23))), (am24, .inl (g.2.1 2, 24, .inr (.inl f24))), (am25, .inl (g.2.1 0, 25, .inl f25))] ++ pl) _ := hP
          have hD : va_D _ ([(r21, .inr (9, [.ref am21, .ref am22, .ref am23, .ref am24, .ref am25, .int (nI 168), .int (nI 32), .int (nI 31)])), (am21, .inl (g.2.1 2, 25, .inr (.inl u24))), (am22, .inl (g.2.1 2, 25, .inr (.inl f22))), (am23, .inl (g.2.1 2, 5, .inr (.inl f23))), (am24, .inl (g.2.1 2, 24, .inr (.inl f24))), (am25, .inl (g.2.1 0, 25, .inl f25))] ++ pl) := hD
          refine W.widen (k := 0) (n := 0) (by omega) (by omega) ?_
          refine lv_aload_n hx hb dMH_expand_43 rfl (lv_at hl 2 rfl) ?_
          refine ty_get (ci := 12) (C := "LatticeKeysModel$Hands") (TT := T_MH) (N := 31) (kd := (48, 0)) hx hb hts (wg_ft i_MH) hown hK hO k_h0 (nxg (clo_cons (clo_cons (clo_cons (clo_cons (clo_cons (clo_cons hc0 kr21 (by decide)) km21 (by decide)) km22 (by decide)) km23 (by decide)) km24 (by decide)) km25 (by decide)) k_h0 rfl) hP (fun _ h9 => h9) rfl 0 (by decide) (hts _ (wg_t kw_1432)) (fun _ h9 => h9) (cd := (3, 20, 0)) rfl dMH_expand_44 (fun v27 hv27 => ?_)
          obtain ⟨r23, rfl, kr23⟩ := (show ∃ r : Nat, v27 = .ref r ∧ T r = some (20, 0) from hv27)
          obtain rfl : r21 = r23 := hU _ _ _ (by decide) kr21 kr23
          refine lv_iload_n hx hb dMH_expand_47 rfl (lv_at hl 0 rfl) ?_
          refine mp_v (cx := [(r21, .inr (9, [.ref am21, .ref am22, .ref am23, .ref am24, .ref am25, .int (nI 168), .int (nI 32), .int (nI 31)])), (am21, .inl (g.2.1 2, 25, .inr (.inl u24))), (am22, .inl (g.2.1 2, 25, .inr (.inl f22))), (am23, .inl (g.2.1 2, 5, .inr (.inl f23))), (am24, .inl (g.2.1 2, 24, .inr (.inl f24))), (am25, .inl (g.2.1 0, 25, .inl f25))]) (wr := []) hP hD hS hA [0, 1, 2, 3, 4, 5] [] rfl rfl rfl (by decide) (va_runV (As := [.int (nI i22)]) (rest := []) F (x_MS_put l g _ T (am25 :: (am24 :: (am23 :: (am22 :: (am21 :: (r21 :: xs)))))) pl hO hU  (nI i22) r21 am21 am22 am23 am24 am25 168 32 (nI 31) u24 f22 f23 f24 f25 (by omega) (by omega)) (cwV 1 hts (wg_app (wg_c kw_1720 (wg_c kw_1616 (wg_c kw_1617 (wg_c kw_10 wg_n)))) kw_1618) rfl rfl rfl (by decide +kernel) ⟨by decide, by decide⟩) (pp_V (en_ok g) (q0 := 0) hK hP hD hS hA hE [0, 1, 2, 3, 4, 5] rfl rfl rfl rfl) rfl rfl hl.1 rfl (lv_room (Nat.le_of_ble_eq_true rfl)) dMH_expand_48 ⟨by omega, by omega⟩) (fun  u25 H locs hu23 hP hD hS => ?_)
          obtain ⟨u26, pl⟩ := u25
          obtain ⟨hq23, hO⟩ := hu23
          have hP : va_P g.1 vcl ([(r21, .inr (9, [.ref am21, .ref am22, .ref am23, .ref am24, .ref am25, .int (nI 168), .int (nI 33), .int (nI 31)])), (am21, .inl (g.2.1 2, 25, .inr (.inl u26))), (am22, .inl (g.2.1 2, 25, .inr (.inl f22))), (am23, .inl (g.2.1 2, 5, .inr (.inl f23))), (am24, .inl (g.2.1 2, 24, .inr (.inl f24))), (am25, .inl (g.2.1 0, 25, .inl f25))] ++ pl) _ := hP
          have hD : va_D _ ([(r21, .inr (9, [.ref am21, .ref am22, .ref am23, .ref am24, .ref am25, .int (nI 168), .int (nI 33), .int (nI 31)])), (am21, .inl (g.2.1 2, 25, .inr (.inl u26))), (am22, .inl (g.2.1 2, 25, .inr (.inl f22))), (am23, .inl (g.2.1 2, 5, .inr (.inl f23))), (am24, .inl (g.2.1 2, 24, .inr (.inl f24))), (am25, .inl (g.2.1 0, 25, .inl f25))] ++ pl) := hD
          refine W.widen (k := 0) (n := 0) (by omega) (by omega) ?_
          refine lv_aload_n hx hb dMH_expand_51 rfl (lv_at hl 2 rfl) ?_
          refine ty_get (ci := 12) (C := "LatticeKeysModel$Hands") (TT := T_MH) (N := 31) (kd := (48, 0)) hx hb hts (wg_ft i_MH) hown hK hO k_h0 (nxg (clo_cons (clo_cons (clo_cons (clo_cons (clo_cons (clo_cons hc0 kr21 (by decide)) km21 (by decide)) km22 (by decide)) km23 (by decide)) km24 (by decide)) km25 (by decide)) k_h0 rfl) hP (fun _ h9 => h9) rfl 0 (by decide) (hts _ (wg_t kw_1432)) (fun _ h9 => h9) (cd := (3, 20, 0)) rfl dMH_expand_52 (fun v28 hv28 => ?_)
          obtain ⟨r24, rfl, kr24⟩ := (show ∃ r : Nat, v28 = .ref r ∧ T r = some (20, 0) from hv28)
          obtain rfl : r21 = r24 := hU _ _ _ (by decide) kr21 kr24
          refine lv_iload_n hx hb dMH_expand_55 rfl (lv_at hl 1 rfl) ?_
          refine mp_v (cx := [(r21, .inr (9, [.ref am21, .ref am22, .ref am23, .ref am24, .ref am25, .int (nI 168), .int (nI 33), .int (nI 31)])), (am21, .inl (g.2.1 2, 25, .inr (.inl u26))), (am22, .inl (g.2.1 2, 25, .inr (.inl f22))), (am23, .inl (g.2.1 2, 5, .inr (.inl f23))), (am24, .inl (g.2.1 2, 24, .inr (.inl f24))), (am25, .inl (g.2.1 0, 25, .inl f25))]) (wr := []) hP hD hS hA [0, 1, 2, 3, 4, 5] [] rfl rfl rfl (by decide) (va_runV (As := [.int (nI i21)]) (rest := []) F (x_MS_put l g _ T (am25 :: (am24 :: (am23 :: (am22 :: (am21 :: (r21 :: xs)))))) pl hO hU  (nI i21) r21 am21 am22 am23 am24 am25 168 33 (nI 31) u26 f22 f23 f24 f25 (by omega) (by omega)) (cwV 1 hts (wg_app (wg_c kw_1720 (wg_c kw_1616 (wg_c kw_1617 (wg_c kw_10 wg_n)))) kw_1618) rfl rfl rfl (by decide +kernel) ⟨by decide, by decide⟩) (pp_V (en_ok g) (q0 := 0) hK hP hD hS hA hE [0, 1, 2, 3, 4, 5] rfl rfl rfl rfl) rfl rfl hl.1 rfl (lv_room (Nat.le_of_ble_eq_true rfl)) dMH_expand_56 ⟨by omega, by omega⟩) (fun  u27 H locs hu24 hP hD hS => ?_)
          obtain ⟨u28, pl⟩ := u27
          obtain ⟨hq24, hO⟩ := hu24
          have hP : va_P g.1 vcl ([(r21, .inr (9, [.ref am21, .ref am22, .ref am23, .ref am24, .ref am25, .int (nI 168), .int (nI 34), .int (nI 31)])), (am21, .inl (g.2.1 2, 25, .inr (.inl u28))), (am22, .inl (g.2.1 2, 25, .inr (.inl f22))), (am23, .inl (g.2.1 2, 5, .inr (.inl f23))), (am24, .inl (g.2.1 2, 24, .inr (.inl f24))), (am25, .inl (g.2.1 0, 25, .inl f25))] ++ pl) _ := hP
          have hD : va_D _ ([(r21, .inr (9, [.ref am21, .ref am22, .ref am23, .ref am24, .ref am25, .int (nI 168), .int (nI 34), .int (nI 31)])), (am21, .inl (g.2.1 2, 25, .inr (.inl u28))), (am22, .inl (g.2.1 2, 25, .inr (.inl f22))), (am23, .inl (g.2.1 2, 5, .inr (.inl f23))), (am24, .inl (g.2.1 2, 24, .inr (.inl f24))), (am25, .inl (g.2.1 0, 25, .inl f25))] ++ pl) := hD
          refine W.widen (k := 0) (n := 0) (by omega) (by omega) ?_
          refine lv_aload_n hx hb dMH_expand_59 rfl (lv_at hl 2 rfl) ?_
          refine ty_get (ci := 12) (C := "LatticeKeysModel$Hands") (TT := T_MH) (N := 31) (kd := (48, 0)) hx hb hts (wg_ft i_MH) hown hK hO k_h0 (nxg (clo_cons (clo_cons (clo_cons (clo_cons (clo_cons (clo_cons hc0 kr21 (by decide)) km21 (by decide)) km22 (by decide)) km23 (by decide)) km24 (by decide)) km25 (by decide)) k_h0 rfl) hP (fun _ h9 => h9) rfl 0 (by decide) (hts _ (wg_t kw_1432)) (fun _ h9 => h9) (cd := (3, 20, 0)) rfl dMH_expand_60 (fun v29 hv29 => ?_)
          obtain ⟨r25, rfl, kr25⟩ := (show ∃ r : Nat, v29 = .ref r ∧ T r = some (20, 0) from hv29)
          obtain rfl : r21 = r25 := hU _ _ _ (by decide) kr21 kr25
          refine mp_v (cx := [(r21, .inr (9, [.ref am21, .ref am22, .ref am23, .ref am24, .ref am25, .int (nI 168), .int (nI 34), .int (nI 31)])), (am21, .inl (g.2.1 2, 25, .inr (.inl u28))), (am22, .inl (g.2.1 2, 25, .inr (.inl f22))), (am23, .inl (g.2.1 2, 5, .inr (.inl f23))), (am24, .inl (g.2.1 2, 24, .inr (.inl f24))), (am25, .inl (g.2.1 0, 25, .inl f25))]) (wr := []) hP hD hS hA [0, 1, 2, 3, 4, 5] [] rfl rfl rfl (by decide) (va_runV (As := []) (rest := []) F (x_MS_end l g _ T (am25 :: (am24 :: (am23 :: (am22 :: (am21 :: (r21 :: xs)))))) pl hO hU  r21 am21 am22 am23 am24 am25 168 34 (nI 31) u28 f22 f23 f24 f25 (by omega) (by omega)) (cwV 0 hts (wg_app (wg_c kw_1721 (wg_c kw_1634 (wg_c kw_1635 (wg_c kw_10 wg_n)))) kw_1636) rfl rfl rfl (by decide +kernel) ⟨by decide, by decide⟩) (pp_V (en_ok g) (q0 := 0) hK hP hD hS hA hE [0, 1, 2, 3, 4, 5] rfl rfl rfl rfl) rfl rfl hl.1 rfl (lv_room (Nat.le_of_ble_eq_true rfl)) dMH_expand_63 ⟨by omega, by omega⟩) (fun  u29 H locs hu25 hP hD hS => ?_)
          obtain ⟨u30, pl⟩ := u29
          obtain ⟨hq25, hO⟩ := hu25
          obtain ⟨f26, f27, f28, f29⟩ := u30
          have hP : va_P g.1 vcl ([(r21, .inr (9, [.ref am21, .ref am22, .ref am23, .ref am24, .ref am25, .int (nI 168), .int (nI 0), .int (nI 31)])), (am21, .inl (g.2.1 2, 25, .inr (.inl f26))), (am22, .inl (g.2.1 2, 25, .inr (.inl f27))), (am23, .inl (g.2.1 2, 5, .inr (.inl f28))), (am24, .inl (g.2.1 2, 24, .inr (.inl f24))), (am25, .inl (g.2.1 0, 25, .inl f25))] ++ pl) _ := hP
          have hD : va_D _ ([(r21, .inr (9, [.ref am21, .ref am22, .ref am23, .ref am24, .ref am25, .int (nI 168), .int (nI 0), .int (nI 31)])), (am21, .inl (g.2.1 2, 25, .inr (.inl f26))), (am22, .inl (g.2.1 2, 25, .inr (.inl f27))), (am23, .inl (g.2.1 2, 5, .inr (.inl f28))), (am24, .inl (g.2.1 2, 24, .inr (.inl f24))), (am25, .inl (g.2.1 0, 25, .inl f25))] ++ pl) := hD
          refine W.widen (k := 0) (n := 0) (by omega) (by omega) ?_
          have hz : ∀ j, 5 ≤ j → j < 20 → f29 j = 0 := fun j h8 h9 => ((((hq25.2 j (by omega) (by omega)).trans (hq24 j (by omega))).trans (hq23 j (by omega))).trans (hq22 j (by omega))).trans (hq21 j (by omega))
          have hs : str f25 f24 f29 168 168 0 f26 := ⟨1, by omega, by omega, hq25.1⟩
          obtain ⟨mB, hm0, hmP⟩ := blk_back f25 f24 f29
          refine lv_iconst (v := nI 0) hx hb dMH_expand_66 (by decide) ?_
          refine lv_istore (lv' := [(4, .int (nI 0)), (3, .int (nI i22)), (2, .int (nI i21)), (0, .ref h0), (1, .ref b)]) hx hb dMH_expand_67 hl (by decide) rfl (fun ls hl => ?_)
          have lp23 : ∀ (q21 : Nat) (d21 : Nat) (c21 t21 : Nat) (i23 : Nat) (ps22 : Nat) (f30 f31 f32 : Nat → Int64) (pl : va_W) (ls : Array Slot) (H : Heap) (locs : List Loc), 256 ≤ i23 + q21 → i23 ≤ 256 → t21 + 3 * d21 = c21 * mB * 168 + 42 → str f25 f24 f29 168 t21 ps22 f30 → lv_has ls 6 [(4, .int (nI i23)), (3, .int (nI i22)), (2, .int (nI i21)), (0, .ref h0), (1, .ref b)] → okx g T (am25 :: (am24 :: (am23 :: (am22 :: (am21 :: (r21 :: xs)))))) pl → va_P g.1 vcl ([(r21, .inr (9, [.ref am21, .ref am22, .ref am23, .ref am24, .ref am25, .int (nI 168), .int (nI ps22), .int (nI 31)])), (am21, .inl (g.2.1 2, 25, .inr (.inl f30))), (am22, .inl (g.2.1 2, 25, .inr (.inl f31))), (am23, .inl (g.2.1 2, 5, .inr (.inl f32))), (am24, .inl (g.2.1 2, 24, .inr (.inl f24))), (am25, .inl (g.2.1 0, 25, .inl f25))] ++ pl) H → va_D A ([(r21, .inr (9, [.ref am21, .ref am22, .ref am23, .ref am24, .ref am25, .int (nI 168), .int (nI ps22), .int (nI 31)])), (am21, .inl (g.2.1 2, 25, .inr (.inl f30))), (am22, .inl (g.2.1 2, 25, .inr (.inl f31))), (am23, .inl (g.2.1 2, 5, .inr (.inl f32))), (am24, .inl (g.2.1 2, 24, .inr (.inl f24))), (am25, .inl (g.2.1 0, 25, .inl f25))] ++ pl) → va_S A s.heap H locs → W p l e ({ frames := 3, cells := 0, slots := 0, locals := 67 } : Room) s m args below meth c H locs 0 0 (MQ below (va_Qv (fun (u : va_W) => (True) ∧ okx g T xs u) (po g.1 vcl A (fun (u : va_W) => [] ++ u)) A) args s 0 0 A) (F0 m 69 ls []) := by
            intro q21
            induction q21 with
            | zero =>
              intro d21
              intro c21 t21 i23 ps22 f30 f31 f32 pl ls H locs hi21 hi22 hd21 hs hl hO hP hD hS
              have hsl := str_le hs
              refine lv_iload hx hb dMH_expand_69 (lv_at hl 0 rfl) ?_
              refine lv_sipush (v := nI 256) hx hb dMH_expand_71 (by decide) ?_
              refine mi_ge (tgt := 151) hx hb dMH_expand_74 (by decide) (by omega) (by omega) (fun h25 => ?_) (fun h25 => absurd h25 (by omega))
              refine mi_iinc (k := 1) (x := i22) (d := 1) (y := i22 + 1) (lv' := [(3, .int (nI (i22 + 1))), (4, .int (nI i23)), (2, .int (nI i21)), (0, .ref h0), (1, .ref b)]) hx hb dMH_expand_151 hl rfl (by decide) rfl (by decide) rfl (fun ls hl => ?_)
              refine lv_goto (tgt := 12) hx hb dMH_expand_154 (by decide) ?_
              have hO := close1 (e := .inl (g.2.1 0, 25, .inl f25)) hO km25 ⟨_, rfl⟩
              have hO := close1 (e := .inl (g.2.1 2, 24, .inr (.inl f24))) hO km24 ⟨_, rfl⟩
              have hO := close1 (e := .inl (g.2.1 2, 5, .inr (.inl f32))) hO km23 ⟨_, rfl⟩
              have hO := close1 (e := .inl (g.2.1 2, 25, .inr (.inl f31))) hO km22 ⟨_, rfl⟩
              have hO := close1 (e := .inl (g.2.1 2, 25, .inr (.inl f30))) hO km21 ⟨_, rfl⟩
              have hO := close1 (e := .inr (9, [.ref am21, .ref am22, .ref am23, .ref am24, .ref am25, .int (nI 168), .int (nI ps22), .int (nI 31)])) hO kr21 ⟨_, _, _, _, _, _, _, _, rfl, km21, km22, km23, km24, km25, by omega, by omega, by omega⟩
              have hO : okx g T xs ((r21, .inr (9, [.ref am21, .ref am22, .ref am23, .ref am24, .ref am25, .int (nI 168), .int (nI ps22), .int (nI 31)])) :: (am21, .inl (g.2.1 2, 25, .inr (.inl f30))) :: (am22, .inl (g.2.1 2, 25, .inr (.inl f31))) :: (am23, .inl (g.2.1 2, 5, .inr (.inl f32))) :: (am24, .inl (g.2.1 2, 24, .inr (.inl f24))) :: (am25, .inl (g.2.1 0, 25, .inl f25)) :: pl) := hO
              have hP : va_P g.1 vcl ([] ++ ((r21, .inr (9, [.ref am21, .ref am22, .ref am23, .ref am24, .ref am25, .int (nI 168), .int (nI ps22), .int (nI 31)])) :: (am21, .inl (g.2.1 2, 25, .inr (.inl f30))) :: (am22, .inl (g.2.1 2, 25, .inr (.inl f31))) :: (am23, .inl (g.2.1 2, 5, .inr (.inl f32))) :: (am24, .inl (g.2.1 2, 24, .inr (.inl f24))) :: (am25, .inl (g.2.1 0, 25, .inl f25)) :: pl)) _ := hP
              have hD : va_D _ ([] ++ ((r21, .inr (9, [.ref am21, .ref am22, .ref am23, .ref am24, .ref am25, .int (nI 168), .int (nI ps22), .int (nI 31)])) :: (am21, .inl (g.2.1 2, 25, .inr (.inl f30))) :: (am22, .inl (g.2.1 2, 25, .inr (.inl f31))) :: (am23, .inl (g.2.1 2, 5, .inr (.inl f32))) :: (am24, .inl (g.2.1 2, 24, .inr (.inl f24))) :: (am25, .inl (g.2.1 0, 25, .inl f25)) :: pl)) := hD
              generalize ((r21, .inr (9, [.ref am21, .ref am22, .ref am23, .ref am24, .ref am25, .int (nI 168), .int (nI ps22), .int (nI 31)])) :: (am21, .inl (g.2.1 2, 25, .inr (.inl f30))) :: (am22, .inl (g.2.1 2, 25, .inr (.inl f31))) :: (am23, .inl (g.2.1 2, 5, .inr (.inl f32))) :: (am24, .inl (g.2.1 2, 24, .inr (.inl f24))) :: (am25, .inl (g.2.1 0, 25, .inl f25)) :: pl) = pl at hO hP hD
              exact ih22 (i22 + 1) pl ls H locs (by omega) (lv_sub hl [0, 2, 3, 4] rfl) hO hP hD hS
            | succ q21 ihq21 =>
              intro d21
              induction d21 with
              | zero =>
                intro c21 t21 i23 ps22 f30 f31 f32 pl ls H locs hi21 hi22 hd21 hs hl hO hP hD hS
                have hsl := str_le hs
                refine lv_iload hx hb dMH_expand_69 (lv_at hl 0 rfl) ?_
                refine lv_sipush (v := nI 256) hx hb dMH_expand_71 (by decide) ?_
                refine mi_ge (tgt := 151) hx hb dMH_expand_74 (by decide) (by omega) (by omega) (fun h26 => ?_) (fun h26 => ?_)
                · refine mi_iinc (k := 1) (x := i22) (d := 1) (y := i22 + 1) (lv' := [(3, .int (nI (i22 + 1))), (4, .int (nI i23)), (2, .int (nI i21)), (0, .ref h0), (1, .ref b)]) hx hb dMH_expand_151 hl rfl (by decide) rfl (by decide) rfl (fun ls hl => ?_)
                  refine lv_goto (tgt := 12) hx hb dMH_expand_154 (by decide) ?_
                  have hO := close1 (e := .inl (g.2.1 0, 25, .inl f25)) hO km25 ⟨_, rfl⟩
                  have hO := close1 (e := .inl (g.2.1 2, 24, .inr (.inl f24))) hO km24 ⟨_, rfl⟩
                  have hO := close1 (e := .inl (g.2.1 2, 5, .inr (.inl f32))) hO km23 ⟨_, rfl⟩
                  have hO := close1 (e := .inl (g.2.1 2, 25, .inr (.inl f31))) hO km22 ⟨_, rfl⟩
                  have hO := close1 (e := .inl (g.2.1 2, 25, .inr (.inl f30))) hO km21 ⟨_, rfl⟩
                  have hO := close1 (e := .inr (9, [.ref am21, .ref am22, .ref am23, .ref am24, .ref am25, .int (nI 168), .int (nI ps22), .int (nI 31)])) hO kr21 ⟨_, _, _, _, _, _, _, _, rfl, km21, km22, km23, km24, km25, by omega, by omega, by omega⟩
                  have hO : okx g T xs ((r21, .inr (9, [.ref am21, .ref am22, .ref am23, .ref am24, .ref am25, .int (nI 168), .int (nI ps22), .int (nI 31)])) :: (am21, .inl (g.2.1 2, 25, .inr (.inl f30))) :: (am22, .inl (g.2.1 2, 25, .inr (.inl f31))) :: (am23, .inl (g.2.1 2, 5, .inr (.inl f32))) :: (am24, .inl (g.2.1 2, 24, .inr (.inl f24))) :: (am25, .inl (g.2.1 0, 25, .inl f25)) :: pl) := hO
                  have hP : va_P g.1 vcl ([] ++ ((r21, .inr (9, [.ref am21, .ref am22, .ref am23, .ref am24, .ref am25, .int (nI 168), .int (nI ps22), .int (nI 31)])) :: (am21, .inl (g.2.1 2, 25, .inr (.inl f30))) :: (am22, .inl (g.2.1 2, 25, .inr (.inl f31))) :: (am23, .inl (g.2.1 2, 5, .inr (.inl f32))) :: (am24, .inl (g.2.1 2, 24, .inr (.inl f24))) :: (am25, .inl (g.2.1 0, 25, .inl f25)) :: pl)) _ := hP
                  have hD : va_D _ ([] ++ ((r21, .inr (9, [.ref am21, .ref am22, .ref am23, .ref am24, .ref am25, .int (nI 168), .int (nI ps22), .int (nI 31)])) :: (am21, .inl (g.2.1 2, 25, .inr (.inl f30))) :: (am22, .inl (g.2.1 2, 25, .inr (.inl f31))) :: (am23, .inl (g.2.1 2, 5, .inr (.inl f32))) :: (am24, .inl (g.2.1 2, 24, .inr (.inl f24))) :: (am25, .inl (g.2.1 0, 25, .inl f25)) :: pl)) := hD
                  generalize ((r21, .inr (9, [.ref am21, .ref am22, .ref am23, .ref am24, .ref am25, .int (nI 168), .int (nI ps22), .int (nI 31)])) :: (am21, .inl (g.2.1 2, 25, .inr (.inl f30))) :: (am22, .inl (g.2.1 2, 25, .inr (.inl f31))) :: (am23, .inl (g.2.1 2, 5, .inr (.inl f32))) :: (am24, .inl (g.2.1 2, 24, .inr (.inl f24))) :: (am25, .inl (g.2.1 0, 25, .inl f25)) :: pl) = pl at hO hP hD
                  exact ih22 (i22 + 1) pl ls H locs (by omega) (lv_sub hl [0, 2, 3, 4] rfl) hO hP hD hS
                · refine lv_aload_n hx hb dMH_expand_77 rfl (lv_at hl 3 rfl) ?_
                  refine ty_get (ci := 12) (C := "LatticeKeysModel$Hands") (TT := T_MH) (N := 31) (kd := (48, 0)) hx hb hts (wg_ft i_MH) hown hK hO k_h0 (nxg (clo_cons (clo_cons (clo_cons (clo_cons (clo_cons (clo_cons hc0 kr21 (by decide)) km21 (by decide)) km22 (by decide)) km23 (by decide)) km24 (by decide)) km25 (by decide)) k_h0 rfl) hP (fun _ h9 => h9) rfl 0 (by decide) (hts _ (wg_t kw_1432)) (fun _ h9 => h9) (cd := (3, 20, 0)) rfl dMH_expand_78 (fun v30 hv30 => ?_)
                  obtain ⟨r26, rfl, kr26⟩ := (show ∃ r : Nat, v30 = .ref r ∧ T r = some (20, 0) from hv30)
                  obtain rfl : r21 = r26 := hU _ _ _ (by decide) kr21 kr26
                  refine mp_i (cx := [(r21, .inr (9, [.ref am21, .ref am22, .ref am23, .ref am24, .ref am25, .int (nI 168), .int (nI ps22), .int (nI 31)])), (am21, .inl (g.2.1 2, 25, .inr (.inl f30))), (am22, .inl (g.2.1 2, 25, .inr (.inl f31))), (am23, .inl (g.2.1 2, 5, .inr (.inl f32))), (am24, .inl (g.2.1 2, 24, .inr (.inl f24))), (am25, .inl (g.2.1 0, 25, .inl f25))]) (wr := []) hP hD hS hA [0, 1, 2, 3, 4, 5] [] rfl rfl rfl (by decide) (va_runV (As := []) (rest := []) F (x_MS_next l g _ T (am25 :: (am24 :: (am23 :: (am22 :: (am21 :: (r21 :: xs)))))) pl hO hU  r21 am21 am22 am23 am24 am25 168 ps22 (nI 31) f30 f31 f32 f24 f25 (by omega) (by omega)) (cwV 0 hts (wg_app (wg_c kw_1728 (wg_c kw_1642 (wg_c kw_1643 (wg_c kw_10 wg_n)))) kw_1644) rfl rfl rfl (by decide +kernel) ⟨by decide, by decide⟩) (pp_V (en_ok g) (q0 := 0) hK hP hD hS hA hE [0, 1, 2, 3, 4, 5] rfl rfl rfl rfl) rfl rfl hl.1 rfl (lv_room (Nat.le_of_ble_eq_true rfl)) dMH_expand_81 ⟨by omega, by omega⟩) (fun r27 u31 H locs hu26 hP hD hS => ?_)
                  obtain ⟨u32, pl⟩ := u31
                  obtain ⟨hq26, hO⟩ := hu26
                  obtain ⟨ps23, f33, f34, f35⟩ := u32
                  have hP : va_P g.1 vcl ([(r21, .inr (9, [.ref am21, .ref am22, .ref am23, .ref am24, .ref am25, .int (nI 168), .int (nI ps23), .int (nI 31)])), (am21, .inl (g.2.1 2, 25, .inr (.inl f33))), (am22, .inl (g.2.1 2, 25, .inr (.inl f34))), (am23, .inl (g.2.1 2, 5, .inr (.inl f35))), (am24, .inl (g.2.1 2, 24, .inr (.inl f24))), (am25, .inl (g.2.1 0, 25, .inl f25))] ++ pl) _ := hP
                  have hD : va_D _ ([(r21, .inr (9, [.ref am21, .ref am22, .ref am23, .ref am24, .ref am25, .int (nI 168), .int (nI ps23), .int (nI 31)])), (am21, .inl (g.2.1 2, 25, .inr (.inl f33))), (am22, .inl (g.2.1 2, 25, .inr (.inl f34))), (am23, .inl (g.2.1 2, 5, .inr (.inl f35))), (am24, .inl (g.2.1 2, 24, .inr (.inl f24))), (am25, .inl (g.2.1 0, 25, .inl f25))] ++ pl) := hD
                  obtain ⟨hn21, hl21, z21, hz21, rfl, h0z21⟩ := hq26
                  have hl21 : ps23 ≤ 168 := hl21
                  have hzzz21 : z21 = 0 := str_zero (q := 42) (hmP c21) hs hn21 (by omega) (by decide) (by decide) (hz 5 (by decide) (by decide)) (by decide) h0z21
                  have hs := str_next (by decide) hs hn21
                  refine W.widen (k := 0) (n := 0) (by omega) (by omega) ?_
                  refine lv_istore (lv' := [(5, .int (nI z21)), (4, .int (nI i23)), (3, .int (nI i22)), (2, .int (nI i21)), (0, .ref h0), (1, .ref b)]) hx hb dMH_expand_84 hl (by decide) rfl (fun ls hl => ?_)
                  refine lv_iload hx hb dMH_expand_86 (lv_at hl 0 rfl) ?_
                  refine lv_aload_n hx hb dMH_expand_88 rfl (lv_at hl 4 rfl) ?_
                  refine ty_get (ci := 12) (C := "LatticeKeysModel$Hands") (TT := T_MH) (N := 31) (kd := (48, 0)) hx hb hts (wg_ft i_MH) hown hK hO k_h0 (nxg (clo_cons (clo_cons (clo_cons (clo_cons (clo_cons (clo_cons hc0 kr21 (by decide)) km21 (by decide)) km22 (by decide)) km23 (by decide)) km24 (by decide)) km25 (by decide)) k_h0 rfl) hP (fun _ h9 => h9) rfl 0 (by decide) (hts _ (wg_t kw_1432)) (fun _ h9 => h9) (cd := (3, 20, 0)) rfl dMH_expand_89 (fun v31 hv31 => ?_)
                  obtain ⟨r28, rfl, kr27⟩ := (show ∃ r : Nat, v31 = .ref r ∧ T r = some (20, 0) from hv31)
                  obtain rfl : r21 = r28 := hU _ _ _ (by decide) kr21 kr27
                  refine mp_i (cx := [(r21, .inr (9, [.ref am21, .ref am22, .ref am23, .ref am24, .ref am25, .int (nI 168), .int (nI ps23), .int (nI 31)])), (am21, .inl (g.2.1 2, 25, .inr (.inl f33))), (am22, .inl (g.2.1 2, 25, .inr (.inl f34))), (am23, .inl (g.2.1 2, 5, .inr (.inl f35))), (am24, .inl (g.2.1 2, 24, .inr (.inl f24))), (am25, .inl (g.2.1 0, 25, .inl f25))]) (wr := []) hP hD hS hA [0, 1, 2, 3, 4, 5] [] rfl rfl rfl (by decide) (va_runV (As := []) (rest := [.int (nI z21)]) F (x_MS_next l g _ T (am25 :: (am24 :: (am23 :: (am22 :: (am21 :: (r21 :: xs)))))) pl hO hU  r21 am21 am22 am23 am24 am25 168 ps23 (nI 31) f33 f34 f35 f24 f25 (by omega) (by omega)) (cwV 0 hts (wg_app (wg_c kw_1728 (wg_c kw_1642 (wg_c kw_1643 (wg_c kw_10 wg_n)))) kw_1644) rfl rfl rfl (by decide +kernel) ⟨by decide, by decide⟩) (pp_V (en_ok g) (q0 := 0) hK hP hD hS hA hE [0, 1, 2, 3, 4, 5] rfl rfl rfl rfl) rfl rfl hl.1 rfl (lv_room (Nat.le_of_ble_eq_true rfl)) dMH_expand_92 ⟨by omega, by omega⟩) (fun r29 u33 H locs hu27 hP hD hS => ?_)
                  obtain ⟨u34, pl⟩ := u33
                  obtain ⟨hq27, hO⟩ := hu27
                  obtain ⟨ps24, f36, f37, f38⟩ := u34
                  have hP : va_P g.1 vcl ([(r21, .inr (9, [.ref am21, .ref am22, .ref am23, .ref am24, .ref am25, .int (nI 168), .int (nI ps24), .int (nI 31)])), (am21, .inl (g.2.1 2, 25, .inr (.inl f36))), (am22, .inl (g.2.1 2, 25, .inr (.inl f37))), (am23, .inl (g.2.1 2, 5, .inr (.inl f38))), (am24, .inl (g.2.1 2, 24, .inr (.inl f24))), (am25, .inl (g.2.1 0, 25, .inl f25))] ++ pl) _ := hP
                  have hD : va_D _ ([(r21, .inr (9, [.ref am21, .ref am22, .ref am23, .ref am24, .ref am25, .int (nI 168), .int (nI ps24), .int (nI 31)])), (am21, .inl (g.2.1 2, 25, .inr (.inl f36))), (am22, .inl (g.2.1 2, 25, .inr (.inl f37))), (am23, .inl (g.2.1 2, 5, .inr (.inl f38))), (am24, .inl (g.2.1 2, 24, .inr (.inl f24))), (am25, .inl (g.2.1 0, 25, .inl f25))] ++ pl) := hD
                  obtain ⟨hn22, hl22, z22, hz22, rfl, h0z22⟩ := hq27
                  have hl22 : ps24 ≤ 168 := hl22
                  have hzzz22 : z22 = 0 := str_zero (q := 43) (hmP c21) hs hn22 (by omega) (by decide) (by decide) (hz 5 (by decide) (by decide)) (by decide) h0z22
                  have hs := str_next (by decide) hs hn22
                  refine W.widen (k := 0) (n := 0) (by omega) (by omega) ?_
                  refine lv_bipush (v := nI 8) hx hb dMH_expand_95 (by decide) ?_
                  refine mi_ishl hx hb dMH_expand_97 (by omega) (by decide) ?_
                  refine mi_as (show nI (z22 * 2 ^ 8) = nI (z22 * 256) from rfl) ?_
                  refine mi_iadd hx hb dMH_expand_98 ?_
                  refine lv_istore (lv' := [(5, .int (nI (z21 + (z22 * 256)))), (4, .int (nI i23)), (3, .int (nI i22)), (2, .int (nI i21)), (0, .ref h0), (1, .ref b)]) hx hb dMH_expand_99 hl (by decide) rfl (fun ls hl => ?_)
                  refine lv_iload hx hb dMH_expand_101 (lv_at hl 0 rfl) ?_
                  refine lv_aload_n hx hb dMH_expand_103 rfl (lv_at hl 4 rfl) ?_
                  refine ty_get (ci := 12) (C := "LatticeKeysModel$Hands") (TT := T_MH) (N := 31) (kd := (48, 0)) hx hb hts (wg_ft i_MH) hown hK hO k_h0 (nxg (clo_cons (clo_cons (clo_cons (clo_cons (clo_cons (clo_cons hc0 kr21 (by decide)) km21 (by decide)) km22 (by decide)) km23 (by decide)) km24 (by decide)) km25 (by decide)) k_h0 rfl) hP (fun _ h9 => h9) rfl 0 (by decide) (hts _ (wg_t kw_1432)) (fun _ h9 => h9) (cd := (3, 20, 0)) rfl dMH_expand_104 (fun v32 hv32 => ?_)
                  obtain ⟨r30, rfl, kr28⟩ := (show ∃ r : Nat, v32 = .ref r ∧ T r = some (20, 0) from hv32)
                  obtain rfl : r21 = r30 := hU _ _ _ (by decide) kr21 kr28
                  refine mp_i (cx := [(r21, .inr (9, [.ref am21, .ref am22, .ref am23, .ref am24, .ref am25, .int (nI 168), .int (nI ps24), .int (nI 31)])), (am21, .inl (g.2.1 2, 25, .inr (.inl f36))), (am22, .inl (g.2.1 2, 25, .inr (.inl f37))), (am23, .inl (g.2.1 2, 5, .inr (.inl f38))), (am24, .inl (g.2.1 2, 24, .inr (.inl f24))), (am25, .inl (g.2.1 0, 25, .inl f25))]) (wr := []) hP hD hS hA [0, 1, 2, 3, 4, 5] [] rfl rfl rfl (by decide) (va_runV (As := []) (rest := [.int (nI (z21 + (z22 * 256)))]) F (x_MS_next l g _ T (am25 :: (am24 :: (am23 :: (am22 :: (am21 :: (r21 :: xs)))))) pl hO hU  r21 am21 am22 am23 am24 am25 168 ps24 (nI 31) f36 f37 f38 f24 f25 (by omega) (by omega)) (cwV 0 hts (wg_app (wg_c kw_1728 (wg_c kw_1642 (wg_c kw_1643 (wg_c kw_10 wg_n)))) kw_1644) rfl rfl rfl (by decide +kernel) ⟨by decide, by decide⟩) (pp_V (en_ok g) (q0 := 0) hK hP hD hS hA hE [0, 1, 2, 3, 4, 5] rfl rfl rfl rfl) rfl rfl hl.1 rfl (lv_room (Nat.le_of_ble_eq_true rfl)) dMH_expand_107 ⟨by omega, by omega⟩) (fun r31 u35 H locs hu28 hP hD hS => ?_)
                  obtain ⟨u36, pl⟩ := u35
                  obtain ⟨hq28, hO⟩ := hu28
                  obtain ⟨ps25, f39, f40, f41⟩ := u36
                  have hP : va_P g.1 vcl ([(r21, .inr (9, [.ref am21, .ref am22, .ref am23, .ref am24, .ref am25, .int (nI 168), .int (nI ps25), .int (nI 31)])), (am21, .inl (g.2.1 2, 25, .inr (.inl f39))), (am22, .inl (g.2.1 2, 25, .inr (.inl f40))), (am23, .inl (g.2.1 2, 5, .inr (.inl f41))), (am24, .inl (g.2.1 2, 24, .inr (.inl f24))), (am25, .inl (g.2.1 0, 25, .inl f25))] ++ pl) _ := hP
                  have hD : va_D _ ([(r21, .inr (9, [.ref am21, .ref am22, .ref am23, .ref am24, .ref am25, .int (nI 168), .int (nI ps25), .int (nI 31)])), (am21, .inl (g.2.1 2, 25, .inr (.inl f39))), (am22, .inl (g.2.1 2, 25, .inr (.inl f40))), (am23, .inl (g.2.1 2, 5, .inr (.inl f41))), (am24, .inl (g.2.1 2, 24, .inr (.inl f24))), (am25, .inl (g.2.1 0, 25, .inl f25))] ++ pl) := hD
                  obtain ⟨hn23, hl23, z23, hz23, rfl, h0z23⟩ := hq28
                  have hl23 : ps25 ≤ 168 := hl23
                  have hzzz23 : z23 = 0 := str_zero (q := 44) (hmP c21) hs hn23 (by omega) (by decide) (by decide) (hz 5 (by decide) (by decide)) (by decide) h0z23
                  have hs := str_next (by decide) hs hn23
                  refine W.widen (k := 0) (n := 0) (by omega) (by omega) ?_
                  refine lv_bipush (v := nI 127) hx hb dMH_expand_110 (by decide) ?_
                  refine mi_iandE hx hb 7 dMH_expand_112 (by decide) (fun z24 hz24 ez21 => ?_)
                  have hzzz24 : z24 = 0 := and_zero hzzz23 (by decide) hz24 ez21
                  have hz24 : z24 < 128 := hz24
                  refine lv_bipush (v := nI 16) hx hb dMH_expand_113 (by decide) ?_
                  refine mi_ishl hx hb dMH_expand_115 (by omega) (by decide) ?_
                  refine mi_as (show nI (z24 * 2 ^ 16) = nI (z24 * 65536) from rfl) ?_
                  refine mi_iadd hx hb dMH_expand_116 ?_
                  refine lv_istore (lv' := [(5, .int (nI ((z21 + (z22 * 256)) + (z24 * 65536)))), (4, .int (nI i23)), (3, .int (nI i22)), (2, .int (nI i21)), (0, .ref h0), (1, .ref b)]) hx hb dMH_expand_117 hl (by decide) rfl (fun ls hl => ?_)
                  refine lv_iload hx hb dMH_expand_119 (lv_at hl 0 rfl) ?_
                  refine lv_ldc (v := 8380417) hx hb hown (hts _ (wg_t kw_1429)) dMH_expand_121 ?_
                  refine mi_as (show (8380417 : Int32) = nI 8380417 by decide) ?_
                  refine mi_lt (tgt := 129) hx hb dMH_expand_123 (by decide) (by omega) (by omega) (fun h27 => ?_) (fun h27 => ?_)
                  · refine lv_aload_n hx hb dMH_expand_129 rfl (lv_at hl 4 rfl) ?_
                    refine ty_get (ci := 12) (C := "LatticeKeysModel$Hands") (TT := T_MH) (N := 31) (kd := (48, 0)) hx hb hts (wg_ft i_MH) hown hK hO k_h0 (nxg (clo_cons (clo_cons (clo_cons (clo_cons (clo_cons (clo_cons hc0 kr21 (by decide)) km21 (by decide)) km22 (by decide)) km23 (by decide)) km24 (by decide)) km25 (by decide)) k_h0 rfl) hP (fun _ h9 => h9) rfl 2 (by decide) (hts _ (wg_t kw_1434)) (fun _ h9 => h9) (cd := (3, 3, 64)) rfl dMH_expand_130 (fun v33 hv33 => ?_)
                    obtain ⟨r32, rfl, kr29⟩ := (show ∃ r : Nat, v33 = .ref r ∧ T r = some (3, 64) from hv33)
                    refine lv_bipush (v := nI 8) hx hb dMH_expand_133 (by decide) ?_
                    refine lv_iload_n hx hb dMH_expand_135 rfl (lv_at hl 3 rfl) ?_
                    refine mi_imul hx hb dMH_expand_136 ?_
                    refine lv_iload_n hx hb dMH_expand_137 rfl (lv_at hl 2 rfl) ?_
                    refine mi_iadd hx hb dMH_expand_138 ?_
                    refine ty_aald3 hx hb hK hO kr29 (nxg (clo_cons (clo_cons (clo_cons (clo_cons (clo_cons (clo_cons hc0 kr21 (by decide)) km21 (by decide)) km22 (by decide)) km23 (by decide)) km24 (by decide)) km25 (by decide)) kr29 rfl) hP (by omega) (by decide) dMH_expand_139 (fun r33 kr30 => ?_)
                    refine lv_iload hx hb dMH_expand_140 (lv_at hl 1 rfl) ?_
                    refine lv_iload hx hb dMH_expand_142 (lv_at hl 0 rfl) ?_
                    refine ty_iast hx hb hK hO kr30 (nxg (clo_cons (clo_cons (clo_cons (clo_cons (clo_cons (clo_cons hc0 kr21 (by decide)) km21 (by decide)) km22 (by decide)) km23 (by decide)) km24 (by decide)) km25 (by decide)) kr30 rfl) hP hD hS (vp_in_nI (by omega) (by decide)) dMH_expand_144 (fun pl H locs hO hP hD hS => ?_)
                    refine mi_iinc (k := 1) (x := i23) (d := 1) (y := i23 + 1) (lv' := [(4, .int (nI (i23 + 1))), (5, .int (nI ((z21 + (z22 * 256)) + (z24 * 65536)))), (3, .int (nI i22)), (2, .int (nI i21)), (0, .ref h0), (1, .ref b)]) hx hb dMH_expand_145 hl rfl (by decide) rfl (by decide) rfl (fun ls hl => ?_)
                    refine lv_goto (tgt := 69) hx hb dMH_expand_148 (by decide) ?_
                    have hcm := cm_succ (c := c21) (m := mB) (k := 168)
                    exact ihq21 (mB * 56 - 1) (c21 + 1) (t21 + 1 + 1 + 1) (i23 + 1) ps25 f39 f40 f41 pl ls H locs (by omega) (by omega) (by omega) hs (lv_sub hl [0, 2, 3, 4, 5] rfl) hO hP hD hS
                  · refine lv_goto (tgt := 69) hx hb dMH_expand_126 (by decide) ?_
                    exfalso
                    omega
              | succ d21 ihd21 =>
                intro c21 t21 i23 ps22 f30 f31 f32 pl ls H locs hi21 hi22 hd21 hs hl hO hP hD hS
                have hsl := str_le hs
                refine lv_iload hx hb dMH_expand_69 (lv_at hl 0 rfl) ?_
                refine lv_sipush (v := nI 256) hx hb dMH_expand_71 (by decide) ?_
                refine mi_ge (tgt := 151) hx hb dMH_expand_74 (by decide) (by omega) (by omega) (fun h28 => ?_) (fun h28 => ?_)
                · refine mi_iinc (k := 1) (x := i22) (d := 1) (y := i22 + 1) (lv' := [(3, .int (nI (i22 + 1))), (4, .int (nI i23)), (2, .int (nI i21)), (0, .ref h0), (1, .ref b)]) hx hb dMH_expand_151 hl rfl (by decide) rfl (by decide) rfl (fun ls hl => ?_)
                  refine lv_goto (tgt := 12) hx hb dMH_expand_154 (by decide) ?_
                  have hO := close1 (e := .inl (g.2.1 0, 25, .inl f25)) hO km25 ⟨_, rfl⟩
                  have hO := close1 (e := .inl (g.2.1 2, 24, .inr (.inl f24))) hO km24 ⟨_, rfl⟩
                  have hO := close1 (e := .inl (g.2.1 2, 5, .inr (.inl f32))) hO km23 ⟨_, rfl⟩
                  have hO := close1 (e := .inl (g.2.1 2, 25, .inr (.inl f31))) hO km22 ⟨_, rfl⟩
                  have hO := close1 (e := .inl (g.2.1 2, 25, .inr (.inl f30))) hO km21 ⟨_, rfl⟩
                  have hO := close1 (e := .inr (9, [.ref am21, .ref am22, .ref am23, .ref am24, .ref am25, .int (nI 168), .int (nI ps22), .int (nI 31)])) hO kr21 ⟨_, _, _, _, _, _, _, _, rfl, km21, km22, km23, km24, km25, by omega, by omega, by omega⟩
                  have hO : okx g T xs ((r21, .inr (9, [.ref am21, .ref am22, .ref am23, .ref am24, .ref am25, .int (nI 168), .int (nI ps22), .int (nI 31)])) :: (am21, .inl (g.2.1 2, 25, .inr (.inl f30))) :: (am22, .inl (g.2.1 2, 25, .inr (.inl f31))) :: (am23, .inl (g.2.1 2, 5, .inr (.inl f32))) :: (am24, .inl (g.2.1 2, 24, .inr (.inl f24))) :: (am25, .inl (g.2.1 0, 25, .inl f25)) :: pl) := hO
                  have hP : va_P g.1 vcl ([] ++ ((r21, .inr (9, [.ref am21, .ref am22, .ref am23, .ref am24, .ref am25, .int (nI 168), .int (nI ps22), .int (nI 31)])) :: (am21, .inl (g.2.1 2, 25, .inr (.inl f30))) :: (am22, .inl (g.2.1 2, 25, .inr (.inl f31))) :: (am23, .inl (g.2.1 2, 5, .inr (.inl f32))) :: (am24, .inl (g.2.1 2, 24, .inr (.inl f24))) :: (am25, .inl (g.2.1 0, 25, .inl f25)) :: pl)) _ := hP
                  have hD : va_D _ ([] ++ ((r21, .inr (9, [.ref am21, .ref am22, .ref am23, .ref am24, .ref am25, .int (nI 168), .int (nI ps22), .int (nI 31)])) :: (am21, .inl (g.2.1 2, 25, .inr (.inl f30))) :: (am22, .inl (g.2.1 2, 25, .inr (.inl f31))) :: (am23, .inl (g.2.1 2, 5, .inr (.inl f32))) :: (am24, .inl (g.2.1 2, 24, .inr (.inl f24))) :: (am25, .inl (g.2.1 0, 25, .inl f25)) :: pl)) := hD
                  generalize ((r21, .inr (9, [.ref am21, .ref am22, .ref am23, .ref am24, .ref am25, .int (nI 168), .int (nI ps22), .int (nI 31)])) :: (am21, .inl (g.2.1 2, 25, .inr (.inl f30))) :: (am22, .inl (g.2.1 2, 25, .inr (.inl f31))) :: (am23, .inl (g.2.1 2, 5, .inr (.inl f32))) :: (am24, .inl (g.2.1 2, 24, .inr (.inl f24))) :: (am25, .inl (g.2.1 0, 25, .inl f25)) :: pl) = pl at hO hP hD
                  exact ih22 (i22 + 1) pl ls H locs (by omega) (lv_sub hl [0, 2, 3, 4] rfl) hO hP hD hS
                · refine lv_aload_n hx hb dMH_expand_77 rfl (lv_at hl 3 rfl) ?_
                  refine ty_get (ci := 12) (C := "LatticeKeysModel$Hands") (TT := T_MH) (N := 31) (kd := (48, 0)) hx hb hts (wg_ft i_MH) hown hK hO k_h0 (nxg (clo_cons (clo_cons (clo_cons (clo_cons (clo_cons (clo_cons hc0 kr21 (by decide)) km21 (by decide)) km22 (by decide)) km23 (by decide)) km24 (by decide)) km25 (by decide)) k_h0 rfl) hP (fun _ h9 => h9) rfl 0 (by decide) (hts _ (wg_t kw_1432)) (fun _ h9 => h9) (cd := (3, 20, 0)) rfl dMH_expand_78 (fun v34 hv34 => ?_)
                  obtain ⟨r34, rfl, kr31⟩ := (show ∃ r : Nat, v34 = .ref r ∧ T r = some (20, 0) from hv34)
                  obtain rfl : r21 = r34 := hU _ _ _ (by decide) kr21 kr31
                  refine mp_i (cx := [(r21, .inr (9, [.ref am21, .ref am22, .ref am23, .ref am24, .ref am25, .int (nI 168), .int (nI ps22), .int (nI 31)])), (am21, .inl (g.2.1 2, 25, .inr (.inl f30))), (am22, .inl (g.2.1 2, 25, .inr (.inl f31))), (am23, .inl (g.2.1 2, 5, .inr (.inl f32))), (am24, .inl (g.2.1 2, 24, .inr (.inl f24))), (am25, .inl (g.2.1 0, 25, .inl f25))]) (wr := []) hP hD hS hA [0, 1, 2, 3, 4, 5] [] rfl rfl rfl (by decide) (va_runV (As := []) (rest := []) F (x_MS_next l g _ T (am25 :: (am24 :: (am23 :: (am22 :: (am21 :: (r21 :: xs)))))) pl hO hU  r21 am21 am22 am23 am24 am25 168 ps22 (nI 31) f30 f31 f32 f24 f25 (by omega) (by omega)) (cwV 0 hts (wg_app (wg_c kw_1728 (wg_c kw_1642 (wg_c kw_1643 (wg_c kw_10 wg_n)))) kw_1644) rfl rfl rfl (by decide +kernel) ⟨by decide, by decide⟩) (pp_V (en_ok g) (q0 := 0) hK hP hD hS hA hE [0, 1, 2, 3, 4, 5] rfl rfl rfl rfl) rfl rfl hl.1 rfl (lv_room (Nat.le_of_ble_eq_true rfl)) dMH_expand_81 ⟨by omega, by omega⟩) (fun r35 u37 H locs hu29 hP hD hS => ?_)
                  obtain ⟨u38, pl⟩ := u37
                  obtain ⟨hq29, hO⟩ := hu29
                  obtain ⟨ps26, f42, f43, f44⟩ := u38
                  have hP : va_P g.1 vcl ([(r21, .inr (9, [.ref am21, .ref am22, .ref am23, .ref am24, .ref am25, .int (nI 168), .int (nI ps26), .int (nI 31)])), (am21, .inl (g.2.1 2, 25, .inr (.inl f42))), (am22, .inl (g.2.1 2, 25, .inr (.inl f43))), (am23, .inl (g.2.1 2, 5, .inr (.inl f44))), (am24, .inl (g.2.1 2, 24, .inr (.inl f24))), (am25, .inl (g.2.1 0, 25, .inl f25))] ++ pl) _ := hP
                  have hD : va_D _ ([(r21, .inr (9, [.ref am21, .ref am22, .ref am23, .ref am24, .ref am25, .int (nI 168), .int (nI ps26), .int (nI 31)])), (am21, .inl (g.2.1 2, 25, .inr (.inl f42))), (am22, .inl (g.2.1 2, 25, .inr (.inl f43))), (am23, .inl (g.2.1 2, 5, .inr (.inl f44))), (am24, .inl (g.2.1 2, 24, .inr (.inl f24))), (am25, .inl (g.2.1 0, 25, .inl f25))] ++ pl) := hD
                  obtain ⟨hn24, hl24, z25, hz25, rfl, h0z24⟩ := hq29
                  have hl24 : ps26 ≤ 168 := hl24
                  have hs := str_next (by decide) hs hn24
                  refine W.widen (k := 0) (n := 0) (by omega) (by omega) ?_
                  refine lv_istore (lv' := [(5, .int (nI z25)), (4, .int (nI i23)), (3, .int (nI i22)), (2, .int (nI i21)), (0, .ref h0), (1, .ref b)]) hx hb dMH_expand_84 hl (by decide) rfl (fun ls hl => ?_)
                  refine lv_iload hx hb dMH_expand_86 (lv_at hl 0 rfl) ?_
                  refine lv_aload_n hx hb dMH_expand_88 rfl (lv_at hl 4 rfl) ?_
                  refine ty_get (ci := 12) (C := "LatticeKeysModel$Hands") (TT := T_MH) (N := 31) (kd := (48, 0)) hx hb hts (wg_ft i_MH) hown hK hO k_h0 (nxg (clo_cons (clo_cons (clo_cons (clo_cons (clo_cons (clo_cons hc0 kr21 (by decide)) km21 (by decide)) km22 (by decide)) km23 (by decide)) km24 (by decide)) km25 (by decide)) k_h0 rfl) hP (fun _ h9 => h9) rfl 0 (by decide) (hts _ (wg_t kw_1432)) (fun _ h9 => h9) (cd := (3, 20, 0)) rfl dMH_expand_89 (fun v35 hv35 => ?_)
                  obtain ⟨r36, rfl, kr32⟩ := (show ∃ r : Nat, v35 = .ref r ∧ T r = some (20, 0) from hv35)
                  obtain rfl : r21 = r36 := hU _ _ _ (by decide) kr21 kr32
                  refine mp_i (cx := [(r21, .inr (9, [.ref am21, .ref am22, .ref am23, .ref am24, .ref am25, .int (nI 168), .int (nI ps26), .int (nI 31)])), (am21, .inl (g.2.1 2, 25, .inr (.inl f42))), (am22, .inl (g.2.1 2, 25, .inr (.inl f43))), (am23, .inl (g.2.1 2, 5, .inr (.inl f44))), (am24, .inl (g.2.1 2, 24, .inr (.inl f24))), (am25, .inl (g.2.1 0, 25, .inl f25))]) (wr := []) hP hD hS hA [0, 1, 2, 3, 4, 5] [] rfl rfl rfl (by decide) (va_runV (As := []) (rest := [.int (nI z25)]) F (x_MS_next l g _ T (am25 :: (am24 :: (am23 :: (am22 :: (am21 :: (r21 :: xs)))))) pl hO hU  r21 am21 am22 am23 am24 am25 168 ps26 (nI 31) f42 f43 f44 f24 f25 (by omega) (by omega)) (cwV 0 hts (wg_app (wg_c kw_1728 (wg_c kw_1642 (wg_c kw_1643 (wg_c kw_10 wg_n)))) kw_1644) rfl rfl rfl (by decide +kernel) ⟨by decide, by decide⟩) (pp_V (en_ok g) (q0 := 0) hK hP hD hS hA hE [0, 1, 2, 3, 4, 5] rfl rfl rfl rfl) rfl rfl hl.1 rfl (lv_room (Nat.le_of_ble_eq_true rfl)) dMH_expand_92 ⟨by omega, by omega⟩) (fun r37 u39 H locs hu30 hP hD hS => ?_)
                  obtain ⟨u40, pl⟩ := u39
                  obtain ⟨hq30, hO⟩ := hu30
                  obtain ⟨ps27, f45, f46, f47⟩ := u40
                  have hP : va_P g.1 vcl ([(r21, .inr (9, [.ref am21, .ref am22, .ref am23, .ref am24, .ref am25, .int (nI 168), .int (nI ps27), .int (nI 31)])), (am21, .inl (g.2.1 2, 25, .inr (.inl f45))), (am22, .inl (g.2.1 2, 25, .inr (.inl f46))), (am23, .inl (g.2.1 2, 5, .inr (.inl f47))), (am24, .inl (g.2.1 2, 24, .inr (.inl f24))), (am25, .inl (g.2.1 0, 25, .inl f25))] ++ pl) _ := hP
                  have hD : va_D _ ([(r21, .inr (9, [.ref am21, .ref am22, .ref am23, .ref am24, .ref am25, .int (nI 168), .int (nI ps27), .int (nI 31)])), (am21, .inl (g.2.1 2, 25, .inr (.inl f45))), (am22, .inl (g.2.1 2, 25, .inr (.inl f46))), (am23, .inl (g.2.1 2, 5, .inr (.inl f47))), (am24, .inl (g.2.1 2, 24, .inr (.inl f24))), (am25, .inl (g.2.1 0, 25, .inl f25))] ++ pl) := hD
                  obtain ⟨hn25, hl25, z26, hz26, rfl, h0z25⟩ := hq30
                  have hl25 : ps27 ≤ 168 := hl25
                  have hs := str_next (by decide) hs hn25
                  refine W.widen (k := 0) (n := 0) (by omega) (by omega) ?_
                  refine lv_bipush (v := nI 8) hx hb dMH_expand_95 (by decide) ?_
                  refine mi_ishl hx hb dMH_expand_97 (by omega) (by decide) ?_
                  refine mi_as (show nI (z26 * 2 ^ 8) = nI (z26 * 256) from rfl) ?_
                  refine mi_iadd hx hb dMH_expand_98 ?_
                  refine lv_istore (lv' := [(5, .int (nI (z25 + (z26 * 256)))), (4, .int (nI i23)), (3, .int (nI i22)), (2, .int (nI i21)), (0, .ref h0), (1, .ref b)]) hx hb dMH_expand_99 hl (by decide) rfl (fun ls hl => ?_)
                  refine lv_iload hx hb dMH_expand_101 (lv_at hl 0 rfl) ?_
                  refine lv_aload_n hx hb dMH_expand_103 rfl (lv_at hl 4 rfl) ?_
                  refine ty_get (ci := 12) (C := "LatticeKeysModel$Hands") (TT := T_MH) (N := 31) (kd := (48, 0)) hx hb hts (wg_ft i_MH) hown hK hO k_h0 (nxg (clo_cons (clo_cons (clo_cons (clo_cons (clo_cons (clo_cons hc0 kr21 (by decide)) km21 (by decide)) km22 (by decide)) km23 (by decide)) km24 (by decide)) km25 (by decide)) k_h0 rfl) hP (fun _ h9 => h9) rfl 0 (by decide) (hts _ (wg_t kw_1432)) (fun _ h9 => h9) (cd := (3, 20, 0)) rfl dMH_expand_104 (fun v36 hv36 => ?_)
                  obtain ⟨r38, rfl, kr33⟩ := (show ∃ r : Nat, v36 = .ref r ∧ T r = some (20, 0) from hv36)
                  obtain rfl : r21 = r38 := hU _ _ _ (by decide) kr21 kr33
                  refine mp_i (cx := [(r21, .inr (9, [.ref am21, .ref am22, .ref am23, .ref am24, .ref am25, .int (nI 168), .int (nI ps27), .int (nI 31)])), (am21, .inl (g.2.1 2, 25, .inr (.inl f45))), (am22, .inl (g.2.1 2, 25, .inr (.inl f46))), (am23, .inl (g.2.1 2, 5, .inr (.inl f47))), (am24, .inl (g.2.1 2, 24, .inr (.inl f24))), (am25, .inl (g.2.1 0, 25, .inl f25))]) (wr := []) hP hD hS hA [0, 1, 2, 3, 4, 5] [] rfl rfl rfl (by decide) (va_runV (As := []) (rest := [.int (nI (z25 + (z26 * 256)))]) F (x_MS_next l g _ T (am25 :: (am24 :: (am23 :: (am22 :: (am21 :: (r21 :: xs)))))) pl hO hU  r21 am21 am22 am23 am24 am25 168 ps27 (nI 31) f45 f46 f47 f24 f25 (by omega) (by omega)) (cwV 0 hts (wg_app (wg_c kw_1728 (wg_c kw_1642 (wg_c kw_1643 (wg_c kw_10 wg_n)))) kw_1644) rfl rfl rfl (by decide +kernel) ⟨by decide, by decide⟩) (pp_V (en_ok g) (q0 := 0) hK hP hD hS hA hE [0, 1, 2, 3, 4, 5] rfl rfl rfl rfl) rfl rfl hl.1 rfl (lv_room (Nat.le_of_ble_eq_true rfl)) dMH_expand_107 ⟨by omega, by omega⟩) (fun r39 u41 H locs hu31 hP hD hS => ?_)
                  obtain ⟨u42, pl⟩ := u41
                  obtain ⟨hq31, hO⟩ := hu31
                  obtain ⟨ps28, f48, f49, f50⟩ := u42
                  have hP : va_P g.1 vcl ([(r21, .inr (9, [.ref am21, .ref am22, .ref am23, .ref am24, .ref am25, .int (nI 168), .int (nI ps28), .int (nI 31)])), (am21, .inl (g.2.1 2, 25, .inr (.inl f48))), (am22, .inl (g.2.1 2, 25, .inr (.inl f49))), (am23, .inl (g.2.1 2, 5, .inr (.inl f50))), (am24, .inl (g.2.1 2, 24, .inr (.inl f24))), (am25, .inl (g.2.1 0, 25, .inl f25))] ++ pl) _ := hP
                  have hD : va_D _ ([(r21, .inr (9, [.ref am21, .ref am22, .ref am23, .ref am24, .ref am25, .int (nI 168), .int (nI ps28), .int (nI 31)])), (am21, .inl (g.2.1 2, 25, .inr (.inl f48))), (am22, .inl (g.2.1 2, 25, .inr (.inl f49))), (am23, .inl (g.2.1 2, 5, .inr (.inl f50))), (am24, .inl (g.2.1 2, 24, .inr (.inl f24))), (am25, .inl (g.2.1 0, 25, .inl f25))] ++ pl) := hD
                  obtain ⟨hn26, hl26, z27, hz27, rfl, h0z26⟩ := hq31
                  have hl26 : ps28 ≤ 168 := hl26
                  have hs := str_next (by decide) hs hn26
                  refine W.widen (k := 0) (n := 0) (by omega) (by omega) ?_
                  refine lv_bipush (v := nI 127) hx hb dMH_expand_110 (by decide) ?_
                  refine mi_iandE hx hb 7 dMH_expand_112 (by decide) (fun z28 hz28 ez22 => ?_)
                  have hz28 : z28 < 128 := hz28
                  refine lv_bipush (v := nI 16) hx hb dMH_expand_113 (by decide) ?_
                  refine mi_ishl hx hb dMH_expand_115 (by omega) (by decide) ?_
                  refine mi_as (show nI (z28 * 2 ^ 16) = nI (z28 * 65536) from rfl) ?_
                  refine mi_iadd hx hb dMH_expand_116 ?_
                  refine lv_istore (lv' := [(5, .int (nI ((z25 + (z26 * 256)) + (z28 * 65536)))), (4, .int (nI i23)), (3, .int (nI i22)), (2, .int (nI i21)), (0, .ref h0), (1, .ref b)]) hx hb dMH_expand_117 hl (by decide) rfl (fun ls hl => ?_)
                  refine lv_iload hx hb dMH_expand_119 (lv_at hl 0 rfl) ?_
                  refine lv_ldc (v := 8380417) hx hb hown (hts _ (wg_t kw_1429)) dMH_expand_121 ?_
                  refine mi_as (show (8380417 : Int32) = nI 8380417 by decide) ?_
                  refine mi_lt (tgt := 129) hx hb dMH_expand_123 (by decide) (by omega) (by omega) (fun h29 => ?_) (fun h29 => ?_)
                  · refine lv_aload_n hx hb dMH_expand_129 rfl (lv_at hl 4 rfl) ?_
                    refine ty_get (ci := 12) (C := "LatticeKeysModel$Hands") (TT := T_MH) (N := 31) (kd := (48, 0)) hx hb hts (wg_ft i_MH) hown hK hO k_h0 (nxg (clo_cons (clo_cons (clo_cons (clo_cons (clo_cons (clo_cons hc0 kr21 (by decide)) km21 (by decide)) km22 (by decide)) km23 (by decide)) km24 (by decide)) km25 (by decide)) k_h0 rfl) hP (fun _ h9 => h9) rfl 2 (by decide) (hts _ (wg_t kw_1434)) (fun _ h9 => h9) (cd := (3, 3, 64)) rfl dMH_expand_130 (fun v37 hv37 => ?_)
                    obtain ⟨r40, rfl, kr34⟩ := (show ∃ r : Nat, v37 = .ref r ∧ T r = some (3, 64) from hv37)
                    refine lv_bipush (v := nI 8) hx hb dMH_expand_133 (by decide) ?_
                    refine lv_iload_n hx hb dMH_expand_135 rfl (lv_at hl 3 rfl) ?_
                    refine mi_imul hx hb dMH_expand_136 ?_
                    refine lv_iload_n hx hb dMH_expand_137 rfl (lv_at hl 2 rfl) ?_
                    refine mi_iadd hx hb dMH_expand_138 ?_
                    refine ty_aald3 hx hb hK hO kr34 (nxg (clo_cons (clo_cons (clo_cons (clo_cons (clo_cons (clo_cons hc0 kr21 (by decide)) km21 (by decide)) km22 (by decide)) km23 (by decide)) km24 (by decide)) km25 (by decide)) kr34 rfl) hP (by omega) (by decide) dMH_expand_139 (fun r41 kr35 => ?_)
                    refine lv_iload hx hb dMH_expand_140 (lv_at hl 1 rfl) ?_
                    refine lv_iload hx hb dMH_expand_142 (lv_at hl 0 rfl) ?_
                    refine ty_iast hx hb hK hO kr35 (nxg (clo_cons (clo_cons (clo_cons (clo_cons (clo_cons (clo_cons hc0 kr21 (by decide)) km21 (by decide)) km22 (by decide)) km23 (by decide)) km24 (by decide)) km25 (by decide)) kr35 rfl) hP hD hS (vp_in_nI (by omega) (by decide)) dMH_expand_144 (fun pl H locs hO hP hD hS => ?_)
                    refine mi_iinc (k := 1) (x := i23) (d := 1) (y := i23 + 1) (lv' := [(4, .int (nI (i23 + 1))), (5, .int (nI ((z25 + (z26 * 256)) + (z28 * 65536)))), (3, .int (nI i22)), (2, .int (nI i21)), (0, .ref h0), (1, .ref b)]) hx hb dMH_expand_145 hl rfl (by decide) rfl (by decide) rfl (fun ls hl => ?_)
                    refine lv_goto (tgt := 69) hx hb dMH_expand_148 (by decide) ?_
                    exact ihq21 d21 c21 (t21 + 1 + 1 + 1) (i23 + 1) ps28 f48 f49 f50 pl ls H locs (by omega) (by omega) (by omega) hs (lv_sub hl [0, 2, 3, 4, 5] rfl) hO hP hD hS
                  · refine lv_goto (tgt := 69) hx hb dMH_expand_126 (by decide) ?_
                    exact ihd21 c21 (t21 + 1 + 1 + 1) i23 ps28 f48 f49 f50 pl ls H locs (by omega) (by omega) (by omega) hs (lv_sub hl [1, 2, 3, 4, 5] rfl) hO hP hD hS
          have htg := tgt_le (m := mB) (t := 168) (rt := 168) (p := 42) hm0 (by decide)
          exact lp23 256 (((168 + 1) * mB * 168 + 42 - (168)) / 3) (168 + 1) (168) 0 0 f26 f27 f28 pl ls _ _ (by omega) (by omega) (by omega) hs (lv_sub hl [0, 1, 2, 3, 4] rfl) hO hP hD hS
      exact lp22 7 0 pl ls _ _ (by omega) (lv_sub hl [0, 1, 2, 3] rfl) hO hP hD hS
  exact lp21 8 0 pl ls _ _ (by omega) (lv_sub hl [0, 1, 2] rfl) hO hP hD hS
set_option maxHeartbeats 400000 in
set_option maxRecDepth 100000 in
theorem t_MH_small_0 (l : Launch) (g : Gd) (sz : Nat) (T : Ty) (xs : List Nat) (pl : va_W) (hO : okx g T xs pl) (hU : uni T) (hc0 : clo T xs 0) (hc9 : clo T xs 9) (h0 f b n at_ : Nat) (wh : Int32) (k_h0 : T h0 = some (46, 0)) (k_f : T f = some (0, 256)) (k_b : T b = some (1, n)) (h1 : at_ + 64 ≤ n) (h2 : n < 65536)  : Met l y_MH_small w_MH_small ({ frames := 3, cells := 0, slots := 0, locals := 67 } : Room) (va_Pc [.ref h0, .ref f, .ref b, .int (nI at_), .int wh] (pr (en g) g.1 vcl sz ([] ++ pl))) (va_Qv (fun (u : va_W) => (True) ∧ okx g T xs u) (po g.1 vcl (va_A ([] ++ pl) sz) (fun (u : va_W) => [] ++ u)) (va_A ([] ++ pl) sz)) 0 0 (va_A ([] ++ pl) sz) := by
  refine mc_entry (cc := c_MH_small) (maxL := 9) (ret := none) (by decide) rfl (Nat.le_of_ble_eq_true rfl) ?_
  intro p e s m args below meth c ls F hr hlk hnm hsz hP hD hE hA hl
  obtain ⟨hx, hb, hml, hown, hts⟩ := id F
  have hK := hE.1
  generalize va_A ([] ++ pl) sz = A at hD hE hA ⊢
  have hS : va_S A s.heap s.heap [] := va_S.rf
  have hl : lv_has ls 9 [(0, .ref h0), (1, .ref f), (2, .ref b), (3, .int (nI at_)), (4, .int wh)] := hl
  refine lv_aload_n hx hb dMH_small_0 rfl (lv_at hl 0 rfl) ?_
  refine ty_get (ci := 12) (C := "LatticeKeysModel$Hands") (TT := T_MH) (N := 31) (kd := (46, 0)) hx hb hts (wg_ft i_MH) hown hK hO k_h0 (nxg hc0 k_h0 rfl) hP (fun _ h9 => h9) rfl 0 (by decide) (hts _ (wg_t kw_1432)) (fun _ h9 => h9) (cd := (3, 20, 0)) rfl dMH_small_1 (fun v21 hv21 => ?_)
  obtain ⟨r21, rfl, kr21⟩ := (show ∃ r : Nat, v21 = .ref r ∧ T r = some (20, 0) from hv21)
  obtain ⟨e21, pl, hP, hD, hk21, hO⟩ := open1 hP hD hO kr21 (nxg hc9 kr21 rfl)
  obtain ⟨am21, am22, am23, am24, am25, rt21, ps21, x21, rfl, km21, km22, km23, km24, km25, hr21, hr22, hr23⟩ := hk21
  obtain ⟨e22, pl, hP, hD, hk22, hO⟩ := open1 hP hD hO km21 (nmc (knd_ne km21 kr21 (by decide)) (nxg hc9 km21 rfl))
  obtain ⟨f21, rfl⟩ := hk22
  obtain ⟨e23, pl, hP, hD, hk23, hO⟩ := open1 hP hD hO km22 (nmc (knd_ne km22 km21 (by decide)) (nmc (knd_ne km22 kr21 (by decide)) (nxg hc9 km22 rfl)))
  obtain ⟨f22, rfl⟩ := hk23
  obtain ⟨e24, pl, hP, hD, hk24, hO⟩ := open1 hP hD hO km23 (nmc (knd_ne km23 km22 (by decide)) (nmc (knd_ne km23 km21 (by decide)) (nmc (knd_ne km23 kr21 (by decide)) (nxg hc9 km23 rfl))))
  obtain ⟨f23, rfl⟩ := hk24
  obtain ⟨e25, pl, hP, hD, hk25, hO⟩ := open1 hP hD hO km24 (nmc (knd_ne km24 km23 (by decide)) (nmc (knd_ne km24 km22 (by decide)) (nmc (knd_ne km24 km21 (by decide)) (nmc (knd_ne km24 kr21 (by decide)) (nxg hc9 km24 rfl)))))
  obtain ⟨f24, rfl⟩ := hk25
  obtain ⟨e26, pl, hP, hD, hk26, hO⟩ := open1 hP hD hO km25 (nmc (knd_ne km25 km24 (by decide)) (nmc (knd_ne km25 km23 (by decide)) (nmc (knd_ne km25 km22 (by decide)) (nmc (knd_ne km25 km21 (by decide)) (nmc (knd_ne km25 kr21 (by decide)) (nxg hc9 km25 rfl))))))
  obtain ⟨f25, rfl⟩ := hk26
  have hP : va_P g.1 vcl ([(r21, .inr (9, [.ref am21, .ref am22, .ref am23, .ref am24, .ref am25, .int (nI rt21), .int (nI ps21), .int x21])), (am21, .inl (g.2.1 2, 25, .inr (.inl f21))), (am22, .inl (g.2.1 2, 25, .inr (.inl f22))), (am23, .inl (g.2.1 2, 5, .inr (.inl f23))), (am24, .inl (g.2.1 2, 24, .inr (.inl f24))), (am25, .inl (g.2.1 0, 25, .inl f25))] ++ pl) _ := hP
  have hD : va_D _ ([(r21, .inr (9, [.ref am21, .ref am22, .ref am23, .ref am24, .ref am25, .int (nI rt21), .int (nI ps21), .int x21])), (am21, .inl (g.2.1 2, 25, .inr (.inl f21))), (am22, .inl (g.2.1 2, 25, .inr (.inl f22))), (am23, .inl (g.2.1 2, 5, .inr (.inl f23))), (am24, .inl (g.2.1 2, 24, .inr (.inl f24))), (am25, .inl (g.2.1 0, 25, .inl f25))] ++ pl) := hD
  refine mp_v (cx := [(r21, .inr (9, [.ref am21, .ref am22, .ref am23, .ref am24, .ref am25, .int (nI rt21), .int (nI ps21), .int x21])), (am21, .inl (g.2.1 2, 25, .inr (.inl f21))), (am22, .inl (g.2.1 2, 25, .inr (.inl f22))), (am23, .inl (g.2.1 2, 5, .inr (.inl f23))), (am24, .inl (g.2.1 2, 24, .inr (.inl f24))), (am25, .inl (g.2.1 0, 25, .inl f25))]) (wr := []) hP hD hS hA [0, 1, 2, 3, 4, 5] [] rfl rfl rfl (by decide) (va_runV (As := []) (rest := []) F (x_MS_shake l g _ T (am25 :: (am24 :: (am23 :: (am22 :: (am21 :: (r21 :: xs)))))) pl hO hU  r21 am21 am22 am23 am24 am25 rt21 ps21 x21 f21 f22 f23 f24 f25) (cwV 0 hts (wg_app (wg_c kw_1718 (wg_c kw_1661 (wg_c kw_1662 (wg_c kw_10 wg_n)))) kw_1663) rfl rfl rfl (by decide +kernel) ⟨by decide, by decide⟩) (pp_V (en_ok g) (q0 := 0) hK hP hD hS hA hE [0, 1, 2, 3, 4, 5] rfl rfl rfl rfl) rfl rfl hl.1 rfl (lv_room (Nat.le_of_ble_eq_true rfl)) dMH_small_4 ⟨by omega, by omega⟩) (fun  u21 H locs hu21 hP hD hS => ?_)
  obtain ⟨u22, pl⟩ := u21
  obtain ⟨hq21, hO⟩ := hu21
  have hP : va_P g.1 vcl ([(r21, .inr (9, [.ref am21, .ref am22, .ref am23, .ref am24, .ref am25, .int (nI 136), .int (nI 0), .int (nI 31)])), (am21, .inl (g.2.1 2, 25, .inr (.inl u22))), (am22, .inl (g.2.1 2, 25, .inr (.inl f22))), (am23, .inl (g.2.1 2, 5, .inr (.inl f23))), (am24, .inl (g.2.1 2, 24, .inr (.inl f24))), (am25, .inl (g.2.1 0, 25, .inl f25))] ++ pl) _ := hP
  have hD : va_D _ ([(r21, .inr (9, [.ref am21, .ref am22, .ref am23, .ref am24, .ref am25, .int (nI 136), .int (nI 0), .int (nI 31)])), (am21, .inl (g.2.1 2, 25, .inr (.inl u22))), (am22, .inl (g.2.1 2, 25, .inr (.inl f22))), (am23, .inl (g.2.1 2, 5, .inr (.inl f23))), (am24, .inl (g.2.1 2, 24, .inr (.inl f24))), (am25, .inl (g.2.1 0, 25, .inl f25))] ++ pl) := hD
  have hq21 : ∀ j, j < 25 → u22 j = 0 := hq21
  refine W.widen (k := 0) (n := 0) (by omega) (by omega) ?_
  refine lv_aload_n hx hb dMH_small_7 rfl (lv_at hl 0 rfl) ?_
  refine ty_get (ci := 12) (C := "LatticeKeysModel$Hands") (TT := T_MH) (N := 31) (kd := (46, 0)) hx hb hts (wg_ft i_MH) hown hK hO k_h0 (nxg (clo_cons (clo_cons (clo_cons (clo_cons (clo_cons (clo_cons hc0 kr21 (by decide)) km21 (by decide)) km22 (by decide)) km23 (by decide)) km24 (by decide)) km25 (by decide)) k_h0 rfl) hP (fun _ h9 => h9) rfl 0 (by decide) (hts _ (wg_t kw_1432)) (fun _ h9 => h9) (cd := (3, 20, 0)) rfl dMH_small_8 (fun v22 hv22 => ?_)
  obtain ⟨r22, rfl, kr22⟩ := (show ∃ r : Nat, v22 = .ref r ∧ T r = some (20, 0) from hv22)
  obtain rfl : r21 = r22 := hU _ _ _ (by decide) kr21 kr22
  refine lv_aload_n hx hb dMH_small_11 rfl (lv_at hl 2 rfl) ?_
  refine lv_iload_n hx hb dMH_small_12 rfl (lv_at hl 3 rfl) ?_
  refine lv_bipush (v := nI 64) hx hb dMH_small_13 (by decide) ?_
  refine mp_v (cx := [(r21, .inr (9, [.ref am21, .ref am22, .ref am23, .ref am24, .ref am25, .int (nI 136), .int (nI 0), .int (nI 31)])), (am21, .inl (g.2.1 2, 25, .inr (.inl u22))), (am22, .inl (g.2.1 2, 25, .inr (.inl f22))), (am23, .inl (g.2.1 2, 5, .inr (.inl f23))), (am24, .inl (g.2.1 2, 24, .inr (.inl f24))), (am25, .inl (g.2.1 0, 25, .inl f25))]) (wr := []) hP hD hS hA [0, 1, 2, 3, 4, 5] [] rfl rfl rfl (by decide) (va_runV (As := [.ref b, .int (nI at_), .int (nI 64)]) (rest := []) F (x_MS_puts l g _ T (am25 :: (am24 :: (am23 :: (am22 :: (am21 :: (r21 :: xs)))))) pl hO hU (clo_cons (clo_cons (clo_cons (clo_cons (clo_cons (clo_cons hc0 kr21 (by decide)) km21 (by decide)) km22 (by decide)) km23 (by decide)) km24 (by decide)) km25 (by decide)) b n at_ 64 r21 am21 am22 am23 am24 am25 136 0 (nI 31) u22 f22 f23 f24 f25 k_b (by omega) (by omega) (by omega) (by omega)) (cwV 3 hts (wg_app (wg_c kw_1719 (wg_c kw_1612 (wg_c kw_1613 (wg_c kw_10 wg_n)))) kw_1614) rfl rfl rfl (by decide +kernel) ⟨by decide, by decide⟩) (pp_V (en_ok g) (q0 := 0) hK hP hD hS hA hE [0, 1, 2, 3, 4, 5] rfl rfl rfl rfl) rfl rfl hl.1 rfl (lv_room (Nat.le_of_ble_eq_true rfl)) dMH_small_15 ⟨by omega, by omega⟩) (fun  u23 H locs hu22 hP hD hS => ?_)
  obtain ⟨u24, pl⟩ := u23
  obtain ⟨hq22, hO⟩ := hu22
  have hP : va_P g.1 vcl ([(r21, .inr (9, [.ref am21, .ref am22, .ref am23, .ref am24, .ref am25, .int (nI 136), .int (nI 64), .int (nI 31)])), (am21, .inl (g.2.1 2, 25, .inr (.inl u24))), (am22, .inl (g.2.1 2, 25, .inr (.inl f22))), (am23, .inl (g.2.1 2, 5, .inr (.inl f23))), (am24, .inl (g.2.1 2, 24, .inr (.inl f24))), (am25, .inl (g.2.1 0, 25, .inl f25))] ++ pl) _ := hP
  have hD : va_D _ ([(r21, .inr (9, [.ref am21, .ref am22, .ref am23, .ref am24, .ref am25, .int (nI 136), .int (nI 64), .int (nI 31)])), (am21, .inl (g.2.1 2, 25, .inr (.inl u24))), (am22, .inl (g.2.1 2, 25, .inr (.inl f22))), (am23, .inl (g.2.1 2, 5, .inr (.inl f23))), (am24, .inl (g.2.1 2, 24, .inr (.inl f24))), (am25, .inl (g.2.1 0, 25, .inl f25))] ++ pl) := hD
  refine W.widen (k := 0) (n := 0) (by omega) (by omega) ?_
  refine lv_aload_n hx hb dMH_small_18 rfl (lv_at hl 0 rfl) ?_
  refine ty_get (ci := 12) (C := "LatticeKeysModel$Hands") (TT := T_MH) (N := 31) (kd := (46, 0)) hx hb hts (wg_ft i_MH) hown hK hO k_h0 (nxg (clo_cons (clo_cons (clo_cons (clo_cons (clo_cons (clo_cons hc0 kr21 (by decide)) km21 (by decide)) km22 (by decide)) km23 (by decide)) km24 (by decide)) km25 (by decide)) k_h0 rfl) hP (fun _ h9 => h9) rfl 0 (by decide) (hts _ (wg_t kw_1432)) (fun _ h9 => h9) (cd := (3, 20, 0)) rfl dMH_small_19 (fun v23 hv23 => ?_)
  obtain ⟨r23, rfl, kr23⟩ := (show ∃ r : Nat, v23 = .ref r ∧ T r = some (20, 0) from hv23)
  obtain rfl : r21 = r23 := hU _ _ _ (by decide) kr21 kr23
  refine lv_iload hx hb dMH_small_22 (lv_at hl 4 rfl) ?_
  refine mp_v (cx := [(r21, .inr (9, [.ref am21, .ref am22, .ref am23, .ref am24, .ref am25, .int (nI 136), .int (nI 64), .int (nI 31)])), (am21, .inl (g.2.1 2, 25, .inr (.inl u24))), (am22, .inl (g.2.1 2, 25, .inr (.inl f22))), (am23, .inl (g.2.1 2, 5, .inr (.inl f23))), (am24, .inl (g.2.1 2, 24, .inr (.inl f24))), (am25, .inl (g.2.1 0, 25, .inl f25))]) (wr := []) hP hD hS hA [0, 1, 2, 3, 4, 5] [] rfl rfl rfl (by decide) (va_runV (As := [.int wh]) (rest := []) F (x_MS_put l g _ T (am25 :: (am24 :: (am23 :: (am22 :: (am21 :: (r21 :: xs)))))) pl hO hU  wh r21 am21 am22 am23 am24 am25 136 64 (nI 31) u24 f22 f23 f24 f25 (by omega) (by omega)) (cwV 1 hts (wg_app (wg_c kw_1720 (wg_c kw_1616 (wg_c kw_1617 (wg_c kw_10 wg_n)))) kw_1618) rfl rfl rfl (by decide +kernel) ⟨by decide, by decide⟩) (pp_V (en_ok g) (q0 := 0) hK hP hD hS hA hE [0, 1, 2, 3, 4, 5] rfl rfl rfl rfl) rfl rfl hl.1 rfl (lv_room (Nat.le_of_ble_eq_true rfl)) dMH_small_24 ⟨by omega, by omega⟩) (fun  u25 H locs hu23 hP hD hS => ?_)
  obtain ⟨u26, pl⟩ := u25
  obtain ⟨hq23, hO⟩ := hu23
  have hP : va_P g.1 vcl ([(r21, .inr (9, [.ref am21, .ref am22, .ref am23, .ref am24, .ref am25, .int (nI 136), .int (nI 65), .int (nI 31)])), (am21, .inl (g.2.1 2, 25, .inr (.inl u26))), (am22, .inl (g.2.1 2, 25, .inr (.inl f22))), (am23, .inl (g.2.1 2, 5, .inr (.inl f23))), (am24, .inl (g.2.1 2, 24, .inr (.inl f24))), (am25, .inl (g.2.1 0, 25, .inl f25))] ++ pl) _ := hP
  have hD : va_D _ ([(r21, .inr (9, [.ref am21, .ref am22, .ref am23, .ref am24, .ref am25, .int (nI 136), .int (nI 65), .int (nI 31)])), (am21, .inl (g.2.1 2, 25, .inr (.inl u26))), (am22, .inl (g.2.1 2, 25, .inr (.inl f22))), (am23, .inl (g.2.1 2, 5, .inr (.inl f23))), (am24, .inl (g.2.1 2, 24, .inr (.inl f24))), (am25, .inl (g.2.1 0, 25, .inl f25))] ++ pl) := hD
  refine W.widen (k := 0) (n := 0) (by omega) (by omega) ?_
  refine lv_aload_n hx hb dMH_small_27 rfl (lv_at hl 0 rfl) ?_
  refine ty_get (ci := 12) (C := "LatticeKeysModel$Hands") (TT := T_MH) (N := 31) (kd := (46, 0)) hx hb hts (wg_ft i_MH) hown hK hO k_h0 (nxg (clo_cons (clo_cons (clo_cons (clo_cons (clo_cons (clo_cons hc0 kr21 (by decide)) km21 (by decide)) km22 (by decide)) km23 (by decide)) km24 (by decide)) km25 (by decide)) k_h0 rfl) hP (fun _ h9 => h9) rfl 0 (by decide) (hts _ (wg_t kw_1432)) (fun _ h9 => h9) (cd := (3, 20, 0)) rfl dMH_small_28 (fun v24 hv24 => ?_)
  obtain ⟨r24, rfl, kr24⟩ := (show ∃ r : Nat, v24 = .ref r ∧ T r = some (20, 0) from hv24)
  obtain rfl : r21 = r24 := hU _ _ _ (by decide) kr21 kr24
  refine lv_iload hx hb dMH_small_31 (lv_at hl 4 rfl) ?_
  refine lv_bipush (v := nI 8) hx hb dMH_small_33 (by decide) ?_
  refine lv_ishr hx hb dMH_small_35 ?_
  refine mi_any (fun z21 => ?_)
  refine mp_v (cx := [(r21, .inr (9, [.ref am21, .ref am22, .ref am23, .ref am24, .ref am25, .int (nI 136), .int (nI 65), .int (nI 31)])), (am21, .inl (g.2.1 2, 25, .inr (.inl u26))), (am22, .inl (g.2.1 2, 25, .inr (.inl f22))), (am23, .inl (g.2.1 2, 5, .inr (.inl f23))), (am24, .inl (g.2.1 2, 24, .inr (.inl f24))), (am25, .inl (g.2.1 0, 25, .inl f25))]) (wr := []) hP hD hS hA [0, 1, 2, 3, 4, 5] [] rfl rfl rfl (by decide) (va_runV (As := [.int z21]) (rest := []) F (x_MS_put l g _ T (am25 :: (am24 :: (am23 :: (am22 :: (am21 :: (r21 :: xs)))))) pl hO hU  z21 r21 am21 am22 am23 am24 am25 136 65 (nI 31) u26 f22 f23 f24 f25 (by omega) (by omega)) (cwV 1 hts (wg_app (wg_c kw_1720 (wg_c kw_1616 (wg_c kw_1617 (wg_c kw_10 wg_n)))) kw_1618) rfl rfl rfl (by decide +kernel) ⟨by decide, by decide⟩) (pp_V (en_ok g) (q0 := 0) hK hP hD hS hA hE [0, 1, 2, 3, 4, 5] rfl rfl rfl rfl) rfl rfl hl.1 rfl (lv_room (Nat.le_of_ble_eq_true rfl)) dMH_small_36 ⟨by omega, by omega⟩) (fun  u27 H locs hu24 hP hD hS => ?_)
  obtain ⟨u28, pl⟩ := u27
  obtain ⟨hq24, hO⟩ := hu24
  have hP : va_P g.1 vcl ([(r21, .inr (9, [.ref am21, .ref am22, .ref am23, .ref am24, .ref am25, .int (nI 136), .int (nI 66), .int (nI 31)])), (am21, .inl (g.2.1 2, 25, .inr (.inl u28))), (am22, .inl (g.2.1 2, 25, .inr (.inl f22))), (am23, .inl (g.2.1 2, 5, .inr (.inl f23))), (am24, .inl (g.2.1 2, 24, .inr (.inl f24))), (am25, .inl (g.2.1 0, 25, .inl f25))] ++ pl) _ := hP
  have hD : va_D _ ([(r21, .inr (9, [.ref am21, .ref am22, .ref am23, .ref am24, .ref am25, .int (nI 136), .int (nI 66), .int (nI 31)])), (am21, .inl (g.2.1 2, 25, .inr (.inl u28))), (am22, .inl (g.2.1 2, 25, .inr (.inl f22))), (am23, .inl (g.2.1 2, 5, .inr (.inl f23))), (am24, .inl (g.2.1 2, 24, .inr (.inl f24))), (am25, .inl (g.2.1 0, 25, .inl f25))] ++ pl) := hD
  refine W.widen (k := 0) (n := 0) (by omega) (by omega) ?_
  refine lv_aload_n hx hb dMH_small_39 rfl (lv_at hl 0 rfl) ?_
  refine ty_get (ci := 12) (C := "LatticeKeysModel$Hands") (TT := T_MH) (N := 31) (kd := (46, 0)) hx hb hts (wg_ft i_MH) hown hK hO k_h0 (nxg (clo_cons (clo_cons (clo_cons (clo_cons (clo_cons (clo_cons hc0 kr21 (by decide)) km21 (by decide)) km22 (by decide)) km23 (by decide)) km24 (by decide)) km25 (by decide)) k_h0 rfl) hP (fun _ h9 => h9) rfl 0 (by decide) (hts _ (wg_t kw_1432)) (fun _ h9 => h9) (cd := (3, 20, 0)) rfl dMH_small_40 (fun v25 hv25 => ?_)
  obtain ⟨r25, rfl, kr25⟩ := (show ∃ r : Nat, v25 = .ref r ∧ T r = some (20, 0) from hv25)
  obtain rfl : r21 = r25 := hU _ _ _ (by decide) kr21 kr25
  refine mp_v (cx := [(r21, .inr (9, [.ref am21, .ref am22, .ref am23, .ref am24, .ref am25, .int (nI 136), .int (nI 66), .int (nI 31)])), (am21, .inl (g.2.1 2, 25, .inr (.inl u28))), (am22, .inl (g.2.1 2, 25, .inr (.inl f22))), (am23, .inl (g.2.1 2, 5, .inr (.inl f23))), (am24, .inl (g.2.1 2, 24, .inr (.inl f24))), (am25, .inl (g.2.1 0, 25, .inl f25))]) (wr := []) hP hD hS hA [0, 1, 2, 3, 4, 5] [] rfl rfl rfl (by decide) (va_runV (As := []) (rest := []) F (x_MS_end l g _ T (am25 :: (am24 :: (am23 :: (am22 :: (am21 :: (r21 :: xs)))))) pl hO hU  r21 am21 am22 am23 am24 am25 136 66 (nI 31) u28 f22 f23 f24 f25 (by omega) (by omega)) (cwV 0 hts (wg_app (wg_c kw_1721 (wg_c kw_1634 (wg_c kw_1635 (wg_c kw_10 wg_n)))) kw_1636) rfl rfl rfl (by decide +kernel) ⟨by decide, by decide⟩) (pp_V (en_ok g) (q0 := 0) hK hP hD hS hA hE [0, 1, 2, 3, 4, 5] rfl rfl rfl rfl) rfl rfl hl.1 rfl (lv_room (Nat.le_of_ble_eq_true rfl)) dMH_small_43 ⟨by omega, by omega⟩) (fun  u29 H locs hu25 hP hD hS => ?_)
  obtain ⟨u30, pl⟩ := u29
  obtain ⟨hq25, hO⟩ := hu25
  obtain ⟨f26, f27, f28, f29⟩ := u30
  have hP : va_P g.1 vcl ([(r21, .inr (9, [.ref am21, .ref am22, .ref am23, .ref am24, .ref am25, .int (nI 136), .int (nI 0), .int (nI 31)])), (am21, .inl (g.2.1 2, 25, .inr (.inl f26))), (am22, .inl (g.2.1 2, 25, .inr (.inl f27))), (am23, .inl (g.2.1 2, 5, .inr (.inl f28))), (am24, .inl (g.2.1 2, 24, .inr (.inl f24))), (am25, .inl (g.2.1 0, 25, .inl f25))] ++ pl) _ := hP
  have hD : va_D _ ([(r21, .inr (9, [.ref am21, .ref am22, .ref am23, .ref am24, .ref am25, .int (nI 136), .int (nI 0), .int (nI 31)])), (am21, .inl (g.2.1 2, 25, .inr (.inl f26))), (am22, .inl (g.2.1 2, 25, .inr (.inl f27))), (am23, .inl (g.2.1 2, 5, .inr (.inl f28))), (am24, .inl (g.2.1 2, 24, .inr (.inl f24))), (am25, .inl (g.2.1 0, 25, .inl f25))] ++ pl) := hD
  refine W.widen (k := 0) (n := 0) (by omega) (by omega) ?_
  have hz : ∀ j, 9 ≤ j → j < 16 → f29 j = 0 := fun j h8 h9 => ((((hq25.2 j (by omega) (by omega)).trans (hq24 j (by omega))).trans (hq23 j (by omega))).trans (hq22 j (by omega))).trans (hq21 j (by omega))
  have hs : str f25 f24 f29 136 136 0 f26 := ⟨1, by omega, by omega, hq25.1⟩
  obtain ⟨mB, hm0, hmP⟩ := blk_back f25 f24 f29
  refine lv_iconst (v := nI 0) hx hb dMH_small_46 (by decide) ?_
  refine lv_istore (lv' := [(5, .int (nI 0)), (0, .ref h0), (1, .ref f), (2, .ref b), (3, .int (nI at_)), (4, .int wh)]) hx hb dMH_small_47 hl (by decide) rfl (fun ls hl => ?_)
  have lp21 : ∀ (q21 : Nat) (d21 : Nat) (c21 t21 : Nat) (i21 : Nat) (ps22 : Nat) (f30 f31 f32 : Nat → Int64) (pl : va_W) (ls : Array Slot) (H : Heap) (locs : List Loc), 256 ≤ i21 + q21 → i21 ≤ 256 → t21 + 1 * d21 = c21 * mB * 136 + 72 → str f25 f24 f29 136 t21 ps22 f30 → lv_has ls 9 [(5, .int (nI i21)), (0, .ref h0), (1, .ref f)] → okx g T (am25 :: (am24 :: (am23 :: (am22 :: (am21 :: (r21 :: xs)))))) pl → va_P g.1 vcl ([(r21, .inr (9, [.ref am21, .ref am22, .ref am23, .ref am24, .ref am25, .int (nI 136), .int (nI ps22), .int (nI 31)])), (am21, .inl (g.2.1 2, 25, .inr (.inl f30))), (am22, .inl (g.2.1 2, 25, .inr (.inl f31))), (am23, .inl (g.2.1 2, 5, .inr (.inl f32))), (am24, .inl (g.2.1 2, 24, .inr (.inl f24))), (am25, .inl (g.2.1 0, 25, .inl f25))] ++ pl) H → va_D A ([(r21, .inr (9, [.ref am21, .ref am22, .ref am23, .ref am24, .ref am25, .int (nI 136), .int (nI ps22), .int (nI 31)])), (am21, .inl (g.2.1 2, 25, .inr (.inl f30))), (am22, .inl (g.2.1 2, 25, .inr (.inl f31))), (am23, .inl (g.2.1 2, 5, .inr (.inl f32))), (am24, .inl (g.2.1 2, 24, .inr (.inl f24))), (am25, .inl (g.2.1 0, 25, .inl f25))] ++ pl) → va_S A s.heap H locs → W p l e ({ frames := 3, cells := 0, slots := 0, locals := 67 } : Room) s m args below meth c H locs 0 0 (MQ below (va_Qv (fun (u : va_W) => (True) ∧ okx g T xs u) (po g.1 vcl A (fun (u : va_W) => [] ++ u)) A) args s 0 0 A) (F0 m 49 ls []) := by
    intro q21
    induction q21 with
    | zero =>
      intro d21
      intro c21 t21 i21 ps22 f30 f31 f32 pl ls H locs hi21 hi22 hd21 hs hl hO hP hD hS
      have hsl := str_le hs
      refine lv_iload hx hb dMH_small_49 (lv_at hl 0 rfl) ?_
      refine lv_sipush (v := nI 256) hx hb dMH_small_51 (by decide) ?_
      refine mi_ge (tgt := 185) hx hb dMH_small_54 (by decide) (by omega) (by omega) (fun h21 => ?_) (fun h21 => absurd h21 (by omega))
      have hO := close1 (e := .inl (g.2.1 0, 25, .inl f25)) hO km25 ⟨_, rfl⟩
      have hO := close1 (e := .inl (g.2.1 2, 24, .inr (.inl f24))) hO km24 ⟨_, rfl⟩
      have hO := close1 (e := .inl (g.2.1 2, 5, .inr (.inl f32))) hO km23 ⟨_, rfl⟩
      have hO := close1 (e := .inl (g.2.1 2, 25, .inr (.inl f31))) hO km22 ⟨_, rfl⟩
      have hO := close1 (e := .inl (g.2.1 2, 25, .inr (.inl f30))) hO km21 ⟨_, rfl⟩
      have hO := close1 (e := .inr (9, [.ref am21, .ref am22, .ref am23, .ref am24, .ref am25, .int (nI 136), .int (nI ps22), .int (nI 31)])) hO kr21 ⟨_, _, _, _, _, _, _, _, rfl, km21, km22, km23, km24, km25, by omega, by omega, by omega⟩
      have hO : okx g T xs ((r21, .inr (9, [.ref am21, .ref am22, .ref am23, .ref am24, .ref am25, .int (nI 136), .int (nI ps22), .int (nI 31)])) :: (am21, .inl (g.2.1 2, 25, .inr (.inl f30))) :: (am22, .inl (g.2.1 2, 25, .inr (.inl f31))) :: (am23, .inl (g.2.1 2, 5, .inr (.inl f32))) :: (am24, .inl (g.2.1 2, 24, .inr (.inl f24))) :: (am25, .inl (g.2.1 0, 25, .inl f25)) :: pl) := hO
      have hP : va_P g.1 vcl ([] ++ ((r21, .inr (9, [.ref am21, .ref am22, .ref am23, .ref am24, .ref am25, .int (nI 136), .int (nI ps22), .int (nI 31)])) :: (am21, .inl (g.2.1 2, 25, .inr (.inl f30))) :: (am22, .inl (g.2.1 2, 25, .inr (.inl f31))) :: (am23, .inl (g.2.1 2, 5, .inr (.inl f32))) :: (am24, .inl (g.2.1 2, 24, .inr (.inl f24))) :: (am25, .inl (g.2.1 0, 25, .inl f25)) :: pl)) _ := hP
      have hD : va_D _ ([] ++ ((r21, .inr (9, [.ref am21, .ref am22, .ref am23, .ref am24, .ref am25, .int (nI 136), .int (nI ps22), .int (nI 31)])) :: (am21, .inl (g.2.1 2, 25, .inr (.inl f30))) :: (am22, .inl (g.2.1 2, 25, .inr (.inl f31))) :: (am23, .inl (g.2.1 2, 5, .inr (.inl f32))) :: (am24, .inl (g.2.1 2, 24, .inr (.inl f24))) :: (am25, .inl (g.2.1 0, 25, .inl f25)) :: pl)) := hD
      generalize ((r21, .inr (9, [.ref am21, .ref am22, .ref am23, .ref am24, .ref am25, .int (nI 136), .int (nI ps22), .int (nI 31)])) :: (am21, .inl (g.2.1 2, 25, .inr (.inl f30))) :: (am22, .inl (g.2.1 2, 25, .inr (.inl f31))) :: (am23, .inl (g.2.1 2, 5, .inr (.inl f32))) :: (am24, .inl (g.2.1 2, 24, .inr (.inl f24))) :: (am25, .inl (g.2.1 0, 25, .inl f25)) :: pl) = pl at hO hP hD
      exact mp_vret hx hb hr hlk hP hD hS pl ⟨trivial, hO⟩ [] rfl rfl rfl (by omega) (by omega) dMH_small_185
    | succ q21 ihq21 =>
      intro d21
      induction d21 with
      | zero =>
        intro c21 t21 i21 ps22 f30 f31 f32 pl ls H locs hi21 hi22 hd21 hs hl hO hP hD hS
        have hsl := str_le hs
        refine lv_iload hx hb dMH_small_49 (lv_at hl 0 rfl) ?_
        refine lv_sipush (v := nI 256) hx hb dMH_small_51 (by decide) ?_
        refine mi_ge (tgt := 185) hx hb dMH_small_54 (by decide) (by omega) (by omega) (fun h22 => ?_) (fun h22 => ?_)
        · have hO := close1 (e := .inl (g.2.1 0, 25, .inl f25)) hO km25 ⟨_, rfl⟩
          have hO := close1 (e := .inl (g.2.1 2, 24, .inr (.inl f24))) hO km24 ⟨_, rfl⟩
          have hO := close1 (e := .inl (g.2.1 2, 5, .inr (.inl f32))) hO km23 ⟨_, rfl⟩
          have hO := close1 (e := .inl (g.2.1 2, 25, .inr (.inl f31))) hO km22 ⟨_, rfl⟩
          have hO := close1 (e := .inl (g.2.1 2, 25, .inr (.inl f30))) hO km21 ⟨_, rfl⟩
          have hO := close1 (e := .inr (9, [.ref am21, .ref am22, .ref am23, .ref am24, .ref am25, .int (nI 136), .int (nI ps22), .int (nI 31)])) hO kr21 ⟨_, _, _, _, _, _, _, _, rfl, km21, km22, km23, km24, km25, by omega, by omega, by omega⟩
          have hO : okx g T xs ((r21, .inr (9, [.ref am21, .ref am22, .ref am23, .ref am24, .ref am25, .int (nI 136), .int (nI ps22), .int (nI 31)])) :: (am21, .inl (g.2.1 2, 25, .inr (.inl f30))) :: (am22, .inl (g.2.1 2, 25, .inr (.inl f31))) :: (am23, .inl (g.2.1 2, 5, .inr (.inl f32))) :: (am24, .inl (g.2.1 2, 24, .inr (.inl f24))) :: (am25, .inl (g.2.1 0, 25, .inl f25)) :: pl) := hO
          have hP : va_P g.1 vcl ([] ++ ((r21, .inr (9, [.ref am21, .ref am22, .ref am23, .ref am24, .ref am25, .int (nI 136), .int (nI ps22), .int (nI 31)])) :: (am21, .inl (g.2.1 2, 25, .inr (.inl f30))) :: (am22, .inl (g.2.1 2, 25, .inr (.inl f31))) :: (am23, .inl (g.2.1 2, 5, .inr (.inl f32))) :: (am24, .inl (g.2.1 2, 24, .inr (.inl f24))) :: (am25, .inl (g.2.1 0, 25, .inl f25)) :: pl)) _ := hP
          have hD : va_D _ ([] ++ ((r21, .inr (9, [.ref am21, .ref am22, .ref am23, .ref am24, .ref am25, .int (nI 136), .int (nI ps22), .int (nI 31)])) :: (am21, .inl (g.2.1 2, 25, .inr (.inl f30))) :: (am22, .inl (g.2.1 2, 25, .inr (.inl f31))) :: (am23, .inl (g.2.1 2, 5, .inr (.inl f32))) :: (am24, .inl (g.2.1 2, 24, .inr (.inl f24))) :: (am25, .inl (g.2.1 0, 25, .inl f25)) :: pl)) := hD
          generalize ((r21, .inr (9, [.ref am21, .ref am22, .ref am23, .ref am24, .ref am25, .int (nI 136), .int (nI ps22), .int (nI 31)])) :: (am21, .inl (g.2.1 2, 25, .inr (.inl f30))) :: (am22, .inl (g.2.1 2, 25, .inr (.inl f31))) :: (am23, .inl (g.2.1 2, 5, .inr (.inl f32))) :: (am24, .inl (g.2.1 2, 24, .inr (.inl f24))) :: (am25, .inl (g.2.1 0, 25, .inl f25)) :: pl) = pl at hO hP hD
          exact mp_vret hx hb hr hlk hP hD hS pl ⟨trivial, hO⟩ [] rfl rfl rfl (by omega) (by omega) dMH_small_185
        · refine lv_aload_n hx hb dMH_small_57 rfl (lv_at hl 1 rfl) ?_
          refine ty_get (ci := 12) (C := "LatticeKeysModel$Hands") (TT := T_MH) (N := 31) (kd := (46, 0)) hx hb hts (wg_ft i_MH) hown hK hO k_h0 (nxg (clo_cons (clo_cons (clo_cons (clo_cons (clo_cons (clo_cons hc0 kr21 (by decide)) km21 (by decide)) km22 (by decide)) km23 (by decide)) km24 (by decide)) km25 (by decide)) k_h0 rfl) hP (fun _ h9 => h9) rfl 0 (by decide) (hts _ (wg_t kw_1432)) (fun _ h9 => h9) (cd := (3, 20, 0)) rfl dMH_small_58 (fun v26 hv26 => ?_)
          obtain ⟨r26, rfl, kr26⟩ := (show ∃ r : Nat, v26 = .ref r ∧ T r = some (20, 0) from hv26)
          obtain rfl : r21 = r26 := hU _ _ _ (by decide) kr21 kr26
          refine mp_i (cx := [(r21, .inr (9, [.ref am21, .ref am22, .ref am23, .ref am24, .ref am25, .int (nI 136), .int (nI ps22), .int (nI 31)])), (am21, .inl (g.2.1 2, 25, .inr (.inl f30))), (am22, .inl (g.2.1 2, 25, .inr (.inl f31))), (am23, .inl (g.2.1 2, 5, .inr (.inl f32))), (am24, .inl (g.2.1 2, 24, .inr (.inl f24))), (am25, .inl (g.2.1 0, 25, .inl f25))]) (wr := []) hP hD hS hA [0, 1, 2, 3, 4, 5] [] rfl rfl rfl (by decide) (va_runV (As := []) (rest := []) F (x_MS_next l g _ T (am25 :: (am24 :: (am23 :: (am22 :: (am21 :: (r21 :: xs)))))) pl hO hU  r21 am21 am22 am23 am24 am25 136 ps22 (nI 31) f30 f31 f32 f24 f25 (by omega) (by omega)) (cwV 0 hts (wg_app (wg_c kw_1728 (wg_c kw_1642 (wg_c kw_1643 (wg_c kw_10 wg_n)))) kw_1644) rfl rfl rfl (by decide +kernel) ⟨by decide, by decide⟩) (pp_V (en_ok g) (q0 := 0) hK hP hD hS hA hE [0, 1, 2, 3, 4, 5] rfl rfl rfl rfl) rfl rfl hl.1 rfl (lv_room (Nat.le_of_ble_eq_true rfl)) dMH_small_61 ⟨by omega, by omega⟩) (fun r27 u31 H locs hu26 hP hD hS => ?_)
          obtain ⟨u32, pl⟩ := u31
          obtain ⟨hq26, hO⟩ := hu26
          obtain ⟨ps23, f33, f34, f35⟩ := u32
          have hP : va_P g.1 vcl ([(r21, .inr (9, [.ref am21, .ref am22, .ref am23, .ref am24, .ref am25, .int (nI 136), .int (nI ps23), .int (nI 31)])), (am21, .inl (g.2.1 2, 25, .inr (.inl f33))), (am22, .inl (g.2.1 2, 25, .inr (.inl f34))), (am23, .inl (g.2.1 2, 5, .inr (.inl f35))), (am24, .inl (g.2.1 2, 24, .inr (.inl f24))), (am25, .inl (g.2.1 0, 25, .inl f25))] ++ pl) _ := hP
          have hD : va_D _ ([(r21, .inr (9, [.ref am21, .ref am22, .ref am23, .ref am24, .ref am25, .int (nI 136), .int (nI ps23), .int (nI 31)])), (am21, .inl (g.2.1 2, 25, .inr (.inl f33))), (am22, .inl (g.2.1 2, 25, .inr (.inl f34))), (am23, .inl (g.2.1 2, 5, .inr (.inl f35))), (am24, .inl (g.2.1 2, 24, .inr (.inl f24))), (am25, .inl (g.2.1 0, 25, .inl f25))] ++ pl) := hD
          obtain ⟨hn21, hl21, z22, hz21, rfl, h0z21⟩ := hq26
          have hl21 : ps23 ≤ 136 := hl21
          have hzzz22 : z22 = 0 := str_zero (q := 72) (hmP c21) hs hn21 (by omega) (by decide) (by decide) (hz 9 (by decide) (by decide)) (by decide) h0z21
          have hs := str_next (by decide) hs hn21
          refine W.widen (k := 0) (n := 0) (by omega) (by omega) ?_
          refine lv_istore (lv' := [(6, .int (nI z22)), (5, .int (nI i21)), (0, .ref h0), (1, .ref f)]) hx hb dMH_small_64 hl (by decide) rfl (fun ls hl => ?_)
          refine lv_iconst (v := nI 0) hx hb dMH_small_66 (by decide) ?_
          refine lv_istore (lv' := [(7, .int (nI 0)), (6, .int (nI z22)), (5, .int (nI i21)), (0, .ref h0), (1, .ref f)]) hx hb dMH_small_67 hl (by decide) rfl (fun ls hl => ?_)
          refine lv_iload hx hb dMH_small_69 (lv_at hl 0 rfl) ?_
          refine lv_iconst (v := nI 2) hx hb dMH_small_71 (by decide) ?_
          refine mi_ge (tgt := 182) hx hb dMH_small_72 (by decide) (by omega) (by omega) (fun h23 => absurd h23 (by omega)) (fun h23 => ?_)
          refine lv_iload hx hb dMH_small_75 (lv_at hl 2 rfl) ?_
          refine lv_sipush (v := nI 256) hx hb dMH_small_77 (by decide) ?_
          refine mi_ge (tgt := 182) hx hb dMH_small_80 (by decide) (by omega) (by omega) (fun h24 => ?_) (fun h24 => ?_)
          · refine lv_goto (tgt := 49) hx hb dMH_small_182 (by decide) ?_
            exfalso
            omega
          · refine lv_iload hx hb dMH_small_83 (lv_at hl 0 rfl) ?_
            refine lv_if_ne (tgt := 96) hx hb dMH_small_85 (by decide) (fun h25 => absurd h25 (by decide)) (fun h25 => ?_)
            refine lv_iload hx hb dMH_small_88 (lv_at hl 1 rfl) ?_
            refine lv_bipush (v := nI 16) hx hb dMH_small_90 (by decide) ?_
            refine mi_irem hx hb dMH_small_92 (by omega) (by omega) (by omega) ?_
            refine lv_goto (tgt := 101) hx hb dMH_small_93 (by decide) ?_
            refine lv_istore (lv' := [(8, .int (nI (z22 % 16))), (7, .int (nI 0)), (6, .int (nI z22)), (5, .int (nI i21)), (0, .ref h0), (1, .ref f)]) hx hb dMH_small_101 hl (by decide) rfl (fun ls hl => ?_)
            refine lv_aload_n hx hb dMH_small_103 rfl (lv_at hl 4 rfl) ?_
            refine ty_get (ci := 12) (C := "LatticeKeysModel$Hands") (TT := T_MH) (N := 31) (kd := (46, 0)) hx hb hts (wg_ft i_MH) hown hK hO k_h0 (nxg (clo_cons (clo_cons (clo_cons (clo_cons (clo_cons (clo_cons hc0 kr21 (by decide)) km21 (by decide)) km22 (by decide)) km23 (by decide)) km24 (by decide)) km25 (by decide)) k_h0 rfl) hP (fun _ h9 => h9) rfl 26 (by decide) (hts _ (wg_t kw_1458)) (fun _ h9 => h9) (cd := (1, 0, 2)) rfl dMH_small_104 (fun v27 hv27 => ?_)
            obtain rfl := (show v27 = .int (nI 2) from hv27)
            refine lv_iconst (v := nI 2) hx hb dMH_small_107 (by decide) ?_
            refine mi_ne (tgt := 121) hx hb dMH_small_108 (by decide) (by omega) (by omega) (fun h26 => absurd h26 (by omega)) (fun h26 => ?_)
            refine lv_iload hx hb dMH_small_111 (lv_at hl 0 rfl) ?_
            refine lv_bipush (v := nI 14) hx hb dMH_small_113 (by decide) ?_
            refine mi_le (tgt := 131) hx hb dMH_small_115 (by decide) (by omega) (by omega) (fun h27 => ?_) (fun h27 => ?_)
            · refine lv_aload_n hx hb dMH_small_131 rfl (lv_at hl 4 rfl) ?_
              refine ty_get (ci := 12) (C := "LatticeKeysModel$Hands") (TT := T_MH) (N := 31) (kd := (46, 0)) hx hb hts (wg_ft i_MH) hown hK hO k_h0 (nxg (clo_cons (clo_cons (clo_cons (clo_cons (clo_cons (clo_cons hc0 kr21 (by decide)) km21 (by decide)) km22 (by decide)) km23 (by decide)) km24 (by decide)) km25 (by decide)) k_h0 rfl) hP (fun _ h9 => h9) rfl 26 (by decide) (hts _ (wg_t kw_1458)) (fun _ h9 => h9) (cd := (1, 0, 2)) rfl dMH_small_132 (fun v28 hv28 => ?_)
              obtain rfl := (show v28 = .int (nI 2) from hv28)
              refine lv_iconst (v := nI 2) hx hb dMH_small_135 (by decide) ?_
              refine mi_ne (tgt := 148) hx hb dMH_small_136 (by decide) (by omega) (by omega) (fun h28 => absurd h28 (by omega)) (fun h28 => ?_)
              refine lv_iconst (v := nI 2) hx hb dMH_small_139 (by decide) ?_
              refine lv_iload hx hb dMH_small_140 (lv_at hl 0 rfl) ?_
              refine lv_iconst (v := nI 5) hx hb dMH_small_142 (by decide) ?_
              refine mi_irem hx hb dMH_small_143 (by omega) (by omega) (by omega) ?_
              refine lv_isub hx hb dMH_small_144 ?_
              refine mi_any (fun z23 => ?_)
              refine lv_goto (tgt := 152) hx hb dMH_small_145 (by decide) ?_
              refine lv_istore (lv' := [(8, .int z23), (7, .int (nI 0)), (6, .int (nI z22)), (5, .int (nI i21)), (0, .ref h0), (1, .ref f)]) hx hb dMH_small_152 hl (by decide) rfl (fun ls hl => ?_)
              refine lv_aload_n hx hb dMH_small_154 rfl (lv_at hl 5 rfl) ?_
              refine lv_iload hx hb dMH_small_155 (lv_at hl 3 rfl) ?_
              refine lv_iload hx hb dMH_small_157 (lv_at hl 0 rfl) ?_
              refine lv_if_ge (tgt := 170) hx hb dMH_small_159 (by decide) (fun h29 => ?_) (fun h29 => ?_)
              · refine lv_iload hx hb dMH_small_170 (lv_at hl 0 rfl) ?_
                refine ty_iast hx hb hK hO k_f (nxg (clo_cons (clo_cons (clo_cons (clo_cons (clo_cons (clo_cons hc0 kr21 (by decide)) km21 (by decide)) km22 (by decide)) km23 (by decide)) km24 (by decide)) km25 (by decide)) k_f rfl) hP hD hS (vp_in_nI (by omega) (by decide)) dMH_small_172 (fun pl H locs hO hP hD hS => ?_)
                refine mi_iinc (k := 3) (x := i21) (d := 1) (y := i21 + 1) (lv' := [(5, .int (nI (i21 + 1))), (8, .int z23), (7, .int (nI 0)), (6, .int (nI z22)), (0, .ref h0), (1, .ref f)]) hx hb dMH_small_173 hl rfl (by decide) rfl (by decide) rfl (fun ls hl => ?_)
                refine mi_iinc (k := 2) (x := 0) (d := 1) (y := 1) (lv' := [(7, .int (nI 1)), (5, .int (nI (i21 + 1))), (8, .int z23), (6, .int (nI z22)), (0, .ref h0), (1, .ref f)]) hx hb dMH_small_176 hl rfl (by decide) rfl (by decide) rfl (fun ls hl => ?_)
                refine lv_goto (tgt := 69) hx hb dMH_small_179 (by decide) ?_
                refine lv_iload hx hb dMH_small_69 (lv_at hl 0 rfl) ?_
                refine lv_iconst (v := nI 2) hx hb dMH_small_71 (by decide) ?_
                refine mi_ge (tgt := 182) hx hb dMH_small_72 (by decide) (by omega) (by omega) (fun h30 => absurd h30 (by omega)) (fun h30 => ?_)
                refine lv_iload hx hb dMH_small_75 (lv_at hl 1 rfl) ?_
                refine lv_sipush (v := nI 256) hx hb dMH_small_77 (by decide) ?_
                refine mi_ge (tgt := 182) hx hb dMH_small_80 (by decide) (by omega) (by omega) (fun h31 => ?_) (fun h31 => ?_)
                · refine lv_goto (tgt := 49) hx hb dMH_small_182 (by decide) ?_
                  have hcm := cm_succ (c := c21) (m := mB) (k := 136)
                  exact ihq21 (mB * 136 - 1) (c21 + 1) (t21 + 1) (i21 + 1) ps23 f33 f34 f35 pl ls H locs (by omega) (by omega) (by omega) hs (lv_sub hl [1, 4, 5] rfl) hO hP hD hS
                · refine lv_iload hx hb dMH_small_83 (lv_at hl 0 rfl) ?_
                  refine lv_if_ne (tgt := 96) hx hb dMH_small_85 (by decide) (fun h32 => ?_) (fun h32 => absurd h32 (by decide))
                  refine lv_iload hx hb dMH_small_96 (lv_at hl 3 rfl) ?_
                  refine lv_bipush (v := nI 16) hx hb dMH_small_98 (by decide) ?_
                  refine mi_idiv hx hb dMH_small_100 (by omega) (by omega) (by omega) ?_
                  refine lv_istore (lv' := [(8, .int (nI (z22 / 16))), (7, .int (nI 1)), (5, .int (nI (i21 + 1))), (6, .int (nI z22)), (0, .ref h0), (1, .ref f)]) hx hb dMH_small_101 hl (by decide) rfl (fun ls hl => ?_)
                  refine lv_aload_n hx hb dMH_small_103 rfl (lv_at hl 4 rfl) ?_
                  refine ty_get (ci := 12) (C := "LatticeKeysModel$Hands") (TT := T_MH) (N := 31) (kd := (46, 0)) hx hb hts (wg_ft i_MH) hown hK hO k_h0 (nxg (clo_cons (clo_cons (clo_cons (clo_cons (clo_cons (clo_cons hc0 kr21 (by decide)) km21 (by decide)) km22 (by decide)) km23 (by decide)) km24 (by decide)) km25 (by decide)) k_h0 rfl) hP (fun _ h9 => h9) rfl 26 (by decide) (hts _ (wg_t kw_1458)) (fun _ h9 => h9) (cd := (1, 0, 2)) rfl dMH_small_104 (fun v29 hv29 => ?_)
                  obtain rfl := (show v29 = .int (nI 2) from hv29)
                  refine lv_iconst (v := nI 2) hx hb dMH_small_107 (by decide) ?_
                  refine mi_ne (tgt := 121) hx hb dMH_small_108 (by decide) (by omega) (by omega) (fun h33 => absurd h33 (by omega)) (fun h33 => ?_)
                  refine lv_iload hx hb dMH_small_111 (lv_at hl 0 rfl) ?_
                  refine lv_bipush (v := nI 14) hx hb dMH_small_113 (by decide) ?_
                  refine mi_le (tgt := 131) hx hb dMH_small_115 (by decide) (by omega) (by omega) (fun h34 => ?_) (fun h34 => ?_)
                  · refine lv_aload_n hx hb dMH_small_131 rfl (lv_at hl 4 rfl) ?_
                    refine ty_get (ci := 12) (C := "LatticeKeysModel$Hands") (TT := T_MH) (N := 31) (kd := (46, 0)) hx hb hts (wg_ft i_MH) hown hK hO k_h0 (nxg (clo_cons (clo_cons (clo_cons (clo_cons (clo_cons (clo_cons hc0 kr21 (by decide)) km21 (by decide)) km22 (by decide)) km23 (by decide)) km24 (by decide)) km25 (by decide)) k_h0 rfl) hP (fun _ h9 => h9) rfl 26 (by decide) (hts _ (wg_t kw_1458)) (fun _ h9 => h9) (cd := (1, 0, 2)) rfl dMH_small_132 (fun v30 hv30 => ?_)
                    obtain rfl := (show v30 = .int (nI 2) from hv30)
                    refine lv_iconst (v := nI 2) hx hb dMH_small_135 (by decide) ?_
                    refine mi_ne (tgt := 148) hx hb dMH_small_136 (by decide) (by omega) (by omega) (fun h35 => absurd h35 (by omega)) (fun h35 => ?_)
                    refine lv_iconst (v := nI 2) hx hb dMH_small_139 (by decide) ?_
                    refine lv_iload hx hb dMH_small_140 (lv_at hl 0 rfl) ?_
                    refine lv_iconst (v := nI 5) hx hb dMH_small_142 (by decide) ?_
                    refine mi_irem hx hb dMH_small_143 (by omega) (by omega) (by omega) ?_
                    refine lv_isub hx hb dMH_small_144 ?_
                    refine mi_any (fun z24 => ?_)
                    refine lv_goto (tgt := 152) hx hb dMH_small_145 (by decide) ?_
                    refine lv_istore (lv' := [(8, .int z24), (7, .int (nI 1)), (5, .int (nI (i21 + 1))), (6, .int (nI z22)), (0, .ref h0), (1, .ref f)]) hx hb dMH_small_152 hl (by decide) rfl (fun ls hl => ?_)
                    refine lv_aload_n hx hb dMH_small_154 rfl (lv_at hl 5 rfl) ?_
                    refine lv_iload hx hb dMH_small_155 (lv_at hl 2 rfl) ?_
                    refine lv_iload hx hb dMH_small_157 (lv_at hl 0 rfl) ?_
                    refine lv_if_ge (tgt := 170) hx hb dMH_small_159 (by decide) (fun h36 => ?_) (fun h36 => ?_)
                    · refine lv_iload hx hb dMH_small_170 (lv_at hl 0 rfl) ?_
                      refine ty_iast hx hb hK hO k_f (nxg (clo_cons (clo_cons (clo_cons (clo_cons (clo_cons (clo_cons hc0 kr21 (by decide)) km21 (by decide)) km22 (by decide)) km23 (by decide)) km24 (by decide)) km25 (by decide)) k_f rfl) hP hD hS (vp_in_nI (by omega) (by decide)) dMH_small_172 (fun pl H locs hO hP hD hS => ?_)
                      refine mi_iinc (k := 2) (x := i21 + 1) (d := 1) (y := i21 + 1 + 1) (lv' := [(5, .int (nI (i21 + 1 + 1))), (8, .int z24), (7, .int (nI 1)), (6, .int (nI z22)), (0, .ref h0), (1, .ref f)]) hx hb dMH_small_173 hl rfl (by decide) rfl (by decide) rfl (fun ls hl => ?_)
                      refine mi_iinc (k := 2) (x := 1) (d := 1) (y := 2) (lv' := [(7, .int (nI 2)), (5, .int (nI (i21 + 1 + 1))), (8, .int z24), (6, .int (nI z22)), (0, .ref h0), (1, .ref f)]) hx hb dMH_small_176 hl rfl (by decide) rfl (by decide) rfl (fun ls hl => ?_)
                      refine lv_goto (tgt := 69) hx hb dMH_small_179 (by decide) ?_
                      refine lv_iload hx hb dMH_small_69 (lv_at hl 0 rfl) ?_
                      refine lv_iconst (v := nI 2) hx hb dMH_small_71 (by decide) ?_
                      refine mi_ge (tgt := 182) hx hb dMH_small_72 (by decide) (by omega) (by omega) (fun h37 => ?_) (fun h37 => absurd h37 (by omega))
                      refine lv_goto (tgt := 49) hx hb dMH_small_182 (by decide) ?_
                      have hcm := cm_succ (c := c21) (m := mB) (k := 136)
                      exact ihq21 (mB * 136 - 1) (c21 + 1) (t21 + 1) (i21 + 1 + 1) ps23 f33 f34 f35 pl ls H locs (by omega) (by omega) (by omega) hs (lv_sub hl [1, 4, 5] rfl) hO hP hD hS
                    · refine lv_iload hx hb dMH_small_162 (lv_at hl 0 rfl) ?_
                      refine lv_ldc (v := 8380417) hx hb hown (hts _ (wg_t kw_1429)) dMH_small_164 ?_
                      refine mi_as (show (8380417 : Int32) = nI 8380417 by decide) ?_
                      refine lv_iadd hx hb dMH_small_166 ?_
                      refine mi_any (fun z25 => ?_)
                      refine lv_goto (tgt := 172) hx hb dMH_small_167 (by decide) ?_
                      refine ty_iast hx hb hK hO k_f (nxg (clo_cons (clo_cons (clo_cons (clo_cons (clo_cons (clo_cons hc0 kr21 (by decide)) km21 (by decide)) km22 (by decide)) km23 (by decide)) km24 (by decide)) km25 (by decide)) k_f rfl) hP hD hS (vp_in_nI (by omega) (by decide)) dMH_small_172 (fun pl H locs hO hP hD hS => ?_)
                      refine mi_iinc (k := 2) (x := i21 + 1) (d := 1) (y := i21 + 1 + 1) (lv' := [(5, .int (nI (i21 + 1 + 1))), (8, .int z24), (7, .int (nI 1)), (6, .int (nI z22)), (0, .ref h0), (1, .ref f)]) hx hb dMH_small_173 hl rfl (by decide) rfl (by decide) rfl (fun ls hl => ?_)
                      refine mi_iinc (k := 2) (x := 1) (d := 1) (y := 2) (lv' := [(7, .int (nI 2)), (5, .int (nI (i21 + 1 + 1))), (8, .int z24), (6, .int (nI z22)), (0, .ref h0), (1, .ref f)]) hx hb dMH_small_176 hl rfl (by decide) rfl (by decide) rfl (fun ls hl => ?_)
                      refine lv_goto (tgt := 69) hx hb dMH_small_179 (by decide) ?_
                      refine lv_iload hx hb dMH_small_69 (lv_at hl 0 rfl) ?_
                      refine lv_iconst (v := nI 2) hx hb dMH_small_71 (by decide) ?_
                      refine mi_ge (tgt := 182) hx hb dMH_small_72 (by decide) (by omega) (by omega) (fun h38 => ?_) (fun h38 => absurd h38 (by omega))
                      refine lv_goto (tgt := 49) hx hb dMH_small_182 (by decide) ?_
                      have hcm := cm_succ (c := c21) (m := mB) (k := 136)
                      exact ihq21 (mB * 136 - 1) (c21 + 1) (t21 + 1) (i21 + 1 + 1) ps23 f33 f34 f35 pl ls H locs (by omega) (by omega) (by omega) hs (lv_sub hl [1, 4, 5] rfl) hO hP hD hS
                  · refine lv_goto (tgt := 176) hx hb dMH_small_118 (by decide) ?_
                    refine mi_iinc (k := 1) (x := 1) (d := 1) (y := 2) (lv' := [(7, .int (nI 2)), (8, .int (nI (z22 / 16))), (5, .int (nI (i21 + 1))), (6, .int (nI z22)), (0, .ref h0), (1, .ref f)]) hx hb dMH_small_176 hl rfl (by decide) rfl (by decide) rfl (fun ls hl => ?_)
                    refine lv_goto (tgt := 69) hx hb dMH_small_179 (by decide) ?_
                    refine lv_iload hx hb dMH_small_69 (lv_at hl 0 rfl) ?_
                    refine lv_iconst (v := nI 2) hx hb dMH_small_71 (by decide) ?_
                    refine mi_ge (tgt := 182) hx hb dMH_small_72 (by decide) (by omega) (by omega) (fun h39 => ?_) (fun h39 => absurd h39 (by omega))
                    refine lv_goto (tgt := 49) hx hb dMH_small_182 (by decide) ?_
                    have hcm := cm_succ (c := c21) (m := mB) (k := 136)
                    exact ihq21 (mB * 136 - 1) (c21 + 1) (t21 + 1) (i21 + 1) ps23 f33 f34 f35 pl ls H locs (by omega) (by omega) (by omega) hs (lv_sub hl [2, 4, 5] rfl) hO hP hD hS
              · refine lv_iload hx hb dMH_small_162 (lv_at hl 0 rfl) ?_
                refine lv_ldc (v := 8380417) hx hb hown (hts _ (wg_t kw_1429)) dMH_small_164 ?_
                refine mi_as (show (8380417 : Int32) = nI 8380417 by decide) ?_
                refine lv_iadd hx hb dMH_small_166 ?_
                refine mi_any (fun z26 => ?_)
                refine lv_goto (tgt := 172) hx hb dMH_small_167 (by decide) ?_
                refine ty_iast hx hb hK hO k_f (nxg (clo_cons (clo_cons (clo_cons (clo_cons (clo_cons (clo_cons hc0 kr21 (by decide)) km21 (by decide)) km22 (by decide)) km23 (by decide)) km24 (by decide)) km25 (by decide)) k_f rfl) hP hD hS (vp_in_nI (by omega) (by decide)) dMH_small_172 (fun pl H locs hO hP hD hS => ?_)
                refine mi_iinc (k := 3) (x := i21) (d := 1) (y := i21 + 1) (lv' := [(5, .int (nI (i21 + 1))), (8, .int z23), (7, .int (nI 0)), (6, .int (nI z22)), (0, .ref h0), (1, .ref f)]) hx hb dMH_small_173 hl rfl (by decide) rfl (by decide) rfl (fun ls hl => ?_)
                refine mi_iinc (k := 2) (x := 0) (d := 1) (y := 1) (lv' := [(7, .int (nI 1)), (5, .int (nI (i21 + 1))), (8, .int z23), (6, .int (nI z22)), (0, .ref h0), (1, .ref f)]) hx hb dMH_small_176 hl rfl (by decide) rfl (by decide) rfl (fun ls hl => ?_)
                refine lv_goto (tgt := 69) hx hb dMH_small_179 (by decide) ?_
                refine lv_iload hx hb dMH_small_69 (lv_at hl 0 rfl) ?_
                refine lv_iconst (v := nI 2) hx hb dMH_small_71 (by decide) ?_
                refine mi_ge (tgt := 182) hx hb dMH_small_72 (by decide) (by omega) (by omega) (fun h40 => absurd h40 (by omega)) (fun h40 => ?_)
                refine lv_iload hx hb dMH_small_75 (lv_at hl 1 rfl) ?_
                refine lv_sipush (v := nI 256) hx hb dMH_small_77 (by decide) ?_
                refine mi_ge (tgt := 182) hx hb dMH_small_80 (by decide) (by omega) (by omega) (fun h41 => ?_) (fun h41 => ?_)
                · refine lv_goto (tgt := 49) hx hb dMH_small_182 (by decide) ?_
                  have hcm := cm_succ (c := c21) (m := mB) (k := 136)
                  exact ihq21 (mB * 136 - 1) (c21 + 1) (t21 + 1) (i21 + 1) ps23 f33 f34 f35 pl ls H locs (by omega) (by omega) (by omega) hs (lv_sub hl [1, 4, 5] rfl) hO hP hD hS
                · refine lv_iload hx hb dMH_small_83 (lv_at hl 0 rfl) ?_
                  refine lv_if_ne (tgt := 96) hx hb dMH_small_85 (by decide) (fun h42 => ?_) (fun h42 => absurd h42 (by decide))
                  refine lv_iload hx hb dMH_small_96 (lv_at hl 3 rfl) ?_
                  refine lv_bipush (v := nI 16) hx hb dMH_small_98 (by decide) ?_
                  refine mi_idiv hx hb dMH_small_100 (by omega) (by omega) (by omega) ?_
                  refine lv_istore (lv' := [(8, .int (nI (z22 / 16))), (7, .int (nI 1)), (5, .int (nI (i21 + 1))), (6, .int (nI z22)), (0, .ref h0), (1, .ref f)]) hx hb dMH_small_101 hl (by decide) rfl (fun ls hl => ?_)
                  refine lv_aload_n hx hb dMH_small_103 rfl (lv_at hl 4 rfl) ?_
                  refine ty_get (ci := 12) (C := "LatticeKeysModel$Hands") (TT := T_MH) (N := 31) (kd := (46, 0)) hx hb hts (wg_ft i_MH) hown hK hO k_h0 (nxg (clo_cons (clo_cons (clo_cons (clo_cons (clo_cons (clo_cons hc0 kr21 (by decide)) km21 (by decide)) km22 (by decide)) km23 (by decide)) km24 (by decide)) km25 (by decide)) k_h0 rfl) hP (fun _ h9 => h9) rfl 26 (by decide) (hts _ (wg_t kw_1458)) (fun _ h9 => h9) (cd := (1, 0, 2)) rfl dMH_small_104 (fun v31 hv31 => ?_)
                  obtain rfl := (show v31 = .int (nI 2) from hv31)
                  refine lv_iconst (v := nI 2) hx hb dMH_small_107 (by decide) ?_
                  refine mi_ne (tgt := 121) hx hb dMH_small_108 (by decide) (by omega) (by omega) (fun h43 => absurd h43 (by omega)) (fun h43 => ?_)
                  refine lv_iload hx hb dMH_small_111 (lv_at hl 0 rfl) ?_
                  refine lv_bipush (v := nI 14) hx hb dMH_small_113 (by decide) ?_
                  refine mi_le (tgt := 131) hx hb dMH_small_115 (by decide) (by omega) (by omega) (fun h44 => ?_) (fun h44 => ?_)
                  · refine lv_aload_n hx hb dMH_small_131 rfl (lv_at hl 4 rfl) ?_
                    refine ty_get (ci := 12) (C := "LatticeKeysModel$Hands") (TT := T_MH) (N := 31) (kd := (46, 0)) hx hb hts (wg_ft i_MH) hown hK hO k_h0 (nxg (clo_cons (clo_cons (clo_cons (clo_cons (clo_cons (clo_cons hc0 kr21 (by decide)) km21 (by decide)) km22 (by decide)) km23 (by decide)) km24 (by decide)) km25 (by decide)) k_h0 rfl) hP (fun _ h9 => h9) rfl 26 (by decide) (hts _ (wg_t kw_1458)) (fun _ h9 => h9) (cd := (1, 0, 2)) rfl dMH_small_132 (fun v32 hv32 => ?_)
                    obtain rfl := (show v32 = .int (nI 2) from hv32)
                    refine lv_iconst (v := nI 2) hx hb dMH_small_135 (by decide) ?_
                    refine mi_ne (tgt := 148) hx hb dMH_small_136 (by decide) (by omega) (by omega) (fun h45 => absurd h45 (by omega)) (fun h45 => ?_)
                    refine lv_iconst (v := nI 2) hx hb dMH_small_139 (by decide) ?_
                    refine lv_iload hx hb dMH_small_140 (lv_at hl 0 rfl) ?_
                    refine lv_iconst (v := nI 5) hx hb dMH_small_142 (by decide) ?_
                    refine mi_irem hx hb dMH_small_143 (by omega) (by omega) (by omega) ?_
                    refine lv_isub hx hb dMH_small_144 ?_
                    refine mi_any (fun z27 => ?_)
                    refine lv_goto (tgt := 152) hx hb dMH_small_145 (by decide) ?_
                    refine lv_istore (lv' := [(8, .int z27), (7, .int (nI 1)), (5, .int (nI (i21 + 1))), (6, .int (nI z22)), (0, .ref h0), (1, .ref f)]) hx hb dMH_small_152 hl (by decide) rfl (fun ls hl => ?_)
                    refine lv_aload_n hx hb dMH_small_154 rfl (lv_at hl 5 rfl) ?_
                    refine lv_iload hx hb dMH_small_155 (lv_at hl 2 rfl) ?_
                    refine lv_iload hx hb dMH_small_157 (lv_at hl 0 rfl) ?_
                    refine lv_if_ge (tgt := 170) hx hb dMH_small_159 (by decide) (fun h46 => ?_) (fun h46 => ?_)
                    · refine lv_iload hx hb dMH_small_170 (lv_at hl 0 rfl) ?_
                      refine ty_iast hx hb hK hO k_f (nxg (clo_cons (clo_cons (clo_cons (clo_cons (clo_cons (clo_cons hc0 kr21 (by decide)) km21 (by decide)) km22 (by decide)) km23 (by decide)) km24 (by decide)) km25 (by decide)) k_f rfl) hP hD hS (vp_in_nI (by omega) (by decide)) dMH_small_172 (fun pl H locs hO hP hD hS => ?_)
                      refine mi_iinc (k := 2) (x := i21 + 1) (d := 1) (y := i21 + 1 + 1) (lv' := [(5, .int (nI (i21 + 1 + 1))), (8, .int z27), (7, .int (nI 1)), (6, .int (nI z22)), (0, .ref h0), (1, .ref f)]) hx hb dMH_small_173 hl rfl (by decide) rfl (by decide) rfl (fun ls hl => ?_)
                      refine mi_iinc (k := 2) (x := 1) (d := 1) (y := 2) (lv' := [(7, .int (nI 2)), (5, .int (nI (i21 + 1 + 1))), (8, .int z27), (6, .int (nI z22)), (0, .ref h0), (1, .ref f)]) hx hb dMH_small_176 hl rfl (by decide) rfl (by decide) rfl (fun ls hl => ?_)
                      refine lv_goto (tgt := 69) hx hb dMH_small_179 (by decide) ?_
                      refine lv_iload hx hb dMH_small_69 (lv_at hl 0 rfl) ?_
                      refine lv_iconst (v := nI 2) hx hb dMH_small_71 (by decide) ?_
                      refine mi_ge (tgt := 182) hx hb dMH_small_72 (by decide) (by omega) (by omega) (fun h47 => ?_) (fun h47 => absurd h47 (by omega))
                      refine lv_goto (tgt := 49) hx hb dMH_small_182 (by decide) ?_
                      have hcm := cm_succ (c := c21) (m := mB) (k := 136)
                      exact ihq21 (mB * 136 - 1) (c21 + 1) (t21 + 1) (i21 + 1 + 1) ps23 f33 f34 f35 pl ls H locs (by omega) (by omega) (by omega) hs (lv_sub hl [1, 4, 5] rfl) hO hP hD hS
                    · refine lv_iload hx hb dMH_small_162 (lv_at hl 0 rfl) ?_
                      refine lv_ldc (v := 8380417) hx hb hown (hts _ (wg_t kw_1429)) dMH_small_164 ?_
                      refine mi_as (show (8380417 : Int32) = nI 8380417 by decide) ?_
                      refine lv_iadd hx hb dMH_small_166 ?_
                      refine mi_any (fun z28 => ?_)
                      refine lv_goto (tgt := 172) hx hb dMH_small_167 (by decide) ?_
                      refine ty_iast hx hb hK hO k_f (nxg (clo_cons (clo_cons (clo_cons (clo_cons (clo_cons (clo_cons hc0 kr21 (by decide)) km21 (by decide)) km22 (by decide)) km23 (by decide)) km24 (by decide)) km25 (by decide)) k_f rfl) hP hD hS (vp_in_nI (by omega) (by decide)) dMH_small_172 (fun pl H locs hO hP hD hS => ?_)
                      refine mi_iinc (k := 2) (x := i21 + 1) (d := 1) (y := i21 + 1 + 1) (lv' := [(5, .int (nI (i21 + 1 + 1))), (8, .int z27), (7, .int (nI 1)), (6, .int (nI z22)), (0, .ref h0), (1, .ref f)]) hx hb dMH_small_173 hl rfl (by decide) rfl (by decide) rfl (fun ls hl => ?_)
                      refine mi_iinc (k := 2) (x := 1) (d := 1) (y := 2) (lv' := [(7, .int (nI 2)), (5, .int (nI (i21 + 1 + 1))), (8, .int z27), (6, .int (nI z22)), (0, .ref h0), (1, .ref f)]) hx hb dMH_small_176 hl rfl (by decide) rfl (by decide) rfl (fun ls hl => ?_)
                      refine lv_goto (tgt := 69) hx hb dMH_small_179 (by decide) ?_
                      refine lv_iload hx hb dMH_small_69 (lv_at hl 0 rfl) ?_
                      refine lv_iconst (v := nI 2) hx hb dMH_small_71 (by decide) ?_
                      refine mi_ge (tgt := 182) hx hb dMH_small_72 (by decide) (by omega) (by omega) (fun h48 => ?_) (fun h48 => absurd h48 (by omega))
                      refine lv_goto (tgt := 49) hx hb dMH_small_182 (by decide) ?_
                      have hcm := cm_succ (c := c21) (m := mB) (k := 136)
                      exact ihq21 (mB * 136 - 1) (c21 + 1) (t21 + 1) (i21 + 1 + 1) ps23 f33 f34 f35 pl ls H locs (by omega) (by omega) (by omega) hs (lv_sub hl [1, 4, 5] rfl) hO hP hD hS
                  · refine lv_goto (tgt := 176) hx hb dMH_small_118 (by decide) ?_
                    refine mi_iinc (k := 1) (x := 1) (d := 1) (y := 2) (lv' := [(7, .int (nI 2)), (8, .int (nI (z22 / 16))), (5, .int (nI (i21 + 1))), (6, .int (nI z22)), (0, .ref h0), (1, .ref f)]) hx hb dMH_small_176 hl rfl (by decide) rfl (by decide) rfl (fun ls hl => ?_)
                    refine lv_goto (tgt := 69) hx hb dMH_small_179 (by decide) ?_
                    refine lv_iload hx hb dMH_small_69 (lv_at hl 0 rfl) ?_
                    refine lv_iconst (v := nI 2) hx hb dMH_small_71 (by decide) ?_
                    refine mi_ge (tgt := 182) hx hb dMH_small_72 (by decide) (by omega) (by omega) (fun h49 => ?_) (fun h49 => absurd h49 (by omega))
                    refine lv_goto (tgt := 49) hx hb dMH_small_182 (by decide) ?_
                    have hcm := cm_succ (c := c21) (m := mB) (k := 136)
                    exact ihq21 (mB * 136 - 1) (c21 + 1) (t21 + 1) (i21 + 1) ps23 f33 f34 f35 pl ls H locs (by omega) (by omega) (by omega) hs (lv_sub hl [2, 4, 5] rfl) hO hP hD hS
            · refine lv_goto (tgt := 176) hx hb dMH_small_118 (by decide) ?_
              refine mi_iinc (k := 1) (x := 0) (d := 1) (y := 1) (lv' := [(7, .int (nI 1)), (8, .int (nI (z22 % 16))), (6, .int (nI z22)), (5, .int (nI i21)), (0, .ref h0), (1, .ref f)]) hx hb dMH_small_176 hl rfl (by decide) rfl (by decide) rfl (fun ls hl => ?_)
              refine lv_goto (tgt := 69) hx hb dMH_small_179 (by decide) ?_
              refine lv_iload hx hb dMH_small_69 (lv_at hl 0 rfl) ?_
              refine lv_iconst (v := nI 2) hx hb dMH_small_71 (by decide) ?_
              refine mi_ge (tgt := 182) hx hb dMH_small_72 (by decide) (by omega) (by omega) (fun h50 => absurd h50 (by omega)) (fun h50 => ?_)
              refine lv_iload hx hb dMH_small_75 (lv_at hl 3 rfl) ?_
              refine lv_sipush (v := nI 256) hx hb dMH_small_77 (by decide) ?_
              refine mi_ge (tgt := 182) hx hb dMH_small_80 (by decide) (by omega) (by omega) (fun h51 => ?_) (fun h51 => ?_)
              · refine lv_goto (tgt := 49) hx hb dMH_small_182 (by decide) ?_
                exfalso
                omega
              · refine lv_iload hx hb dMH_small_83 (lv_at hl 0 rfl) ?_
                refine lv_if_ne (tgt := 96) hx hb dMH_small_85 (by decide) (fun h52 => ?_) (fun h52 => absurd h52 (by decide))
                refine lv_iload hx hb dMH_small_96 (lv_at hl 2 rfl) ?_
                refine lv_bipush (v := nI 16) hx hb dMH_small_98 (by decide) ?_
                refine mi_idiv hx hb dMH_small_100 (by omega) (by omega) (by omega) ?_
                refine lv_istore (lv' := [(8, .int (nI (z22 / 16))), (7, .int (nI 1)), (6, .int (nI z22)), (5, .int (nI i21)), (0, .ref h0), (1, .ref f)]) hx hb dMH_small_101 hl (by decide) rfl (fun ls hl => ?_)
                refine lv_aload_n hx hb dMH_small_103 rfl (lv_at hl 4 rfl) ?_
                refine ty_get (ci := 12) (C := "LatticeKeysModel$Hands") (TT := T_MH) (N := 31) (kd := (46, 0)) hx hb hts (wg_ft i_MH) hown hK hO k_h0 (nxg (clo_cons (clo_cons (clo_cons (clo_cons (clo_cons (clo_cons hc0 kr21 (by decide)) km21 (by decide)) km22 (by decide)) km23 (by decide)) km24 (by decide)) km25 (by decide)) k_h0 rfl) hP (fun _ h9 => h9) rfl 26 (by decide) (hts _ (wg_t kw_1458)) (fun _ h9 => h9) (cd := (1, 0, 2)) rfl dMH_small_104 (fun v33 hv33 => ?_)
                obtain rfl := (show v33 = .int (nI 2) from hv33)
                refine lv_iconst (v := nI 2) hx hb dMH_small_107 (by decide) ?_
                refine mi_ne (tgt := 121) hx hb dMH_small_108 (by decide) (by omega) (by omega) (fun h53 => absurd h53 (by omega)) (fun h53 => ?_)
                refine lv_iload hx hb dMH_small_111 (lv_at hl 0 rfl) ?_
                refine lv_bipush (v := nI 14) hx hb dMH_small_113 (by decide) ?_
                refine mi_le (tgt := 131) hx hb dMH_small_115 (by decide) (by omega) (by omega) (fun h54 => ?_) (fun h54 => ?_)
                · refine lv_aload_n hx hb dMH_small_131 rfl (lv_at hl 4 rfl) ?_
                  refine ty_get (ci := 12) (C := "LatticeKeysModel$Hands") (TT := T_MH) (N := 31) (kd := (46, 0)) hx hb hts (wg_ft i_MH) hown hK hO k_h0 (nxg (clo_cons (clo_cons (clo_cons (clo_cons (clo_cons (clo_cons hc0 kr21 (by decide)) km21 (by decide)) km22 (by decide)) km23 (by decide)) km24 (by decide)) km25 (by decide)) k_h0 rfl) hP (fun _ h9 => h9) rfl 26 (by decide) (hts _ (wg_t kw_1458)) (fun _ h9 => h9) (cd := (1, 0, 2)) rfl dMH_small_132 (fun v34 hv34 => ?_)
                  obtain rfl := (show v34 = .int (nI 2) from hv34)
                  refine lv_iconst (v := nI 2) hx hb dMH_small_135 (by decide) ?_
                  refine mi_ne (tgt := 148) hx hb dMH_small_136 (by decide) (by omega) (by omega) (fun h55 => absurd h55 (by omega)) (fun h55 => ?_)
                  refine lv_iconst (v := nI 2) hx hb dMH_small_139 (by decide) ?_
                  refine lv_iload hx hb dMH_small_140 (lv_at hl 0 rfl) ?_
                  refine lv_iconst (v := nI 5) hx hb dMH_small_142 (by decide) ?_
                  refine mi_irem hx hb dMH_small_143 (by omega) (by omega) (by omega) ?_
                  refine lv_isub hx hb dMH_small_144 ?_
                  refine mi_any (fun z29 => ?_)
                  refine lv_goto (tgt := 152) hx hb dMH_small_145 (by decide) ?_
                  refine lv_istore (lv' := [(8, .int z29), (7, .int (nI 1)), (6, .int (nI z22)), (5, .int (nI i21)), (0, .ref h0), (1, .ref f)]) hx hb dMH_small_152 hl (by decide) rfl (fun ls hl => ?_)
                  refine lv_aload_n hx hb dMH_small_154 rfl (lv_at hl 5 rfl) ?_
                  refine lv_iload hx hb dMH_small_155 (lv_at hl 3 rfl) ?_
                  refine lv_iload hx hb dMH_small_157 (lv_at hl 0 rfl) ?_
                  refine lv_if_ge (tgt := 170) hx hb dMH_small_159 (by decide) (fun h56 => ?_) (fun h56 => ?_)
                  · refine lv_iload hx hb dMH_small_170 (lv_at hl 0 rfl) ?_
                    refine ty_iast hx hb hK hO k_f (nxg (clo_cons (clo_cons (clo_cons (clo_cons (clo_cons (clo_cons hc0 kr21 (by decide)) km21 (by decide)) km22 (by decide)) km23 (by decide)) km24 (by decide)) km25 (by decide)) k_f rfl) hP hD hS (vp_in_nI (by omega) (by decide)) dMH_small_172 (fun pl H locs hO hP hD hS => ?_)
                    refine mi_iinc (k := 3) (x := i21) (d := 1) (y := i21 + 1) (lv' := [(5, .int (nI (i21 + 1))), (8, .int z29), (7, .int (nI 1)), (6, .int (nI z22)), (0, .ref h0), (1, .ref f)]) hx hb dMH_small_173 hl rfl (by decide) rfl (by decide) rfl (fun ls hl => ?_)
                    refine mi_iinc (k := 2) (x := 1) (d := 1) (y := 2) (lv' := [(7, .int (nI 2)), (5, .int (nI (i21 + 1))), (8, .int z29), (6, .int (nI z22)), (0, .ref h0), (1, .ref f)]) hx hb dMH_small_176 hl rfl (by decide) rfl (by decide) rfl (fun ls hl => ?_)
                    refine lv_goto (tgt := 69) hx hb dMH_small_179 (by decide) ?_
                    refine lv_iload hx hb dMH_small_69 (lv_at hl 0 rfl) ?_
                    refine lv_iconst (v := nI 2) hx hb dMH_small_71 (by decide) ?_
                    refine mi_ge (tgt := 182) hx hb dMH_small_72 (by decide) (by omega) (by omega) (fun h57 => ?_) (fun h57 => absurd h57 (by omega))
                    refine lv_goto (tgt := 49) hx hb dMH_small_182 (by decide) ?_
                    have hcm := cm_succ (c := c21) (m := mB) (k := 136)
                    exact ihq21 (mB * 136 - 1) (c21 + 1) (t21 + 1) (i21 + 1) ps23 f33 f34 f35 pl ls H locs (by omega) (by omega) (by omega) hs (lv_sub hl [1, 4, 5] rfl) hO hP hD hS
                  · refine lv_iload hx hb dMH_small_162 (lv_at hl 0 rfl) ?_
                    refine lv_ldc (v := 8380417) hx hb hown (hts _ (wg_t kw_1429)) dMH_small_164 ?_
                    refine mi_as (show (8380417 : Int32) = nI 8380417 by decide) ?_
                    refine lv_iadd hx hb dMH_small_166 ?_
                    refine mi_any (fun z30 => ?_)
                    refine lv_goto (tgt := 172) hx hb dMH_small_167 (by decide) ?_
                    refine ty_iast hx hb hK hO k_f (nxg (clo_cons (clo_cons (clo_cons (clo_cons (clo_cons (clo_cons hc0 kr21 (by decide)) km21 (by decide)) km22 (by decide)) km23 (by decide)) km24 (by decide)) km25 (by decide)) k_f rfl) hP hD hS (vp_in_nI (by omega) (by decide)) dMH_small_172 (fun pl H locs hO hP hD hS => ?_)
                    refine mi_iinc (k := 3) (x := i21) (d := 1) (y := i21 + 1) (lv' := [(5, .int (nI (i21 + 1))), (8, .int z29), (7, .int (nI 1)), (6, .int (nI z22)), (0, .ref h0), (1, .ref f)]) hx hb dMH_small_173 hl rfl (by decide) rfl (by decide) rfl (fun ls hl => ?_)
                    refine mi_iinc (k := 2) (x := 1) (d := 1) (y := 2) (lv' := [(7, .int (nI 2)), (5, .int (nI (i21 + 1))), (8, .int z29), (6, .int (nI z22)), (0, .ref h0), (1, .ref f)]) hx hb dMH_small_176 hl rfl (by decide) rfl (by decide) rfl (fun ls hl => ?_)
                    refine lv_goto (tgt := 69) hx hb dMH_small_179 (by decide) ?_
                    refine lv_iload hx hb dMH_small_69 (lv_at hl 0 rfl) ?_
                    refine lv_iconst (v := nI 2) hx hb dMH_small_71 (by decide) ?_
                    refine mi_ge (tgt := 182) hx hb dMH_small_72 (by decide) (by omega) (by omega) (fun h58 => ?_) (fun h58 => absurd h58 (by omega))
                    refine lv_goto (tgt := 49) hx hb dMH_small_182 (by decide) ?_
                    have hcm := cm_succ (c := c21) (m := mB) (k := 136)
                    exact ihq21 (mB * 136 - 1) (c21 + 1) (t21 + 1) (i21 + 1) ps23 f33 f34 f35 pl ls H locs (by omega) (by omega) (by omega) hs (lv_sub hl [1, 4, 5] rfl) hO hP hD hS
                · refine lv_goto (tgt := 176) hx hb dMH_small_118 (by decide) ?_
                  refine mi_iinc (k := 1) (x := 1) (d := 1) (y := 2) (lv' := [(7, .int (nI 2)), (8, .int (nI (z22 / 16))), (6, .int (nI z22)), (5, .int (nI i21)), (0, .ref h0), (1, .ref f)]) hx hb dMH_small_176 hl rfl (by decide) rfl (by decide) rfl (fun ls hl => ?_)
                  refine lv_goto (tgt := 69) hx hb dMH_small_179 (by decide) ?_
                  refine lv_iload hx hb dMH_small_69 (lv_at hl 0 rfl) ?_
                  refine lv_iconst (v := nI 2) hx hb dMH_small_71 (by decide) ?_
                  refine mi_ge (tgt := 182) hx hb dMH_small_72 (by decide) (by omega) (by omega) (fun h59 => ?_) (fun h59 => absurd h59 (by omega))
                  refine lv_goto (tgt := 49) hx hb dMH_small_182 (by decide) ?_
                  exfalso
                  omega
      | succ d21 ihd21 =>
        intro c21 t21 i21 ps22 f30 f31 f32 pl ls H locs hi21 hi22 hd21 hs hl hO hP hD hS
        have hsl := str_le hs
        refine lv_iload hx hb dMH_small_49 (lv_at hl 0 rfl) ?_
        refine lv_sipush (v := nI 256) hx hb dMH_small_51 (by decide) ?_
        refine mi_ge (tgt := 185) hx hb dMH_small_54 (by decide) (by omega) (by omega) (fun h60 => ?_) (fun h60 => ?_)
        · have hO := close1 (e := .inl (g.2.1 0, 25, .inl f25)) hO km25 ⟨_, rfl⟩
          have hO := close1 (e := .inl (g.2.1 2, 24, .inr (.inl f24))) hO km24 ⟨_, rfl⟩
          have hO := close1 (e := .inl (g.2.1 2, 5, .inr (.inl f32))) hO km23 ⟨_, rfl⟩
          have hO := close1 (e := .inl (g.2.1 2, 25, .inr (.inl f31))) hO km22 ⟨_, rfl⟩
          have hO := close1 (e := .inl (g.2.1 2, 25, .inr (.inl f30))) hO km21 ⟨_, rfl⟩
          have hO := close1 (e := .inr (9, [.ref am21, .ref am22, .ref am23, .ref am24, .ref am25, .int (nI 136), .int (nI ps22), .int (nI 31)])) hO kr21 ⟨_, _, _, _, _, _, _, _, rfl, km21, km22, km23, km24, km25, by omega, by omega, by omega⟩
          have hO : okx g T xs ((r21, .inr (9, [.ref am21, .ref am22, .ref am23, .ref am24, .ref am25, .int (nI 136), .int (nI ps22), .int (nI 31)])) :: (am21, .inl (g.2.1 2, 25, .inr (.inl f30))) :: (am22, .inl (g.2.1 2, 25, .inr (.inl f31))) :: (am23, .inl (g.2.1 2, 5, .inr (.inl f32))) :: (am24, .inl (g.2.1 2, 24, .inr (.inl f24))) :: (am25, .inl (g.2.1 0, 25, .inl f25)) :: pl) := hO
          have hP : va_P g.1 vcl ([] ++ ((r21, .inr (9, [.ref am21, .ref am22, .ref am23, .ref am24, .ref am25, .int (nI 136), .int (nI ps22), .int (nI 31)])) :: (am21, .inl (g.2.1 2, 25, .inr (.inl f30))) :: (am22, .inl (g.2.1 2, 25, .inr (.inl f31))) :: (am23, .inl (g.2.1 2, 5, .inr (.inl f32))) :: (am24, .inl (g.2.1 2, 24, .inr (.inl f24))) :: (am25, .inl (g.2.1 0, 25, .inl f25)) :: pl)) _ := hP
          have hD : va_D _ ([] ++ ((r21, .inr (9, [.ref am21, .ref am22, .ref am23, .ref am24, .ref am25, .int (nI 136), .int (nI ps22), .int (nI 31)])) :: (am21, .inl (g.2.1 2, 25, .inr (.inl f30))) :: (am22, .inl (g.2.1 2, 25, .inr (.inl f31))) :: (am23, .inl (g.2.1 2, 5, .inr (.inl f32))) :: (am24, .inl (g.2.1 2, 24, .inr (.inl f24))) :: (am25, .inl (g.2.1 0, 25, .inl f25)) :: pl)) := hD
          generalize ((r21, .inr (9, [.ref am21, .ref am22, .ref am23, .ref am24, .ref am25, .int (nI 136), .int (nI ps22), .int (nI 31)])) :: (am21, .inl (g.2.1 2, 25, .inr (.inl f30))) :: (am22, .inl (g.2.1 2, 25, .inr (.inl f31))) :: (am23, .inl (g.2.1 2, 5, .inr (.inl f32))) :: (am24, .inl (g.2.1 2, 24, .inr (.inl f24))) :: (am25, .inl (g.2.1 0, 25, .inl f25)) :: pl) = pl at hO hP hD
          exact mp_vret hx hb hr hlk hP hD hS pl ⟨trivial, hO⟩ [] rfl rfl rfl (by omega) (by omega) dMH_small_185
        · refine lv_aload_n hx hb dMH_small_57 rfl (lv_at hl 1 rfl) ?_
          refine ty_get (ci := 12) (C := "LatticeKeysModel$Hands") (TT := T_MH) (N := 31) (kd := (46, 0)) hx hb hts (wg_ft i_MH) hown hK hO k_h0 (nxg (clo_cons (clo_cons (clo_cons (clo_cons (clo_cons (clo_cons hc0 kr21 (by decide)) km21 (by decide)) km22 (by decide)) km23 (by decide)) km24 (by decide)) km25 (by decide)) k_h0 rfl) hP (fun _ h9 => h9) rfl 0 (by decide) (hts _ (wg_t kw_1432)) (fun _ h9 => h9) (cd := (3, 20, 0)) rfl dMH_small_58 (fun v35 hv35 => ?_)
          obtain ⟨r28, rfl, kr27⟩ := (show ∃ r : Nat, v35 = .ref r ∧ T r = some (20, 0) from hv35)
          obtain rfl : r21 = r28 := hU _ _ _ (by decide) kr21 kr27
          refine mp_i (cx := [(r21, .inr (9, [.ref am21, .ref am22, .ref am23, .ref am24, .ref am25, .int (nI 136), .int (nI ps22), .int (nI 31)])), (am21, .inl (g.2.1 2, 25, .inr (.inl f30))), (am22, .inl (g.2.1 2, 25, .inr (.inl f31))), (am23, .inl (g.2.1 2, 5, .inr (.inl f32))), (am24, .inl (g.2.1 2, 24, .inr (.inl f24))), (am25, .inl (g.2.1 0, 25, .inl f25))]) (wr := []) hP hD hS hA [0, 1, 2, 3, 4, 5] [] rfl rfl rfl (by decide) (va_runV (As := []) (rest := []) F (x_MS_next l g _ T (am25 :: (am24 :: (am23 :: (am22 :: (am21 :: (r21 :: xs)))))) pl hO hU  r21 am21 am22 am23 am24 am25 136 ps22 (nI 31) f30 f31 f32 f24 f25 (by omega) (by omega)) (cwV 0 hts (wg_app (wg_c kw_1728 (wg_c kw_1642 (wg_c kw_1643 (wg_c kw_10 wg_n)))) kw_1644) rfl rfl rfl (by decide +kernel) ⟨by decide, by decide⟩) (pp_V (en_ok g) (q0 := 0) hK hP hD hS hA hE [0, 1, 2, 3, 4, 5] rfl rfl rfl rfl) rfl rfl hl.1 rfl (lv_room (Nat.le_of_ble_eq_true rfl)) dMH_small_61 ⟨by omega, by omega⟩) (fun r29 u33 H locs hu27 hP hD hS => ?_)
          obtain ⟨u34, pl⟩ := u33
          obtain ⟨hq27, hO⟩ := hu27
          obtain ⟨ps24, f36, f37, f38⟩ := u34
          have hP : va_P g.1 vcl ([(r21, .inr (9, [.ref am21, .ref am22, .ref am23, .ref am24, .ref am25, .int (nI 136), .int (nI ps24), .int (nI 31)])), (am21, .inl (g.2.1 2, 25, .inr (.inl f36))), (am22, .inl (g.2.1 2, 25, .inr (.inl f37))), (am23, .inl (g.2.1 2, 5, .inr (.inl f38))), (am24, .inl (g.2.1 2, 24, .inr (.inl f24))), (am25, .inl (g.2.1 0, 25, .inl f25))] ++ pl) _ := hP
          have hD : va_D _ ([(r21, .inr (9, [.ref am21, .ref am22, .ref am23, .ref am24, .ref am25, .int (nI 136), .int (nI ps24), .int (nI 31)])), (am21, .inl (g.2.1 2, 25, .inr (.inl f36))), (am22, .inl (g.2.1 2, 25, .inr (.inl f37))), (am23, .inl (g.2.1 2, 5, .inr (.inl f38))), (am24, .inl (g.2.1 2, 24, .inr (.inl f24))), (am25, .inl (g.2.1 0, 25, .inl f25))] ++ pl) := hD
          obtain ⟨hn22, hl22, z31, hz22, rfl, h0z22⟩ := hq27
          have hl22 : ps24 ≤ 136 := hl22
          have hs := str_next (by decide) hs hn22
          refine W.widen (k := 0) (n := 0) (by omega) (by omega) ?_
          refine lv_istore (lv' := [(6, .int (nI z31)), (5, .int (nI i21)), (0, .ref h0), (1, .ref f)]) hx hb dMH_small_64 hl (by decide) rfl (fun ls hl => ?_)
          refine lv_iconst (v := nI 0) hx hb dMH_small_66 (by decide) ?_
          refine lv_istore (lv' := [(7, .int (nI 0)), (6, .int (nI z31)), (5, .int (nI i21)), (0, .ref h0), (1, .ref f)]) hx hb dMH_small_67 hl (by decide) rfl (fun ls hl => ?_)
          refine lv_iload hx hb dMH_small_69 (lv_at hl 0 rfl) ?_
          refine lv_iconst (v := nI 2) hx hb dMH_small_71 (by decide) ?_
          refine mi_ge (tgt := 182) hx hb dMH_small_72 (by decide) (by omega) (by omega) (fun h61 => absurd h61 (by omega)) (fun h61 => ?_)
          refine lv_iload hx hb dMH_small_75 (lv_at hl 2 rfl) ?_
          refine lv_sipush (v := nI 256) hx hb dMH_small_77 (by decide) ?_
          refine mi_ge (tgt := 182) hx hb dMH_small_80 (by decide) (by omega) (by omega) (fun h62 => ?_) (fun h62 => ?_)
          · refine lv_goto (tgt := 49) hx hb dMH_small_182 (by decide) ?_
            exact ihd21 c21 (t21 + 1) i21 ps24 f36 f37 f38 pl ls H locs (by omega) (by omega) (by omega) hs (lv_sub hl [2, 3, 4] rfl) hO hP hD hS
          · refine lv_iload hx hb dMH_small_83 (lv_at hl 0 rfl) ?_
            refine lv_if_ne (tgt := 96) hx hb dMH_small_85 (by decide) (fun h63 => absurd h63 (by decide)) (fun h63 => ?_)
            refine lv_iload hx hb dMH_small_88 (lv_at hl 1 rfl) ?_
            refine lv_bipush (v := nI 16) hx hb dMH_small_90 (by decide) ?_
            refine mi_irem hx hb dMH_small_92 (by omega) (by omega) (by omega) ?_
            refine lv_goto (tgt := 101) hx hb dMH_small_93 (by decide) ?_
            refine lv_istore (lv' := [(8, .int (nI (z31 % 16))), (7, .int (nI 0)), (6, .int (nI z31)), (5, .int (nI i21)), (0, .ref h0), (1, .ref f)]) hx hb dMH_small_101 hl (by decide) rfl (fun ls hl => ?_)
            refine lv_aload_n hx hb dMH_small_103 rfl (lv_at hl 4 rfl) ?_
            refine ty_get (ci := 12) (C := "LatticeKeysModel$Hands") (TT := T_MH) (N := 31) (kd := (46, 0)) hx hb hts (wg_ft i_MH) hown hK hO k_h0 (nxg (clo_cons (clo_cons (clo_cons (clo_cons (clo_cons (clo_cons hc0 kr21 (by decide)) km21 (by decide)) km22 (by decide)) km23 (by decide)) km24 (by decide)) km25 (by decide)) k_h0 rfl) hP (fun _ h9 => h9) rfl 26 (by decide) (hts _ (wg_t kw_1458)) (fun _ h9 => h9) (cd := (1, 0, 2)) rfl dMH_small_104 (fun v36 hv36 => ?_)
            obtain rfl := (show v36 = .int (nI 2) from hv36)
            refine lv_iconst (v := nI 2) hx hb dMH_small_107 (by decide) ?_
            refine mi_ne (tgt := 121) hx hb dMH_small_108 (by decide) (by omega) (by omega) (fun h64 => absurd h64 (by omega)) (fun h64 => ?_)
            refine lv_iload hx hb dMH_small_111 (lv_at hl 0 rfl) ?_
            refine lv_bipush (v := nI 14) hx hb dMH_small_113 (by decide) ?_
            refine mi_le (tgt := 131) hx hb dMH_small_115 (by decide) (by omega) (by omega) (fun h65 => ?_) (fun h65 => ?_)
            · refine lv_aload_n hx hb dMH_small_131 rfl (lv_at hl 4 rfl) ?_
              refine ty_get (ci := 12) (C := "LatticeKeysModel$Hands") (TT := T_MH) (N := 31) (kd := (46, 0)) hx hb hts (wg_ft i_MH) hown hK hO k_h0 (nxg (clo_cons (clo_cons (clo_cons (clo_cons (clo_cons (clo_cons hc0 kr21 (by decide)) km21 (by decide)) km22 (by decide)) km23 (by decide)) km24 (by decide)) km25 (by decide)) k_h0 rfl) hP (fun _ h9 => h9) rfl 26 (by decide) (hts _ (wg_t kw_1458)) (fun _ h9 => h9) (cd := (1, 0, 2)) rfl dMH_small_132 (fun v37 hv37 => ?_)
              obtain rfl := (show v37 = .int (nI 2) from hv37)
              refine lv_iconst (v := nI 2) hx hb dMH_small_135 (by decide) ?_
              refine mi_ne (tgt := 148) hx hb dMH_small_136 (by decide) (by omega) (by omega) (fun h66 => absurd h66 (by omega)) (fun h66 => ?_)
              refine lv_iconst (v := nI 2) hx hb dMH_small_139 (by decide) ?_
              refine lv_iload hx hb dMH_small_140 (lv_at hl 0 rfl) ?_
              refine lv_iconst (v := nI 5) hx hb dMH_small_142 (by decide) ?_
              refine mi_irem hx hb dMH_small_143 (by omega) (by omega) (by omega) ?_
              refine lv_isub hx hb dMH_small_144 ?_
              refine mi_any (fun z32 => ?_)
              refine lv_goto (tgt := 152) hx hb dMH_small_145 (by decide) ?_
              refine lv_istore (lv' := [(8, .int z32), (7, .int (nI 0)), (6, .int (nI z31)), (5, .int (nI i21)), (0, .ref h0), (1, .ref f)]) hx hb dMH_small_152 hl (by decide) rfl (fun ls hl => ?_)
              refine lv_aload_n hx hb dMH_small_154 rfl (lv_at hl 5 rfl) ?_
              refine lv_iload hx hb dMH_small_155 (lv_at hl 3 rfl) ?_
              refine lv_iload hx hb dMH_small_157 (lv_at hl 0 rfl) ?_
              refine lv_if_ge (tgt := 170) hx hb dMH_small_159 (by decide) (fun h67 => ?_) (fun h67 => ?_)
              · refine lv_iload hx hb dMH_small_170 (lv_at hl 0 rfl) ?_
                refine ty_iast hx hb hK hO k_f (nxg (clo_cons (clo_cons (clo_cons (clo_cons (clo_cons (clo_cons hc0 kr21 (by decide)) km21 (by decide)) km22 (by decide)) km23 (by decide)) km24 (by decide)) km25 (by decide)) k_f rfl) hP hD hS (vp_in_nI (by omega) (by decide)) dMH_small_172 (fun pl H locs hO hP hD hS => ?_)
                refine mi_iinc (k := 3) (x := i21) (d := 1) (y := i21 + 1) (lv' := [(5, .int (nI (i21 + 1))), (8, .int z32), (7, .int (nI 0)), (6, .int (nI z31)), (0, .ref h0), (1, .ref f)]) hx hb dMH_small_173 hl rfl (by decide) rfl (by decide) rfl (fun ls hl => ?_)
                refine mi_iinc (k := 2) (x := 0) (d := 1) (y := 1) (lv' := [(7, .int (nI 1)), (5, .int (nI (i21 + 1))), (8, .int z32), (6, .int (nI z31)), (0, .ref h0), (1, .ref f)]) hx hb dMH_small_176 hl rfl (by decide) rfl (by decide) rfl (fun ls hl => ?_)
                refine lv_goto (tgt := 69) hx hb dMH_small_179 (by decide) ?_
                refine lv_iload hx hb dMH_small_69 (lv_at hl 0 rfl) ?_
                refine lv_iconst (v := nI 2) hx hb dMH_small_71 (by decide) ?_
                refine mi_ge (tgt := 182) hx hb dMH_small_72 (by decide) (by omega) (by omega) (fun h68 => absurd h68 (by omega)) (fun h68 => ?_)
                refine lv_iload hx hb dMH_small_75 (lv_at hl 1 rfl) ?_
                refine lv_sipush (v := nI 256) hx hb dMH_small_77 (by decide) ?_
                refine mi_ge (tgt := 182) hx hb dMH_small_80 (by decide) (by omega) (by omega) (fun h69 => ?_) (fun h69 => ?_)
                · refine lv_goto (tgt := 49) hx hb dMH_small_182 (by decide) ?_
                  exact ihq21 d21 c21 (t21 + 1) (i21 + 1) ps24 f36 f37 f38 pl ls H locs (by omega) (by omega) (by omega) hs (lv_sub hl [1, 4, 5] rfl) hO hP hD hS
                · refine lv_iload hx hb dMH_small_83 (lv_at hl 0 rfl) ?_
                  refine lv_if_ne (tgt := 96) hx hb dMH_small_85 (by decide) (fun h70 => ?_) (fun h70 => absurd h70 (by decide))
                  refine lv_iload hx hb dMH_small_96 (lv_at hl 3 rfl) ?_
                  refine lv_bipush (v := nI 16) hx hb dMH_small_98 (by decide) ?_
                  refine mi_idiv hx hb dMH_small_100 (by omega) (by omega) (by omega) ?_
                  refine lv_istore (lv' := [(8, .int (nI (z31 / 16))), (7, .int (nI 1)), (5, .int (nI (i21 + 1))), (6, .int (nI z31)), (0, .ref h0), (1, .ref f)]) hx hb dMH_small_101 hl (by decide) rfl (fun ls hl => ?_)
                  refine lv_aload_n hx hb dMH_small_103 rfl (lv_at hl 4 rfl) ?_
                  refine ty_get (ci := 12) (C := "LatticeKeysModel$Hands") (TT := T_MH) (N := 31) (kd := (46, 0)) hx hb hts (wg_ft i_MH) hown hK hO k_h0 (nxg (clo_cons (clo_cons (clo_cons (clo_cons (clo_cons (clo_cons hc0 kr21 (by decide)) km21 (by decide)) km22 (by decide)) km23 (by decide)) km24 (by decide)) km25 (by decide)) k_h0 rfl) hP (fun _ h9 => h9) rfl 26 (by decide) (hts _ (wg_t kw_1458)) (fun _ h9 => h9) (cd := (1, 0, 2)) rfl dMH_small_104 (fun v38 hv38 => ?_)
                  obtain rfl := (show v38 = .int (nI 2) from hv38)
                  refine lv_iconst (v := nI 2) hx hb dMH_small_107 (by decide) ?_
                  refine mi_ne (tgt := 121) hx hb dMH_small_108 (by decide) (by omega) (by omega) (fun h71 => absurd h71 (by omega)) (fun h71 => ?_)
                  refine lv_iload hx hb dMH_small_111 (lv_at hl 0 rfl) ?_
                  refine lv_bipush (v := nI 14) hx hb dMH_small_113 (by decide) ?_
                  refine mi_le (tgt := 131) hx hb dMH_small_115 (by decide) (by omega) (by omega) (fun h72 => ?_) (fun h72 => ?_)
                  · refine lv_aload_n hx hb dMH_small_131 rfl (lv_at hl 4 rfl) ?_
                    refine ty_get (ci := 12) (C := "LatticeKeysModel$Hands") (TT := T_MH) (N := 31) (kd := (46, 0)) hx hb hts (wg_ft i_MH) hown hK hO k_h0 (nxg (clo_cons (clo_cons (clo_cons (clo_cons (clo_cons (clo_cons hc0 kr21 (by decide)) km21 (by decide)) km22 (by decide)) km23 (by decide)) km24 (by decide)) km25 (by decide)) k_h0 rfl) hP (fun _ h9 => h9) rfl 26 (by decide) (hts _ (wg_t kw_1458)) (fun _ h9 => h9) (cd := (1, 0, 2)) rfl dMH_small_132 (fun v39 hv39 => ?_)
                    obtain rfl := (show v39 = .int (nI 2) from hv39)
                    refine lv_iconst (v := nI 2) hx hb dMH_small_135 (by decide) ?_
                    refine mi_ne (tgt := 148) hx hb dMH_small_136 (by decide) (by omega) (by omega) (fun h73 => absurd h73 (by omega)) (fun h73 => ?_)
                    refine lv_iconst (v := nI 2) hx hb dMH_small_139 (by decide) ?_
                    refine lv_iload hx hb dMH_small_140 (lv_at hl 0 rfl) ?_
                    refine lv_iconst (v := nI 5) hx hb dMH_small_142 (by decide) ?_
                    refine mi_irem hx hb dMH_small_143 (by omega) (by omega) (by omega) ?_
                    refine lv_isub hx hb dMH_small_144 ?_
                    refine mi_any (fun z33 => ?_)
                    refine lv_goto (tgt := 152) hx hb dMH_small_145 (by decide) ?_
                    refine lv_istore (lv' := [(8, .int z33), (7, .int (nI 1)), (5, .int (nI (i21 + 1))), (6, .int (nI z31)), (0, .ref h0), (1, .ref f)]) hx hb dMH_small_152 hl (by decide) rfl (fun ls hl => ?_)
                    refine lv_aload_n hx hb dMH_small_154 rfl (lv_at hl 5 rfl) ?_
                    refine lv_iload hx hb dMH_small_155 (lv_at hl 2 rfl) ?_
                    refine lv_iload hx hb dMH_small_157 (lv_at hl 0 rfl) ?_
                    refine lv_if_ge (tgt := 170) hx hb dMH_small_159 (by decide) (fun h74 => ?_) (fun h74 => ?_)
                    · refine lv_iload hx hb dMH_small_170 (lv_at hl 0 rfl) ?_
                      refine ty_iast hx hb hK hO k_f (nxg (clo_cons (clo_cons (clo_cons (clo_cons (clo_cons (clo_cons hc0 kr21 (by decide)) km21 (by decide)) km22 (by decide)) km23 (by decide)) km24 (by decide)) km25 (by decide)) k_f rfl) hP hD hS (vp_in_nI (by omega) (by decide)) dMH_small_172 (fun pl H locs hO hP hD hS => ?_)
                      refine mi_iinc (k := 2) (x := i21 + 1) (d := 1) (y := i21 + 1 + 1) (lv' := [(5, .int (nI (i21 + 1 + 1))), (8, .int z33), (7, .int (nI 1)), (6, .int (nI z31)), (0, .ref h0), (1, .ref f)]) hx hb dMH_small_173 hl rfl (by decide) rfl (by decide) rfl (fun ls hl => ?_)
                      refine mi_iinc (k := 2) (x := 1) (d := 1) (y := 2) (lv' := [(7, .int (nI 2)), (5, .int (nI (i21 + 1 + 1))), (8, .int z33), (6, .int (nI z31)), (0, .ref h0), (1, .ref f)]) hx hb dMH_small_176 hl rfl (by decide) rfl (by decide) rfl (fun ls hl => ?_)
                      refine lv_goto (tgt := 69) hx hb dMH_small_179 (by decide) ?_
                      refine lv_iload hx hb dMH_small_69 (lv_at hl 0 rfl) ?_
                      refine lv_iconst (v := nI 2) hx hb dMH_small_71 (by decide) ?_
                      refine mi_ge (tgt := 182) hx hb dMH_small_72 (by decide) (by omega) (by omega) (fun h75 => ?_) (fun h75 => absurd h75 (by omega))
                      refine lv_goto (tgt := 49) hx hb dMH_small_182 (by decide) ?_
                      exact ihq21 d21 c21 (t21 + 1) (i21 + 1 + 1) ps24 f36 f37 f38 pl ls H locs (by omega) (by omega) (by omega) hs (lv_sub hl [1, 4, 5] rfl) hO hP hD hS
                    · refine lv_iload hx hb dMH_small_162 (lv_at hl 0 rfl) ?_
                      refine lv_ldc (v := 8380417) hx hb hown (hts _ (wg_t kw_1429)) dMH_small_164 ?_
                      refine mi_as (show (8380417 : Int32) = nI 8380417 by decide) ?_
                      refine lv_iadd hx hb dMH_small_166 ?_
                      refine mi_any (fun z34 => ?_)
                      refine lv_goto (tgt := 172) hx hb dMH_small_167 (by decide) ?_
                      refine ty_iast hx hb hK hO k_f (nxg (clo_cons (clo_cons (clo_cons (clo_cons (clo_cons (clo_cons hc0 kr21 (by decide)) km21 (by decide)) km22 (by decide)) km23 (by decide)) km24 (by decide)) km25 (by decide)) k_f rfl) hP hD hS (vp_in_nI (by omega) (by decide)) dMH_small_172 (fun pl H locs hO hP hD hS => ?_)
                      refine mi_iinc (k := 2) (x := i21 + 1) (d := 1) (y := i21 + 1 + 1) (lv' := [(5, .int (nI (i21 + 1 + 1))), (8, .int z33), (7, .int (nI 1)), (6, .int (nI z31)), (0, .ref h0), (1, .ref f)]) hx hb dMH_small_173 hl rfl (by decide) rfl (by decide) rfl (fun ls hl => ?_)
                      refine mi_iinc (k := 2) (x := 1) (d := 1) (y := 2) (lv' := [(7, .int (nI 2)), (5, .int (nI (i21 + 1 + 1))), (8, .int z33), (6, .int (nI z31)), (0, .ref h0), (1, .ref f)]) hx hb dMH_small_176 hl rfl (by decide) rfl (by decide) rfl (fun ls hl => ?_)
                      refine lv_goto (tgt := 69) hx hb dMH_small_179 (by decide) ?_
                      refine lv_iload hx hb dMH_small_69 (lv_at hl 0 rfl) ?_
                      refine lv_iconst (v := nI 2) hx hb dMH_small_71 (by decide) ?_
                      refine mi_ge (tgt := 182) hx hb dMH_small_72 (by decide) (by omega) (by omega) (fun h76 => ?_) (fun h76 => absurd h76 (by omega))
                      refine lv_goto (tgt := 49) hx hb dMH_small_182 (by decide) ?_
                      exact ihq21 d21 c21 (t21 + 1) (i21 + 1 + 1) ps24 f36 f37 f38 pl ls H locs (by omega) (by omega) (by omega) hs (lv_sub hl [1, 4, 5] rfl) hO hP hD hS
                  · refine lv_goto (tgt := 176) hx hb dMH_small_118 (by decide) ?_
                    refine mi_iinc (k := 1) (x := 1) (d := 1) (y := 2) (lv' := [(7, .int (nI 2)), (8, .int (nI (z31 / 16))), (5, .int (nI (i21 + 1))), (6, .int (nI z31)), (0, .ref h0), (1, .ref f)]) hx hb dMH_small_176 hl rfl (by decide) rfl (by decide) rfl (fun ls hl => ?_)
                    refine lv_goto (tgt := 69) hx hb dMH_small_179 (by decide) ?_
                    refine lv_iload hx hb dMH_small_69 (lv_at hl 0 rfl) ?_
                    refine lv_iconst (v := nI 2) hx hb dMH_small_71 (by decide) ?_
                    refine mi_ge (tgt := 182) hx hb dMH_small_72 (by decide) (by omega) (by omega) (fun h77 => ?_) (fun h77 => absurd h77 (by omega))
                    refine lv_goto (tgt := 49) hx hb dMH_small_182 (by decide) ?_
                    exact ihq21 d21 c21 (t21 + 1) (i21 + 1) ps24 f36 f37 f38 pl ls H locs (by omega) (by omega) (by omega) hs (lv_sub hl [2, 4, 5] rfl) hO hP hD hS
              · refine lv_iload hx hb dMH_small_162 (lv_at hl 0 rfl) ?_
                refine lv_ldc (v := 8380417) hx hb hown (hts _ (wg_t kw_1429)) dMH_small_164 ?_
                refine mi_as (show (8380417 : Int32) = nI 8380417 by decide) ?_
                refine lv_iadd hx hb dMH_small_166 ?_
                refine mi_any (fun z35 => ?_)
                refine lv_goto (tgt := 172) hx hb dMH_small_167 (by decide) ?_
                refine ty_iast hx hb hK hO k_f (nxg (clo_cons (clo_cons (clo_cons (clo_cons (clo_cons (clo_cons hc0 kr21 (by decide)) km21 (by decide)) km22 (by decide)) km23 (by decide)) km24 (by decide)) km25 (by decide)) k_f rfl) hP hD hS (vp_in_nI (by omega) (by decide)) dMH_small_172 (fun pl H locs hO hP hD hS => ?_)
                refine mi_iinc (k := 3) (x := i21) (d := 1) (y := i21 + 1) (lv' := [(5, .int (nI (i21 + 1))), (8, .int z32), (7, .int (nI 0)), (6, .int (nI z31)), (0, .ref h0), (1, .ref f)]) hx hb dMH_small_173 hl rfl (by decide) rfl (by decide) rfl (fun ls hl => ?_)
                refine mi_iinc (k := 2) (x := 0) (d := 1) (y := 1) (lv' := [(7, .int (nI 1)), (5, .int (nI (i21 + 1))), (8, .int z32), (6, .int (nI z31)), (0, .ref h0), (1, .ref f)]) hx hb dMH_small_176 hl rfl (by decide) rfl (by decide) rfl (fun ls hl => ?_)
                refine lv_goto (tgt := 69) hx hb dMH_small_179 (by decide) ?_
                refine lv_iload hx hb dMH_small_69 (lv_at hl 0 rfl) ?_
                refine lv_iconst (v := nI 2) hx hb dMH_small_71 (by decide) ?_
                refine mi_ge (tgt := 182) hx hb dMH_small_72 (by decide) (by omega) (by omega) (fun h78 => absurd h78 (by omega)) (fun h78 => ?_)
                refine lv_iload hx hb dMH_small_75 (lv_at hl 1 rfl) ?_
                refine lv_sipush (v := nI 256) hx hb dMH_small_77 (by decide) ?_
                refine mi_ge (tgt := 182) hx hb dMH_small_80 (by decide) (by omega) (by omega) (fun h79 => ?_) (fun h79 => ?_)
                · refine lv_goto (tgt := 49) hx hb dMH_small_182 (by decide) ?_
                  exact ihq21 d21 c21 (t21 + 1) (i21 + 1) ps24 f36 f37 f38 pl ls H locs (by omega) (by omega) (by omega) hs (lv_sub hl [1, 4, 5] rfl) hO hP hD hS
                · refine lv_iload hx hb dMH_small_83 (lv_at hl 0 rfl) ?_
                  refine lv_if_ne (tgt := 96) hx hb dMH_small_85 (by decide) (fun h80 => ?_) (fun h80 => absurd h80 (by decide))
                  refine lv_iload hx hb dMH_small_96 (lv_at hl 3 rfl) ?_
                  refine lv_bipush (v := nI 16) hx hb dMH_small_98 (by decide) ?_
                  refine mi_idiv hx hb dMH_small_100 (by omega) (by omega) (by omega) ?_
                  refine lv_istore (lv' := [(8, .int (nI (z31 / 16))), (7, .int (nI 1)), (5, .int (nI (i21 + 1))), (6, .int (nI z31)), (0, .ref h0), (1, .ref f)]) hx hb dMH_small_101 hl (by decide) rfl (fun ls hl => ?_)
                  refine lv_aload_n hx hb dMH_small_103 rfl (lv_at hl 4 rfl) ?_
                  refine ty_get (ci := 12) (C := "LatticeKeysModel$Hands") (TT := T_MH) (N := 31) (kd := (46, 0)) hx hb hts (wg_ft i_MH) hown hK hO k_h0 (nxg (clo_cons (clo_cons (clo_cons (clo_cons (clo_cons (clo_cons hc0 kr21 (by decide)) km21 (by decide)) km22 (by decide)) km23 (by decide)) km24 (by decide)) km25 (by decide)) k_h0 rfl) hP (fun _ h9 => h9) rfl 26 (by decide) (hts _ (wg_t kw_1458)) (fun _ h9 => h9) (cd := (1, 0, 2)) rfl dMH_small_104 (fun v40 hv40 => ?_)
                  obtain rfl := (show v40 = .int (nI 2) from hv40)
                  refine lv_iconst (v := nI 2) hx hb dMH_small_107 (by decide) ?_
                  refine mi_ne (tgt := 121) hx hb dMH_small_108 (by decide) (by omega) (by omega) (fun h81 => absurd h81 (by omega)) (fun h81 => ?_)
                  refine lv_iload hx hb dMH_small_111 (lv_at hl 0 rfl) ?_
                  refine lv_bipush (v := nI 14) hx hb dMH_small_113 (by decide) ?_
                  refine mi_le (tgt := 131) hx hb dMH_small_115 (by decide) (by omega) (by omega) (fun h82 => ?_) (fun h82 => ?_)
                  · refine lv_aload_n hx hb dMH_small_131 rfl (lv_at hl 4 rfl) ?_
                    refine ty_get (ci := 12) (C := "LatticeKeysModel$Hands") (TT := T_MH) (N := 31) (kd := (46, 0)) hx hb hts (wg_ft i_MH) hown hK hO k_h0 (nxg (clo_cons (clo_cons (clo_cons (clo_cons (clo_cons (clo_cons hc0 kr21 (by decide)) km21 (by decide)) km22 (by decide)) km23 (by decide)) km24 (by decide)) km25 (by decide)) k_h0 rfl) hP (fun _ h9 => h9) rfl 26 (by decide) (hts _ (wg_t kw_1458)) (fun _ h9 => h9) (cd := (1, 0, 2)) rfl dMH_small_132 (fun v41 hv41 => ?_)
                    obtain rfl := (show v41 = .int (nI 2) from hv41)
                    refine lv_iconst (v := nI 2) hx hb dMH_small_135 (by decide) ?_
                    refine mi_ne (tgt := 148) hx hb dMH_small_136 (by decide) (by omega) (by omega) (fun h83 => absurd h83 (by omega)) (fun h83 => ?_)
                    refine lv_iconst (v := nI 2) hx hb dMH_small_139 (by decide) ?_
                    refine lv_iload hx hb dMH_small_140 (lv_at hl 0 rfl) ?_
                    refine lv_iconst (v := nI 5) hx hb dMH_small_142 (by decide) ?_
                    refine mi_irem hx hb dMH_small_143 (by omega) (by omega) (by omega) ?_
                    refine lv_isub hx hb dMH_small_144 ?_
                    refine mi_any (fun z36 => ?_)
                    refine lv_goto (tgt := 152) hx hb dMH_small_145 (by decide) ?_
                    refine lv_istore (lv' := [(8, .int z36), (7, .int (nI 1)), (5, .int (nI (i21 + 1))), (6, .int (nI z31)), (0, .ref h0), (1, .ref f)]) hx hb dMH_small_152 hl (by decide) rfl (fun ls hl => ?_)
                    refine lv_aload_n hx hb dMH_small_154 rfl (lv_at hl 5 rfl) ?_
                    refine lv_iload hx hb dMH_small_155 (lv_at hl 2 rfl) ?_
                    refine lv_iload hx hb dMH_small_157 (lv_at hl 0 rfl) ?_
                    refine lv_if_ge (tgt := 170) hx hb dMH_small_159 (by decide) (fun h84 => ?_) (fun h84 => ?_)
                    · refine lv_iload hx hb dMH_small_170 (lv_at hl 0 rfl) ?_
                      refine ty_iast hx hb hK hO k_f (nxg (clo_cons (clo_cons (clo_cons (clo_cons (clo_cons (clo_cons hc0 kr21 (by decide)) km21 (by decide)) km22 (by decide)) km23 (by decide)) km24 (by decide)) km25 (by decide)) k_f rfl) hP hD hS (vp_in_nI (by omega) (by decide)) dMH_small_172 (fun pl H locs hO hP hD hS => ?_)
                      refine mi_iinc (k := 2) (x := i21 + 1) (d := 1) (y := i21 + 1 + 1) (lv' := [(5, .int (nI (i21 + 1 + 1))), (8, .int z36), (7, .int (nI 1)), (6, .int (nI z31)), (0, .ref h0), (1, .ref f)]) hx hb dMH_small_173 hl rfl (by decide) rfl (by decide) rfl (fun ls hl => ?_)
                      refine mi_iinc (k := 2) (x := 1) (d := 1) (y := 2) (lv' := [(7, .int (nI 2)), (5, .int (nI (i21 + 1 + 1))), (8, .int z36), (6, .int (nI z31)), (0, .ref h0), (1, .ref f)]) hx hb dMH_small_176 hl rfl (by decide) rfl (by decide) rfl (fun ls hl => ?_)
                      refine lv_goto (tgt := 69) hx hb dMH_small_179 (by decide) ?_
                      refine lv_iload hx hb dMH_small_69 (lv_at hl 0 rfl) ?_
                      refine lv_iconst (v := nI 2) hx hb dMH_small_71 (by decide) ?_
                      refine mi_ge (tgt := 182) hx hb dMH_small_72 (by decide) (by omega) (by omega) (fun h85 => ?_) (fun h85 => absurd h85 (by omega))
                      refine lv_goto (tgt := 49) hx hb dMH_small_182 (by decide) ?_
                      exact ihq21 d21 c21 (t21 + 1) (i21 + 1 + 1) ps24 f36 f37 f38 pl ls H locs (by omega) (by omega) (by omega) hs (lv_sub hl [1, 4, 5] rfl) hO hP hD hS
                    · refine lv_iload hx hb dMH_small_162 (lv_at hl 0 rfl) ?_
                      refine lv_ldc (v := 8380417) hx hb hown (hts _ (wg_t kw_1429)) dMH_small_164 ?_
                      refine mi_as (show (8380417 : Int32) = nI 8380417 by decide) ?_
                      refine lv_iadd hx hb dMH_small_166 ?_
                      refine mi_any (fun z37 => ?_)
                      refine lv_goto (tgt := 172) hx hb dMH_small_167 (by decide) ?_
                      refine ty_iast hx hb hK hO k_f (nxg (clo_cons (clo_cons (clo_cons (clo_cons (clo_cons (clo_cons hc0 kr21 (by decide)) km21 (by decide)) km22 (by decide)) km23 (by decide)) km24 (by decide)) km25 (by decide)) k_f rfl) hP hD hS (vp_in_nI (by omega) (by decide)) dMH_small_172 (fun pl H locs hO hP hD hS => ?_)
                      refine mi_iinc (k := 2) (x := i21 + 1) (d := 1) (y := i21 + 1 + 1) (lv' := [(5, .int (nI (i21 + 1 + 1))), (8, .int z36), (7, .int (nI 1)), (6, .int (nI z31)), (0, .ref h0), (1, .ref f)]) hx hb dMH_small_173 hl rfl (by decide) rfl (by decide) rfl (fun ls hl => ?_)
                      refine mi_iinc (k := 2) (x := 1) (d := 1) (y := 2) (lv' := [(7, .int (nI 2)), (5, .int (nI (i21 + 1 + 1))), (8, .int z36), (6, .int (nI z31)), (0, .ref h0), (1, .ref f)]) hx hb dMH_small_176 hl rfl (by decide) rfl (by decide) rfl (fun ls hl => ?_)
                      refine lv_goto (tgt := 69) hx hb dMH_small_179 (by decide) ?_
                      refine lv_iload hx hb dMH_small_69 (lv_at hl 0 rfl) ?_
                      refine lv_iconst (v := nI 2) hx hb dMH_small_71 (by decide) ?_
                      refine mi_ge (tgt := 182) hx hb dMH_small_72 (by decide) (by omega) (by omega) (fun h86 => ?_) (fun h86 => absurd h86 (by omega))
                      refine lv_goto (tgt := 49) hx hb dMH_small_182 (by decide) ?_
                      exact ihq21 d21 c21 (t21 + 1) (i21 + 1 + 1) ps24 f36 f37 f38 pl ls H locs (by omega) (by omega) (by omega) hs (lv_sub hl [1, 4, 5] rfl) hO hP hD hS
                  · refine lv_goto (tgt := 176) hx hb dMH_small_118 (by decide) ?_
                    refine mi_iinc (k := 1) (x := 1) (d := 1) (y := 2) (lv' := [(7, .int (nI 2)), (8, .int (nI (z31 / 16))), (5, .int (nI (i21 + 1))), (6, .int (nI z31)), (0, .ref h0), (1, .ref f)]) hx hb dMH_small_176 hl rfl (by decide) rfl (by decide) rfl (fun ls hl => ?_)
                    refine lv_goto (tgt := 69) hx hb dMH_small_179 (by decide) ?_
                    refine lv_iload hx hb dMH_small_69 (lv_at hl 0 rfl) ?_
                    refine lv_iconst (v := nI 2) hx hb dMH_small_71 (by decide) ?_
                    refine mi_ge (tgt := 182) hx hb dMH_small_72 (by decide) (by omega) (by omega) (fun h87 => ?_) (fun h87 => absurd h87 (by omega))
                    refine lv_goto (tgt := 49) hx hb dMH_small_182 (by decide) ?_
                    exact ihq21 d21 c21 (t21 + 1) (i21 + 1) ps24 f36 f37 f38 pl ls H locs (by omega) (by omega) (by omega) hs (lv_sub hl [2, 4, 5] rfl) hO hP hD hS
            · refine lv_goto (tgt := 176) hx hb dMH_small_118 (by decide) ?_
              refine mi_iinc (k := 1) (x := 0) (d := 1) (y := 1) (lv' := [(7, .int (nI 1)), (8, .int (nI (z31 % 16))), (6, .int (nI z31)), (5, .int (nI i21)), (0, .ref h0), (1, .ref f)]) hx hb dMH_small_176 hl rfl (by decide) rfl (by decide) rfl (fun ls hl => ?_)
              refine lv_goto (tgt := 69) hx hb dMH_small_179 (by decide) ?_
              refine lv_iload hx hb dMH_small_69 (lv_at hl 0 rfl) ?_
              refine lv_iconst (v := nI 2) hx hb dMH_small_71 (by decide) ?_
              refine mi_ge (tgt := 182) hx hb dMH_small_72 (by decide) (by omega) (by omega) (fun h88 => absurd h88 (by omega)) (fun h88 => ?_)
              refine lv_iload hx hb dMH_small_75 (lv_at hl 3 rfl) ?_
              refine lv_sipush (v := nI 256) hx hb dMH_small_77 (by decide) ?_
              refine mi_ge (tgt := 182) hx hb dMH_small_80 (by decide) (by omega) (by omega) (fun h89 => ?_) (fun h89 => ?_)
              · refine lv_goto (tgt := 49) hx hb dMH_small_182 (by decide) ?_
                exact ihd21 c21 (t21 + 1) i21 ps24 f36 f37 f38 pl ls H locs (by omega) (by omega) (by omega) hs (lv_sub hl [3, 4, 5] rfl) hO hP hD hS
              · refine lv_iload hx hb dMH_small_83 (lv_at hl 0 rfl) ?_
                refine lv_if_ne (tgt := 96) hx hb dMH_small_85 (by decide) (fun h90 => ?_) (fun h90 => absurd h90 (by decide))
                refine lv_iload hx hb dMH_small_96 (lv_at hl 2 rfl) ?_
                refine lv_bipush (v := nI 16) hx hb dMH_small_98 (by decide) ?_
                refine mi_idiv hx hb dMH_small_100 (by omega) (by omega) (by omega) ?_
                refine lv_istore (lv' := [(8, .int (nI (z31 / 16))), (7, .int (nI 1)), (6, .int (nI z31)), (5, .int (nI i21)), (0, .ref h0), (1, .ref f)]) hx hb dMH_small_101 hl (by decide) rfl (fun ls hl => ?_)
                refine lv_aload_n hx hb dMH_small_103 rfl (lv_at hl 4 rfl) ?_
                refine ty_get (ci := 12) (C := "LatticeKeysModel$Hands") (TT := T_MH) (N := 31) (kd := (46, 0)) hx hb hts (wg_ft i_MH) hown hK hO k_h0 (nxg (clo_cons (clo_cons (clo_cons (clo_cons (clo_cons (clo_cons hc0 kr21 (by decide)) km21 (by decide)) km22 (by decide)) km23 (by decide)) km24 (by decide)) km25 (by decide)) k_h0 rfl) hP (fun _ h9 => h9) rfl 26 (by decide) (hts _ (wg_t kw_1458)) (fun _ h9 => h9) (cd := (1, 0, 2)) rfl dMH_small_104 (fun v42 hv42 => ?_)
                obtain rfl := (show v42 = .int (nI 2) from hv42)
                refine lv_iconst (v := nI 2) hx hb dMH_small_107 (by decide) ?_
                refine mi_ne (tgt := 121) hx hb dMH_small_108 (by decide) (by omega) (by omega) (fun h91 => absurd h91 (by omega)) (fun h91 => ?_)
                refine lv_iload hx hb dMH_small_111 (lv_at hl 0 rfl) ?_
                refine lv_bipush (v := nI 14) hx hb dMH_small_113 (by decide) ?_
                refine mi_le (tgt := 131) hx hb dMH_small_115 (by decide) (by omega) (by omega) (fun h92 => ?_) (fun h92 => ?_)
                · refine lv_aload_n hx hb dMH_small_131 rfl (lv_at hl 4 rfl) ?_
                  refine ty_get (ci := 12) (C := "LatticeKeysModel$Hands") (TT := T_MH) (N := 31) (kd := (46, 0)) hx hb hts (wg_ft i_MH) hown hK hO k_h0 (nxg (clo_cons (clo_cons (clo_cons (clo_cons (clo_cons (clo_cons hc0 kr21 (by decide)) km21 (by decide)) km22 (by decide)) km23 (by decide)) km24 (by decide)) km25 (by decide)) k_h0 rfl) hP (fun _ h9 => h9) rfl 26 (by decide) (hts _ (wg_t kw_1458)) (fun _ h9 => h9) (cd := (1, 0, 2)) rfl dMH_small_132 (fun v43 hv43 => ?_)
                  obtain rfl := (show v43 = .int (nI 2) from hv43)
                  refine lv_iconst (v := nI 2) hx hb dMH_small_135 (by decide) ?_
                  refine mi_ne (tgt := 148) hx hb dMH_small_136 (by decide) (by omega) (by omega) (fun h93 => absurd h93 (by omega)) (fun h93 => ?_)
                  refine lv_iconst (v := nI 2) hx hb dMH_small_139 (by decide) ?_
                  refine lv_iload hx hb dMH_small_140 (lv_at hl 0 rfl) ?_
                  refine lv_iconst (v := nI 5) hx hb dMH_small_142 (by decide) ?_
                  refine mi_irem hx hb dMH_small_143 (by omega) (by omega) (by omega) ?_
                  refine lv_isub hx hb dMH_small_144 ?_
                  refine mi_any (fun z38 => ?_)
                  refine lv_goto (tgt := 152) hx hb dMH_small_145 (by decide) ?_
                  refine lv_istore (lv' := [(8, .int z38), (7, .int (nI 1)), (6, .int (nI z31)), (5, .int (nI i21)), (0, .ref h0), (1, .ref f)]) hx hb dMH_small_152 hl (by decide) rfl (fun ls hl => ?_)
                  refine lv_aload_n hx hb dMH_small_154 rfl (lv_at hl 5 rfl) ?_
                  refine lv_iload hx hb dMH_small_155 (lv_at hl 3 rfl) ?_
                  refine lv_iload hx hb dMH_small_157 (lv_at hl 0 rfl) ?_
                  refine lv_if_ge (tgt := 170) hx hb dMH_small_159 (by decide) (fun h94 => ?_) (fun h94 => ?_)
                  · refine lv_iload hx hb dMH_small_170 (lv_at hl 0 rfl) ?_
                    refine ty_iast hx hb hK hO k_f (nxg (clo_cons (clo_cons (clo_cons (clo_cons (clo_cons (clo_cons hc0 kr21 (by decide)) km21 (by decide)) km22 (by decide)) km23 (by decide)) km24 (by decide)) km25 (by decide)) k_f rfl) hP hD hS (vp_in_nI (by omega) (by decide)) dMH_small_172 (fun pl H locs hO hP hD hS => ?_)
                    refine mi_iinc (k := 3) (x := i21) (d := 1) (y := i21 + 1) (lv' := [(5, .int (nI (i21 + 1))), (8, .int z38), (7, .int (nI 1)), (6, .int (nI z31)), (0, .ref h0), (1, .ref f)]) hx hb dMH_small_173 hl rfl (by decide) rfl (by decide) rfl (fun ls hl => ?_)
                    refine mi_iinc (k := 2) (x := 1) (d := 1) (y := 2) (lv' := [(7, .int (nI 2)), (5, .int (nI (i21 + 1))), (8, .int z38), (6, .int (nI z31)), (0, .ref h0), (1, .ref f)]) hx hb dMH_small_176 hl rfl (by decide) rfl (by decide) rfl (fun ls hl => ?_)
                    refine lv_goto (tgt := 69) hx hb dMH_small_179 (by decide) ?_
                    refine lv_iload hx hb dMH_small_69 (lv_at hl 0 rfl) ?_
                    refine lv_iconst (v := nI 2) hx hb dMH_small_71 (by decide) ?_
                    refine mi_ge (tgt := 182) hx hb dMH_small_72 (by decide) (by omega) (by omega) (fun h95 => ?_) (fun h95 => absurd h95 (by omega))
                    refine lv_goto (tgt := 49) hx hb dMH_small_182 (by decide) ?_
                    exact ihq21 d21 c21 (t21 + 1) (i21 + 1) ps24 f36 f37 f38 pl ls H locs (by omega) (by omega) (by omega) hs (lv_sub hl [1, 4, 5] rfl) hO hP hD hS
                  · refine lv_iload hx hb dMH_small_162 (lv_at hl 0 rfl) ?_
                    refine lv_ldc (v := 8380417) hx hb hown (hts _ (wg_t kw_1429)) dMH_small_164 ?_
                    refine mi_as (show (8380417 : Int32) = nI 8380417 by decide) ?_
                    refine lv_iadd hx hb dMH_small_166 ?_
                    refine mi_any (fun z39 => ?_)
                    refine lv_goto (tgt := 172) hx hb dMH_small_167 (by decide) ?_
                    refine ty_iast hx hb hK hO k_f (nxg (clo_cons (clo_cons (clo_cons (clo_cons (clo_cons (clo_cons hc0 kr21 (by decide)) km21 (by decide)) km22 (by decide)) km23 (by decide)) km24 (by decide)) km25 (by decide)) k_f rfl) hP hD hS (vp_in_nI (by omega) (by decide)) dMH_small_172 (fun pl H locs hO hP hD hS => ?_)
                    refine mi_iinc (k := 3) (x := i21) (d := 1) (y := i21 + 1) (lv' := [(5, .int (nI (i21 + 1))), (8, .int z38), (7, .int (nI 1)), (6, .int (nI z31)), (0, .ref h0), (1, .ref f)]) hx hb dMH_small_173 hl rfl (by decide) rfl (by decide) rfl (fun ls hl => ?_)
                    refine mi_iinc (k := 2) (x := 1) (d := 1) (y := 2) (lv' := [(7, .int (nI 2)), (5, .int (nI (i21 + 1))), (8, .int z38), (6, .int (nI z31)), (0, .ref h0), (1, .ref f)]) hx hb dMH_small_176 hl rfl (by decide) rfl (by decide) rfl (fun ls hl => ?_)
                    refine lv_goto (tgt := 69) hx hb dMH_small_179 (by decide) ?_
                    refine lv_iload hx hb dMH_small_69 (lv_at hl 0 rfl) ?_
                    refine lv_iconst (v := nI 2) hx hb dMH_small_71 (by decide) ?_
                    refine mi_ge (tgt := 182) hx hb dMH_small_72 (by decide) (by omega) (by omega) (fun h96 => ?_) (fun h96 => absurd h96 (by omega))
                    refine lv_goto (tgt := 49) hx hb dMH_small_182 (by decide) ?_
                    exact ihq21 d21 c21 (t21 + 1) (i21 + 1) ps24 f36 f37 f38 pl ls H locs (by omega) (by omega) (by omega) hs (lv_sub hl [1, 4, 5] rfl) hO hP hD hS
                · refine lv_goto (tgt := 176) hx hb dMH_small_118 (by decide) ?_
                  refine mi_iinc (k := 1) (x := 1) (d := 1) (y := 2) (lv' := [(7, .int (nI 2)), (8, .int (nI (z31 / 16))), (6, .int (nI z31)), (5, .int (nI i21)), (0, .ref h0), (1, .ref f)]) hx hb dMH_small_176 hl rfl (by decide) rfl (by decide) rfl (fun ls hl => ?_)
                  refine lv_goto (tgt := 69) hx hb dMH_small_179 (by decide) ?_
                  refine lv_iload hx hb dMH_small_69 (lv_at hl 0 rfl) ?_
                  refine lv_iconst (v := nI 2) hx hb dMH_small_71 (by decide) ?_
                  refine mi_ge (tgt := 182) hx hb dMH_small_72 (by decide) (by omega) (by omega) (fun h97 => ?_) (fun h97 => absurd h97 (by omega))
                  refine lv_goto (tgt := 49) hx hb dMH_small_182 (by decide) ?_
                  exact ihd21 c21 (t21 + 1) i21 ps24 f36 f37 f38 pl ls H locs (by omega) (by omega) (by omega) hs (lv_sub hl [3, 4, 5] rfl) hO hP hD hS
  have htg := tgt_le (m := mB) (t := 136) (rt := 136) (p := 72) hm0 (by decide)
  exact lp21 256 ((136 + 1) * mB * 136 + 72 - (136)) (136 + 1) (136) 0 0 f26 f27 f28 pl ls _ _ (by omega) (by omega) (by omega) hs (lv_sub hl [0, 1, 2] rfl) hO hP hD hS
set_option maxHeartbeats 400000 in
set_option maxRecDepth 100000 in
theorem t_MH_small_1 (l : Launch) (g : Gd) (sz : Nat) (T : Ty) (xs : List Nat) (pl : va_W) (hO : okx g T xs pl) (hU : uni T) (hc0 : clo T xs 0) (hc9 : clo T xs 9) (h0 f b n at_ : Nat) (wh : Int32) (k_h0 : T h0 = some (47, 0)) (k_f : T f = some (0, 256)) (k_b : T b = some (1, n)) (h1 : at_ + 64 ≤ n) (h2 : n < 65536)  : Met l y_MH_small w_MH_small ({ frames := 3, cells := 0, slots := 0, locals := 67 } : Room) (va_Pc [.ref h0, .ref f, .ref b, .int (nI at_), .int wh] (pr (en g) g.1 vcl sz ([] ++ pl))) (va_Qv (fun (u : va_W) => (True) ∧ okx g T xs u) (po g.1 vcl (va_A ([] ++ pl) sz) (fun (u : va_W) => [] ++ u)) (va_A ([] ++ pl) sz)) 0 0 (va_A ([] ++ pl) sz) := by
  refine mc_entry (cc := c_MH_small) (maxL := 9) (ret := none) (by decide) rfl (Nat.le_of_ble_eq_true rfl) ?_
  intro p e s m args below meth c ls F hr hlk hnm hsz hP hD hE hA hl
  obtain ⟨hx, hb, hml, hown, hts⟩ := id F
  have hK := hE.1
  generalize va_A ([] ++ pl) sz = A at hD hE hA ⊢
  have hS : va_S A s.heap s.heap [] := va_S.rf
  have hl : lv_has ls 9 [(0, .ref h0), (1, .ref f), (2, .ref b), (3, .int (nI at_)), (4, .int wh)] := hl
  refine lv_aload_n hx hb dMH_small_0 rfl (lv_at hl 0 rfl) ?_
  refine ty_get (ci := 12) (C := "LatticeKeysModel$Hands") (TT := T_MH) (N := 31) (kd := (47, 0)) hx hb hts (wg_ft i_MH) hown hK hO k_h0 (nxg hc0 k_h0 rfl) hP (fun _ h9 => h9) rfl 0 (by decide) (hts _ (wg_t kw_1432)) (fun _ h9 => h9) (cd := (3, 20, 0)) rfl dMH_small_1 (fun v21 hv21 => ?_)
  obtain ⟨r21, rfl, kr21⟩ := (show ∃ r : Nat, v21 = .ref r ∧ T r = some (20, 0) from hv21)
  obtain ⟨e21, pl, hP, hD, hk21, hO⟩ := open1 hP hD hO kr21 (nxg hc9 kr21 rfl)
  obtain ⟨am21, am22, am23, am24, am25, rt21, ps21, x21, rfl, km21, km22, km23, km24, km25, hr21, hr22, hr23⟩ := hk21
  obtain ⟨e22, pl, hP, hD, hk22, hO⟩ := open1 hP hD hO km21 (nmc (knd_ne km21 kr21 (by decide)) (nxg hc9 km21 rfl))
  obtain ⟨f21, rfl⟩ := hk22
  obtain ⟨e23, pl, hP, hD, hk23, hO⟩ := open1 hP hD hO km22 (nmc (knd_ne km22 km21 (by decide)) (nmc (knd_ne km22 kr21 (by decide)) (nxg hc9 km22 rfl)))
  obtain ⟨f22, rfl⟩ := hk23
  obtain ⟨e24, pl, hP, hD, hk24, hO⟩ := open1 hP hD hO km23 (nmc (knd_ne km23 km22 (by decide)) (nmc (knd_ne km23 km21 (by decide)) (nmc (knd_ne km23 kr21 (by decide)) (nxg hc9 km23 rfl))))
  obtain ⟨f23, rfl⟩ := hk24
  obtain ⟨e25, pl, hP, hD, hk25, hO⟩ := open1 hP hD hO km24 (nmc (knd_ne km24 km23 (by decide)) (nmc (knd_ne km24 km22 (by decide)) (nmc (knd_ne km24 km21 (by decide)) (nmc (knd_ne km24 kr21 (by decide)) (nxg hc9 km24 rfl)))))
  obtain ⟨f24, rfl⟩ := hk25
  obtain ⟨e26, pl, hP, hD, hk26, hO⟩ := open1 hP hD hO km25 (nmc (knd_ne km25 km24 (by decide)) (nmc (knd_ne km25 km23 (by decide)) (nmc (knd_ne km25 km22 (by decide)) (nmc (knd_ne km25 km21 (by decide)) (nmc (knd_ne km25 kr21 (by decide)) (nxg hc9 km25 rfl))))))
  obtain ⟨f25, rfl⟩ := hk26
  have hP : va_P g.1 vcl ([(r21, .inr (9, [.ref am21, .ref am22, .ref am23, .ref am24, .ref am25, .int (nI rt21), .int (nI ps21), .int x21])), (am21, .inl (g.2.1 2, 25, .inr (.inl f21))), (am22, .inl (g.2.1 2, 25, .inr (.inl f22))), (am23, .inl (g.2.1 2, 5, .inr (.inl f23))), (am24, .inl (g.2.1 2, 24, .inr (.inl f24))), (am25, .inl (g.2.1 0, 25, .inl f25))] ++ pl) _ := hP
  have hD : va_D _ ([(r21, .inr (9, [.ref am21, .ref am22, .ref am23, .ref am24, .ref am25, .int (nI rt21), .int (nI ps21), .int x21])), (am21, .inl (g.2.1 2, 25, .inr (.inl f21))), (am22, .inl (g.2.1 2, 25, .inr (.inl f22))), (am23, .inl (g.2.1 2, 5, .inr (.inl f23))), (am24, .inl (g.2.1 2, 24, .inr (.inl f24))), (am25, .inl (g.2.1 0, 25, .inl f25))] ++ pl) := hD
  refine mp_v (cx := [(r21, .inr (9, [.ref am21, .ref am22, .ref am23, .ref am24, .ref am25, .int (nI rt21), .int (nI ps21), .int x21])), (am21, .inl (g.2.1 2, 25, .inr (.inl f21))), (am22, .inl (g.2.1 2, 25, .inr (.inl f22))), (am23, .inl (g.2.1 2, 5, .inr (.inl f23))), (am24, .inl (g.2.1 2, 24, .inr (.inl f24))), (am25, .inl (g.2.1 0, 25, .inl f25))]) (wr := []) hP hD hS hA [0, 1, 2, 3, 4, 5] [] rfl rfl rfl (by decide) (va_runV (As := []) (rest := []) F (x_MS_shake l g _ T (am25 :: (am24 :: (am23 :: (am22 :: (am21 :: (r21 :: xs)))))) pl hO hU  r21 am21 am22 am23 am24 am25 rt21 ps21 x21 f21 f22 f23 f24 f25) (cwV 0 hts (wg_app (wg_c kw_1718 (wg_c kw_1661 (wg_c kw_1662 (wg_c kw_10 wg_n)))) kw_1663) rfl rfl rfl (by decide +kernel) ⟨by decide, by decide⟩) (pp_V (en_ok g) (q0 := 0) hK hP hD hS hA hE [0, 1, 2, 3, 4, 5] rfl rfl rfl rfl) rfl rfl hl.1 rfl (lv_room (Nat.le_of_ble_eq_true rfl)) dMH_small_4 ⟨by omega, by omega⟩) (fun  u21 H locs hu21 hP hD hS => ?_)
  obtain ⟨u22, pl⟩ := u21
  obtain ⟨hq21, hO⟩ := hu21
  have hP : va_P g.1 vcl ([(r21, .inr (9, [.ref am21, .ref am22, .ref am23, .ref am24, .ref am25, .int (nI 136), .int (nI 0), .int (nI 31)])), (am21, .inl (g.2.1 2, 25, .inr (.inl u22))), (am22, .inl (g.2.1 2, 25, .inr (.inl f22))), (am23, .inl (g.2.1 2, 5, .inr (.inl f23))), (am24, .inl (g.2.1 2, 24, .inr (.inl f24))), (am25, .inl (g.2.1 0, 25, .inl f25))] ++ pl) _ := hP
  have hD : va_D _ ([(r21, .inr (9, [.ref am21, .ref am22, .ref am23, .ref am24, .ref am25, .int (nI 136), .int (nI 0), .int (nI 31)])), (am21, .inl (g.2.1 2, 25, .inr (.inl u22))), (am22, .inl (g.2.1 2, 25, .inr (.inl f22))), (am23, .inl (g.2.1 2, 5, .inr (.inl f23))), (am24, .inl (g.2.1 2, 24, .inr (.inl f24))), (am25, .inl (g.2.1 0, 25, .inl f25))] ++ pl) := hD
  have hq21 : ∀ j, j < 25 → u22 j = 0 := hq21
  refine W.widen (k := 0) (n := 0) (by omega) (by omega) ?_
  refine lv_aload_n hx hb dMH_small_7 rfl (lv_at hl 0 rfl) ?_
  refine ty_get (ci := 12) (C := "LatticeKeysModel$Hands") (TT := T_MH) (N := 31) (kd := (47, 0)) hx hb hts (wg_ft i_MH) hown hK hO k_h0 (nxg (clo_cons (clo_cons (clo_cons (clo_cons (clo_cons (clo_cons hc0 kr21 (by decide)) km21 (by decide)) km22 (by decide)) km23 (by decide)) km24 (by decide)) km25 (by decide)) k_h0 rfl) hP (fun _ h9 => h9) rfl 0 (by decide) (hts _ (wg_t kw_1432)) (fun _ h9 => h9) (cd := (3, 20, 0)) rfl dMH_small_8 (fun v22 hv22 => ?_)
  obtain ⟨r22, rfl, kr22⟩ := (show ∃ r : Nat, v22 = .ref r ∧ T r = some (20, 0) from hv22)
  obtain rfl : r21 = r22 := hU _ _ _ (by decide) kr21 kr22
  refine lv_aload_n hx hb dMH_small_11 rfl (lv_at hl 2 rfl) ?_
  refine lv_iload_n hx hb dMH_small_12 rfl (lv_at hl 3 rfl) ?_
  refine lv_bipush (v := nI 64) hx hb dMH_small_13 (by decide) ?_
  refine mp_v (cx := [(r21, .inr (9, [.ref am21, .ref am22, .ref am23, .ref am24, .ref am25, .int (nI 136), .int (nI 0), .int (nI 31)])), (am21, .inl (g.2.1 2, 25, .inr (.inl u22))), (am22, .inl (g.2.1 2, 25, .inr (.inl f22))), (am23, .inl (g.2.1 2, 5, .inr (.inl f23))), (am24, .inl (g.2.1 2, 24, .inr (.inl f24))), (am25, .inl (g.2.1 0, 25, .inl f25))]) (wr := []) hP hD hS hA [0, 1, 2, 3, 4, 5] [] rfl rfl rfl (by decide) (va_runV (As := [.ref b, .int (nI at_), .int (nI 64)]) (rest := []) F (x_MS_puts l g _ T (am25 :: (am24 :: (am23 :: (am22 :: (am21 :: (r21 :: xs)))))) pl hO hU (clo_cons (clo_cons (clo_cons (clo_cons (clo_cons (clo_cons hc0 kr21 (by decide)) km21 (by decide)) km22 (by decide)) km23 (by decide)) km24 (by decide)) km25 (by decide)) b n at_ 64 r21 am21 am22 am23 am24 am25 136 0 (nI 31) u22 f22 f23 f24 f25 k_b (by omega) (by omega) (by omega) (by omega)) (cwV 3 hts (wg_app (wg_c kw_1719 (wg_c kw_1612 (wg_c kw_1613 (wg_c kw_10 wg_n)))) kw_1614) rfl rfl rfl (by decide +kernel) ⟨by decide, by decide⟩) (pp_V (en_ok g) (q0 := 0) hK hP hD hS hA hE [0, 1, 2, 3, 4, 5] rfl rfl rfl rfl) rfl rfl hl.1 rfl (lv_room (Nat.le_of_ble_eq_true rfl)) dMH_small_15 ⟨by omega, by omega⟩) (fun  u23 H locs hu22 hP hD hS => ?_)
  obtain ⟨u24, pl⟩ := u23
  obtain ⟨hq22, hO⟩ := hu22
  have hP : va_P g.1 vcl ([(r21, .inr (9, [.ref am21, .ref am22, .ref am23, .ref am24, .ref am25, .int (nI 136), .int (nI 64), .int (nI 31)])), (am21, .inl (g.2.1 2, 25, .inr (.inl u24))), (am22, .inl (g.2.1 2, 25, .inr (.inl f22))), (am23, .inl (g.2.1 2, 5, .inr (.inl f23))), (am24, .inl (g.2.1 2, 24, .inr (.inl f24))), (am25, .inl (g.2.1 0, 25, .inl f25))] ++ pl) _ := hP
  have hD : va_D _ ([(r21, .inr (9, [.ref am21, .ref am22, .ref am23, .ref am24, .ref am25, .int (nI 136), .int (nI 64), .int (nI 31)])), (am21, .inl (g.2.1 2, 25, .inr (.inl u24))), (am22, .inl (g.2.1 2, 25, .inr (.inl f22))), (am23, .inl (g.2.1 2, 5, .inr (.inl f23))), (am24, .inl (g.2.1 2, 24, .inr (.inl f24))), (am25, .inl (g.2.1 0, 25, .inl f25))] ++ pl) := hD
  refine W.widen (k := 0) (n := 0) (by omega) (by omega) ?_
  refine lv_aload_n hx hb dMH_small_18 rfl (lv_at hl 0 rfl) ?_
  refine ty_get (ci := 12) (C := "LatticeKeysModel$Hands") (TT := T_MH) (N := 31) (kd := (47, 0)) hx hb hts (wg_ft i_MH) hown hK hO k_h0 (nxg (clo_cons (clo_cons (clo_cons (clo_cons (clo_cons (clo_cons hc0 kr21 (by decide)) km21 (by decide)) km22 (by decide)) km23 (by decide)) km24 (by decide)) km25 (by decide)) k_h0 rfl) hP (fun _ h9 => h9) rfl 0 (by decide) (hts _ (wg_t kw_1432)) (fun _ h9 => h9) (cd := (3, 20, 0)) rfl dMH_small_19 (fun v23 hv23 => ?_)
  obtain ⟨r23, rfl, kr23⟩ := (show ∃ r : Nat, v23 = .ref r ∧ T r = some (20, 0) from hv23)
  obtain rfl : r21 = r23 := hU _ _ _ (by decide) kr21 kr23
  refine lv_iload hx hb dMH_small_22 (lv_at hl 4 rfl) ?_
  refine mp_v (cx := [(r21, .inr (9, [.ref am21, .ref am22, .ref am23, .ref am24, .ref am25, .int (nI 136), .int (nI 64), .int (nI 31)])), (am21, .inl (g.2.1 2, 25, .inr (.inl u24))), (am22, .inl (g.2.1 2, 25, .inr (.inl f22))), (am23, .inl (g.2.1 2, 5, .inr (.inl f23))), (am24, .inl (g.2.1 2, 24, .inr (.inl f24))), (am25, .inl (g.2.1 0, 25, .inl f25))]) (wr := []) hP hD hS hA [0, 1, 2, 3, 4, 5] [] rfl rfl rfl (by decide) (va_runV (As := [.int wh]) (rest := []) F (x_MS_put l g _ T (am25 :: (am24 :: (am23 :: (am22 :: (am21 :: (r21 :: xs)))))) pl hO hU  wh r21 am21 am22 am23 am24 am25 136 64 (nI 31) u24 f22 f23 f24 f25 (by omega) (by omega)) (cwV 1 hts (wg_app (wg_c kw_1720 (wg_c kw_1616 (wg_c kw_1617 (wg_c kw_10 wg_n)))) kw_1618) rfl rfl rfl (by decide +kernel) ⟨by decide, by decide⟩) (pp_V (en_ok g) (q0 := 0) hK hP hD hS hA hE [0, 1, 2, 3, 4, 5] rfl rfl rfl rfl) rfl rfl hl.1 rfl (lv_room (Nat.le_of_ble_eq_true rfl)) dMH_small_24 ⟨by omega, by omega⟩) (fun  u25 H locs hu23 hP hD hS => ?_)
  obtain ⟨u26, pl⟩ := u25
  obtain ⟨hq23, hO⟩ := hu23
  have hP : va_P g.1 vcl ([(r21, .inr (9, [.ref am21, .ref am22, .ref am23, .ref am24, .ref am25, .int (nI 136), .int (nI 65), .int (nI 31)])), (am21, .inl (g.2.1 2, 25, .inr (.inl u26))), (am22, .inl (g.2.1 2, 25, .inr (.inl f22))), (am23, .inl (g.2.1 2, 5, .inr (.inl f23))), (am24, .inl (g.2.1 2, 24, .inr (.inl f24))), (am25, .inl (g.2.1 0, 25, .inl f25))] ++ pl) _ := hP
  have hD : va_D _ ([(r21, .inr (9, [.ref am21, .ref am22, .ref am23, .ref am24, .ref am25, .int (nI 136), .int (nI 65), .int (nI 31)])), (am21, .inl (g.2.1 2, 25, .inr (.inl u26))), (am22, .inl (g.2.1 2, 25, .inr (.inl f22))), (am23, .inl (g.2.1 2, 5, .inr (.inl f23))), (am24, .inl (g.2.1 2, 24, .inr (.inl f24))), (am25, .inl (g.2.1 0, 25, .inl f25))] ++ pl) := hD
  refine W.widen (k := 0) (n := 0) (by omega) (by omega) ?_
  refine lv_aload_n hx hb dMH_small_27 rfl (lv_at hl 0 rfl) ?_
  refine ty_get (ci := 12) (C := "LatticeKeysModel$Hands") (TT := T_MH) (N := 31) (kd := (47, 0)) hx hb hts (wg_ft i_MH) hown hK hO k_h0 (nxg (clo_cons (clo_cons (clo_cons (clo_cons (clo_cons (clo_cons hc0 kr21 (by decide)) km21 (by decide)) km22 (by decide)) km23 (by decide)) km24 (by decide)) km25 (by decide)) k_h0 rfl) hP (fun _ h9 => h9) rfl 0 (by decide) (hts _ (wg_t kw_1432)) (fun _ h9 => h9) (cd := (3, 20, 0)) rfl dMH_small_28 (fun v24 hv24 => ?_)
  obtain ⟨r24, rfl, kr24⟩ := (show ∃ r : Nat, v24 = .ref r ∧ T r = some (20, 0) from hv24)
  obtain rfl : r21 = r24 := hU _ _ _ (by decide) kr21 kr24
  refine lv_iload hx hb dMH_small_31 (lv_at hl 4 rfl) ?_
  refine lv_bipush (v := nI 8) hx hb dMH_small_33 (by decide) ?_
  refine lv_ishr hx hb dMH_small_35 ?_
  refine mi_any (fun z21 => ?_)
  refine mp_v (cx := [(r21, .inr (9, [.ref am21, .ref am22, .ref am23, .ref am24, .ref am25, .int (nI 136), .int (nI 65), .int (nI 31)])), (am21, .inl (g.2.1 2, 25, .inr (.inl u26))), (am22, .inl (g.2.1 2, 25, .inr (.inl f22))), (am23, .inl (g.2.1 2, 5, .inr (.inl f23))), (am24, .inl (g.2.1 2, 24, .inr (.inl f24))), (am25, .inl (g.2.1 0, 25, .inl f25))]) (wr := []) hP hD hS hA [0, 1, 2, 3, 4, 5] [] rfl rfl rfl (by decide) (va_runV (As := [.int z21]) (rest := []) F (x_MS_put l g _ T (am25 :: (am24 :: (am23 :: (am22 :: (am21 :: (r21 :: xs)))))) pl hO hU  z21 r21 am21 am22 am23 am24 am25 136 65 (nI 31) u26 f22 f23 f24 f25 (by omega) (by omega)) (cwV 1 hts (wg_app (wg_c kw_1720 (wg_c kw_1616 (wg_c kw_1617 (wg_c kw_10 wg_n)))) kw_1618) rfl rfl rfl (by decide +kernel) ⟨by decide, by decide⟩) (pp_V (en_ok g) (q0 := 0) hK hP hD hS hA hE [0, 1, 2, 3, 4, 5] rfl rfl rfl rfl) rfl rfl hl.1 rfl (lv_room (Nat.le_of_ble_eq_true rfl)) dMH_small_36 ⟨by omega, by omega⟩) (fun  u27 H locs hu24 hP hD hS => ?_)
  obtain ⟨u28, pl⟩ := u27
  obtain ⟨hq24, hO⟩ := hu24
  have hP : va_P g.1 vcl ([(r21, .inr (9, [.ref am21, .ref am22, .ref am23, .ref am24, .ref am25, .int (nI 136), .int (nI 66), .int (nI 31)])), (am21, .inl (g.2.1 2, 25, .inr (.inl u28))), (am22, .inl (g.2.1 2, 25, .inr (.inl f22))), (am23, .inl (g.2.1 2, 5, .inr (.inl f23))), (am24, .inl (g.2.1 2, 24, .inr (.inl f24))), (am25, .inl (g.2.1 0, 25, .inl f25))] ++ pl) _ := hP
  have hD : va_D _ ([(r21, .inr (9, [.ref am21, .ref am22, .ref am23, .ref am24, .ref am25, .int (nI 136), .int (nI 66), .int (nI 31)])), (am21, .inl (g.2.1 2, 25, .inr (.inl u28))), (am22, .inl (g.2.1 2, 25, .inr (.inl f22))), (am23, .inl (g.2.1 2, 5, .inr (.inl f23))), (am24, .inl (g.2.1 2, 24, .inr (.inl f24))), (am25, .inl (g.2.1 0, 25, .inl f25))] ++ pl) := hD
  refine W.widen (k := 0) (n := 0) (by omega) (by omega) ?_
  refine lv_aload_n hx hb dMH_small_39 rfl (lv_at hl 0 rfl) ?_
  refine ty_get (ci := 12) (C := "LatticeKeysModel$Hands") (TT := T_MH) (N := 31) (kd := (47, 0)) hx hb hts (wg_ft i_MH) hown hK hO k_h0 (nxg (clo_cons (clo_cons (clo_cons (clo_cons (clo_cons (clo_cons hc0 kr21 (by decide)) km21 (by decide)) km22 (by decide)) km23 (by decide)) km24 (by decide)) km25 (by decide)) k_h0 rfl) hP (fun _ h9 => h9) rfl 0 (by decide) (hts _ (wg_t kw_1432)) (fun _ h9 => h9) (cd := (3, 20, 0)) rfl dMH_small_40 (fun v25 hv25 => ?_)
  obtain ⟨r25, rfl, kr25⟩ := (show ∃ r : Nat, v25 = .ref r ∧ T r = some (20, 0) from hv25)
  obtain rfl : r21 = r25 := hU _ _ _ (by decide) kr21 kr25
  refine mp_v (cx := [(r21, .inr (9, [.ref am21, .ref am22, .ref am23, .ref am24, .ref am25, .int (nI 136), .int (nI 66), .int (nI 31)])), (am21, .inl (g.2.1 2, 25, .inr (.inl u28))), (am22, .inl (g.2.1 2, 25, .inr (.inl f22))), (am23, .inl (g.2.1 2, 5, .inr (.inl f23))), (am24, .inl (g.2.1 2, 24, .inr (.inl f24))), (am25, .inl (g.2.1 0, 25, .inl f25))]) (wr := []) hP hD hS hA [0, 1, 2, 3, 4, 5] [] rfl rfl rfl (by decide) (va_runV (As := []) (rest := []) F (x_MS_end l g _ T (am25 :: (am24 :: (am23 :: (am22 :: (am21 :: (r21 :: xs)))))) pl hO hU  r21 am21 am22 am23 am24 am25 136 66 (nI 31) u28 f22 f23 f24 f25 (by omega) (by omega)) (cwV 0 hts (wg_app (wg_c kw_1721 (wg_c kw_1634 (wg_c kw_1635 (wg_c kw_10 wg_n)))) kw_1636) rfl rfl rfl (by decide +kernel) ⟨by decide, by decide⟩) (pp_V (en_ok g) (q0 := 0) hK hP hD hS hA hE [0, 1, 2, 3, 4, 5] rfl rfl rfl rfl) rfl rfl hl.1 rfl (lv_room (Nat.le_of_ble_eq_true rfl)) dMH_small_43 ⟨by omega, by omega⟩) (fun  u29 H locs hu25 hP hD hS => ?_)
  obtain ⟨u30, pl⟩ := u29
  obtain ⟨hq25, hO⟩ := hu25
  obtain ⟨f26, f27, f28, f29⟩ := u30
  have hP : va_P g.1 vcl ([(r21, .inr (9, [.ref am21, .ref am22, .ref am23, .ref am24, .ref am25, .int (nI 136), .int (nI 0), .int (nI 31)])), (am21, .inl (g.2.1 2, 25, .inr (.inl f26))), (am22, .inl (g.2.1 2, 25, .inr (.inl f27))), (am23, .inl (g.2.1 2, 5, .inr (.inl f28))), (am24, .inl (g.2.1 2, 24, .inr (.inl f24))), (am25, .inl (g.2.1 0, 25, .inl f25))] ++ pl) _ := hP
  have hD : va_D _ ([(r21, .inr (9, [.ref am21, .ref am22, .ref am23, .ref am24, .ref am25, .int (nI 136), .int (nI 0), .int (nI 31)])), (am21, .inl (g.2.1 2, 25, .inr (.inl f26))), (am22, .inl (g.2.1 2, 25, .inr (.inl f27))), (am23, .inl (g.2.1 2, 5, .inr (.inl f28))), (am24, .inl (g.2.1 2, 24, .inr (.inl f24))), (am25, .inl (g.2.1 0, 25, .inl f25))] ++ pl) := hD
  refine W.widen (k := 0) (n := 0) (by omega) (by omega) ?_
  have hz : ∀ j, 9 ≤ j → j < 16 → f29 j = 0 := fun j h8 h9 => ((((hq25.2 j (by omega) (by omega)).trans (hq24 j (by omega))).trans (hq23 j (by omega))).trans (hq22 j (by omega))).trans (hq21 j (by omega))
  have hs : str f25 f24 f29 136 136 0 f26 := ⟨1, by omega, by omega, hq25.1⟩
  obtain ⟨mB, hm0, hmP⟩ := blk_back f25 f24 f29
  refine lv_iconst (v := nI 0) hx hb dMH_small_46 (by decide) ?_
  refine lv_istore (lv' := [(5, .int (nI 0)), (0, .ref h0), (1, .ref f), (2, .ref b), (3, .int (nI at_)), (4, .int wh)]) hx hb dMH_small_47 hl (by decide) rfl (fun ls hl => ?_)
  have lp21 : ∀ (q21 : Nat) (d21 : Nat) (c21 t21 : Nat) (i21 : Nat) (ps22 : Nat) (f30 f31 f32 : Nat → Int64) (pl : va_W) (ls : Array Slot) (H : Heap) (locs : List Loc), 256 ≤ i21 + q21 → i21 ≤ 256 → t21 + 1 * d21 = c21 * mB * 136 + 72 → str f25 f24 f29 136 t21 ps22 f30 → lv_has ls 9 [(5, .int (nI i21)), (0, .ref h0), (1, .ref f)] → okx g T (am25 :: (am24 :: (am23 :: (am22 :: (am21 :: (r21 :: xs)))))) pl → va_P g.1 vcl ([(r21, .inr (9, [.ref am21, .ref am22, .ref am23, .ref am24, .ref am25, .int (nI 136), .int (nI ps22), .int (nI 31)])), (am21, .inl (g.2.1 2, 25, .inr (.inl f30))), (am22, .inl (g.2.1 2, 25, .inr (.inl f31))), (am23, .inl (g.2.1 2, 5, .inr (.inl f32))), (am24, .inl (g.2.1 2, 24, .inr (.inl f24))), (am25, .inl (g.2.1 0, 25, .inl f25))] ++ pl) H → va_D A ([(r21, .inr (9, [.ref am21, .ref am22, .ref am23, .ref am24, .ref am25, .int (nI 136), .int (nI ps22), .int (nI 31)])), (am21, .inl (g.2.1 2, 25, .inr (.inl f30))), (am22, .inl (g.2.1 2, 25, .inr (.inl f31))), (am23, .inl (g.2.1 2, 5, .inr (.inl f32))), (am24, .inl (g.2.1 2, 24, .inr (.inl f24))), (am25, .inl (g.2.1 0, 25, .inl f25))] ++ pl) → va_S A s.heap H locs → W p l e ({ frames := 3, cells := 0, slots := 0, locals := 67 } : Room) s m args below meth c H locs 0 0 (MQ below (va_Qv (fun (u : va_W) => (True) ∧ okx g T xs u) (po g.1 vcl A (fun (u : va_W) => [] ++ u)) A) args s 0 0 A) (F0 m 49 ls []) := by
    intro q21
    induction q21 with
    | zero =>
      intro d21
      intro c21 t21 i21 ps22 f30 f31 f32 pl ls H locs hi21 hi22 hd21 hs hl hO hP hD hS
      have hsl := str_le hs
      refine lv_iload hx hb dMH_small_49 (lv_at hl 0 rfl) ?_
      refine lv_sipush (v := nI 256) hx hb dMH_small_51 (by decide) ?_
      refine mi_ge (tgt := 185) hx hb dMH_small_54 (by decide) (by omega) (by omega) (fun h21 => ?_) (fun h21 => absurd h21 (by omega))
      have hO := close1 (e := .inl (g.2.1 0, 25, .inl f25)) hO km25 ⟨_, rfl⟩
      have hO := close1 (e := .inl (g.2.1 2, 24, .inr (.inl f24))) hO km24 ⟨_, rfl⟩
      have hO := close1 (e := .inl (g.2.1 2, 5, .inr (.inl f32))) hO km23 ⟨_, rfl⟩
      have hO := close1 (e := .inl (g.2.1 2, 25, .inr (.inl f31))) hO km22 ⟨_, rfl⟩
      have hO := close1 (e := .inl (g.2.1 2, 25, .inr (.inl f30))) hO km21 ⟨_, rfl⟩
      have hO := close1 (e := .inr (9, [.ref am21, .ref am22, .ref am23, .ref am24, .ref am25, .int (nI 136), .int (nI ps22), .int (nI 31)])) hO kr21 ⟨_, _, _, _, _, _, _, _, rfl, km21, km22, km23, km24, km25, by omega, by omega, by omega⟩
      have hO : okx g T xs ((r21, .inr (9, [.ref am21, .ref am22, .ref am23, .ref am24, .ref am25, .int (nI 136), .int (nI ps22), .int (nI 31)])) :: (am21, .inl (g.2.1 2, 25, .inr (.inl f30))) :: (am22, .inl (g.2.1 2, 25, .inr (.inl f31))) :: (am23, .inl (g.2.1 2, 5, .inr (.inl f32))) :: (am24, .inl (g.2.1 2, 24, .inr (.inl f24))) :: (am25, .inl (g.2.1 0, 25, .inl f25)) :: pl) := hO
      have hP : va_P g.1 vcl ([] ++ ((r21, .inr (9, [.ref am21, .ref am22, .ref am23, .ref am24, .ref am25, .int (nI 136), .int (nI ps22), .int (nI 31)])) :: (am21, .inl (g.2.1 2, 25, .inr (.inl f30))) :: (am22, .inl (g.2.1 2, 25, .inr (.inl f31))) :: (am23, .inl (g.2.1 2, 5, .inr (.inl f32))) :: (am24, .inl (g.2.1 2, 24, .inr (.inl f24))) :: (am25, .inl (g.2.1 0, 25, .inl f25)) :: pl)) _ := hP
      have hD : va_D _ ([] ++ ((r21, .inr (9, [.ref am21, .ref am22, .ref am23, .ref am24, .ref am25, .int (nI 136), .int (nI ps22), .int (nI 31)])) :: (am21, .inl (g.2.1 2, 25, .inr (.inl f30))) :: (am22, .inl (g.2.1 2, 25, .inr (.inl f31))) :: (am23, .inl (g.2.1 2, 5, .inr (.inl f32))) :: (am24, .inl (g.2.1 2, 24, .inr (.inl f24))) :: (am25, .inl (g.2.1 0, 25, .inl f25)) :: pl)) := hD
      generalize ((r21, .inr (9, [.ref am21, .ref am22, .ref am23, .ref am24, .ref am25, .int (nI 136), .int (nI ps22), .int (nI 31)])) :: (am21, .inl (g.2.1 2, 25, .inr (.inl f30))) :: (am22, .inl (g.2.1 2, 25, .inr (.inl f31))) :: (am23, .inl (g.2.1 2, 5, .inr (.inl f32))) :: (am24, .inl (g.2.1 2, 24, .inr (.inl f24))) :: (am25, .inl (g.2.1 0, 25, .inl f25)) :: pl) = pl at hO hP hD
      exact mp_vret hx hb hr hlk hP hD hS pl ⟨trivial, hO⟩ [] rfl rfl rfl (by omega) (by omega) dMH_small_185
    | succ q21 ihq21 =>
      intro d21
      induction d21 with
      | zero =>
        intro c21 t21 i21 ps22 f30 f31 f32 pl ls H locs hi21 hi22 hd21 hs hl hO hP hD hS
        have hsl := str_le hs
        refine lv_iload hx hb dMH_small_49 (lv_at hl 0 rfl) ?_
        refine lv_sipush (v := nI 256) hx hb dMH_small_51 (by decide) ?_
        refine mi_ge (tgt := 185) hx hb dMH_small_54 (by decide) (by omega) (by omega) (fun h22 => ?_) (fun h22 => ?_)
        · have hO := close1 (e := .inl (g.2.1 0, 25, .inl f25)) hO km25 ⟨_, rfl⟩
          have hO := close1 (e := .inl (g.2.1 2, 24, .inr (.inl f24))) hO km24 ⟨_, rfl⟩
          have hO := close1 (e := .inl (g.2.1 2, 5, .inr (.inl f32))) hO km23 ⟨_, rfl⟩
          have hO := close1 (e := .inl (g.2.1 2, 25, .inr (.inl f31))) hO km22 ⟨_, rfl⟩
          have hO := close1 (e := .inl (g.2.1 2, 25, .inr (.inl f30))) hO km21 ⟨_, rfl⟩
          have hO := close1 (e := .inr (9, [.ref am21, .ref am22, .ref am23, .ref am24, .ref am25, .int (nI 136), .int (nI ps22), .int (nI 31)])) hO kr21 ⟨_, _, _, _, _, _, _, _, rfl, km21, km22, km23, km24, km25, by omega, by omega, by omega⟩
          have hO : okx g T xs ((r21, .inr (9, [.ref am21, .ref am22, .ref am23, .ref am24, .ref am25, .int (nI 136), .int (nI ps22), .int (nI 31)])) :: (am21, .inl (g.2.1 2, 25, .inr (.inl f30))) :: (am22, .inl (g.2.1 2, 25, .inr (.inl f31))) :: (am23, .inl (g.2.1 2, 5, .inr (.inl f32))) :: (am24, .inl (g.2.1 2, 24, .inr (.inl f24))) :: (am25, .inl (g.2.1 0, 25, .inl f25)) :: pl) := hO
          have hP : va_P g.1 vcl ([] ++ ((r21, .inr (9, [.ref am21, .ref am22, .ref am23, .ref am24, .ref am25, .int (nI 136), .int (nI ps22), .int (nI 31)])) :: (am21, .inl (g.2.1 2, 25, .inr (.inl f30))) :: (am22, .inl (g.2.1 2, 25, .inr (.inl f31))) :: (am23, .inl (g.2.1 2, 5, .inr (.inl f32))) :: (am24, .inl (g.2.1 2, 24, .inr (.inl f24))) :: (am25, .inl (g.2.1 0, 25, .inl f25)) :: pl)) _ := hP
          have hD : va_D _ ([] ++ ((r21, .inr (9, [.ref am21, .ref am22, .ref am23, .ref am24, .ref am25, .int (nI 136), .int (nI ps22), .int (nI 31)])) :: (am21, .inl (g.2.1 2, 25, .inr (.inl f30))) :: (am22, .inl (g.2.1 2, 25, .inr (.inl f31))) :: (am23, .inl (g.2.1 2, 5, .inr (.inl f32))) :: (am24, .inl (g.2.1 2, 24, .inr (.inl f24))) :: (am25, .inl (g.2.1 0, 25, .inl f25)) :: pl)) := hD
          generalize ((r21, .inr (9, [.ref am21, .ref am22, .ref am23, .ref am24, .ref am25, .int (nI 136), .int (nI ps22), .int (nI 31)])) :: (am21, .inl (g.2.1 2, 25, .inr (.inl f30))) :: (am22, .inl (g.2.1 2, 25, .inr (.inl f31))) :: (am23, .inl (g.2.1 2, 5, .inr (.inl f32))) :: (am24, .inl (g.2.1 2, 24, .inr (.inl f24))) :: (am25, .inl (g.2.1 0, 25, .inl f25)) :: pl) = pl at hO hP hD
          exact mp_vret hx hb hr hlk hP hD hS pl ⟨trivial, hO⟩ [] rfl rfl rfl (by omega) (by omega) dMH_small_185
        · refine lv_aload_n hx hb dMH_small_57 rfl (lv_at hl 1 rfl) ?_
          refine ty_get (ci := 12) (C := "LatticeKeysModel$Hands") (TT := T_MH) (N := 31) (kd := (47, 0)) hx hb hts (wg_ft i_MH) hown hK hO k_h0 (nxg (clo_cons (clo_cons (clo_cons (clo_cons (clo_cons (clo_cons hc0 kr21 (by decide)) km21 (by decide)) km22 (by decide)) km23 (by decide)) km24 (by decide)) km25 (by decide)) k_h0 rfl) hP (fun _ h9 => h9) rfl 0 (by decide) (hts _ (wg_t kw_1432)) (fun _ h9 => h9) (cd := (3, 20, 0)) rfl dMH_small_58 (fun v26 hv26 => ?_)
          obtain ⟨r26, rfl, kr26⟩ := (show ∃ r : Nat, v26 = .ref r ∧ T r = some (20, 0) from hv26)
          obtain rfl : r21 = r26 := hU _ _ _ (by decide) kr21 kr26
          refine mp_i (cx := [(r21, .inr (9, [.ref am21, .ref am22, .ref am23, .ref am24, .ref am25, .int (nI 136), .int (nI ps22), .int (nI 31)])), (am21, .inl (g.2.1 2, 25, .inr (.inl f30))), (am22, .inl (g.2.1 2, 25, .inr (.inl f31))), (am23, .inl (g.2.1 2, 5, .inr (.inl f32))), (am24, .inl (g.2.1 2, 24, .inr (.inl f24))), (am25, .inl (g.2.1 0, 25, .inl f25))]) (wr := []) hP hD hS hA [0, 1, 2, 3, 4, 5] [] rfl rfl rfl (by decide) (va_runV (As := []) (rest := []) F (x_MS_next l g _ T (am25 :: (am24 :: (am23 :: (am22 :: (am21 :: (r21 :: xs)))))) pl hO hU  r21 am21 am22 am23 am24 am25 136 ps22 (nI 31) f30 f31 f32 f24 f25 (by omega) (by omega)) (cwV 0 hts (wg_app (wg_c kw_1728 (wg_c kw_1642 (wg_c kw_1643 (wg_c kw_10 wg_n)))) kw_1644) rfl rfl rfl (by decide +kernel) ⟨by decide, by decide⟩) (pp_V (en_ok g) (q0 := 0) hK hP hD hS hA hE [0, 1, 2, 3, 4, 5] rfl rfl rfl rfl) rfl rfl hl.1 rfl (lv_room (Nat.le_of_ble_eq_true rfl)) dMH_small_61 ⟨by omega, by omega⟩) (fun r27 u31 H locs hu26 hP hD hS => ?_)
          obtain ⟨u32, pl⟩ := u31
          obtain ⟨hq26, hO⟩ := hu26
          obtain ⟨ps23, f33, f34, f35⟩ := u32
          have hP : va_P g.1 vcl ([(r21, .inr (9, [.ref am21, .ref am22, .ref am23, .ref am24, .ref am25, .int (nI 136), .int (nI ps23), .int (nI 31)])), (am21, .inl (g.2.1 2, 25, .inr (.inl f33))), (am22, .inl (g.2.1 2, 25, .inr (.inl f34))), (am23, .inl (g.2.1 2, 5, .inr (.inl f35))), (am24, .inl (g.2.1 2, 24, .inr (.inl f24))), (am25, .inl (g.2.1 0, 25, .inl f25))] ++ pl) _ := hP
          have hD : va_D _ ([(r21, .inr (9, [.ref am21, .ref am22, .ref am23, .ref am24, .ref am25, .int (nI 136), .int (nI ps23), .int (nI 31)])), (am21, .inl (g.2.1 2, 25, .inr (.inl f33))), (am22, .inl (g.2.1 2, 25, .inr (.inl f34))), (am23, .inl (g.2.1 2, 5, .inr (.inl f35))), (am24, .inl (g.2.1 2, 24, .inr (.inl f24))), (am25, .inl (g.2.1 0, 25, .inl f25))] ++ pl) := hD
          obtain ⟨hn21, hl21, z22, hz21, rfl, h0z21⟩ := hq26
          have hl21 : ps23 ≤ 136 := hl21
          have hzzz22 : z22 = 0 := str_zero (q := 72) (hmP c21) hs hn21 (by omega) (by decide) (by decide) (hz 9 (by decide) (by decide)) (by decide) h0z21
          have hs := str_next (by decide) hs hn21
          refine W.widen (k := 0) (n := 0) (by omega) (by omega) ?_
          refine lv_istore (lv' := [(6, .int (nI z22)), (5, .int (nI i21)), (0, .ref h0), (1, .ref f)]) hx hb dMH_small_64 hl (by decide) rfl (fun ls hl => ?_)
          refine lv_iconst (v := nI 0) hx hb dMH_small_66 (by decide) ?_
          refine lv_istore (lv' := [(7, .int (nI 0)), (6, .int (nI z22)), (5, .int (nI i21)), (0, .ref h0), (1, .ref f)]) hx hb dMH_small_67 hl (by decide) rfl (fun ls hl => ?_)
          refine lv_iload hx hb dMH_small_69 (lv_at hl 0 rfl) ?_
          refine lv_iconst (v := nI 2) hx hb dMH_small_71 (by decide) ?_
          refine mi_ge (tgt := 182) hx hb dMH_small_72 (by decide) (by omega) (by omega) (fun h23 => absurd h23 (by omega)) (fun h23 => ?_)
          refine lv_iload hx hb dMH_small_75 (lv_at hl 2 rfl) ?_
          refine lv_sipush (v := nI 256) hx hb dMH_small_77 (by decide) ?_
          refine mi_ge (tgt := 182) hx hb dMH_small_80 (by decide) (by omega) (by omega) (fun h24 => ?_) (fun h24 => ?_)
          · refine lv_goto (tgt := 49) hx hb dMH_small_182 (by decide) ?_
            exfalso
            omega
          · refine lv_iload hx hb dMH_small_83 (lv_at hl 0 rfl) ?_
            refine lv_if_ne (tgt := 96) hx hb dMH_small_85 (by decide) (fun h25 => absurd h25 (by decide)) (fun h25 => ?_)
            refine lv_iload hx hb dMH_small_88 (lv_at hl 1 rfl) ?_
            refine lv_bipush (v := nI 16) hx hb dMH_small_90 (by decide) ?_
            refine mi_irem hx hb dMH_small_92 (by omega) (by omega) (by omega) ?_
            refine lv_goto (tgt := 101) hx hb dMH_small_93 (by decide) ?_
            refine lv_istore (lv' := [(8, .int (nI (z22 % 16))), (7, .int (nI 0)), (6, .int (nI z22)), (5, .int (nI i21)), (0, .ref h0), (1, .ref f)]) hx hb dMH_small_101 hl (by decide) rfl (fun ls hl => ?_)
            refine lv_aload_n hx hb dMH_small_103 rfl (lv_at hl 4 rfl) ?_
            refine ty_get (ci := 12) (C := "LatticeKeysModel$Hands") (TT := T_MH) (N := 31) (kd := (47, 0)) hx hb hts (wg_ft i_MH) hown hK hO k_h0 (nxg (clo_cons (clo_cons (clo_cons (clo_cons (clo_cons (clo_cons hc0 kr21 (by decide)) km21 (by decide)) km22 (by decide)) km23 (by decide)) km24 (by decide)) km25 (by decide)) k_h0 rfl) hP (fun _ h9 => h9) rfl 26 (by decide) (hts _ (wg_t kw_1458)) (fun _ h9 => h9) (cd := (1, 0, 4)) rfl dMH_small_104 (fun v27 hv27 => ?_)
            obtain rfl := (show v27 = .int (nI 4) from hv27)
            refine lv_iconst (v := nI 2) hx hb dMH_small_107 (by decide) ?_
            refine mi_ne (tgt := 121) hx hb dMH_small_108 (by decide) (by omega) (by omega) (fun h26 => ?_) (fun h26 => absurd h26 (by omega))
            refine lv_iload hx hb dMH_small_121 (lv_at hl 0 rfl) ?_
            refine lv_bipush (v := nI 8) hx hb dMH_small_123 (by decide) ?_
            refine mi_le (tgt := 131) hx hb dMH_small_125 (by decide) (by omega) (by omega) (fun h27 => ?_) (fun h27 => ?_)
            · refine lv_aload_n hx hb dMH_small_131 rfl (lv_at hl 4 rfl) ?_
              refine ty_get (ci := 12) (C := "LatticeKeysModel$Hands") (TT := T_MH) (N := 31) (kd := (47, 0)) hx hb hts (wg_ft i_MH) hown hK hO k_h0 (nxg (clo_cons (clo_cons (clo_cons (clo_cons (clo_cons (clo_cons hc0 kr21 (by decide)) km21 (by decide)) km22 (by decide)) km23 (by decide)) km24 (by decide)) km25 (by decide)) k_h0 rfl) hP (fun _ h9 => h9) rfl 26 (by decide) (hts _ (wg_t kw_1458)) (fun _ h9 => h9) (cd := (1, 0, 4)) rfl dMH_small_132 (fun v28 hv28 => ?_)
              obtain rfl := (show v28 = .int (nI 4) from hv28)
              refine lv_iconst (v := nI 2) hx hb dMH_small_135 (by decide) ?_
              refine mi_ne (tgt := 148) hx hb dMH_small_136 (by decide) (by omega) (by omega) (fun h28 => ?_) (fun h28 => absurd h28 (by omega))
              refine lv_iconst (v := nI 4) hx hb dMH_small_148 (by decide) ?_
              refine lv_iload hx hb dMH_small_149 (lv_at hl 0 rfl) ?_
              refine lv_isub hx hb dMH_small_151 ?_
              refine mi_any (fun z23 => ?_)
              refine lv_istore (lv' := [(8, .int z23), (7, .int (nI 0)), (6, .int (nI z22)), (5, .int (nI i21)), (0, .ref h0), (1, .ref f)]) hx hb dMH_small_152 hl (by decide) rfl (fun ls hl => ?_)
              refine lv_aload_n hx hb dMH_small_154 rfl (lv_at hl 5 rfl) ?_
              refine lv_iload hx hb dMH_small_155 (lv_at hl 3 rfl) ?_
              refine lv_iload hx hb dMH_small_157 (lv_at hl 0 rfl) ?_
              refine lv_if_ge (tgt := 170) hx hb dMH_small_159 (by decide) (fun h29 => ?_) (fun h29 => ?_)
              · refine lv_iload hx hb dMH_small_170 (lv_at hl 0 rfl) ?_
                refine ty_iast hx hb hK hO k_f (nxg (clo_cons (clo_cons (clo_cons (clo_cons (clo_cons (clo_cons hc0 kr21 (by decide)) km21 (by decide)) km22 (by decide)) km23 (by decide)) km24 (by decide)) km25 (by decide)) k_f rfl) hP hD hS (vp_in_nI (by omega) (by decide)) dMH_small_172 (fun pl H locs hO hP hD hS => ?_)
                refine mi_iinc (k := 3) (x := i21) (d := 1) (y := i21 + 1) (lv' := [(5, .int (nI (i21 + 1))), (8, .int z23), (7, .int (nI 0)), (6, .int (nI z22)), (0, .ref h0), (1, .ref f)]) hx hb dMH_small_173 hl rfl (by decide) rfl (by decide) rfl (fun ls hl => ?_)
                refine mi_iinc (k := 2) (x := 0) (d := 1) (y := 1) (lv' := [(7, .int (nI 1)), (5, .int (nI (i21 + 1))), (8, .int z23), (6, .int (nI z22)), (0, .ref h0), (1, .ref f)]) hx hb dMH_small_176 hl rfl (by decide) rfl (by decide) rfl (fun ls hl => ?_)
                refine lv_goto (tgt := 69) hx hb dMH_small_179 (by decide) ?_
                refine lv_iload hx hb dMH_small_69 (lv_at hl 0 rfl) ?_
                refine lv_iconst (v := nI 2) hx hb dMH_small_71 (by decide) ?_
                refine mi_ge (tgt := 182) hx hb dMH_small_72 (by decide) (by omega) (by omega) (fun h30 => absurd h30 (by omega)) (fun h30 => ?_)
                refine lv_iload hx hb dMH_small_75 (lv_at hl 1 rfl) ?_
                refine lv_sipush (v := nI 256) hx hb dMH_small_77 (by decide) ?_
                refine mi_ge (tgt := 182) hx hb dMH_small_80 (by decide) (by omega) (by omega) (fun h31 => ?_) (fun h31 => ?_)
                · refine lv_goto (tgt := 49) hx hb dMH_small_182 (by decide) ?_
                  have hcm := cm_succ (c := c21) (m := mB) (k := 136)
                  exact ihq21 (mB * 136 - 1) (c21 + 1) (t21 + 1) (i21 + 1) ps23 f33 f34 f35 pl ls H locs (by omega) (by omega) (by omega) hs (lv_sub hl [1, 4, 5] rfl) hO hP hD hS
                · refine lv_iload hx hb dMH_small_83 (lv_at hl 0 rfl) ?_
                  refine lv_if_ne (tgt := 96) hx hb dMH_small_85 (by decide) (fun h32 => ?_) (fun h32 => absurd h32 (by decide))
                  refine lv_iload hx hb dMH_small_96 (lv_at hl 3 rfl) ?_
                  refine lv_bipush (v := nI 16) hx hb dMH_small_98 (by decide) ?_
                  refine mi_idiv hx hb dMH_small_100 (by omega) (by omega) (by omega) ?_
                  refine lv_istore (lv' := [(8, .int (nI (z22 / 16))), (7, .int (nI 1)), (5, .int (nI (i21 + 1))), (6, .int (nI z22)), (0, .ref h0), (1, .ref f)]) hx hb dMH_small_101 hl (by decide) rfl (fun ls hl => ?_)
                  refine lv_aload_n hx hb dMH_small_103 rfl (lv_at hl 4 rfl) ?_
                  refine ty_get (ci := 12) (C := "LatticeKeysModel$Hands") (TT := T_MH) (N := 31) (kd := (47, 0)) hx hb hts (wg_ft i_MH) hown hK hO k_h0 (nxg (clo_cons (clo_cons (clo_cons (clo_cons (clo_cons (clo_cons hc0 kr21 (by decide)) km21 (by decide)) km22 (by decide)) km23 (by decide)) km24 (by decide)) km25 (by decide)) k_h0 rfl) hP (fun _ h9 => h9) rfl 26 (by decide) (hts _ (wg_t kw_1458)) (fun _ h9 => h9) (cd := (1, 0, 4)) rfl dMH_small_104 (fun v29 hv29 => ?_)
                  obtain rfl := (show v29 = .int (nI 4) from hv29)
                  refine lv_iconst (v := nI 2) hx hb dMH_small_107 (by decide) ?_
                  refine mi_ne (tgt := 121) hx hb dMH_small_108 (by decide) (by omega) (by omega) (fun h33 => ?_) (fun h33 => absurd h33 (by omega))
                  refine lv_iload hx hb dMH_small_121 (lv_at hl 0 rfl) ?_
                  refine lv_bipush (v := nI 8) hx hb dMH_small_123 (by decide) ?_
                  refine mi_le (tgt := 131) hx hb dMH_small_125 (by decide) (by omega) (by omega) (fun h34 => ?_) (fun h34 => ?_)
                  · refine lv_aload_n hx hb dMH_small_131 rfl (lv_at hl 4 rfl) ?_
                    refine ty_get (ci := 12) (C := "LatticeKeysModel$Hands") (TT := T_MH) (N := 31) (kd := (47, 0)) hx hb hts (wg_ft i_MH) hown hK hO k_h0 (nxg (clo_cons (clo_cons (clo_cons (clo_cons (clo_cons (clo_cons hc0 kr21 (by decide)) km21 (by decide)) km22 (by decide)) km23 (by decide)) km24 (by decide)) km25 (by decide)) k_h0 rfl) hP (fun _ h9 => h9) rfl 26 (by decide) (hts _ (wg_t kw_1458)) (fun _ h9 => h9) (cd := (1, 0, 4)) rfl dMH_small_132 (fun v30 hv30 => ?_)
                    obtain rfl := (show v30 = .int (nI 4) from hv30)
                    refine lv_iconst (v := nI 2) hx hb dMH_small_135 (by decide) ?_
                    refine mi_ne (tgt := 148) hx hb dMH_small_136 (by decide) (by omega) (by omega) (fun h35 => ?_) (fun h35 => absurd h35 (by omega))
                    refine lv_iconst (v := nI 4) hx hb dMH_small_148 (by decide) ?_
                    refine lv_iload hx hb dMH_small_149 (lv_at hl 0 rfl) ?_
                    refine lv_isub hx hb dMH_small_151 ?_
                    refine mi_any (fun z24 => ?_)
                    refine lv_istore (lv' := [(8, .int z24), (7, .int (nI 1)), (5, .int (nI (i21 + 1))), (6, .int (nI z22)), (0, .ref h0), (1, .ref f)]) hx hb dMH_small_152 hl (by decide) rfl (fun ls hl => ?_)
                    refine lv_aload_n hx hb dMH_small_154 rfl (lv_at hl 5 rfl) ?_
                    refine lv_iload hx hb dMH_small_155 (lv_at hl 2 rfl) ?_
                    refine lv_iload hx hb dMH_small_157 (lv_at hl 0 rfl) ?_
                    refine lv_if_ge (tgt := 170) hx hb dMH_small_159 (by decide) (fun h36 => ?_) (fun h36 => ?_)
                    · refine lv_iload hx hb dMH_small_170 (lv_at hl 0 rfl) ?_
                      refine ty_iast hx hb hK hO k_f (nxg (clo_cons (clo_cons (clo_cons (clo_cons (clo_cons (clo_cons hc0 kr21 (by decide)) km21 (by decide)) km22 (by decide)) km23 (by decide)) km24 (by decide)) km25 (by decide)) k_f rfl) hP hD hS (vp_in_nI (by omega) (by decide)) dMH_small_172 (fun pl H locs hO hP hD hS => ?_)
                      refine mi_iinc (k := 2) (x := i21 + 1) (d := 1) (y := i21 + 1 + 1) (lv' := [(5, .int (nI (i21 + 1 + 1))), (8, .int z24), (7, .int (nI 1)), (6, .int (nI z22)), (0, .ref h0), (1, .ref f)]) hx hb dMH_small_173 hl rfl (by decide) rfl (by decide) rfl (fun ls hl => ?_)
                      refine mi_iinc (k := 2) (x := 1) (d := 1) (y := 2) (lv' := [(7, .int (nI 2)), (5, .int (nI (i21 + 1 + 1))), (8, .int z24), (6, .int (nI z22)), (0, .ref h0), (1, .ref f)]) hx hb dMH_small_176 hl rfl (by decide) rfl (by decide) rfl (fun ls hl => ?_)
                      refine lv_goto (tgt := 69) hx hb dMH_small_179 (by decide) ?_
                      refine lv_iload hx hb dMH_small_69 (lv_at hl 0 rfl) ?_
                      refine lv_iconst (v := nI 2) hx hb dMH_small_71 (by decide) ?_
                      refine mi_ge (tgt := 182) hx hb dMH_small_72 (by decide) (by omega) (by omega) (fun h37 => ?_) (fun h37 => absurd h37 (by omega))
                      refine lv_goto (tgt := 49) hx hb dMH_small_182 (by decide) ?_
                      have hcm := cm_succ (c := c21) (m := mB) (k := 136)
                      exact ihq21 (mB * 136 - 1) (c21 + 1) (t21 + 1) (i21 + 1 + 1) ps23 f33 f34 f35 pl ls H locs (by omega) (by omega) (by omega) hs (lv_sub hl [1, 4, 5] rfl) hO hP hD hS
                    · refine lv_iload hx hb dMH_small_162 (lv_at hl 0 rfl) ?_
                      refine lv_ldc (v := 8380417) hx hb hown (hts _ (wg_t kw_1429)) dMH_small_164 ?_
                      refine mi_as (show (8380417 : Int32) = nI 8380417 by decide) ?_
                      refine lv_iadd hx hb dMH_small_166 ?_
                      refine mi_any (fun z25 => ?_)
                      refine lv_goto (tgt := 172) hx hb dMH_small_167 (by decide) ?_
                      refine ty_iast hx hb hK hO k_f (nxg (clo_cons (clo_cons (clo_cons (clo_cons (clo_cons (clo_cons hc0 kr21 (by decide)) km21 (by decide)) km22 (by decide)) km23 (by decide)) km24 (by decide)) km25 (by decide)) k_f rfl) hP hD hS (vp_in_nI (by omega) (by decide)) dMH_small_172 (fun pl H locs hO hP hD hS => ?_)
                      refine mi_iinc (k := 2) (x := i21 + 1) (d := 1) (y := i21 + 1 + 1) (lv' := [(5, .int (nI (i21 + 1 + 1))), (8, .int z24), (7, .int (nI 1)), (6, .int (nI z22)), (0, .ref h0), (1, .ref f)]) hx hb dMH_small_173 hl rfl (by decide) rfl (by decide) rfl (fun ls hl => ?_)
                      refine mi_iinc (k := 2) (x := 1) (d := 1) (y := 2) (lv' := [(7, .int (nI 2)), (5, .int (nI (i21 + 1 + 1))), (8, .int z24), (6, .int (nI z22)), (0, .ref h0), (1, .ref f)]) hx hb dMH_small_176 hl rfl (by decide) rfl (by decide) rfl (fun ls hl => ?_)
                      refine lv_goto (tgt := 69) hx hb dMH_small_179 (by decide) ?_
                      refine lv_iload hx hb dMH_small_69 (lv_at hl 0 rfl) ?_
                      refine lv_iconst (v := nI 2) hx hb dMH_small_71 (by decide) ?_
                      refine mi_ge (tgt := 182) hx hb dMH_small_72 (by decide) (by omega) (by omega) (fun h38 => ?_) (fun h38 => absurd h38 (by omega))
                      refine lv_goto (tgt := 49) hx hb dMH_small_182 (by decide) ?_
                      have hcm := cm_succ (c := c21) (m := mB) (k := 136)
                      exact ihq21 (mB * 136 - 1) (c21 + 1) (t21 + 1) (i21 + 1 + 1) ps23 f33 f34 f35 pl ls H locs (by omega) (by omega) (by omega) hs (lv_sub hl [1, 4, 5] rfl) hO hP hD hS
                  · refine lv_goto (tgt := 176) hx hb dMH_small_128 (by decide) ?_
                    refine mi_iinc (k := 1) (x := 1) (d := 1) (y := 2) (lv' := [(7, .int (nI 2)), (8, .int (nI (z22 / 16))), (5, .int (nI (i21 + 1))), (6, .int (nI z22)), (0, .ref h0), (1, .ref f)]) hx hb dMH_small_176 hl rfl (by decide) rfl (by decide) rfl (fun ls hl => ?_)
                    refine lv_goto (tgt := 69) hx hb dMH_small_179 (by decide) ?_
                    refine lv_iload hx hb dMH_small_69 (lv_at hl 0 rfl) ?_
                    refine lv_iconst (v := nI 2) hx hb dMH_small_71 (by decide) ?_
                    refine mi_ge (tgt := 182) hx hb dMH_small_72 (by decide) (by omega) (by omega) (fun h39 => ?_) (fun h39 => absurd h39 (by omega))
                    refine lv_goto (tgt := 49) hx hb dMH_small_182 (by decide) ?_
                    have hcm := cm_succ (c := c21) (m := mB) (k := 136)
                    exact ihq21 (mB * 136 - 1) (c21 + 1) (t21 + 1) (i21 + 1) ps23 f33 f34 f35 pl ls H locs (by omega) (by omega) (by omega) hs (lv_sub hl [2, 4, 5] rfl) hO hP hD hS
              · refine lv_iload hx hb dMH_small_162 (lv_at hl 0 rfl) ?_
                refine lv_ldc (v := 8380417) hx hb hown (hts _ (wg_t kw_1429)) dMH_small_164 ?_
                refine mi_as (show (8380417 : Int32) = nI 8380417 by decide) ?_
                refine lv_iadd hx hb dMH_small_166 ?_
                refine mi_any (fun z26 => ?_)
                refine lv_goto (tgt := 172) hx hb dMH_small_167 (by decide) ?_
                refine ty_iast hx hb hK hO k_f (nxg (clo_cons (clo_cons (clo_cons (clo_cons (clo_cons (clo_cons hc0 kr21 (by decide)) km21 (by decide)) km22 (by decide)) km23 (by decide)) km24 (by decide)) km25 (by decide)) k_f rfl) hP hD hS (vp_in_nI (by omega) (by decide)) dMH_small_172 (fun pl H locs hO hP hD hS => ?_)
                refine mi_iinc (k := 3) (x := i21) (d := 1) (y := i21 + 1) (lv' := [(5, .int (nI (i21 + 1))), (8, .int z23), (7, .int (nI 0)), (6, .int (nI z22)), (0, .ref h0), (1, .ref f)]) hx hb dMH_small_173 hl rfl (by decide) rfl (by decide) rfl (fun ls hl => ?_)
                refine mi_iinc (k := 2) (x := 0) (d := 1) (y := 1) (lv' := [(7, .int (nI 1)), (5, .int (nI (i21 + 1))), (8, .int z23), (6, .int (nI z22)), (0, .ref h0), (1, .ref f)]) hx hb dMH_small_176 hl rfl (by decide) rfl (by decide) rfl (fun ls hl => ?_)
                refine lv_goto (tgt := 69) hx hb dMH_small_179 (by decide) ?_
                refine lv_iload hx hb dMH_small_69 (lv_at hl 0 rfl) ?_
                refine lv_iconst (v := nI 2) hx hb dMH_small_71 (by decide) ?_
                refine mi_ge (tgt := 182) hx hb dMH_small_72 (by decide) (by omega) (by omega) (fun h40 => absurd h40 (by omega)) (fun h40 => ?_)
                refine lv_iload hx hb dMH_small_75 (lv_at hl 1 rfl) ?_
                refine lv_sipush (v := nI 256) hx hb dMH_small_77 (by decide) ?_
                refine mi_ge (tgt := 182) hx hb dMH_small_80 (by decide) (by omega) (by omega) (fun h41 => ?_) (fun h41 => ?_)
                · refine lv_goto (tgt := 49) hx hb dMH_small_182 (by decide) ?_
                  have hcm := cm_succ (c := c21) (m := mB) (k := 136)
                  exact ihq21 (mB * 136 - 1) (c21 + 1) (t21 + 1) (i21 + 1) ps23 f33 f34 f35 pl ls H locs (by omega) (by omega) (by omega) hs (lv_sub hl [1, 4, 5] rfl) hO hP hD hS
                · refine lv_iload hx hb dMH_small_83 (lv_at hl 0 rfl) ?_
                  refine lv_if_ne (tgt := 96) hx hb dMH_small_85 (by decide) (fun h42 => ?_) (fun h42 => absurd h42 (by decide))
                  refine lv_iload hx hb dMH_small_96 (lv_at hl 3 rfl) ?_
                  refine lv_bipush (v := nI 16) hx hb dMH_small_98 (by decide) ?_
                  refine mi_idiv hx hb dMH_small_100 (by omega) (by omega) (by omega) ?_
                  refine lv_istore (lv' := [(8, .int (nI (z22 / 16))), (7, .int (nI 1)), (5, .int (nI (i21 + 1))), (6, .int (nI z22)), (0, .ref h0), (1, .ref f)]) hx hb dMH_small_101 hl (by decide) rfl (fun ls hl => ?_)
                  refine lv_aload_n hx hb dMH_small_103 rfl (lv_at hl 4 rfl) ?_
                  refine ty_get (ci := 12) (C := "LatticeKeysModel$Hands") (TT := T_MH) (N := 31) (kd := (47, 0)) hx hb hts (wg_ft i_MH) hown hK hO k_h0 (nxg (clo_cons (clo_cons (clo_cons (clo_cons (clo_cons (clo_cons hc0 kr21 (by decide)) km21 (by decide)) km22 (by decide)) km23 (by decide)) km24 (by decide)) km25 (by decide)) k_h0 rfl) hP (fun _ h9 => h9) rfl 26 (by decide) (hts _ (wg_t kw_1458)) (fun _ h9 => h9) (cd := (1, 0, 4)) rfl dMH_small_104 (fun v31 hv31 => ?_)
                  obtain rfl := (show v31 = .int (nI 4) from hv31)
                  refine lv_iconst (v := nI 2) hx hb dMH_small_107 (by decide) ?_
                  refine mi_ne (tgt := 121) hx hb dMH_small_108 (by decide) (by omega) (by omega) (fun h43 => ?_) (fun h43 => absurd h43 (by omega))
                  refine lv_iload hx hb dMH_small_121 (lv_at hl 0 rfl) ?_
                  refine lv_bipush (v := nI 8) hx hb dMH_small_123 (by decide) ?_
                  refine mi_le (tgt := 131) hx hb dMH_small_125 (by decide) (by omega) (by omega) (fun h44 => ?_) (fun h44 => ?_)
                  · refine lv_aload_n hx hb dMH_small_131 rfl (lv_at hl 4 rfl) ?_
                    refine ty_get (ci := 12) (C := "LatticeKeysModel$Hands") (TT := T_MH) (N := 31) (kd := (47, 0)) hx hb hts (wg_ft i_MH) hown hK hO k_h0 (nxg (clo_cons (clo_cons (clo_cons (clo_cons (clo_cons (clo_cons hc0 kr21 (by decide)) km21 (by decide)) km22 (by decide)) km23 (by decide)) km24 (by decide)) km25 (by decide)) k_h0 rfl) hP (fun _ h9 => h9) rfl 26 (by decide) (hts _ (wg_t kw_1458)) (fun _ h9 => h9) (cd := (1, 0, 4)) rfl dMH_small_132 (fun v32 hv32 => ?_)
                    obtain rfl := (show v32 = .int (nI 4) from hv32)
                    refine lv_iconst (v := nI 2) hx hb dMH_small_135 (by decide) ?_
                    refine mi_ne (tgt := 148) hx hb dMH_small_136 (by decide) (by omega) (by omega) (fun h45 => ?_) (fun h45 => absurd h45 (by omega))
                    refine lv_iconst (v := nI 4) hx hb dMH_small_148 (by decide) ?_
                    refine lv_iload hx hb dMH_small_149 (lv_at hl 0 rfl) ?_
                    refine lv_isub hx hb dMH_small_151 ?_
                    refine mi_any (fun z27 => ?_)
                    refine lv_istore (lv' := [(8, .int z27), (7, .int (nI 1)), (5, .int (nI (i21 + 1))), (6, .int (nI z22)), (0, .ref h0), (1, .ref f)]) hx hb dMH_small_152 hl (by decide) rfl (fun ls hl => ?_)
                    refine lv_aload_n hx hb dMH_small_154 rfl (lv_at hl 5 rfl) ?_
                    refine lv_iload hx hb dMH_small_155 (lv_at hl 2 rfl) ?_
                    refine lv_iload hx hb dMH_small_157 (lv_at hl 0 rfl) ?_
                    refine lv_if_ge (tgt := 170) hx hb dMH_small_159 (by decide) (fun h46 => ?_) (fun h46 => ?_)
                    · refine lv_iload hx hb dMH_small_170 (lv_at hl 0 rfl) ?_
                      refine ty_iast hx hb hK hO k_f (nxg (clo_cons (clo_cons (clo_cons (clo_cons (clo_cons (clo_cons hc0 kr21 (by decide)) km21 (by decide)) km22 (by decide)) km23 (by decide)) km24 (by decide)) km25 (by decide)) k_f rfl) hP hD hS (vp_in_nI (by omega) (by decide)) dMH_small_172 (fun pl H locs hO hP hD hS => ?_)
                      refine mi_iinc (k := 2) (x := i21 + 1) (d := 1) (y := i21 + 1 + 1) (lv' := [(5, .int (nI (i21 + 1 + 1))), (8, .int z27), (7, .int (nI 1)), (6, .int (nI z22)), (0, .ref h0), (1, .ref f)]) hx hb dMH_small_173 hl rfl (by decide) rfl (by decide) rfl (fun ls hl => ?_)
                      refine mi_iinc (k := 2) (x := 1) (d := 1) (y := 2) (lv' := [(7, .int (nI 2)), (5, .int (nI (i21 + 1 + 1))), (8, .int z27), (6, .int (nI z22)), (0, .ref h0), (1, .ref f)]) hx hb dMH_small_176 hl rfl (by decide) rfl (by decide) rfl (fun ls hl => ?_)
                      refine lv_goto (tgt := 69) hx hb dMH_small_179 (by decide) ?_
                      refine lv_iload hx hb dMH_small_69 (lv_at hl 0 rfl) ?_
                      refine lv_iconst (v := nI 2) hx hb dMH_small_71 (by decide) ?_
                      refine mi_ge (tgt := 182) hx hb dMH_small_72 (by decide) (by omega) (by omega) (fun h47 => ?_) (fun h47 => absurd h47 (by omega))
                      refine lv_goto (tgt := 49) hx hb dMH_small_182 (by decide) ?_
                      have hcm := cm_succ (c := c21) (m := mB) (k := 136)
                      exact ihq21 (mB * 136 - 1) (c21 + 1) (t21 + 1) (i21 + 1 + 1) ps23 f33 f34 f35 pl ls H locs (by omega) (by omega) (by omega) hs (lv_sub hl [1, 4, 5] rfl) hO hP hD hS
                    · refine lv_iload hx hb dMH_small_162 (lv_at hl 0 rfl) ?_
                      refine lv_ldc (v := 8380417) hx hb hown (hts _ (wg_t kw_1429)) dMH_small_164 ?_
                      refine mi_as (show (8380417 : Int32) = nI 8380417 by decide) ?_
                      refine lv_iadd hx hb dMH_small_166 ?_
                      refine mi_any (fun z28 => ?_)
                      refine lv_goto (tgt := 172) hx hb dMH_small_167 (by decide) ?_
                      refine ty_iast hx hb hK hO k_f (nxg (clo_cons (clo_cons (clo_cons (clo_cons (clo_cons (clo_cons hc0 kr21 (by decide)) km21 (by decide)) km22 (by decide)) km23 (by decide)) km24 (by decide)) km25 (by decide)) k_f rfl) hP hD hS (vp_in_nI (by omega) (by decide)) dMH_small_172 (fun pl H locs hO hP hD hS => ?_)
                      refine mi_iinc (k := 2) (x := i21 + 1) (d := 1) (y := i21 + 1 + 1) (lv' := [(5, .int (nI (i21 + 1 + 1))), (8, .int z27), (7, .int (nI 1)), (6, .int (nI z22)), (0, .ref h0), (1, .ref f)]) hx hb dMH_small_173 hl rfl (by decide) rfl (by decide) rfl (fun ls hl => ?_)
                      refine mi_iinc (k := 2) (x := 1) (d := 1) (y := 2) (lv' := [(7, .int (nI 2)), (5, .int (nI (i21 + 1 + 1))), (8, .int z27), (6, .int (nI z22)), (0, .ref h0), (1, .ref f)]) hx hb dMH_small_176 hl rfl (by decide) rfl (by decide) rfl (fun ls hl => ?_)
                      refine lv_goto (tgt := 69) hx hb dMH_small_179 (by decide) ?_
                      refine lv_iload hx hb dMH_small_69 (lv_at hl 0 rfl) ?_
                      refine lv_iconst (v := nI 2) hx hb dMH_small_71 (by decide) ?_
                      refine mi_ge (tgt := 182) hx hb dMH_small_72 (by decide) (by omega) (by omega) (fun h48 => ?_) (fun h48 => absurd h48 (by omega))
                      refine lv_goto (tgt := 49) hx hb dMH_small_182 (by decide) ?_
                      have hcm := cm_succ (c := c21) (m := mB) (k := 136)
                      exact ihq21 (mB * 136 - 1) (c21 + 1) (t21 + 1) (i21 + 1 + 1) ps23 f33 f34 f35 pl ls H locs (by omega) (by omega) (by omega) hs (lv_sub hl [1, 4, 5] rfl) hO hP hD hS
                  · refine lv_goto (tgt := 176) hx hb dMH_small_128 (by decide) ?_
                    refine mi_iinc (k := 1) (x := 1) (d := 1) (y := 2) (lv' := [(7, .int (nI 2)), (8, .int (nI (z22 / 16))), (5, .int (nI (i21 + 1))), (6, .int (nI z22)), (0, .ref h0), (1, .ref f)]) hx hb dMH_small_176 hl rfl (by decide) rfl (by decide) rfl (fun ls hl => ?_)
                    refine lv_goto (tgt := 69) hx hb dMH_small_179 (by decide) ?_
                    refine lv_iload hx hb dMH_small_69 (lv_at hl 0 rfl) ?_
                    refine lv_iconst (v := nI 2) hx hb dMH_small_71 (by decide) ?_
                    refine mi_ge (tgt := 182) hx hb dMH_small_72 (by decide) (by omega) (by omega) (fun h49 => ?_) (fun h49 => absurd h49 (by omega))
                    refine lv_goto (tgt := 49) hx hb dMH_small_182 (by decide) ?_
                    have hcm := cm_succ (c := c21) (m := mB) (k := 136)
                    exact ihq21 (mB * 136 - 1) (c21 + 1) (t21 + 1) (i21 + 1) ps23 f33 f34 f35 pl ls H locs (by omega) (by omega) (by omega) hs (lv_sub hl [2, 4, 5] rfl) hO hP hD hS
            · refine lv_goto (tgt := 176) hx hb dMH_small_128 (by decide) ?_
              refine mi_iinc (k := 1) (x := 0) (d := 1) (y := 1) (lv' := [(7, .int (nI 1)), (8, .int (nI (z22 % 16))), (6, .int (nI z22)), (5, .int (nI i21)), (0, .ref h0), (1, .ref f)]) hx hb dMH_small_176 hl rfl (by decide) rfl (by decide) rfl (fun ls hl => ?_)
              refine lv_goto (tgt := 69) hx hb dMH_small_179 (by decide) ?_
              refine lv_iload hx hb dMH_small_69 (lv_at hl 0 rfl) ?_
              refine lv_iconst (v := nI 2) hx hb dMH_small_71 (by decide) ?_
              refine mi_ge (tgt := 182) hx hb dMH_small_72 (by decide) (by omega) (by omega) (fun h50 => absurd h50 (by omega)) (fun h50 => ?_)
              refine lv_iload hx hb dMH_small_75 (lv_at hl 3 rfl) ?_
              refine lv_sipush (v := nI 256) hx hb dMH_small_77 (by decide) ?_
              refine mi_ge (tgt := 182) hx hb dMH_small_80 (by decide) (by omega) (by omega) (fun h51 => ?_) (fun h51 => ?_)
              · refine lv_goto (tgt := 49) hx hb dMH_small_182 (by decide) ?_
                exfalso
                omega
              · refine lv_iload hx hb dMH_small_83 (lv_at hl 0 rfl) ?_
                refine lv_if_ne (tgt := 96) hx hb dMH_small_85 (by decide) (fun h52 => ?_) (fun h52 => absurd h52 (by decide))
                refine lv_iload hx hb dMH_small_96 (lv_at hl 2 rfl) ?_
                refine lv_bipush (v := nI 16) hx hb dMH_small_98 (by decide) ?_
                refine mi_idiv hx hb dMH_small_100 (by omega) (by omega) (by omega) ?_
                refine lv_istore (lv' := [(8, .int (nI (z22 / 16))), (7, .int (nI 1)), (6, .int (nI z22)), (5, .int (nI i21)), (0, .ref h0), (1, .ref f)]) hx hb dMH_small_101 hl (by decide) rfl (fun ls hl => ?_)
                refine lv_aload_n hx hb dMH_small_103 rfl (lv_at hl 4 rfl) ?_
                refine ty_get (ci := 12) (C := "LatticeKeysModel$Hands") (TT := T_MH) (N := 31) (kd := (47, 0)) hx hb hts (wg_ft i_MH) hown hK hO k_h0 (nxg (clo_cons (clo_cons (clo_cons (clo_cons (clo_cons (clo_cons hc0 kr21 (by decide)) km21 (by decide)) km22 (by decide)) km23 (by decide)) km24 (by decide)) km25 (by decide)) k_h0 rfl) hP (fun _ h9 => h9) rfl 26 (by decide) (hts _ (wg_t kw_1458)) (fun _ h9 => h9) (cd := (1, 0, 4)) rfl dMH_small_104 (fun v33 hv33 => ?_)
                obtain rfl := (show v33 = .int (nI 4) from hv33)
                refine lv_iconst (v := nI 2) hx hb dMH_small_107 (by decide) ?_
                refine mi_ne (tgt := 121) hx hb dMH_small_108 (by decide) (by omega) (by omega) (fun h53 => ?_) (fun h53 => absurd h53 (by omega))
                refine lv_iload hx hb dMH_small_121 (lv_at hl 0 rfl) ?_
                refine lv_bipush (v := nI 8) hx hb dMH_small_123 (by decide) ?_
                refine mi_le (tgt := 131) hx hb dMH_small_125 (by decide) (by omega) (by omega) (fun h54 => ?_) (fun h54 => ?_)
                · refine lv_aload_n hx hb dMH_small_131 rfl (lv_at hl 4 rfl) ?_
                  refine ty_get (ci := 12) (C := "LatticeKeysModel$Hands") (TT := T_MH) (N := 31) (kd := (47, 0)) hx hb hts (wg_ft i_MH) hown hK hO k_h0 (nxg (clo_cons (clo_cons (clo_cons (clo_cons (clo_cons (clo_cons hc0 kr21 (by decide)) km21 (by decide)) km22 (by decide)) km23 (by decide)) km24 (by decide)) km25 (by decide)) k_h0 rfl) hP (fun _ h9 => h9) rfl 26 (by decide) (hts _ (wg_t kw_1458)) (fun _ h9 => h9) (cd := (1, 0, 4)) rfl dMH_small_132 (fun v34 hv34 => ?_)
                  obtain rfl := (show v34 = .int (nI 4) from hv34)
                  refine lv_iconst (v := nI 2) hx hb dMH_small_135 (by decide) ?_
                  refine mi_ne (tgt := 148) hx hb dMH_small_136 (by decide) (by omega) (by omega) (fun h55 => ?_) (fun h55 => absurd h55 (by omega))
                  refine lv_iconst (v := nI 4) hx hb dMH_small_148 (by decide) ?_
                  refine lv_iload hx hb dMH_small_149 (lv_at hl 0 rfl) ?_
                  refine lv_isub hx hb dMH_small_151 ?_
                  refine mi_any (fun z29 => ?_)
                  refine lv_istore (lv' := [(8, .int z29), (7, .int (nI 1)), (6, .int (nI z22)), (5, .int (nI i21)), (0, .ref h0), (1, .ref f)]) hx hb dMH_small_152 hl (by decide) rfl (fun ls hl => ?_)
                  refine lv_aload_n hx hb dMH_small_154 rfl (lv_at hl 5 rfl) ?_
                  refine lv_iload hx hb dMH_small_155 (lv_at hl 3 rfl) ?_
                  refine lv_iload hx hb dMH_small_157 (lv_at hl 0 rfl) ?_
                  refine lv_if_ge (tgt := 170) hx hb dMH_small_159 (by decide) (fun h56 => ?_) (fun h56 => ?_)
                  · refine lv_iload hx hb dMH_small_170 (lv_at hl 0 rfl) ?_
                    refine ty_iast hx hb hK hO k_f (nxg (clo_cons (clo_cons (clo_cons (clo_cons (clo_cons (clo_cons hc0 kr21 (by decide)) km21 (by decide)) km22 (by decide)) km23 (by decide)) km24 (by decide)) km25 (by decide)) k_f rfl) hP hD hS (vp_in_nI (by omega) (by decide)) dMH_small_172 (fun pl H locs hO hP hD hS => ?_)
                    refine mi_iinc (k := 3) (x := i21) (d := 1) (y := i21 + 1) (lv' := [(5, .int (nI (i21 + 1))), (8, .int z29), (7, .int (nI 1)), (6, .int (nI z22)), (0, .ref h0), (1, .ref f)]) hx hb dMH_small_173 hl rfl (by decide) rfl (by decide) rfl (fun ls hl => ?_)
                    refine mi_iinc (k := 2) (x := 1) (d := 1) (y := 2) (lv' := [(7, .int (nI 2)), (5, .int (nI (i21 + 1))), (8, .int z29), (6, .int (nI z22)), (0, .ref h0), (1, .ref f)]) hx hb dMH_small_176 hl rfl (by decide) rfl (by decide) rfl (fun ls hl => ?_)
                    refine lv_goto (tgt := 69) hx hb dMH_small_179 (by decide) ?_
                    refine lv_iload hx hb dMH_small_69 (lv_at hl 0 rfl) ?_
                    refine lv_iconst (v := nI 2) hx hb dMH_small_71 (by decide) ?_
                    refine mi_ge (tgt := 182) hx hb dMH_small_72 (by decide) (by omega) (by omega) (fun h57 => ?_) (fun h57 => absurd h57 (by omega))
                    refine lv_goto (tgt := 49) hx hb dMH_small_182 (by decide) ?_
                    have hcm := cm_succ (c := c21) (m := mB) (k := 136)
                    exact ihq21 (mB * 136 - 1) (c21 + 1) (t21 + 1) (i21 + 1) ps23 f33 f34 f35 pl ls H locs (by omega) (by omega) (by omega) hs (lv_sub hl [1, 4, 5] rfl) hO hP hD hS
                  · refine lv_iload hx hb dMH_small_162 (lv_at hl 0 rfl) ?_
                    refine lv_ldc (v := 8380417) hx hb hown (hts _ (wg_t kw_1429)) dMH_small_164 ?_
                    refine mi_as (show (8380417 : Int32) = nI 8380417 by decide) ?_
                    refine lv_iadd hx hb dMH_small_166 ?_
                    refine mi_any (fun z30 => ?_)
                    refine lv_goto (tgt := 172) hx hb dMH_small_167 (by decide) ?_
                    refine ty_iast hx hb hK hO k_f (nxg (clo_cons (clo_cons (clo_cons (clo_cons (clo_cons (clo_cons hc0 kr21 (by decide)) km21 (by decide)) km22 (by decide)) km23 (by decide)) km24 (by decide)) km25 (by decide)) k_f rfl) hP hD hS (vp_in_nI (by omega) (by decide)) dMH_small_172 (fun pl H locs hO hP hD hS => ?_)
                    refine mi_iinc (k := 3) (x := i21) (d := 1) (y := i21 + 1) (lv' := [(5, .int (nI (i21 + 1))), (8, .int z29), (7, .int (nI 1)), (6, .int (nI z22)), (0, .ref h0), (1, .ref f)]) hx hb dMH_small_173 hl rfl (by decide) rfl (by decide) rfl (fun ls hl => ?_)
                    refine mi_iinc (k := 2) (x := 1) (d := 1) (y := 2) (lv' := [(7, .int (nI 2)), (5, .int (nI (i21 + 1))), (8, .int z29), (6, .int (nI z22)), (0, .ref h0), (1, .ref f)]) hx hb dMH_small_176 hl rfl (by decide) rfl (by decide) rfl (fun ls hl => ?_)
                    refine lv_goto (tgt := 69) hx hb dMH_small_179 (by decide) ?_
                    refine lv_iload hx hb dMH_small_69 (lv_at hl 0 rfl) ?_
                    refine lv_iconst (v := nI 2) hx hb dMH_small_71 (by decide) ?_
                    refine mi_ge (tgt := 182) hx hb dMH_small_72 (by decide) (by omega) (by omega) (fun h58 => ?_) (fun h58 => absurd h58 (by omega))
                    refine lv_goto (tgt := 49) hx hb dMH_small_182 (by decide) ?_
                    have hcm := cm_succ (c := c21) (m := mB) (k := 136)
                    exact ihq21 (mB * 136 - 1) (c21 + 1) (t21 + 1) (i21 + 1) ps23 f33 f34 f35 pl ls H locs (by omega) (by omega) (by omega) hs (lv_sub hl [1, 4, 5] rfl) hO hP hD hS
                · refine lv_goto (tgt := 176) hx hb dMH_small_128 (by decide) ?_
                  refine mi_iinc (k := 1) (x := 1) (d := 1) (y := 2) (lv' := [(7, .int (nI 2)), (8, .int (nI (z22 / 16))), (6, .int (nI z22)), (5, .int (nI i21)), (0, .ref h0), (1, .ref f)]) hx hb dMH_small_176 hl rfl (by decide) rfl (by decide) rfl (fun ls hl => ?_)
                  refine lv_goto (tgt := 69) hx hb dMH_small_179 (by decide) ?_
                  refine lv_iload hx hb dMH_small_69 (lv_at hl 0 rfl) ?_
                  refine lv_iconst (v := nI 2) hx hb dMH_small_71 (by decide) ?_
                  refine mi_ge (tgt := 182) hx hb dMH_small_72 (by decide) (by omega) (by omega) (fun h59 => ?_) (fun h59 => absurd h59 (by omega))
                  refine lv_goto (tgt := 49) hx hb dMH_small_182 (by decide) ?_
                  exfalso
                  omega
      | succ d21 ihd21 =>
        intro c21 t21 i21 ps22 f30 f31 f32 pl ls H locs hi21 hi22 hd21 hs hl hO hP hD hS
        have hsl := str_le hs
        refine lv_iload hx hb dMH_small_49 (lv_at hl 0 rfl) ?_
        refine lv_sipush (v := nI 256) hx hb dMH_small_51 (by decide) ?_
        refine mi_ge (tgt := 185) hx hb dMH_small_54 (by decide) (by omega) (by omega) (fun h60 => ?_) (fun h60 => ?_)
        · have hO := close1 (e := .inl (g.2.1 0, 25, .inl f25)) hO km25 ⟨_, rfl⟩
          have hO := close1 (e := .inl (g.2.1 2, 24, .inr (.inl f24))) hO km24 ⟨_, rfl⟩
          have hO := close1 (e := .inl (g.2.1 2, 5, .inr (.inl f32))) hO km23 ⟨_, rfl⟩
          have hO := close1 (e := .inl (g.2.1 2, 25, .inr (.inl f31))) hO km22 ⟨_, rfl⟩
          have hO := close1 (e := .inl (g.2.1 2, 25, .inr (.inl f30))) hO km21 ⟨_, rfl⟩
          have hO := close1 (e := .inr (9, [.ref am21, .ref am22, .ref am23, .ref am24, .ref am25, .int (nI 136), .int (nI ps22), .int (nI 31)])) hO kr21 ⟨_, _, _, _, _, _, _, _, rfl, km21, km22, km23, km24, km25, by omega, by omega, by omega⟩
          have hO : okx g T xs ((r21, .inr (9, [.ref am21, .ref am22, .ref am23, .ref am24, .ref am25, .int (nI 136), .int (nI ps22), .int (nI 31)])) :: (am21, .inl (g.2.1 2, 25, .inr (.inl f30))) :: (am22, .inl (g.2.1 2, 25, .inr (.inl f31))) :: (am23, .inl (g.2.1 2, 5, .inr (.inl f32))) :: (am24, .inl (g.2.1 2, 24, .inr (.inl f24))) :: (am25, .inl (g.2.1 0, 25, .inl f25)) :: pl) := hO
          have hP : va_P g.1 vcl ([] ++ ((r21, .inr (9, [.ref am21, .ref am22, .ref am23, .ref am24, .ref am25, .int (nI 136), .int (nI ps22), .int (nI 31)])) :: (am21, .inl (g.2.1 2, 25, .inr (.inl f30))) :: (am22, .inl (g.2.1 2, 25, .inr (.inl f31))) :: (am23, .inl (g.2.1 2, 5, .inr (.inl f32))) :: (am24, .inl (g.2.1 2, 24, .inr (.inl f24))) :: (am25, .inl (g.2.1 0, 25, .inl f25)) :: pl)) _ := hP
          have hD : va_D _ ([] ++ ((r21, .inr (9, [.ref am21, .ref am22, .ref am23, .ref am24, .ref am25, .int (nI 136), .int (nI ps22), .int (nI 31)])) :: (am21, .inl (g.2.1 2, 25, .inr (.inl f30))) :: (am22, .inl (g.2.1 2, 25, .inr (.inl f31))) :: (am23, .inl (g.2.1 2, 5, .inr (.inl f32))) :: (am24, .inl (g.2.1 2, 24, .inr (.inl f24))) :: (am25, .inl (g.2.1 0, 25, .inl f25)) :: pl)) := hD
          generalize ((r21, .inr (9, [.ref am21, .ref am22, .ref am23, .ref am24, .ref am25, .int (nI 136), .int (nI ps22), .int (nI 31)])) :: (am21, .inl (g.2.1 2, 25, .inr (.inl f30))) :: (am22, .inl (g.2.1 2, 25, .inr (.inl f31))) :: (am23, .inl (g.2.1 2, 5, .inr (.inl f32))) :: (am24, .inl (g.2.1 2, 24, .inr (.inl f24))) :: (am25, .inl (g.2.1 0, 25, .inl f25)) :: pl) = pl at hO hP hD
          exact mp_vret hx hb hr hlk hP hD hS pl ⟨trivial, hO⟩ [] rfl rfl rfl (by omega) (by omega) dMH_small_185
        · refine lv_aload_n hx hb dMH_small_57 rfl (lv_at hl 1 rfl) ?_
          refine ty_get (ci := 12) (C := "LatticeKeysModel$Hands") (TT := T_MH) (N := 31) (kd := (47, 0)) hx hb hts (wg_ft i_MH) hown hK hO k_h0 (nxg (clo_cons (clo_cons (clo_cons (clo_cons (clo_cons (clo_cons hc0 kr21 (by decide)) km21 (by decide)) km22 (by decide)) km23 (by decide)) km24 (by decide)) km25 (by decide)) k_h0 rfl) hP (fun _ h9 => h9) rfl 0 (by decide) (hts _ (wg_t kw_1432)) (fun _ h9 => h9) (cd := (3, 20, 0)) rfl dMH_small_58 (fun v35 hv35 => ?_)
          obtain ⟨r28, rfl, kr27⟩ := (show ∃ r : Nat, v35 = .ref r ∧ T r = some (20, 0) from hv35)
          obtain rfl : r21 = r28 := hU _ _ _ (by decide) kr21 kr27
          refine mp_i (cx := [(r21, .inr (9, [.ref am21, .ref am22, .ref am23, .ref am24, .ref am25, .int (nI 136), .int (nI ps22), .int (nI 31)])), (am21, .inl (g.2.1 2, 25, .inr (.inl f30))), (am22, .inl (g.2.1 2, 25, .inr (.inl f31))), (am23, .inl (g.2.1 2, 5, .inr (.inl f32))), (am24, .inl (g.2.1 2, 24, .inr (.inl f24))), (am25, .inl (g.2.1 0, 25, .inl f25))]) (wr := []) hP hD hS hA [0, 1, 2, 3, 4, 5] [] rfl rfl rfl (by decide) (va_runV (As := []) (rest := []) F (x_MS_next l g _ T (am25 :: (am24 :: (am23 :: (am22 :: (am21 :: (r21 :: xs)))))) pl hO hU  r21 am21 am22 am23 am24 am25 136 ps22 (nI 31) f30 f31 f32 f24 f25 (by omega) (by omega)) (cwV 0 hts (wg_app (wg_c kw_1728 (wg_c kw_1642 (wg_c kw_1643 (wg_c kw_10 wg_n)))) kw_1644) rfl rfl rfl (by decide +kernel) ⟨by decide, by decide⟩) (pp_V (en_ok g) (q0 := 0) hK hP hD hS hA hE [0, 1, 2, 3, 4, 5] rfl rfl rfl rfl) rfl rfl hl.1 rfl (lv_room (Nat.le_of_ble_eq_true rfl)) dMH_small_61 ⟨by omega, by omega⟩) (fun r29 u33 H locs hu27 hP hD hS => ?_)
          obtain ⟨u34, pl⟩ := u33
          obtain ⟨hq27, hO⟩ := hu27
          obtain ⟨ps24, f36, f37, f38⟩ := u34
          have hP : va_P g.1 vcl ([(r21, .inr (9, [.ref am21, .ref am22, .ref am23, .ref am24, .ref am25, .int (nI 136), .int (nI ps24), .int (nI 31)])), (am21, .inl (g.2.1 2, 25, .inr (.inl f36))), (am22, .inl (g.2.1 2, 25, .inr (.inl f37))), (am23, .inl (g.2.1 2, 5, .inr (.inl f38))), (am24, .inl (g.2.1 2, 24, .inr (.inl f24))), (am25, .inl (g.2.1 0, 25, .inl f25))] ++ pl) _ := hP
          have hD : va_D _ ([(r21, .inr (9, [.ref am21, .ref am22, .ref am23, .ref am24, .ref am25, .int (nI 136), .int (nI ps24), .int (nI 31)])), (am21, .inl (g.2.1 2, 25, .inr (.inl f36))), (am22, .inl (g.2.1 2, 25, .inr (.inl f37))), (am23, .inl (g.2.1 2, 5, .inr (.inl f38))), (am24, .inl (g.2.1 2, 24, .inr (.inl f24))), (am25, .inl (g.2.1 0, 25, .inl f25))] ++ pl) := hD
          obtain ⟨hn22, hl22, z31, hz22, rfl, h0z22⟩ := hq27
          have hl22 : ps24 ≤ 136 := hl22
          have hs := str_next (by decide) hs hn22
          refine W.widen (k := 0) (n := 0) (by omega) (by omega) ?_
          refine lv_istore (lv' := [(6, .int (nI z31)), (5, .int (nI i21)), (0, .ref h0), (1, .ref f)]) hx hb dMH_small_64 hl (by decide) rfl (fun ls hl => ?_)
          refine lv_iconst (v := nI 0) hx hb dMH_small_66 (by decide) ?_
          refine lv_istore (lv' := [(7, .int (nI 0)), (6, .int (nI z31)), (5, .int (nI i21)), (0, .ref h0), (1, .ref f)]) hx hb dMH_small_67 hl (by decide) rfl (fun ls hl => ?_)
          refine lv_iload hx hb dMH_small_69 (lv_at hl 0 rfl) ?_
          refine lv_iconst (v := nI 2) hx hb dMH_small_71 (by decide) ?_
          refine mi_ge (tgt := 182) hx hb dMH_small_72 (by decide) (by omega) (by omega) (fun h61 => absurd h61 (by omega)) (fun h61 => ?_)
          refine lv_iload hx hb dMH_small_75 (lv_at hl 2 rfl) ?_
          refine lv_sipush (v := nI 256) hx hb dMH_small_77 (by decide) ?_
          refine mi_ge (tgt := 182) hx hb dMH_small_80 (by decide) (by omega) (by omega) (fun h62 => ?_) (fun h62 => ?_)
          · refine lv_goto (tgt := 49) hx hb dMH_small_182 (by decide) ?_
            exact ihd21 c21 (t21 + 1) i21 ps24 f36 f37 f38 pl ls H locs (by omega) (by omega) (by omega) hs (lv_sub hl [2, 3, 4] rfl) hO hP hD hS
          · refine lv_iload hx hb dMH_small_83 (lv_at hl 0 rfl) ?_
            refine lv_if_ne (tgt := 96) hx hb dMH_small_85 (by decide) (fun h63 => absurd h63 (by decide)) (fun h63 => ?_)
            refine lv_iload hx hb dMH_small_88 (lv_at hl 1 rfl) ?_
            refine lv_bipush (v := nI 16) hx hb dMH_small_90 (by decide) ?_
            refine mi_irem hx hb dMH_small_92 (by omega) (by omega) (by omega) ?_
            refine lv_goto (tgt := 101) hx hb dMH_small_93 (by decide) ?_
            refine lv_istore (lv' := [(8, .int (nI (z31 % 16))), (7, .int (nI 0)), (6, .int (nI z31)), (5, .int (nI i21)), (0, .ref h0), (1, .ref f)]) hx hb dMH_small_101 hl (by decide) rfl (fun ls hl => ?_)
            refine lv_aload_n hx hb dMH_small_103 rfl (lv_at hl 4 rfl) ?_
            refine ty_get (ci := 12) (C := "LatticeKeysModel$Hands") (TT := T_MH) (N := 31) (kd := (47, 0)) hx hb hts (wg_ft i_MH) hown hK hO k_h0 (nxg (clo_cons (clo_cons (clo_cons (clo_cons (clo_cons (clo_cons hc0 kr21 (by decide)) km21 (by decide)) km22 (by decide)) km23 (by decide)) km24 (by decide)) km25 (by decide)) k_h0 rfl) hP (fun _ h9 => h9) rfl 26 (by decide) (hts _ (wg_t kw_1458)) (fun _ h9 => h9) (cd := (1, 0, 4)) rfl dMH_small_104 (fun v36 hv36 => ?_)
            obtain rfl := (show v36 = .int (nI 4) from hv36)
            refine lv_iconst (v := nI 2) hx hb dMH_small_107 (by decide) ?_
            refine mi_ne (tgt := 121) hx hb dMH_small_108 (by decide) (by omega) (by omega) (fun h64 => ?_) (fun h64 => absurd h64 (by omega))
            refine lv_iload hx hb dMH_small_121 (lv_at hl 0 rfl) ?_
            refine lv_bipush (v := nI 8) hx hb dMH_small_123 (by decide) ?_
            refine mi_le (tgt := 131) hx hb dMH_small_125 (by decide) (by omega) (by omega) (fun h65 => ?_) (fun h65 => ?_)
            · refine lv_aload_n hx hb dMH_small_131 rfl (lv_at hl 4 rfl) ?_
              refine ty_get (ci := 12) (C := "LatticeKeysModel$Hands") (TT := T_MH) (N := 31) (kd := (47, 0)) hx hb hts (wg_ft i_MH) hown hK hO k_h0 (nxg (clo_cons (clo_cons (clo_cons (clo_cons (clo_cons (clo_cons hc0 kr21 (by decide)) km21 (by decide)) km22 (by decide)) km23 (by decide)) km24 (by decide)) km25 (by decide)) k_h0 rfl) hP (fun _ h9 => h9) rfl 26 (by decide) (hts _ (wg_t kw_1458)) (fun _ h9 => h9) (cd := (1, 0, 4)) rfl dMH_small_132 (fun v37 hv37 => ?_)
              obtain rfl := (show v37 = .int (nI 4) from hv37)
              refine lv_iconst (v := nI 2) hx hb dMH_small_135 (by decide) ?_
              refine mi_ne (tgt := 148) hx hb dMH_small_136 (by decide) (by omega) (by omega) (fun h66 => ?_) (fun h66 => absurd h66 (by omega))
              refine lv_iconst (v := nI 4) hx hb dMH_small_148 (by decide) ?_
              refine lv_iload hx hb dMH_small_149 (lv_at hl 0 rfl) ?_
              refine lv_isub hx hb dMH_small_151 ?_
              refine mi_any (fun z32 => ?_)
              refine lv_istore (lv' := [(8, .int z32), (7, .int (nI 0)), (6, .int (nI z31)), (5, .int (nI i21)), (0, .ref h0), (1, .ref f)]) hx hb dMH_small_152 hl (by decide) rfl (fun ls hl => ?_)
              refine lv_aload_n hx hb dMH_small_154 rfl (lv_at hl 5 rfl) ?_
              refine lv_iload hx hb dMH_small_155 (lv_at hl 3 rfl) ?_
              refine lv_iload hx hb dMH_small_157 (lv_at hl 0 rfl) ?_
              refine lv_if_ge (tgt := 170) hx hb dMH_small_159 (by decide) (fun h67 => ?_) (fun h67 => ?_)
              · refine lv_iload hx hb dMH_small_170 (lv_at hl 0 rfl) ?_
                refine ty_iast hx hb hK hO k_f (nxg (clo_cons (clo_cons (clo_cons (clo_cons (clo_cons (clo_cons hc0 kr21 (by decide)) km21 (by decide)) km22 (by decide)) km23 (by decide)) km24 (by decide)) km25 (by decide)) k_f rfl) hP hD hS (vp_in_nI (by omega) (by decide)) dMH_small_172 (fun pl H locs hO hP hD hS => ?_)
                refine mi_iinc (k := 3) (x := i21) (d := 1) (y := i21 + 1) (lv' := [(5, .int (nI (i21 + 1))), (8, .int z32), (7, .int (nI 0)), (6, .int (nI z31)), (0, .ref h0), (1, .ref f)]) hx hb dMH_small_173 hl rfl (by decide) rfl (by decide) rfl (fun ls hl => ?_)
                refine mi_iinc (k := 2) (x := 0) (d := 1) (y := 1) (lv' := [(7, .int (nI 1)), (5, .int (nI (i21 + 1))), (8, .int z32), (6, .int (nI z31)), (0, .ref h0), (1, .ref f)]) hx hb dMH_small_176 hl rfl (by decide) rfl (by decide) rfl (fun ls hl => ?_)
                refine lv_goto (tgt := 69) hx hb dMH_small_179 (by decide) ?_
                refine lv_iload hx hb dMH_small_69 (lv_at hl 0 rfl) ?_
                refine lv_iconst (v := nI 2) hx hb dMH_small_71 (by decide) ?_
                refine mi_ge (tgt := 182) hx hb dMH_small_72 (by decide) (by omega) (by omega) (fun h68 => absurd h68 (by omega)) (fun h68 => ?_)
                refine lv_iload hx hb dMH_small_75 (lv_at hl 1 rfl) ?_
                refine lv_sipush (v := nI 256) hx hb dMH_small_77 (by decide) ?_
                refine mi_ge (tgt := 182) hx hb dMH_small_80 (by decide) (by omega) (by omega) (fun h69 => ?_) (fun h69 => ?_)
                · refine lv_goto (tgt := 49) hx hb dMH_small_182 (by decide) ?_
                  exact ihq21 d21 c21 (t21 + 1) (i21 + 1) ps24 f36 f37 f38 pl ls H locs (by omega) (by omega) (by omega) hs (lv_sub hl [1, 4, 5] rfl) hO hP hD hS
                · refine lv_iload hx hb dMH_small_83 (lv_at hl 0 rfl) ?_
                  refine lv_if_ne (tgt := 96) hx hb dMH_small_85 (by decide) (fun h70 => ?_) (fun h70 => absurd h70 (by decide))
                  refine lv_iload hx hb dMH_small_96 (lv_at hl 3 rfl) ?_
                  refine lv_bipush (v := nI 16) hx hb dMH_small_98 (by decide) ?_
                  refine mi_idiv hx hb dMH_small_100 (by omega) (by omega) (by omega) ?_
                  refine lv_istore (lv' := [(8, .int (nI (z31 / 16))), (7, .int (nI 1)), (5, .int (nI (i21 + 1))), (6, .int (nI z31)), (0, .ref h0), (1, .ref f)]) hx hb dMH_small_101 hl (by decide) rfl (fun ls hl => ?_)
                  refine lv_aload_n hx hb dMH_small_103 rfl (lv_at hl 4 rfl) ?_
                  refine ty_get (ci := 12) (C := "LatticeKeysModel$Hands") (TT := T_MH) (N := 31) (kd := (47, 0)) hx hb hts (wg_ft i_MH) hown hK hO k_h0 (nxg (clo_cons (clo_cons (clo_cons (clo_cons (clo_cons (clo_cons hc0 kr21 (by decide)) km21 (by decide)) km22 (by decide)) km23 (by decide)) km24 (by decide)) km25 (by decide)) k_h0 rfl) hP (fun _ h9 => h9) rfl 26 (by decide) (hts _ (wg_t kw_1458)) (fun _ h9 => h9) (cd := (1, 0, 4)) rfl dMH_small_104 (fun v38 hv38 => ?_)
                  obtain rfl := (show v38 = .int (nI 4) from hv38)
                  refine lv_iconst (v := nI 2) hx hb dMH_small_107 (by decide) ?_
                  refine mi_ne (tgt := 121) hx hb dMH_small_108 (by decide) (by omega) (by omega) (fun h71 => ?_) (fun h71 => absurd h71 (by omega))
                  refine lv_iload hx hb dMH_small_121 (lv_at hl 0 rfl) ?_
                  refine lv_bipush (v := nI 8) hx hb dMH_small_123 (by decide) ?_
                  refine mi_le (tgt := 131) hx hb dMH_small_125 (by decide) (by omega) (by omega) (fun h72 => ?_) (fun h72 => ?_)
                  · refine lv_aload_n hx hb dMH_small_131 rfl (lv_at hl 4 rfl) ?_
                    refine ty_get (ci := 12) (C := "LatticeKeysModel$Hands") (TT := T_MH) (N := 31) (kd := (47, 0)) hx hb hts (wg_ft i_MH) hown hK hO k_h0 (nxg (clo_cons (clo_cons (clo_cons (clo_cons (clo_cons (clo_cons hc0 kr21 (by decide)) km21 (by decide)) km22 (by decide)) km23 (by decide)) km24 (by decide)) km25 (by decide)) k_h0 rfl) hP (fun _ h9 => h9) rfl 26 (by decide) (hts _ (wg_t kw_1458)) (fun _ h9 => h9) (cd := (1, 0, 4)) rfl dMH_small_132 (fun v39 hv39 => ?_)
                    obtain rfl := (show v39 = .int (nI 4) from hv39)
                    refine lv_iconst (v := nI 2) hx hb dMH_small_135 (by decide) ?_
                    refine mi_ne (tgt := 148) hx hb dMH_small_136 (by decide) (by omega) (by omega) (fun h73 => ?_) (fun h73 => absurd h73 (by omega))
                    refine lv_iconst (v := nI 4) hx hb dMH_small_148 (by decide) ?_
                    refine lv_iload hx hb dMH_small_149 (lv_at hl 0 rfl) ?_
                    refine lv_isub hx hb dMH_small_151 ?_
                    refine mi_any (fun z33 => ?_)
                    refine lv_istore (lv' := [(8, .int z33), (7, .int (nI 1)), (5, .int (nI (i21 + 1))), (6, .int (nI z31)), (0, .ref h0), (1, .ref f)]) hx hb dMH_small_152 hl (by decide) rfl (fun ls hl => ?_)
                    refine lv_aload_n hx hb dMH_small_154 rfl (lv_at hl 5 rfl) ?_
                    refine lv_iload hx hb dMH_small_155 (lv_at hl 2 rfl) ?_
                    refine lv_iload hx hb dMH_small_157 (lv_at hl 0 rfl) ?_
                    refine lv_if_ge (tgt := 170) hx hb dMH_small_159 (by decide) (fun h74 => ?_) (fun h74 => ?_)
                    · refine lv_iload hx hb dMH_small_170 (lv_at hl 0 rfl) ?_
                      refine ty_iast hx hb hK hO k_f (nxg (clo_cons (clo_cons (clo_cons (clo_cons (clo_cons (clo_cons hc0 kr21 (by decide)) km21 (by decide)) km22 (by decide)) km23 (by decide)) km24 (by decide)) km25 (by decide)) k_f rfl) hP hD hS (vp_in_nI (by omega) (by decide)) dMH_small_172 (fun pl H locs hO hP hD hS => ?_)
                      refine mi_iinc (k := 2) (x := i21 + 1) (d := 1) (y := i21 + 1 + 1) (lv' := [(5, .int (nI (i21 + 1 + 1))), (8, .int z33), (7, .int (nI 1)), (6, .int (nI z31)), (0, .ref h0), (1, .ref f)]) hx hb dMH_small_173 hl rfl (by decide) rfl (by decide) rfl (fun ls hl => ?_)
                      refine mi_iinc (k := 2) (x := 1) (d := 1) (y := 2) (lv' := [(7, .int (nI 2)), (5, .int (nI (i21 + 1 + 1))), (8, .int z33), (6, .int (nI z31)), (0, .ref h0), (1, .ref f)]) hx hb dMH_small_176 hl rfl (by decide) rfl (by decide) rfl (fun ls hl => ?_)
                      refine lv_goto (tgt := 69) hx hb dMH_small_179 (by decide) ?_
                      refine lv_iload hx hb dMH_small_69 (lv_at hl 0 rfl) ?_
                      refine lv_iconst (v := nI 2) hx hb dMH_small_71 (by decide) ?_
                      refine mi_ge (tgt := 182) hx hb dMH_small_72 (by decide) (by omega) (by omega) (fun h75 => ?_) (fun h75 => absurd h75 (by omega))
                      refine lv_goto (tgt := 49) hx hb dMH_small_182 (by decide) ?_
                      exact ihq21 d21 c21 (t21 + 1) (i21 + 1 + 1) ps24 f36 f37 f38 pl ls H locs (by omega) (by omega) (by omega) hs (lv_sub hl [1, 4, 5] rfl) hO hP hD hS
                    · refine lv_iload hx hb dMH_small_162 (lv_at hl 0 rfl) ?_
                      refine lv_ldc (v := 8380417) hx hb hown (hts _ (wg_t kw_1429)) dMH_small_164 ?_
                      refine mi_as (show (8380417 : Int32) = nI 8380417 by decide) ?_
                      refine lv_iadd hx hb dMH_small_166 ?_
                      refine mi_any (fun z34 => ?_)
                      refine lv_goto (tgt := 172) hx hb dMH_small_167 (by decide) ?_
                      refine ty_iast hx hb hK hO k_f (nxg (clo_cons (clo_cons (clo_cons (clo_cons (clo_cons (clo_cons hc0 kr21 (by decide)) km21 (by decide)) km22 (by decide)) km23 (by decide)) km24 (by decide)) km25 (by decide)) k_f rfl) hP hD hS (vp_in_nI (by omega) (by decide)) dMH_small_172 (fun pl H locs hO hP hD hS => ?_)
                      refine mi_iinc (k := 2) (x := i21 + 1) (d := 1) (y := i21 + 1 + 1) (lv' := [(5, .int (nI (i21 + 1 + 1))), (8, .int z33), (7, .int (nI 1)), (6, .int (nI z31)), (0, .ref h0), (1, .ref f)]) hx hb dMH_small_173 hl rfl (by decide) rfl (by decide) rfl (fun ls hl => ?_)
                      refine mi_iinc (k := 2) (x := 1) (d := 1) (y := 2) (lv' := [(7, .int (nI 2)), (5, .int (nI (i21 + 1 + 1))), (8, .int z33), (6, .int (nI z31)), (0, .ref h0), (1, .ref f)]) hx hb dMH_small_176 hl rfl (by decide) rfl (by decide) rfl (fun ls hl => ?_)
                      refine lv_goto (tgt := 69) hx hb dMH_small_179 (by decide) ?_
                      refine lv_iload hx hb dMH_small_69 (lv_at hl 0 rfl) ?_
                      refine lv_iconst (v := nI 2) hx hb dMH_small_71 (by decide) ?_
                      refine mi_ge (tgt := 182) hx hb dMH_small_72 (by decide) (by omega) (by omega) (fun h76 => ?_) (fun h76 => absurd h76 (by omega))
                      refine lv_goto (tgt := 49) hx hb dMH_small_182 (by decide) ?_
                      exact ihq21 d21 c21 (t21 + 1) (i21 + 1 + 1) ps24 f36 f37 f38 pl ls H locs (by omega) (by omega) (by omega) hs (lv_sub hl [1, 4, 5] rfl) hO hP hD hS
                  · refine lv_goto (tgt := 176) hx hb dMH_small_128 (by decide) ?_
                    refine mi_iinc (k := 1) (x := 1) (d := 1) (y := 2) (lv' := [(7, .int (nI 2)), (8, .int (nI (z31 / 16))), (5, .int (nI (i21 + 1))), (6, .int (nI z31)), (0, .ref h0), (1, .ref f)]) hx hb dMH_small_176 hl rfl (by decide) rfl (by decide) rfl (fun ls hl => ?_)
                    refine lv_goto (tgt := 69) hx hb dMH_small_179 (by decide) ?_
                    refine lv_iload hx hb dMH_small_69 (lv_at hl 0 rfl) ?_
                    refine lv_iconst (v := nI 2) hx hb dMH_small_71 (by decide) ?_
                    refine mi_ge (tgt := 182) hx hb dMH_small_72 (by decide) (by omega) (by omega) (fun h77 => ?_) (fun h77 => absurd h77 (by omega))
                    refine lv_goto (tgt := 49) hx hb dMH_small_182 (by decide) ?_
                    exact ihq21 d21 c21 (t21 + 1) (i21 + 1) ps24 f36 f37 f38 pl ls H locs (by omega) (by omega) (by omega) hs (lv_sub hl [2, 4, 5] rfl) hO hP hD hS
              · refine lv_iload hx hb dMH_small_162 (lv_at hl 0 rfl) ?_
                refine lv_ldc (v := 8380417) hx hb hown (hts _ (wg_t kw_1429)) dMH_small_164 ?_
                refine mi_as (show (8380417 : Int32) = nI 8380417 by decide) ?_
                refine lv_iadd hx hb dMH_small_166 ?_
                refine mi_any (fun z35 => ?_)
                refine lv_goto (tgt := 172) hx hb dMH_small_167 (by decide) ?_
                refine ty_iast hx hb hK hO k_f (nxg (clo_cons (clo_cons (clo_cons (clo_cons (clo_cons (clo_cons hc0 kr21 (by decide)) km21 (by decide)) km22 (by decide)) km23 (by decide)) km24 (by decide)) km25 (by decide)) k_f rfl) hP hD hS (vp_in_nI (by omega) (by decide)) dMH_small_172 (fun pl H locs hO hP hD hS => ?_)
                refine mi_iinc (k := 3) (x := i21) (d := 1) (y := i21 + 1) (lv' := [(5, .int (nI (i21 + 1))), (8, .int z32), (7, .int (nI 0)), (6, .int (nI z31)), (0, .ref h0), (1, .ref f)]) hx hb dMH_small_173 hl rfl (by decide) rfl (by decide) rfl (fun ls hl => ?_)
                refine mi_iinc (k := 2) (x := 0) (d := 1) (y := 1) (lv' := [(7, .int (nI 1)), (5, .int (nI (i21 + 1))), (8, .int z32), (6, .int (nI z31)), (0, .ref h0), (1, .ref f)]) hx hb dMH_small_176 hl rfl (by decide) rfl (by decide) rfl (fun ls hl => ?_)
                refine lv_goto (tgt := 69) hx hb dMH_small_179 (by decide) ?_
                refine lv_iload hx hb dMH_small_69 (lv_at hl 0 rfl) ?_
                refine lv_iconst (v := nI 2) hx hb dMH_small_71 (by decide) ?_
                refine mi_ge (tgt := 182) hx hb dMH_small_72 (by decide) (by omega) (by omega) (fun h78 => absurd h78 (by omega)) (fun h78 => ?_)
                refine lv_iload hx hb dMH_small_75 (lv_at hl 1 rfl) ?_
                refine lv_sipush (v := nI 256) hx hb dMH_small_77 (by decide) ?_
                refine mi_ge (tgt := 182) hx hb dMH_small_80 (by decide) (by omega) (by omega) (fun h79 => ?_) (fun h79 => ?_)
                · refine lv_goto (tgt := 49) hx hb dMH_small_182 (by decide) ?_
                  exact ihq21 d21 c21 (t21 + 1) (i21 + 1) ps24 f36 f37 f38 pl ls H locs (by omega) (by omega) (by omega) hs (lv_sub hl [1, 4, 5] rfl) hO hP hD hS
                · refine lv_iload hx hb dMH_small_83 (lv_at hl 0 rfl) ?_
                  refine lv_if_ne (tgt := 96) hx hb dMH_small_85 (by decide) (fun h80 => ?_) (fun h80 => absurd h80 (by decide))
                  refine lv_iload hx hb dMH_small_96 (lv_at hl 3 rfl) ?_
                  refine lv_bipush (v := nI 16) hx hb dMH_small_98 (by decide) ?_
                  refine mi_idiv hx hb dMH_small_100 (by omega) (by omega) (by omega) ?_
                  refine lv_istore (lv' := [(8, .int (nI (z31 / 16))), (7, .int (nI 1)), (5, .int (nI (i21 + 1))), (6, .int (nI z31)), (0, .ref h0), (1, .ref f)]) hx hb dMH_small_101 hl (by decide) rfl (fun ls hl => ?_)
                  refine lv_aload_n hx hb dMH_small_103 rfl (lv_at hl 4 rfl) ?_
                  refine ty_get (ci := 12) (C := "LatticeKeysModel$Hands") (TT := T_MH) (N := 31) (kd := (47, 0)) hx hb hts (wg_ft i_MH) hown hK hO k_h0 (nxg (clo_cons (clo_cons (clo_cons (clo_cons (clo_cons (clo_cons hc0 kr21 (by decide)) km21 (by decide)) km22 (by decide)) km23 (by decide)) km24 (by decide)) km25 (by decide)) k_h0 rfl) hP (fun _ h9 => h9) rfl 26 (by decide) (hts _ (wg_t kw_1458)) (fun _ h9 => h9) (cd := (1, 0, 4)) rfl dMH_small_104 (fun v40 hv40 => ?_)
                  obtain rfl := (show v40 = .int (nI 4) from hv40)
                  refine lv_iconst (v := nI 2) hx hb dMH_small_107 (by decide) ?_
                  refine mi_ne (tgt := 121) hx hb dMH_small_108 (by decide) (by omega) (by omega) (fun h81 => ?_) (fun h81 => absurd h81 (by omega))
                  refine lv_iload hx hb dMH_small_121 (lv_at hl 0 rfl) ?_
                  refine lv_bipush (v := nI 8) hx hb dMH_small_123 (by decide) ?_
                  refine mi_le (tgt := 131) hx hb dMH_small_125 (by decide) (by omega) (by omega) (fun h82 => ?_) (fun h82 => ?_)
                  · refine lv_aload_n hx hb dMH_small_131 rfl (lv_at hl 4 rfl) ?_
                    refine ty_get (ci := 12) (C := "LatticeKeysModel$Hands") (TT := T_MH) (N := 31) (kd := (47, 0)) hx hb hts (wg_ft i_MH) hown hK hO k_h0 (nxg (clo_cons (clo_cons (clo_cons (clo_cons (clo_cons (clo_cons hc0 kr21 (by decide)) km21 (by decide)) km22 (by decide)) km23 (by decide)) km24 (by decide)) km25 (by decide)) k_h0 rfl) hP (fun _ h9 => h9) rfl 26 (by decide) (hts _ (wg_t kw_1458)) (fun _ h9 => h9) (cd := (1, 0, 4)) rfl dMH_small_132 (fun v41 hv41 => ?_)
                    obtain rfl := (show v41 = .int (nI 4) from hv41)
                    refine lv_iconst (v := nI 2) hx hb dMH_small_135 (by decide) ?_
                    refine mi_ne (tgt := 148) hx hb dMH_small_136 (by decide) (by omega) (by omega) (fun h83 => ?_) (fun h83 => absurd h83 (by omega))
                    refine lv_iconst (v := nI 4) hx hb dMH_small_148 (by decide) ?_
                    refine lv_iload hx hb dMH_small_149 (lv_at hl 0 rfl) ?_
                    refine lv_isub hx hb dMH_small_151 ?_
                    refine mi_any (fun z36 => ?_)
                    refine lv_istore (lv' := [(8, .int z36), (7, .int (nI 1)), (5, .int (nI (i21 + 1))), (6, .int (nI z31)), (0, .ref h0), (1, .ref f)]) hx hb dMH_small_152 hl (by decide) rfl (fun ls hl => ?_)
                    refine lv_aload_n hx hb dMH_small_154 rfl (lv_at hl 5 rfl) ?_
                    refine lv_iload hx hb dMH_small_155 (lv_at hl 2 rfl) ?_
                    refine lv_iload hx hb dMH_small_157 (lv_at hl 0 rfl) ?_
                    refine lv_if_ge (tgt := 170) hx hb dMH_small_159 (by decide) (fun h84 => ?_) (fun h84 => ?_)
                    · refine lv_iload hx hb dMH_small_170 (lv_at hl 0 rfl) ?_
                      refine ty_iast hx hb hK hO k_f (nxg (clo_cons (clo_cons (clo_cons (clo_cons (clo_cons (clo_cons hc0 kr21 (by decide)) km21 (by decide)) km22 (by decide)) km23 (by decide)) km24 (by decide)) km25 (by decide)) k_f rfl) hP hD hS (vp_in_nI (by omega) (by decide)) dMH_small_172 (fun pl H locs hO hP hD hS => ?_)
                      refine mi_iinc (k := 2) (x := i21 + 1) (d := 1) (y := i21 + 1 + 1) (lv' := [(5, .int (nI (i21 + 1 + 1))), (8, .int z36), (7, .int (nI 1)), (6, .int (nI z31)), (0, .ref h0), (1, .ref f)]) hx hb dMH_small_173 hl rfl (by decide) rfl (by decide) rfl (fun ls hl => ?_)
                      refine mi_iinc (k := 2) (x := 1) (d := 1) (y := 2) (lv' := [(7, .int (nI 2)), (5, .int (nI (i21 + 1 + 1))), (8, .int z36), (6, .int (nI z31)), (0, .ref h0), (1, .ref f)]) hx hb dMH_small_176 hl rfl (by decide) rfl (by decide) rfl (fun ls hl => ?_)
                      refine lv_goto (tgt := 69) hx hb dMH_small_179 (by decide) ?_
                      refine lv_iload hx hb dMH_small_69 (lv_at hl 0 rfl) ?_
                      refine lv_iconst (v := nI 2) hx hb dMH_small_71 (by decide) ?_
                      refine mi_ge (tgt := 182) hx hb dMH_small_72 (by decide) (by omega) (by omega) (fun h85 => ?_) (fun h85 => absurd h85 (by omega))
                      refine lv_goto (tgt := 49) hx hb dMH_small_182 (by decide) ?_
                      exact ihq21 d21 c21 (t21 + 1) (i21 + 1 + 1) ps24 f36 f37 f38 pl ls H locs (by omega) (by omega) (by omega) hs (lv_sub hl [1, 4, 5] rfl) hO hP hD hS
                    · refine lv_iload hx hb dMH_small_162 (lv_at hl 0 rfl) ?_
                      refine lv_ldc (v := 8380417) hx hb hown (hts _ (wg_t kw_1429)) dMH_small_164 ?_
                      refine mi_as (show (8380417 : Int32) = nI 8380417 by decide) ?_
                      refine lv_iadd hx hb dMH_small_166 ?_
                      refine mi_any (fun z37 => ?_)
                      refine lv_goto (tgt := 172) hx hb dMH_small_167 (by decide) ?_
                      refine ty_iast hx hb hK hO k_f (nxg (clo_cons (clo_cons (clo_cons (clo_cons (clo_cons (clo_cons hc0 kr21 (by decide)) km21 (by decide)) km22 (by decide)) km23 (by decide)) km24 (by decide)) km25 (by decide)) k_f rfl) hP hD hS (vp_in_nI (by omega) (by decide)) dMH_small_172 (fun pl H locs hO hP hD hS => ?_)
                      refine mi_iinc (k := 2) (x := i21 + 1) (d := 1) (y := i21 + 1 + 1) (lv' := [(5, .int (nI (i21 + 1 + 1))), (8, .int z36), (7, .int (nI 1)), (6, .int (nI z31)), (0, .ref h0), (1, .ref f)]) hx hb dMH_small_173 hl rfl (by decide) rfl (by decide) rfl (fun ls hl => ?_)
                      refine mi_iinc (k := 2) (x := 1) (d := 1) (y := 2) (lv' := [(7, .int (nI 2)), (5, .int (nI (i21 + 1 + 1))), (8, .int z36), (6, .int (nI z31)), (0, .ref h0), (1, .ref f)]) hx hb dMH_small_176 hl rfl (by decide) rfl (by decide) rfl (fun ls hl => ?_)
                      refine lv_goto (tgt := 69) hx hb dMH_small_179 (by decide) ?_
                      refine lv_iload hx hb dMH_small_69 (lv_at hl 0 rfl) ?_
                      refine lv_iconst (v := nI 2) hx hb dMH_small_71 (by decide) ?_
                      refine mi_ge (tgt := 182) hx hb dMH_small_72 (by decide) (by omega) (by omega) (fun h86 => ?_) (fun h86 => absurd h86 (by omega))
                      refine lv_goto (tgt := 49) hx hb dMH_small_182 (by decide) ?_
                      exact ihq21 d21 c21 (t21 + 1) (i21 + 1 + 1) ps24 f36 f37 f38 pl ls H locs (by omega) (by omega) (by omega) hs (lv_sub hl [1, 4, 5] rfl) hO hP hD hS
                  · refine lv_goto (tgt := 176) hx hb dMH_small_128 (by decide) ?_
                    refine mi_iinc (k := 1) (x := 1) (d := 1) (y := 2) (lv' := [(7, .int (nI 2)), (8, .int (nI (z31 / 16))), (5, .int (nI (i21 + 1))), (6, .int (nI z31)), (0, .ref h0), (1, .ref f)]) hx hb dMH_small_176 hl rfl (by decide) rfl (by decide) rfl (fun ls hl => ?_)
                    refine lv_goto (tgt := 69) hx hb dMH_small_179 (by decide) ?_
                    refine lv_iload hx hb dMH_small_69 (lv_at hl 0 rfl) ?_
                    refine lv_iconst (v := nI 2) hx hb dMH_small_71 (by decide) ?_
                    refine mi_ge (tgt := 182) hx hb dMH_small_72 (by decide) (by omega) (by omega) (fun h87 => ?_) (fun h87 => absurd h87 (by omega))
                    refine lv_goto (tgt := 49) hx hb dMH_small_182 (by decide) ?_
                    exact ihq21 d21 c21 (t21 + 1) (i21 + 1) ps24 f36 f37 f38 pl ls H locs (by omega) (by omega) (by omega) hs (lv_sub hl [2, 4, 5] rfl) hO hP hD hS
            · refine lv_goto (tgt := 176) hx hb dMH_small_128 (by decide) ?_
              refine mi_iinc (k := 1) (x := 0) (d := 1) (y := 1) (lv' := [(7, .int (nI 1)), (8, .int (nI (z31 % 16))), (6, .int (nI z31)), (5, .int (nI i21)), (0, .ref h0), (1, .ref f)]) hx hb dMH_small_176 hl rfl (by decide) rfl (by decide) rfl (fun ls hl => ?_)
              refine lv_goto (tgt := 69) hx hb dMH_small_179 (by decide) ?_
              refine lv_iload hx hb dMH_small_69 (lv_at hl 0 rfl) ?_
              refine lv_iconst (v := nI 2) hx hb dMH_small_71 (by decide) ?_
              refine mi_ge (tgt := 182) hx hb dMH_small_72 (by decide) (by omega) (by omega) (fun h88 => absurd h88 (by omega)) (fun h88 => ?_)
              refine lv_iload hx hb dMH_small_75 (lv_at hl 3 rfl) ?_
              refine lv_sipush (v := nI 256) hx hb dMH_small_77 (by decide) ?_
              refine mi_ge (tgt := 182) hx hb dMH_small_80 (by decide) (by omega) (by omega) (fun h89 => ?_) (fun h89 => ?_)
              · refine lv_goto (tgt := 49) hx hb dMH_small_182 (by decide) ?_
                exact ihd21 c21 (t21 + 1) i21 ps24 f36 f37 f38 pl ls H locs (by omega) (by omega) (by omega) hs (lv_sub hl [3, 4, 5] rfl) hO hP hD hS
              · refine lv_iload hx hb dMH_small_83 (lv_at hl 0 rfl) ?_
                refine lv_if_ne (tgt := 96) hx hb dMH_small_85 (by decide) (fun h90 => ?_) (fun h90 => absurd h90 (by decide))
                refine lv_iload hx hb dMH_small_96 (lv_at hl 2 rfl) ?_
                refine lv_bipush (v := nI 16) hx hb dMH_small_98 (by decide) ?_
                refine mi_idiv hx hb dMH_small_100 (by omega) (by omega) (by omega) ?_
                refine lv_istore (lv' := [(8, .int (nI (z31 / 16))), (7, .int (nI 1)), (6, .int (nI z31)), (5, .int (nI i21)), (0, .ref h0), (1, .ref f)]) hx hb dMH_small_101 hl (by decide) rfl (fun ls hl => ?_)
                refine lv_aload_n hx hb dMH_small_103 rfl (lv_at hl 4 rfl) ?_
                refine ty_get (ci := 12) (C := "LatticeKeysModel$Hands") (TT := T_MH) (N := 31) (kd := (47, 0)) hx hb hts (wg_ft i_MH) hown hK hO k_h0 (nxg (clo_cons (clo_cons (clo_cons (clo_cons (clo_cons (clo_cons hc0 kr21 (by decide)) km21 (by decide)) km22 (by decide)) km23 (by decide)) km24 (by decide)) km25 (by decide)) k_h0 rfl) hP (fun _ h9 => h9) rfl 26 (by decide) (hts _ (wg_t kw_1458)) (fun _ h9 => h9) (cd := (1, 0, 4)) rfl dMH_small_104 (fun v42 hv42 => ?_)
                obtain rfl := (show v42 = .int (nI 4) from hv42)
                refine lv_iconst (v := nI 2) hx hb dMH_small_107 (by decide) ?_
                refine mi_ne (tgt := 121) hx hb dMH_small_108 (by decide) (by omega) (by omega) (fun h91 => ?_) (fun h91 => absurd h91 (by omega))
                refine lv_iload hx hb dMH_small_121 (lv_at hl 0 rfl) ?_
                refine lv_bipush (v := nI 8) hx hb dMH_small_123 (by decide) ?_
                refine mi_le (tgt := 131) hx hb dMH_small_125 (by decide) (by omega) (by omega) (fun h92 => ?_) (fun h92 => ?_)
                · refine lv_aload_n hx hb dMH_small_131 rfl (lv_at hl 4 rfl) ?_
                  refine ty_get (ci := 12) (C := "LatticeKeysModel$Hands") (TT := T_MH) (N := 31) (kd := (47, 0)) hx hb hts (wg_ft i_MH) hown hK hO k_h0 (nxg (clo_cons (clo_cons (clo_cons (clo_cons (clo_cons (clo_cons hc0 kr21 (by decide)) km21 (by decide)) km22 (by decide)) km23 (by decide)) km24 (by decide)) km25 (by decide)) k_h0 rfl) hP (fun _ h9 => h9) rfl 26 (by decide) (hts _ (wg_t kw_1458)) (fun _ h9 => h9) (cd := (1, 0, 4)) rfl dMH_small_132 (fun v43 hv43 => ?_)
                  obtain rfl := (show v43 = .int (nI 4) from hv43)
                  refine lv_iconst (v := nI 2) hx hb dMH_small_135 (by decide) ?_
                  refine mi_ne (tgt := 148) hx hb dMH_small_136 (by decide) (by omega) (by omega) (fun h93 => ?_) (fun h93 => absurd h93 (by omega))
                  refine lv_iconst (v := nI 4) hx hb dMH_small_148 (by decide) ?_
                  refine lv_iload hx hb dMH_small_149 (lv_at hl 0 rfl) ?_
                  refine lv_isub hx hb dMH_small_151 ?_
                  refine mi_any (fun z38 => ?_)
                  refine lv_istore (lv' := [(8, .int z38), (7, .int (nI 1)), (6, .int (nI z31)), (5, .int (nI i21)), (0, .ref h0), (1, .ref f)]) hx hb dMH_small_152 hl (by decide) rfl (fun ls hl => ?_)
                  refine lv_aload_n hx hb dMH_small_154 rfl (lv_at hl 5 rfl) ?_
                  refine lv_iload hx hb dMH_small_155 (lv_at hl 3 rfl) ?_
                  refine lv_iload hx hb dMH_small_157 (lv_at hl 0 rfl) ?_
                  refine lv_if_ge (tgt := 170) hx hb dMH_small_159 (by decide) (fun h94 => ?_) (fun h94 => ?_)
                  · refine lv_iload hx hb dMH_small_170 (lv_at hl 0 rfl) ?_
                    refine ty_iast hx hb hK hO k_f (nxg (clo_cons (clo_cons (clo_cons (clo_cons (clo_cons (clo_cons hc0 kr21 (by decide)) km21 (by decide)) km22 (by decide)) km23 (by decide)) km24 (by decide)) km25 (by decide)) k_f rfl) hP hD hS (vp_in_nI (by omega) (by decide)) dMH_small_172 (fun pl H locs hO hP hD hS => ?_)
                    refine mi_iinc (k := 3) (x := i21) (d := 1) (y := i21 + 1) (lv' := [(5, .int (nI (i21 + 1))), (8, .int z38), (7, .int (nI 1)), (6, .int (nI z31)), (0, .ref h0), (1, .ref f)]) hx hb dMH_small_173 hl rfl (by decide) rfl (by decide) rfl (fun ls hl => ?_)
                    refine mi_iinc (k := 2) (x := 1) (d := 1) (y := 2) (lv' := [(7, .int (nI 2)), (5, .int (nI (i21 + 1))), (8, .int z38), (6, .int (nI z31)), (0, .ref h0), (1, .ref f)]) hx hb dMH_small_176 hl rfl (by decide) rfl (by decide) rfl (fun ls hl => ?_)
                    refine lv_goto (tgt := 69) hx hb dMH_small_179 (by decide) ?_
                    refine lv_iload hx hb dMH_small_69 (lv_at hl 0 rfl) ?_
                    refine lv_iconst (v := nI 2) hx hb dMH_small_71 (by decide) ?_
                    refine mi_ge (tgt := 182) hx hb dMH_small_72 (by decide) (by omega) (by omega) (fun h95 => ?_) (fun h95 => absurd h95 (by omega))
                    refine lv_goto (tgt := 49) hx hb dMH_small_182 (by decide) ?_
                    exact ihq21 d21 c21 (t21 + 1) (i21 + 1) ps24 f36 f37 f38 pl ls H locs (by omega) (by omega) (by omega) hs (lv_sub hl [1, 4, 5] rfl) hO hP hD hS
                  · refine lv_iload hx hb dMH_small_162 (lv_at hl 0 rfl) ?_
                    refine lv_ldc (v := 8380417) hx hb hown (hts _ (wg_t kw_1429)) dMH_small_164 ?_
                    refine mi_as (show (8380417 : Int32) = nI 8380417 by decide) ?_
                    refine lv_iadd hx hb dMH_small_166 ?_
                    refine mi_any (fun z39 => ?_)
                    refine lv_goto (tgt := 172) hx hb dMH_small_167 (by decide) ?_
                    refine ty_iast hx hb hK hO k_f (nxg (clo_cons (clo_cons (clo_cons (clo_cons (clo_cons (clo_cons hc0 kr21 (by decide)) km21 (by decide)) km22 (by decide)) km23 (by decide)) km24 (by decide)) km25 (by decide)) k_f rfl) hP hD hS (vp_in_nI (by omega) (by decide)) dMH_small_172 (fun pl H locs hO hP hD hS => ?_)
                    refine mi_iinc (k := 3) (x := i21) (d := 1) (y := i21 + 1) (lv' := [(5, .int (nI (i21 + 1))), (8, .int z38), (7, .int (nI 1)), (6, .int (nI z31)), (0, .ref h0), (1, .ref f)]) hx hb dMH_small_173 hl rfl (by decide) rfl (by decide) rfl (fun ls hl => ?_)
                    refine mi_iinc (k := 2) (x := 1) (d := 1) (y := 2) (lv' := [(7, .int (nI 2)), (5, .int (nI (i21 + 1))), (8, .int z38), (6, .int (nI z31)), (0, .ref h0), (1, .ref f)]) hx hb dMH_small_176 hl rfl (by decide) rfl (by decide) rfl (fun ls hl => ?_)
                    refine lv_goto (tgt := 69) hx hb dMH_small_179 (by decide) ?_
                    refine lv_iload hx hb dMH_small_69 (lv_at hl 0 rfl) ?_
                    refine lv_iconst (v := nI 2) hx hb dMH_small_71 (by decide) ?_
                    refine mi_ge (tgt := 182) hx hb dMH_small_72 (by decide) (by omega) (by omega) (fun h96 => ?_) (fun h96 => absurd h96 (by omega))
                    refine lv_goto (tgt := 49) hx hb dMH_small_182 (by decide) ?_
                    exact ihq21 d21 c21 (t21 + 1) (i21 + 1) ps24 f36 f37 f38 pl ls H locs (by omega) (by omega) (by omega) hs (lv_sub hl [1, 4, 5] rfl) hO hP hD hS
                · refine lv_goto (tgt := 176) hx hb dMH_small_128 (by decide) ?_
                  refine mi_iinc (k := 1) (x := 1) (d := 1) (y := 2) (lv' := [(7, .int (nI 2)), (8, .int (nI (z31 / 16))), (6, .int (nI z31)), (5, .int (nI i21)), (0, .ref h0), (1, .ref f)]) hx hb dMH_small_176 hl rfl (by decide) rfl (by decide) rfl (fun ls hl => ?_)
                  refine lv_goto (tgt := 69) hx hb dMH_small_179 (by decide) ?_
                  refine lv_iload hx hb dMH_small_69 (lv_at hl 0 rfl) ?_
                  refine lv_iconst (v := nI 2) hx hb dMH_small_71 (by decide) ?_
                  refine mi_ge (tgt := 182) hx hb dMH_small_72 (by decide) (by omega) (by omega) (fun h97 => ?_) (fun h97 => absurd h97 (by omega))
                  refine lv_goto (tgt := 49) hx hb dMH_small_182 (by decide) ?_
                  exact ihd21 c21 (t21 + 1) i21 ps24 f36 f37 f38 pl ls H locs (by omega) (by omega) (by omega) hs (lv_sub hl [3, 4, 5] rfl) hO hP hD hS
  have htg := tgt_le (m := mB) (t := 136) (rt := 136) (p := 72) hm0 (by decide)
  exact lp21 256 ((136 + 1) * mB * 136 + 72 - (136)) (136 + 1) (136) 0 0 f26 f27 f28 pl ls _ _ (by omega) (by omega) (by omega) hs (lv_sub hl [0, 1, 2] rfl) hO hP hD hS
set_option maxHeartbeats 400000 in
set_option maxRecDepth 100000 in
theorem t_MH_small_2 (l : Launch) (g : Gd) (sz : Nat) (T : Ty) (xs : List Nat) (pl : va_W) (hO : okx g T xs pl) (hU : uni T) (hc0 : clo T xs 0) (hc9 : clo T xs 9) (h0 f b n at_ : Nat) (wh : Int32) (k_h0 : T h0 = some (48, 0)) (k_f : T f = some (0, 256)) (k_b : T b = some (1, n)) (h1 : at_ + 64 ≤ n) (h2 : n < 65536)  : Met l y_MH_small w_MH_small ({ frames := 3, cells := 0, slots := 0, locals := 67 } : Room) (va_Pc [.ref h0, .ref f, .ref b, .int (nI at_), .int wh] (pr (en g) g.1 vcl sz ([] ++ pl))) (va_Qv (fun (u : va_W) => (True) ∧ okx g T xs u) (po g.1 vcl (va_A ([] ++ pl) sz) (fun (u : va_W) => [] ++ u)) (va_A ([] ++ pl) sz)) 0 0 (va_A ([] ++ pl) sz) := by
  refine mc_entry (cc := c_MH_small) (maxL := 9) (ret := none) (by decide) rfl (Nat.le_of_ble_eq_true rfl) ?_
  intro p e s m args below meth c ls F hr hlk hnm hsz hP hD hE hA hl
  obtain ⟨hx, hb, hml, hown, hts⟩ := id F
  have hK := hE.1
  generalize va_A ([] ++ pl) sz = A at hD hE hA ⊢
  have hS : va_S A s.heap s.heap [] := va_S.rf
  have hl : lv_has ls 9 [(0, .ref h0), (1, .ref f), (2, .ref b), (3, .int (nI at_)), (4, .int wh)] := hl
  refine lv_aload_n hx hb dMH_small_0 rfl (lv_at hl 0 rfl) ?_
  refine ty_get (ci := 12) (C := "LatticeKeysModel$Hands") (TT := T_MH) (N := 31) (kd := (48, 0)) hx hb hts (wg_ft i_MH) hown hK hO k_h0 (nxg hc0 k_h0 rfl) hP (fun _ h9 => h9) rfl 0 (by decide) (hts _ (wg_t kw_1432)) (fun _ h9 => h9) (cd := (3, 20, 0)) rfl dMH_small_1 (fun v21 hv21 => ?_)
  obtain ⟨r21, rfl, kr21⟩ := (show ∃ r : Nat, v21 = .ref r ∧ T r = some (20, 0) from hv21)
  obtain ⟨e21, pl, hP, hD, hk21, hO⟩ := open1 hP hD hO kr21 (nxg hc9 kr21 rfl)
  obtain ⟨am21, am22, am23, am24, am25, rt21, ps21, x21, rfl, km21, km22, km23, km24, km25, hr21, hr22, hr23⟩ := hk21
  obtain ⟨e22, pl, hP, hD, hk22, hO⟩ := open1 hP hD hO km21 (nmc (knd_ne km21 kr21 (by decide)) (nxg hc9 km21 rfl))
  obtain ⟨f21, rfl⟩ := hk22
  obtain ⟨e23, pl, hP, hD, hk23, hO⟩ := open1 hP hD hO km22 (nmc (knd_ne km22 km21 (by decide)) (nmc (knd_ne km22 kr21 (by decide)) (nxg hc9 km22 rfl)))
  obtain ⟨f22, rfl⟩ := hk23
  obtain ⟨e24, pl, hP, hD, hk24, hO⟩ := open1 hP hD hO km23 (nmc (knd_ne km23 km22 (by decide)) (nmc (knd_ne km23 km21 (by decide)) (nmc (knd_ne km23 kr21 (by decide)) (nxg hc9 km23 rfl))))
  obtain ⟨f23, rfl⟩ := hk24
  obtain ⟨e25, pl, hP, hD, hk25, hO⟩ := open1 hP hD hO km24 (nmc (knd_ne km24 km23 (by decide)) (nmc (knd_ne km24 km22 (by decide)) (nmc (knd_ne km24 km21 (by decide)) (nmc (knd_ne km24 kr21 (by decide)) (nxg hc9 km24 rfl)))))
  obtain ⟨f24, rfl⟩ := hk25
  obtain ⟨e26, pl, hP, hD, hk26, hO⟩ := open1 hP hD hO km25 (nmc (knd_ne km25 km24 (by decide)) (nmc (knd_ne km25 km23 (by decide)) (nmc (knd_ne km25 km22 (by decide)) (nmc (knd_ne km25 km21 (by decide)) (nmc (knd_ne km25 kr21 (by decide)) (nxg hc9 km25 rfl))))))
  obtain ⟨f25, rfl⟩ := hk26
  have hP : va_P g.1 vcl ([(r21, .inr (9, [.ref am21, .ref am22, .ref am23, .ref am24, .ref am25, .int (nI rt21), .int (nI ps21), .int x21])), (am21, .inl (g.2.1 2, 25, .inr (.inl f21))), (am22, .inl (g.2.1 2, 25, .inr (.inl f22))), (am23, .inl (g.2.1 2, 5, .inr (.inl f23))), (am24, .inl (g.2.1 2, 24, .inr (.inl f24))), (am25, .inl (g.2.1 0, 25, .inl f25))] ++ pl) _ := hP
  have hD : va_D _ ([(r21, .inr (9, [.ref am21, .ref am22, .ref am23, .ref am24, .ref am25, .int (nI rt21), .int (nI ps21), .int x21])), (am21, .inl (g.2.1 2, 25, .inr (.inl f21))), (am22, .inl (g.2.1 2, 25, .inr (.inl f22))), (am23, .inl (g.2.1 2, 5, .inr (.inl f23))), (am24, .inl (g.2.1 2, 24, .inr (.inl f24))), (am25, .inl (g.2.1 0, 25, .inl f25))] ++ pl) := hD
  refine mp_v (cx := [(r21, .inr (9, [.ref am21, .ref am22, .ref am23, .ref am24, .ref am25, .int (nI rt21), .int (nI ps21), .int x21])), (am21, .inl (g.2.1 2, 25, .inr (.inl f21))), (am22, .inl (g.2.1 2, 25, .inr (.inl f22))), (am23, .inl (g.2.1 2, 5, .inr (.inl f23))), (am24, .inl (g.2.1 2, 24, .inr (.inl f24))), (am25, .inl (g.2.1 0, 25, .inl f25))]) (wr := []) hP hD hS hA [0, 1, 2, 3, 4, 5] [] rfl rfl rfl (by decide) (va_runV (As := []) (rest := []) F (x_MS_shake l g _ T (am25 :: (am24 :: (am23 :: (am22 :: (am21 :: (r21 :: xs)))))) pl hO hU  r21 am21 am22 am23 am24 am25 rt21 ps21 x21 f21 f22 f23 f24 f25) (cwV 0 hts (wg_app (wg_c kw_1718 (wg_c kw_1661 (wg_c kw_1662 (wg_c kw_10 wg_n)))) kw_1663) rfl rfl rfl (by decide +kernel) ⟨by decide, by decide⟩) (pp_V (en_ok g) (q0 := 0) hK hP hD hS hA hE [0, 1, 2, 3, 4, 5] rfl rfl rfl rfl) rfl rfl hl.1 rfl (lv_room (Nat.le_of_ble_eq_true rfl)) dMH_small_4 ⟨by omega, by omega⟩) (fun  u21 H locs hu21 hP hD hS => ?_)
  obtain ⟨u22, pl⟩ := u21
  obtain ⟨hq21, hO⟩ := hu21
  have hP : va_P g.1 vcl ([(r21, .inr (9, [.ref am21, .ref am22, .ref am23, .ref am24, .ref am25, .int (nI 136), .int (nI 0), .int (nI 31)])), (am21, .inl (g.2.1 2, 25, .inr (.inl u22))), (am22, .inl (g.2.1 2, 25, .inr (.inl f22))), (am23, .inl (g.2.1 2, 5, .inr (.inl f23))), (am24, .inl (g.2.1 2, 24, .inr (.inl f24))), (am25, .inl (g.2.1 0, 25, .inl f25))] ++ pl) _ := hP
  have hD : va_D _ ([(r21, .inr (9, [.ref am21, .ref am22, .ref am23, .ref am24, .ref am25, .int (nI 136), .int (nI 0), .int (nI 31)])), (am21, .inl (g.2.1 2, 25, .inr (.inl u22))), (am22, .inl (g.2.1 2, 25, .inr (.inl f22))), (am23, .inl (g.2.1 2, 5, .inr (.inl f23))), (am24, .inl (g.2.1 2, 24, .inr (.inl f24))), (am25, .inl (g.2.1 0, 25, .inl f25))] ++ pl) := hD
  have hq21 : ∀ j, j < 25 → u22 j = 0 := hq21
  refine W.widen (k := 0) (n := 0) (by omega) (by omega) ?_
  refine lv_aload_n hx hb dMH_small_7 rfl (lv_at hl 0 rfl) ?_
  refine ty_get (ci := 12) (C := "LatticeKeysModel$Hands") (TT := T_MH) (N := 31) (kd := (48, 0)) hx hb hts (wg_ft i_MH) hown hK hO k_h0 (nxg (clo_cons (clo_cons (clo_cons (clo_cons (clo_cons (clo_cons hc0 kr21 (by decide)) km21 (by decide)) km22 (by decide)) km23 (by decide)) km24 (by decide)) km25 (by decide)) k_h0 rfl) hP (fun _ h9 => h9) rfl 0 (by decide) (hts _ (wg_t kw_1432)) (fun _ h9 => h9) (cd := (3, 20, 0)) rfl dMH_small_8 (fun v22 hv22 => ?_)
  obtain ⟨r22, rfl, kr22⟩ := (show ∃ r : Nat, v22 = .ref r ∧ T r = some (20, 0) from hv22)
  obtain rfl : r21 = r22 := hU _ _ _ (by decide) kr21 kr22
  refine lv_aload_n hx hb dMH_small_11 rfl (lv_at hl 2 rfl) ?_
  refine lv_iload_n hx hb dMH_small_12 rfl (lv_at hl 3 rfl) ?_
  refine lv_bipush (v := nI 64) hx hb dMH_small_13 (by decide) ?_
  refine mp_v (cx := [(r21, .inr (9, [.ref am21, .ref am22, .ref am23, .ref am24, .ref am25, .int (nI 136), .int (nI 0), .int (nI 31)])), (am21, .inl (g.2.1 2, 25, .inr (.inl u22))), (am22, .inl (g.2.1 2, 25, .inr (.inl f22))), (am23, .inl (g.2.1 2, 5, .inr (.inl f23))), (am24, .inl (g.2.1 2, 24, .inr (.inl f24))), (am25, .inl (g.2.1 0, 25, .inl f25))]) (wr := []) hP hD hS hA [0, 1, 2, 3, 4, 5] [] rfl rfl rfl (by decide) (va_runV (As := [.ref b, .int (nI at_), .int (nI 64)]) (rest := []) F (x_MS_puts l g _ T (am25 :: (am24 :: (am23 :: (am22 :: (am21 :: (r21 :: xs)))))) pl hO hU (clo_cons (clo_cons (clo_cons (clo_cons (clo_cons (clo_cons hc0 kr21 (by decide)) km21 (by decide)) km22 (by decide)) km23 (by decide)) km24 (by decide)) km25 (by decide)) b n at_ 64 r21 am21 am22 am23 am24 am25 136 0 (nI 31) u22 f22 f23 f24 f25 k_b (by omega) (by omega) (by omega) (by omega)) (cwV 3 hts (wg_app (wg_c kw_1719 (wg_c kw_1612 (wg_c kw_1613 (wg_c kw_10 wg_n)))) kw_1614) rfl rfl rfl (by decide +kernel) ⟨by decide, by decide⟩) (pp_V (en_ok g) (q0 := 0) hK hP hD hS hA hE [0, 1, 2, 3, 4, 5] rfl rfl rfl rfl) rfl rfl hl.1 rfl (lv_room (Nat.le_of_ble_eq_true rfl)) dMH_small_15 ⟨by omega, by omega⟩) (fun  u23 H locs hu22 hP hD hS => ?_)
  obtain ⟨u24, pl⟩ := u23
  obtain ⟨hq22, hO⟩ := hu22
  have hP : va_P g.1 vcl ([(r21, .inr (9, [.ref am21, .ref am22, .ref am23, .ref am24, .ref am25, .int (nI 136), .int (nI 64), .int (nI 31)])), (am21, .inl (g.2.1 2, 25, .inr (.inl u24))), (am22, .inl (g.2.1 2, 25, .inr (.inl f22))), (am23, .inl (g.2.1 2, 5, .inr (.inl f23))), (am24, .inl (g.2.1 2, 24, .inr (.inl f24))), (am25, .inl (g.2.1 0, 25, .inl f25))] ++ pl) _ := hP
  have hD : va_D _ ([(r21, .inr (9, [.ref am21, .ref am22, .ref am23, .ref am24, .ref am25, .int (nI 136), .int (nI 64), .int (nI 31)])), (am21, .inl (g.2.1 2, 25, .inr (.inl u24))), (am22, .inl (g.2.1 2, 25, .inr (.inl f22))), (am23, .inl (g.2.1 2, 5, .inr (.inl f23))), (am24, .inl (g.2.1 2, 24, .inr (.inl f24))), (am25, .inl (g.2.1 0, 25, .inl f25))] ++ pl) := hD
  refine W.widen (k := 0) (n := 0) (by omega) (by omega) ?_
  refine lv_aload_n hx hb dMH_small_18 rfl (lv_at hl 0 rfl) ?_
  refine ty_get (ci := 12) (C := "LatticeKeysModel$Hands") (TT := T_MH) (N := 31) (kd := (48, 0)) hx hb hts (wg_ft i_MH) hown hK hO k_h0 (nxg (clo_cons (clo_cons (clo_cons (clo_cons (clo_cons (clo_cons hc0 kr21 (by decide)) km21 (by decide)) km22 (by decide)) km23 (by decide)) km24 (by decide)) km25 (by decide)) k_h0 rfl) hP (fun _ h9 => h9) rfl 0 (by decide) (hts _ (wg_t kw_1432)) (fun _ h9 => h9) (cd := (3, 20, 0)) rfl dMH_small_19 (fun v23 hv23 => ?_)
  obtain ⟨r23, rfl, kr23⟩ := (show ∃ r : Nat, v23 = .ref r ∧ T r = some (20, 0) from hv23)
  obtain rfl : r21 = r23 := hU _ _ _ (by decide) kr21 kr23
  refine lv_iload hx hb dMH_small_22 (lv_at hl 4 rfl) ?_
  refine mp_v (cx := [(r21, .inr (9, [.ref am21, .ref am22, .ref am23, .ref am24, .ref am25, .int (nI 136), .int (nI 64), .int (nI 31)])), (am21, .inl (g.2.1 2, 25, .inr (.inl u24))), (am22, .inl (g.2.1 2, 25, .inr (.inl f22))), (am23, .inl (g.2.1 2, 5, .inr (.inl f23))), (am24, .inl (g.2.1 2, 24, .inr (.inl f24))), (am25, .inl (g.2.1 0, 25, .inl f25))]) (wr := []) hP hD hS hA [0, 1, 2, 3, 4, 5] [] rfl rfl rfl (by decide) (va_runV (As := [.int wh]) (rest := []) F (x_MS_put l g _ T (am25 :: (am24 :: (am23 :: (am22 :: (am21 :: (r21 :: xs)))))) pl hO hU  wh r21 am21 am22 am23 am24 am25 136 64 (nI 31) u24 f22 f23 f24 f25 (by omega) (by omega)) (cwV 1 hts (wg_app (wg_c kw_1720 (wg_c kw_1616 (wg_c kw_1617 (wg_c kw_10 wg_n)))) kw_1618) rfl rfl rfl (by decide +kernel) ⟨by decide, by decide⟩) (pp_V (en_ok g) (q0 := 0) hK hP hD hS hA hE [0, 1, 2, 3, 4, 5] rfl rfl rfl rfl) rfl rfl hl.1 rfl (lv_room (Nat.le_of_ble_eq_true rfl)) dMH_small_24 ⟨by omega, by omega⟩) (fun  u25 H locs hu23 hP hD hS => ?_)
  obtain ⟨u26, pl⟩ := u25
  obtain ⟨hq23, hO⟩ := hu23
  have hP : va_P g.1 vcl ([(r21, .inr (9, [.ref am21, .ref am22, .ref am23, .ref am24, .ref am25, .int (nI 136), .int (nI 65), .int (nI 31)])), (am21, .inl (g.2.1 2, 25, .inr (.inl u26))), (am22, .inl (g.2.1 2, 25, .inr (.inl f22))), (am23, .inl (g.2.1 2, 5, .inr (.inl f23))), (am24, .inl (g.2.1 2, 24, .inr (.inl f24))), (am25, .inl (g.2.1 0, 25, .inl f25))] ++ pl) _ := hP
  have hD : va_D _ ([(r21, .inr (9, [.ref am21, .ref am22, .ref am23, .ref am24, .ref am25, .int (nI 136), .int (nI 65), .int (nI 31)])), (am21, .inl (g.2.1 2, 25, .inr (.inl u26))), (am22, .inl (g.2.1 2, 25, .inr (.inl f22))), (am23, .inl (g.2.1 2, 5, .inr (.inl f23))), (am24, .inl (g.2.1 2, 24, .inr (.inl f24))), (am25, .inl (g.2.1 0, 25, .inl f25))] ++ pl) := hD
  refine W.widen (k := 0) (n := 0) (by omega) (by omega) ?_
  refine lv_aload_n hx hb dMH_small_27 rfl (lv_at hl 0 rfl) ?_
  refine ty_get (ci := 12) (C := "LatticeKeysModel$Hands") (TT := T_MH) (N := 31) (kd := (48, 0)) hx hb hts (wg_ft i_MH) hown hK hO k_h0 (nxg (clo_cons (clo_cons (clo_cons (clo_cons (clo_cons (clo_cons hc0 kr21 (by decide)) km21 (by decide)) km22 (by decide)) km23 (by decide)) km24 (by decide)) km25 (by decide)) k_h0 rfl) hP (fun _ h9 => h9) rfl 0 (by decide) (hts _ (wg_t kw_1432)) (fun _ h9 => h9) (cd := (3, 20, 0)) rfl dMH_small_28 (fun v24 hv24 => ?_)
  obtain ⟨r24, rfl, kr24⟩ := (show ∃ r : Nat, v24 = .ref r ∧ T r = some (20, 0) from hv24)
  obtain rfl : r21 = r24 := hU _ _ _ (by decide) kr21 kr24
  refine lv_iload hx hb dMH_small_31 (lv_at hl 4 rfl) ?_
  refine lv_bipush (v := nI 8) hx hb dMH_small_33 (by decide) ?_
  refine lv_ishr hx hb dMH_small_35 ?_
  refine mi_any (fun z21 => ?_)
  refine mp_v (cx := [(r21, .inr (9, [.ref am21, .ref am22, .ref am23, .ref am24, .ref am25, .int (nI 136), .int (nI 65), .int (nI 31)])), (am21, .inl (g.2.1 2, 25, .inr (.inl u26))), (am22, .inl (g.2.1 2, 25, .inr (.inl f22))), (am23, .inl (g.2.1 2, 5, .inr (.inl f23))), (am24, .inl (g.2.1 2, 24, .inr (.inl f24))), (am25, .inl (g.2.1 0, 25, .inl f25))]) (wr := []) hP hD hS hA [0, 1, 2, 3, 4, 5] [] rfl rfl rfl (by decide) (va_runV (As := [.int z21]) (rest := []) F (x_MS_put l g _ T (am25 :: (am24 :: (am23 :: (am22 :: (am21 :: (r21 :: xs)))))) pl hO hU  z21 r21 am21 am22 am23 am24 am25 136 65 (nI 31) u26 f22 f23 f24 f25 (by omega) (by omega)) (cwV 1 hts (wg_app (wg_c kw_1720 (wg_c kw_1616 (wg_c kw_1617 (wg_c kw_10 wg_n)))) kw_1618) rfl rfl rfl (by decide +kernel) ⟨by decide, by decide⟩) (pp_V (en_ok g) (q0 := 0) hK hP hD hS hA hE [0, 1, 2, 3, 4, 5] rfl rfl rfl rfl) rfl rfl hl.1 rfl (lv_room (Nat.le_of_ble_eq_true rfl)) dMH_small_36 ⟨by omega, by omega⟩) (fun  u27 H locs hu24 hP hD hS => ?_)
  obtain ⟨u28, pl⟩ := u27
  obtain ⟨hq24, hO⟩ := hu24
  have hP : va_P g.1 vcl ([(r21, .inr (9, [.ref am21, .ref am22, .ref am23, .ref am24, .ref am25, .int (nI 136), .int (nI 66), .int (nI 31)])), (am21, .inl (g.2.1 2, 25, .inr (.inl u28))), (am22, .inl (g.2.1 2, 25, .inr (.inl f22))), (am23, .inl (g.2.1 2, 5, .inr (.inl f23))), (am24, .inl (g.2.1 2, 24, .inr (.inl f24))), (am25, .inl (g.2.1 0, 25, .inl f25))] ++ pl) _ := hP
  have hD : va_D _ ([(r21, .inr (9, [.ref am21, .ref am22, .ref am23, .ref am24, .ref am25, .int (nI 136), .int (nI 66), .int (nI 31)])), (am21, .inl (g.2.1 2, 25, .inr (.inl u28))), (am22, .inl (g.2.1 2, 25, .inr (.inl f22))), (am23, .inl (g.2.1 2, 5, .inr (.inl f23))), (am24, .inl (g.2.1 2, 24, .inr (.inl f24))), (am25, .inl (g.2.1 0, 25, .inl f25))] ++ pl) := hD
  refine W.widen (k := 0) (n := 0) (by omega) (by omega) ?_
  refine lv_aload_n hx hb dMH_small_39 rfl (lv_at hl 0 rfl) ?_
  refine ty_get (ci := 12) (C := "LatticeKeysModel$Hands") (TT := T_MH) (N := 31) (kd := (48, 0)) hx hb hts (wg_ft i_MH) hown hK hO k_h0 (nxg (clo_cons (clo_cons (clo_cons (clo_cons (clo_cons (clo_cons hc0 kr21 (by decide)) km21 (by decide)) km22 (by decide)) km23 (by decide)) km24 (by decide)) km25 (by decide)) k_h0 rfl) hP (fun _ h9 => h9) rfl 0 (by decide) (hts _ (wg_t kw_1432)) (fun _ h9 => h9) (cd := (3, 20, 0)) rfl dMH_small_40 (fun v25 hv25 => ?_)
  obtain ⟨r25, rfl, kr25⟩ := (show ∃ r : Nat, v25 = .ref r ∧ T r = some (20, 0) from hv25)
  obtain rfl : r21 = r25 := hU _ _ _ (by decide) kr21 kr25
  refine mp_v (cx := [(r21, .inr (9, [.ref am21, .ref am22, .ref am23, .ref am24, .ref am25, .int (nI 136), .int (nI 66), .int (nI 31)])), (am21, .inl (g.2.1 2, 25, .inr (.inl u28))), (am22, .inl (g.2.1 2, 25, .inr (.inl f22))), (am23, .inl (g.2.1 2, 5, .inr (.inl f23))), (am24, .inl (g.2.1 2, 24, .inr (.inl f24))), (am25, .inl (g.2.1 0, 25, .inl f25))]) (wr := []) hP hD hS hA [0, 1, 2, 3, 4, 5] [] rfl rfl rfl (by decide) (va_runV (As := []) (rest := []) F (x_MS_end l g _ T (am25 :: (am24 :: (am23 :: (am22 :: (am21 :: (r21 :: xs)))))) pl hO hU  r21 am21 am22 am23 am24 am25 136 66 (nI 31) u28 f22 f23 f24 f25 (by omega) (by omega)) (cwV 0 hts (wg_app (wg_c kw_1721 (wg_c kw_1634 (wg_c kw_1635 (wg_c kw_10 wg_n)))) kw_1636) rfl rfl rfl (by decide +kernel) ⟨by decide, by decide⟩) (pp_V (en_ok g) (q0 := 0) hK hP hD hS hA hE [0, 1, 2, 3, 4, 5] rfl rfl rfl rfl) rfl rfl hl.1 rfl (lv_room (Nat.le_of_ble_eq_true rfl)) dMH_small_43 ⟨by omega, by omega⟩) (fun  u29 H locs hu25 hP hD hS => ?_)
  obtain ⟨u30, pl⟩ := u29
  obtain ⟨hq25, hO⟩ := hu25
  obtain ⟨f26, f27, f28, f29⟩ := u30
  have hP : va_P g.1 vcl ([(r21, .inr (9, [.ref am21, .ref am22, .ref am23, .ref am24, .ref am25, .int (nI 136), .int (nI 0), .int (nI 31)])), (am21, .inl (g.2.1 2, 25, .inr (.inl f26))), (am22, .inl (g.2.1 2, 25, .inr (.inl f27))), (am23, .inl (g.2.1 2, 5, .inr (.inl f28))), (am24, .inl (g.2.1 2, 24, .inr (.inl f24))), (am25, .inl (g.2.1 0, 25, .inl f25))] ++ pl) _ := hP
  have hD : va_D _ ([(r21, .inr (9, [.ref am21, .ref am22, .ref am23, .ref am24, .ref am25, .int (nI 136), .int (nI 0), .int (nI 31)])), (am21, .inl (g.2.1 2, 25, .inr (.inl f26))), (am22, .inl (g.2.1 2, 25, .inr (.inl f27))), (am23, .inl (g.2.1 2, 5, .inr (.inl f28))), (am24, .inl (g.2.1 2, 24, .inr (.inl f24))), (am25, .inl (g.2.1 0, 25, .inl f25))] ++ pl) := hD
  refine W.widen (k := 0) (n := 0) (by omega) (by omega) ?_
  have hz : ∀ j, 9 ≤ j → j < 16 → f29 j = 0 := fun j h8 h9 => ((((hq25.2 j (by omega) (by omega)).trans (hq24 j (by omega))).trans (hq23 j (by omega))).trans (hq22 j (by omega))).trans (hq21 j (by omega))
  have hs : str f25 f24 f29 136 136 0 f26 := ⟨1, by omega, by omega, hq25.1⟩
  obtain ⟨mB, hm0, hmP⟩ := blk_back f25 f24 f29
  refine lv_iconst (v := nI 0) hx hb dMH_small_46 (by decide) ?_
  refine lv_istore (lv' := [(5, .int (nI 0)), (0, .ref h0), (1, .ref f), (2, .ref b), (3, .int (nI at_)), (4, .int wh)]) hx hb dMH_small_47 hl (by decide) rfl (fun ls hl => ?_)
  have lp21 : ∀ (q21 : Nat) (d21 : Nat) (c21 t21 : Nat) (i21 : Nat) (ps22 : Nat) (f30 f31 f32 : Nat → Int64) (pl : va_W) (ls : Array Slot) (H : Heap) (locs : List Loc), 256 ≤ i21 + q21 → i21 ≤ 256 → t21 + 1 * d21 = c21 * mB * 136 + 72 → str f25 f24 f29 136 t21 ps22 f30 → lv_has ls 9 [(5, .int (nI i21)), (0, .ref h0), (1, .ref f)] → okx g T (am25 :: (am24 :: (am23 :: (am22 :: (am21 :: (r21 :: xs)))))) pl → va_P g.1 vcl ([(r21, .inr (9, [.ref am21, .ref am22, .ref am23, .ref am24, .ref am25, .int (nI 136), .int (nI ps22), .int (nI 31)])), (am21, .inl (g.2.1 2, 25, .inr (.inl f30))), (am22, .inl (g.2.1 2, 25, .inr (.inl f31))), (am23, .inl (g.2.1 2, 5, .inr (.inl f32))), (am24, .inl (g.2.1 2, 24, .inr (.inl f24))), (am25, .inl (g.2.1 0, 25, .inl f25))] ++ pl) H → va_D A ([(r21, .inr (9, [.ref am21, .ref am22, .ref am23, .ref am24, .ref am25, .int (nI 136), .int (nI ps22), .int (nI 31)])), (am21, .inl (g.2.1 2, 25, .inr (.inl f30))), (am22, .inl (g.2.1 2, 25, .inr (.inl f31))), (am23, .inl (g.2.1 2, 5, .inr (.inl f32))), (am24, .inl (g.2.1 2, 24, .inr (.inl f24))), (am25, .inl (g.2.1 0, 25, .inl f25))] ++ pl) → va_S A s.heap H locs → W p l e ({ frames := 3, cells := 0, slots := 0, locals := 67 } : Room) s m args below meth c H locs 0 0 (MQ below (va_Qv (fun (u : va_W) => (True) ∧ okx g T xs u) (po g.1 vcl A (fun (u : va_W) => [] ++ u)) A) args s 0 0 A) (F0 m 49 ls []) := by
    intro q21
    induction q21 with
    | zero =>
      intro d21
      intro c21 t21 i21 ps22 f30 f31 f32 pl ls H locs hi21 hi22 hd21 hs hl hO hP hD hS
      have hsl := str_le hs
      refine lv_iload hx hb dMH_small_49 (lv_at hl 0 rfl) ?_
      refine lv_sipush (v := nI 256) hx hb dMH_small_51 (by decide) ?_
      refine mi_ge (tgt := 185) hx hb dMH_small_54 (by decide) (by omega) (by omega) (fun h21 => ?_) (fun h21 => absurd h21 (by omega))
      have hO := close1 (e := .inl (g.2.1 0, 25, .inl f25)) hO km25 ⟨_, rfl⟩
      have hO := close1 (e := .inl (g.2.1 2, 24, .inr (.inl f24))) hO km24 ⟨_, rfl⟩
      have hO := close1 (e := .inl (g.2.1 2, 5, .inr (.inl f32))) hO km23 ⟨_, rfl⟩
      have hO := close1 (e := .inl (g.2.1 2, 25, .inr (.inl f31))) hO km22 ⟨_, rfl⟩
      have hO := close1 (e := .inl (g.2.1 2, 25, .inr (.inl f30))) hO km21 ⟨_, rfl⟩
      have hO := close1 (e := .inr (9, [.ref am21, .ref am22, .ref am23, .ref am24, .ref am25, .int (nI 136), .int (nI ps22), .int (nI 31)])) hO kr21 ⟨_, _, _, _, _, _, _, _, rfl, km21, km22, km23, km24, km25, by omega, by omega, by omega⟩
      have hO : okx g T xs ((r21, .inr (9, [.ref am21, .ref am22, .ref am23, .ref am24, .ref am25, .int (nI 136), .int (nI ps22), .int (nI 31)])) :: (am21, .inl (g.2.1 2, 25, .inr (.inl f30))) :: (am22, .inl (g.2.1 2, 25, .inr (.inl f31))) :: (am23, .inl (g.2.1 2, 5, .inr (.inl f32))) :: (am24, .inl (g.2.1 2, 24, .inr (.inl f24))) :: (am25, .inl (g.2.1 0, 25, .inl f25)) :: pl) := hO
      have hP : va_P g.1 vcl ([] ++ ((r21, .inr (9, [.ref am21, .ref am22, .ref am23, .ref am24, .ref am25, .int (nI 136), .int (nI ps22), .int (nI 31)])) :: (am21, .inl (g.2.1 2, 25, .inr (.inl f30))) :: (am22, .inl (g.2.1 2, 25, .inr (.inl f31))) :: (am23, .inl (g.2.1 2, 5, .inr (.inl f32))) :: (am24, .inl (g.2.1 2, 24, .inr (.inl f24))) :: (am25, .inl (g.2.1 0, 25, .inl f25)) :: pl)) _ := hP
      have hD : va_D _ ([] ++ ((r21, .inr (9, [.ref am21, .ref am22, .ref am23, .ref am24, .ref am25, .int (nI 136), .int (nI ps22), .int (nI 31)])) :: (am21, .inl (g.2.1 2, 25, .inr (.inl f30))) :: (am22, .inl (g.2.1 2, 25, .inr (.inl f31))) :: (am23, .inl (g.2.1 2, 5, .inr (.inl f32))) :: (am24, .inl (g.2.1 2, 24, .inr (.inl f24))) :: (am25, .inl (g.2.1 0, 25, .inl f25)) :: pl)) := hD
      generalize ((r21, .inr (9, [.ref am21, .ref am22, .ref am23, .ref am24, .ref am25, .int (nI 136), .int (nI ps22), .int (nI 31)])) :: (am21, .inl (g.2.1 2, 25, .inr (.inl f30))) :: (am22, .inl (g.2.1 2, 25, .inr (.inl f31))) :: (am23, .inl (g.2.1 2, 5, .inr (.inl f32))) :: (am24, .inl (g.2.1 2, 24, .inr (.inl f24))) :: (am25, .inl (g.2.1 0, 25, .inl f25)) :: pl) = pl at hO hP hD
      exact mp_vret hx hb hr hlk hP hD hS pl ⟨trivial, hO⟩ [] rfl rfl rfl (by omega) (by omega) dMH_small_185
    | succ q21 ihq21 =>
      intro d21
      induction d21 with
      | zero =>
        intro c21 t21 i21 ps22 f30 f31 f32 pl ls H locs hi21 hi22 hd21 hs hl hO hP hD hS
        have hsl := str_le hs
        refine lv_iload hx hb dMH_small_49 (lv_at hl 0 rfl) ?_
        refine lv_sipush (v := nI 256) hx hb dMH_small_51 (by decide) ?_
        refine mi_ge (tgt := 185) hx hb dMH_small_54 (by decide) (by omega) (by omega) (fun h22 => ?_) (fun h22 => ?_)
        · have hO := close1 (e := .inl (g.2.1 0, 25, .inl f25)) hO km25 ⟨_, rfl⟩
          have hO := close1 (e := .inl (g.2.1 2, 24, .inr (.inl f24))) hO km24 ⟨_, rfl⟩
          have hO := close1 (e := .inl (g.2.1 2, 5, .inr (.inl f32))) hO km23 ⟨_, rfl⟩
          have hO := close1 (e := .inl (g.2.1 2, 25, .inr (.inl f31))) hO km22 ⟨_, rfl⟩
          have hO := close1 (e := .inl (g.2.1 2, 25, .inr (.inl f30))) hO km21 ⟨_, rfl⟩
          have hO := close1 (e := .inr (9, [.ref am21, .ref am22, .ref am23, .ref am24, .ref am25, .int (nI 136), .int (nI ps22), .int (nI 31)])) hO kr21 ⟨_, _, _, _, _, _, _, _, rfl, km21, km22, km23, km24, km25, by omega, by omega, by omega⟩
          have hO : okx g T xs ((r21, .inr (9, [.ref am21, .ref am22, .ref am23, .ref am24, .ref am25, .int (nI 136), .int (nI ps22), .int (nI 31)])) :: (am21, .inl (g.2.1 2, 25, .inr (.inl f30))) :: (am22, .inl (g.2.1 2, 25, .inr (.inl f31))) :: (am23, .inl (g.2.1 2, 5, .inr (.inl f32))) :: (am24, .inl (g.2.1 2, 24, .inr (.inl f24))) :: (am25, .inl (g.2.1 0, 25, .inl f25)) :: pl) := hO
          have hP : va_P g.1 vcl ([] ++ ((r21, .inr (9, [.ref am21, .ref am22, .ref am23, .ref am24, .ref am25, .int (nI 136), .int (nI ps22), .int (nI 31)])) :: (am21, .inl (g.2.1 2, 25, .inr (.inl f30))) :: (am22, .inl (g.2.1 2, 25, .inr (.inl f31))) :: (am23, .inl (g.2.1 2, 5, .inr (.inl f32))) :: (am24, .inl (g.2.1 2, 24, .inr (.inl f24))) :: (am25, .inl (g.2.1 0, 25, .inl f25)) :: pl)) _ := hP
          have hD : va_D _ ([] ++ ((r21, .inr (9, [.ref am21, .ref am22, .ref am23, .ref am24, .ref am25, .int (nI 136), .int (nI ps22), .int (nI 31)])) :: (am21, .inl (g.2.1 2, 25, .inr (.inl f30))) :: (am22, .inl (g.2.1 2, 25, .inr (.inl f31))) :: (am23, .inl (g.2.1 2, 5, .inr (.inl f32))) :: (am24, .inl (g.2.1 2, 24, .inr (.inl f24))) :: (am25, .inl (g.2.1 0, 25, .inl f25)) :: pl)) := hD
          generalize ((r21, .inr (9, [.ref am21, .ref am22, .ref am23, .ref am24, .ref am25, .int (nI 136), .int (nI ps22), .int (nI 31)])) :: (am21, .inl (g.2.1 2, 25, .inr (.inl f30))) :: (am22, .inl (g.2.1 2, 25, .inr (.inl f31))) :: (am23, .inl (g.2.1 2, 5, .inr (.inl f32))) :: (am24, .inl (g.2.1 2, 24, .inr (.inl f24))) :: (am25, .inl (g.2.1 0, 25, .inl f25)) :: pl) = pl at hO hP hD
          exact mp_vret hx hb hr hlk hP hD hS pl ⟨trivial, hO⟩ [] rfl rfl rfl (by omega) (by omega) dMH_small_185
        · refine lv_aload_n hx hb dMH_small_57 rfl (lv_at hl 1 rfl) ?_
          refine ty_get (ci := 12) (C := "LatticeKeysModel$Hands") (TT := T_MH) (N := 31) (kd := (48, 0)) hx hb hts (wg_ft i_MH) hown hK hO k_h0 (nxg (clo_cons (clo_cons (clo_cons (clo_cons (clo_cons (clo_cons hc0 kr21 (by decide)) km21 (by decide)) km22 (by decide)) km23 (by decide)) km24 (by decide)) km25 (by decide)) k_h0 rfl) hP (fun _ h9 => h9) rfl 0 (by decide) (hts _ (wg_t kw_1432)) (fun _ h9 => h9) (cd := (3, 20, 0)) rfl dMH_small_58 (fun v26 hv26 => ?_)
          obtain ⟨r26, rfl, kr26⟩ := (show ∃ r : Nat, v26 = .ref r ∧ T r = some (20, 0) from hv26)
          obtain rfl : r21 = r26 := hU _ _ _ (by decide) kr21 kr26
          refine mp_i (cx := [(r21, .inr (9, [.ref am21, .ref am22, .ref am23, .ref am24, .ref am25, .int (nI 136), .int (nI ps22), .int (nI 31)])), (am21, .inl (g.2.1 2, 25, .inr (.inl f30))), (am22, .inl (g.2.1 2, 25, .inr (.inl f31))), (am23, .inl (g.2.1 2, 5, .inr (.inl f32))), (am24, .inl (g.2.1 2, 24, .inr (.inl f24))), (am25, .inl (g.2.1 0, 25, .inl f25))]) (wr := []) hP hD hS hA [0, 1, 2, 3, 4, 5] [] rfl rfl rfl (by decide) (va_runV (As := []) (rest := []) F (x_MS_next l g _ T (am25 :: (am24 :: (am23 :: (am22 :: (am21 :: (r21 :: xs)))))) pl hO hU  r21 am21 am22 am23 am24 am25 136 ps22 (nI 31) f30 f31 f32 f24 f25 (by omega) (by omega)) (cwV 0 hts (wg_app (wg_c kw_1728 (wg_c kw_1642 (wg_c kw_1643 (wg_c kw_10 wg_n)))) kw_1644) rfl rfl rfl (by decide +kernel) ⟨by decide, by decide⟩) (pp_V (en_ok g) (q0 := 0) hK hP hD hS hA hE [0, 1, 2, 3, 4, 5] rfl rfl rfl rfl) rfl rfl hl.1 rfl (lv_room (Nat.le_of_ble_eq_true rfl)) dMH_small_61 ⟨by omega, by omega⟩) (fun r27 u31 H locs hu26 hP hD hS => ?_)
          obtain ⟨u32, pl⟩ := u31
          obtain ⟨hq26, hO⟩ := hu26
          obtain ⟨ps23, f33, f34, f35⟩ := u32
          have hP : va_P g.1 vcl ([(r21, .inr (9, [.ref am21, .ref am22, .ref am23, .ref am24, .ref am25, .int (nI 136), .int (nI ps23), .int (nI 31)])), (am21, .inl (g.2.1 2, 25, .inr (.inl f33))), (am22, .inl (g.2.1 2, 25, .inr (.inl f34))), (am23, .inl (g.2.1 2, 5, .inr (.inl f35))), (am24, .inl (g.2.1 2, 24, .inr (.inl f24))), (am25, .inl (g.2.1 0, 25, .inl f25))] ++ pl) _ := hP
          have hD : va_D _ ([(r21, .inr (9, [.ref am21, .ref am22, .ref am23, .ref am24, .ref am25, .int (nI 136), .int (nI ps23), .int (nI 31)])), (am21, .inl (g.2.1 2, 25, .inr (.inl f33))), (am22, .inl (g.2.1 2, 25, .inr (.inl f34))), (am23, .inl (g.2.1 2, 5, .inr (.inl f35))), (am24, .inl (g.2.1 2, 24, .inr (.inl f24))), (am25, .inl (g.2.1 0, 25, .inl f25))] ++ pl) := hD
          obtain ⟨hn21, hl21, z22, hz21, rfl, h0z21⟩ := hq26
          have hl21 : ps23 ≤ 136 := hl21
          have hzzz22 : z22 = 0 := str_zero (q := 72) (hmP c21) hs hn21 (by omega) (by decide) (by decide) (hz 9 (by decide) (by decide)) (by decide) h0z21
          have hs := str_next (by decide) hs hn21
          refine W.widen (k := 0) (n := 0) (by omega) (by omega) ?_
          refine lv_istore (lv' := [(6, .int (nI z22)), (5, .int (nI i21)), (0, .ref h0), (1, .ref f)]) hx hb dMH_small_64 hl (by decide) rfl (fun ls hl => ?_)
          refine lv_iconst (v := nI 0) hx hb dMH_small_66 (by decide) ?_
          refine lv_istore (lv' := [(7, .int (nI 0)), (6, .int (nI z22)), (5, .int (nI i21)), (0, .ref h0), (1, .ref f)]) hx hb dMH_small_67 hl (by decide) rfl (fun ls hl => ?_)
          refine lv_iload hx hb dMH_small_69 (lv_at hl 0 rfl) ?_
          refine lv_iconst (v := nI 2) hx hb dMH_small_71 (by decide) ?_
          refine mi_ge (tgt := 182) hx hb dMH_small_72 (by decide) (by omega) (by omega) (fun h23 => absurd h23 (by omega)) (fun h23 => ?_)
          refine lv_iload hx hb dMH_small_75 (lv_at hl 2 rfl) ?_
          refine lv_sipush (v := nI 256) hx hb dMH_small_77 (by decide) ?_
          refine mi_ge (tgt := 182) hx hb dMH_small_80 (by decide) (by omega) (by omega) (fun h24 => ?_) (fun h24 => ?_)
          · refine lv_goto (tgt := 49) hx hb dMH_small_182 (by decide) ?_
            exfalso
            omega
          · refine lv_iload hx hb dMH_small_83 (lv_at hl 0 rfl) ?_
            refine lv_if_ne (tgt := 96) hx hb dMH_small_85 (by decide) (fun h25 => absurd h25 (by decide)) (fun h25 => ?_)
            refine lv_iload hx hb dMH_small_88 (lv_at hl 1 rfl) ?_
            refine lv_bipush (v := nI 16) hx hb dMH_small_90 (by decide) ?_
            refine mi_irem hx hb dMH_small_92 (by omega) (by omega) (by omega) ?_
            refine lv_goto (tgt := 101) hx hb dMH_small_93 (by decide) ?_
            refine lv_istore (lv' := [(8, .int (nI (z22 % 16))), (7, .int (nI 0)), (6, .int (nI z22)), (5, .int (nI i21)), (0, .ref h0), (1, .ref f)]) hx hb dMH_small_101 hl (by decide) rfl (fun ls hl => ?_)
            refine lv_aload_n hx hb dMH_small_103 rfl (lv_at hl 4 rfl) ?_
            refine ty_get (ci := 12) (C := "LatticeKeysModel$Hands") (TT := T_MH) (N := 31) (kd := (48, 0)) hx hb hts (wg_ft i_MH) hown hK hO k_h0 (nxg (clo_cons (clo_cons (clo_cons (clo_cons (clo_cons (clo_cons hc0 kr21 (by decide)) km21 (by decide)) km22 (by decide)) km23 (by decide)) km24 (by decide)) km25 (by decide)) k_h0 rfl) hP (fun _ h9 => h9) rfl 26 (by decide) (hts _ (wg_t kw_1458)) (fun _ h9 => h9) (cd := (1, 0, 2)) rfl dMH_small_104 (fun v27 hv27 => ?_)
            obtain rfl := (show v27 = .int (nI 2) from hv27)
            refine lv_iconst (v := nI 2) hx hb dMH_small_107 (by decide) ?_
            refine mi_ne (tgt := 121) hx hb dMH_small_108 (by decide) (by omega) (by omega) (fun h26 => absurd h26 (by omega)) (fun h26 => ?_)
            refine lv_iload hx hb dMH_small_111 (lv_at hl 0 rfl) ?_
            refine lv_bipush (v := nI 14) hx hb dMH_small_113 (by decide) ?_
            refine mi_le (tgt := 131) hx hb dMH_small_115 (by decide) (by omega) (by omega) (fun h27 => ?_) (fun h27 => ?_)
            · refine lv_aload_n hx hb dMH_small_131 rfl (lv_at hl 4 rfl) ?_
              refine ty_get (ci := 12) (C := "LatticeKeysModel$Hands") (TT := T_MH) (N := 31) (kd := (48, 0)) hx hb hts (wg_ft i_MH) hown hK hO k_h0 (nxg (clo_cons (clo_cons (clo_cons (clo_cons (clo_cons (clo_cons hc0 kr21 (by decide)) km21 (by decide)) km22 (by decide)) km23 (by decide)) km24 (by decide)) km25 (by decide)) k_h0 rfl) hP (fun _ h9 => h9) rfl 26 (by decide) (hts _ (wg_t kw_1458)) (fun _ h9 => h9) (cd := (1, 0, 2)) rfl dMH_small_132 (fun v28 hv28 => ?_)
              obtain rfl := (show v28 = .int (nI 2) from hv28)
              refine lv_iconst (v := nI 2) hx hb dMH_small_135 (by decide) ?_
              refine mi_ne (tgt := 148) hx hb dMH_small_136 (by decide) (by omega) (by omega) (fun h28 => absurd h28 (by omega)) (fun h28 => ?_)
              refine lv_iconst (v := nI 2) hx hb dMH_small_139 (by decide) ?_
              refine lv_iload hx hb dMH_small_140 (lv_at hl 0 rfl) ?_
              refine lv_iconst (v := nI 5) hx hb dMH_small_142 (by decide) ?_
              refine mi_irem hx hb dMH_small_143 (by omega) (by omega) (by omega) ?_
              refine lv_isub hx hb dMH_small_144 ?_
              refine mi_any (fun z23 => ?_)
              refine lv_goto (tgt := 152) hx hb dMH_small_145 (by decide) ?_
              refine lv_istore (lv' := [(8, .int z23), (7, .int (nI 0)), (6, .int (nI z22)), (5, .int (nI i21)), (0, .ref h0), (1, .ref f)]) hx hb dMH_small_152 hl (by decide) rfl (fun ls hl => ?_)
              refine lv_aload_n hx hb dMH_small_154 rfl (lv_at hl 5 rfl) ?_
              refine lv_iload hx hb dMH_small_155 (lv_at hl 3 rfl) ?_
              refine lv_iload hx hb dMH_small_157 (lv_at hl 0 rfl) ?_
              refine lv_if_ge (tgt := 170) hx hb dMH_small_159 (by decide) (fun h29 => ?_) (fun h29 => ?_)
              · refine lv_iload hx hb dMH_small_170 (lv_at hl 0 rfl) ?_
                refine ty_iast hx hb hK hO k_f (nxg (clo_cons (clo_cons (clo_cons (clo_cons (clo_cons (clo_cons hc0 kr21 (by decide)) km21 (by decide)) km22 (by decide)) km23 (by decide)) km24 (by decide)) km25 (by decide)) k_f rfl) hP hD hS (vp_in_nI (by omega) (by decide)) dMH_small_172 (fun pl H locs hO hP hD hS => ?_)
                refine mi_iinc (k := 3) (x := i21) (d := 1) (y := i21 + 1) (lv' := [(5, .int (nI (i21 + 1))), (8, .int z23), (7, .int (nI 0)), (6, .int (nI z22)), (0, .ref h0), (1, .ref f)]) hx hb dMH_small_173 hl rfl (by decide) rfl (by decide) rfl (fun ls hl => ?_)
                refine mi_iinc (k := 2) (x := 0) (d := 1) (y := 1) (lv' := [(7, .int (nI 1)), (5, .int (nI (i21 + 1))), (8, .int z23), (6, .int (nI z22)), (0, .ref h0), (1, .ref f)]) hx hb dMH_small_176 hl rfl (by decide) rfl (by decide) rfl (fun ls hl => ?_)
                refine lv_goto (tgt := 69) hx hb dMH_small_179 (by decide) ?_
                refine lv_iload hx hb dMH_small_69 (lv_at hl 0 rfl) ?_
                refine lv_iconst (v := nI 2) hx hb dMH_small_71 (by decide) ?_
                refine mi_ge (tgt := 182) hx hb dMH_small_72 (by decide) (by omega) (by omega) (fun h30 => absurd h30 (by omega)) (fun h30 => ?_)
                refine lv_iload hx hb dMH_small_75 (lv_at hl 1 rfl) ?_
                refine lv_sipush (v := nI 256) hx hb dMH_small_77 (by decide) ?_
                refine mi_ge (tgt := 182) hx hb dMH_small_80 (by decide) (by omega) (by omega) (fun h31 => ?_) (fun h31 => ?_)
                · refine lv_goto (tgt := 49) hx hb dMH_small_182 (by decide) ?_
                  have hcm := cm_succ (c := c21) (m := mB) (k := 136)
                  exact ihq21 (mB * 136 - 1) (c21 + 1) (t21 + 1) (i21 + 1) ps23 f33 f34 f35 pl ls H locs (by omega) (by omega) (by omega) hs (lv_sub hl [1, 4, 5] rfl) hO hP hD hS
                · refine lv_iload hx hb dMH_small_83 (lv_at hl 0 rfl) ?_
                  refine lv_if_ne (tgt := 96) hx hb dMH_small_85 (by decide) (fun h32 => ?_) (fun h32 => absurd h32 (by decide))
                  refine lv_iload hx hb dMH_small_96 (lv_at hl 3 rfl) ?_
                  refine lv_bipush (v := nI 16) hx hb dMH_small_98 (by decide) ?_
                  refine mi_idiv hx hb dMH_small_100 (by omega) (by omega) (by omega) ?_
                  refine lv_istore (lv' := [(8, .int (nI (z22 / 16))), (7, .int (nI 1)), (5, .int (nI (i21 + 1))), (6, .int (nI z22)), (0, .ref h0), (1, .ref f)]) hx hb dMH_small_101 hl (by decide) rfl (fun ls hl => ?_)
                  refine lv_aload_n hx hb dMH_small_103 rfl (lv_at hl 4 rfl) ?_
                  refine ty_get (ci := 12) (C := "LatticeKeysModel$Hands") (TT := T_MH) (N := 31) (kd := (48, 0)) hx hb hts (wg_ft i_MH) hown hK hO k_h0 (nxg (clo_cons (clo_cons (clo_cons (clo_cons (clo_cons (clo_cons hc0 kr21 (by decide)) km21 (by decide)) km22 (by decide)) km23 (by decide)) km24 (by decide)) km25 (by decide)) k_h0 rfl) hP (fun _ h9 => h9) rfl 26 (by decide) (hts _ (wg_t kw_1458)) (fun _ h9 => h9) (cd := (1, 0, 2)) rfl dMH_small_104 (fun v29 hv29 => ?_)
                  obtain rfl := (show v29 = .int (nI 2) from hv29)
                  refine lv_iconst (v := nI 2) hx hb dMH_small_107 (by decide) ?_
                  refine mi_ne (tgt := 121) hx hb dMH_small_108 (by decide) (by omega) (by omega) (fun h33 => absurd h33 (by omega)) (fun h33 => ?_)
                  refine lv_iload hx hb dMH_small_111 (lv_at hl 0 rfl) ?_
                  refine lv_bipush (v := nI 14) hx hb dMH_small_113 (by decide) ?_
                  refine mi_le (tgt := 131) hx hb dMH_small_115 (by decide) (by omega) (by omega) (fun h34 => ?_) (fun h34 => ?_)
                  · refine lv_aload_n hx hb dMH_small_131 rfl (lv_at hl 4 rfl) ?_
                    refine ty_get (ci := 12) (C := "LatticeKeysModel$Hands") (TT := T_MH) (N := 31) (kd := (48, 0)) hx hb hts (wg_ft i_MH) hown hK hO k_h0 (nxg (clo_cons (clo_cons (clo_cons (clo_cons (clo_cons (clo_cons hc0 kr21 (by decide)) km21 (by decide)) km22 (by decide)) km23 (by decide)) km24 (by decide)) km25 (by decide)) k_h0 rfl) hP (fun _ h9 => h9) rfl 26 (by decide) (hts _ (wg_t kw_1458)) (fun _ h9 => h9) (cd := (1, 0, 2)) rfl dMH_small_132 (fun v30 hv30 => ?_)
                    obtain rfl := (show v30 = .int (nI 2) from hv30)
                    refine lv_iconst (v := nI 2) hx hb dMH_small_135 (by decide) ?_
                    refine mi_ne (tgt := 148) hx hb dMH_small_136 (by decide) (by omega) (by omega) (fun h35 => absurd h35 (by omega)) (fun h35 => ?_)
                    refine lv_iconst (v := nI 2) hx hb dMH_small_139 (by decide) ?_
                    refine lv_iload hx hb dMH_small_140 (lv_at hl 0 rfl) ?_
                    refine lv_iconst (v := nI 5) hx hb dMH_small_142 (by decide) ?_
                    refine mi_irem hx hb dMH_small_143 (by omega) (by omega) (by omega) ?_
                    refine lv_isub hx hb dMH_small_144 ?_
                    refine mi_any (fun z24 => ?_)
                    refine lv_goto (tgt := 152) hx hb dMH_small_145 (by decide) ?_
                    refine lv_istore (lv' := [(8, .int z24), (7, .int (nI 1)), (5, .int (nI (i21 + 1))), (6, .int (nI z22)), (0, .ref h0), (1, .ref f)]) hx hb dMH_small_152 hl (by decide) rfl (fun ls hl => ?_)
                    refine lv_aload_n hx hb dMH_small_154 rfl (lv_at hl 5 rfl) ?_
                    refine lv_iload hx hb dMH_small_155 (lv_at hl 2 rfl) ?_
                    refine lv_iload hx hb dMH_small_157 (lv_at hl 0 rfl) ?_
                    refine lv_if_ge (tgt := 170) hx hb dMH_small_159 (by decide) (fun h36 => ?_) (fun h36 => ?_)
                    · refine lv_iload hx hb dMH_small_170 (lv_at hl 0 rfl) ?_
                      refine ty_iast hx hb hK hO k_f (nxg (clo_cons (clo_cons (clo_cons (clo_cons (clo_cons (clo_cons hc0 kr21 (by decide)) km21 (by decide)) km22 (by decide)) km23 (by decide)) km24 (by decide)) km25 (by decide)) k_f rfl) hP hD hS (vp_in_nI (by omega) (by decide)) dMH_small_172 (fun pl H locs hO hP hD hS => ?_)
                      refine mi_iinc (k := 2) (x := i21 + 1) (d := 1) (y := i21 + 1 + 1) (lv' := [(5, .int (nI (i21 + 1 + 1))), (8, .int z24), (7, .int (nI 1)), (6, .int (nI z22)), (0, .ref h0), (1, .ref f)]) hx hb dMH_small_173 hl rfl (by decide) rfl (by decide) rfl (fun ls hl => ?_)
                      refine mi_iinc (k := 2) (x := 1) (d := 1) (y := 2) (lv' := [(7, .int (nI 2)), (5, .int (nI (i21 + 1 + 1))), (8, .int z24), (6, .int (nI z22)), (0, .ref h0), (1, .ref f)]) hx hb dMH_small_176 hl rfl (by decide) rfl (by decide) rfl (fun ls hl => ?_)
                      refine lv_goto (tgt := 69) hx hb dMH_small_179 (by decide) ?_
                      refine lv_iload hx hb dMH_small_69 (lv_at hl 0 rfl) ?_
                      refine lv_iconst (v := nI 2) hx hb dMH_small_71 (by decide) ?_
                      refine mi_ge (tgt := 182) hx hb dMH_small_72 (by decide) (by omega) (by omega) (fun h37 => ?_) (fun h37 => absurd h37 (by omega))
                      refine lv_goto (tgt := 49) hx hb dMH_small_182 (by decide) ?_
                      have hcm := cm_succ (c := c21) (m := mB) (k := 136)
                      exact ihq21 (mB * 136 - 1) (c21 + 1) (t21 + 1) (i21 + 1 + 1) ps23 f33 f34 f35 pl ls H locs (by omega) (by omega) (by omega) hs (lv_sub hl [1, 4, 5] rfl) hO hP hD hS
                    · refine lv_iload hx hb dMH_small_162 (lv_at hl 0 rfl) ?_
                      refine lv_ldc (v := 8380417) hx hb hown (hts _ (wg_t kw_1429)) dMH_small_164 ?_
                      refine mi_as (show (8380417 : Int32) = nI 8380417 by decide) ?_
                      refine lv_iadd hx hb dMH_small_166 ?_
                      refine mi_any (fun z25 => ?_)
                      refine lv_goto (tgt := 172) hx hb dMH_small_167 (by decide) ?_
                      refine ty_iast hx hb hK hO k_f (nxg (clo_cons (clo_cons (clo_cons (clo_cons (clo_cons (clo_cons hc0 kr21 (by decide)) km21 (by decide)) km22 (by decide)) km23 (by decide)) km24 (by decide)) km25 (by decide)) k_f rfl) hP hD hS (vp_in_nI (by omega) (by decide)) dMH_small_172 (fun pl H locs hO hP hD hS => ?_)
                      refine mi_iinc (k := 2) (x := i21 + 1) (d := 1) (y := i21 + 1 + 1) (lv' := [(5, .int (nI (i21 + 1 + 1))), (8, .int z24), (7, .int (nI 1)), (6, .int (nI z22)), (0, .ref h0), (1, .ref f)]) hx hb dMH_small_173 hl rfl (by decide) rfl (by decide) rfl (fun ls hl => ?_)
                      refine mi_iinc (k := 2) (x := 1) (d := 1) (y := 2) (lv' := [(7, .int (nI 2)), (5, .int (nI (i21 + 1 + 1))), (8, .int z24), (6, .int (nI z22)), (0, .ref h0), (1, .ref f)]) hx hb dMH_small_176 hl rfl (by decide) rfl (by decide) rfl (fun ls hl => ?_)
                      refine lv_goto (tgt := 69) hx hb dMH_small_179 (by decide) ?_
                      refine lv_iload hx hb dMH_small_69 (lv_at hl 0 rfl) ?_
                      refine lv_iconst (v := nI 2) hx hb dMH_small_71 (by decide) ?_
                      refine mi_ge (tgt := 182) hx hb dMH_small_72 (by decide) (by omega) (by omega) (fun h38 => ?_) (fun h38 => absurd h38 (by omega))
                      refine lv_goto (tgt := 49) hx hb dMH_small_182 (by decide) ?_
                      have hcm := cm_succ (c := c21) (m := mB) (k := 136)
                      exact ihq21 (mB * 136 - 1) (c21 + 1) (t21 + 1) (i21 + 1 + 1) ps23 f33 f34 f35 pl ls H locs (by omega) (by omega) (by omega) hs (lv_sub hl [1, 4, 5] rfl) hO hP hD hS
                  · refine lv_goto (tgt := 176) hx hb dMH_small_118 (by decide) ?_
                    refine mi_iinc (k := 1) (x := 1) (d := 1) (y := 2) (lv' := [(7, .int (nI 2)), (8, .int (nI (z22 / 16))), (5, .int (nI (i21 + 1))), (6, .int (nI z22)), (0, .ref h0), (1, .ref f)]) hx hb dMH_small_176 hl rfl (by decide) rfl (by decide) rfl (fun ls hl => ?_)
                    refine lv_goto (tgt := 69) hx hb dMH_small_179 (by decide) ?_
                    refine lv_iload hx hb dMH_small_69 (lv_at hl 0 rfl) ?_
                    refine lv_iconst (v := nI 2) hx hb dMH_small_71 (by decide) ?_
                    refine mi_ge (tgt := 182) hx hb dMH_small_72 (by decide) (by omega) (by omega) (fun h39 => ?_) (fun h39 => absurd h39 (by omega))
                    refine lv_goto (tgt := 49) hx hb dMH_small_182 (by decide) ?_
                    have hcm := cm_succ (c := c21) (m := mB) (k := 136)
                    exact ihq21 (mB * 136 - 1) (c21 + 1) (t21 + 1) (i21 + 1) ps23 f33 f34 f35 pl ls H locs (by omega) (by omega) (by omega) hs (lv_sub hl [2, 4, 5] rfl) hO hP hD hS
              · refine lv_iload hx hb dMH_small_162 (lv_at hl 0 rfl) ?_
                refine lv_ldc (v := 8380417) hx hb hown (hts _ (wg_t kw_1429)) dMH_small_164 ?_
                refine mi_as (show (8380417 : Int32) = nI 8380417 by decide) ?_
                refine lv_iadd hx hb dMH_small_166 ?_
                refine mi_any (fun z26 => ?_)
                refine lv_goto (tgt := 172) hx hb dMH_small_167 (by decide) ?_
                refine ty_iast hx hb hK hO k_f (nxg (clo_cons (clo_cons (clo_cons (clo_cons (clo_cons (clo_cons hc0 kr21 (by decide)) km21 (by decide)) km22 (by decide)) km23 (by decide)) km24 (by decide)) km25 (by decide)) k_f rfl) hP hD hS (vp_in_nI (by omega) (by decide)) dMH_small_172 (fun pl H locs hO hP hD hS => ?_)
                refine mi_iinc (k := 3) (x := i21) (d := 1) (y := i21 + 1) (lv' := [(5, .int (nI (i21 + 1))), (8, .int z23), (7, .int (nI 0)), (6, .int (nI z22)), (0, .ref h0), (1, .ref f)]) hx hb dMH_small_173 hl rfl (by decide) rfl (by decide) rfl (fun ls hl => ?_)
                refine mi_iinc (k := 2) (x := 0) (d := 1) (y := 1) (lv' := [(7, .int (nI 1)), (5, .int (nI (i21 + 1))), (8, .int z23), (6, .int (nI z22)), (0, .ref h0), (1, .ref f)]) hx hb dMH_small_176 hl rfl (by decide) rfl (by decide) rfl (fun ls hl => ?_)
                refine lv_goto (tgt := 69) hx hb dMH_small_179 (by decide) ?_
                refine lv_iload hx hb dMH_small_69 (lv_at hl 0 rfl) ?_
                refine lv_iconst (v := nI 2) hx hb dMH_small_71 (by decide) ?_
                refine mi_ge (tgt := 182) hx hb dMH_small_72 (by decide) (by omega) (by omega) (fun h40 => absurd h40 (by omega)) (fun h40 => ?_)
                refine lv_iload hx hb dMH_small_75 (lv_at hl 1 rfl) ?_
                refine lv_sipush (v := nI 256) hx hb dMH_small_77 (by decide) ?_
                refine mi_ge (tgt := 182) hx hb dMH_small_80 (by decide) (by omega) (by omega) (fun h41 => ?_) (fun h41 => ?_)
                · refine lv_goto (tgt := 49) hx hb dMH_small_182 (by decide) ?_
                  have hcm := cm_succ (c := c21) (m := mB) (k := 136)
                  exact ihq21 (mB * 136 - 1) (c21 + 1) (t21 + 1) (i21 + 1) ps23 f33 f34 f35 pl ls H locs (by omega) (by omega) (by omega) hs (lv_sub hl [1, 4, 5] rfl) hO hP hD hS
                · refine lv_iload hx hb dMH_small_83 (lv_at hl 0 rfl) ?_
                  refine lv_if_ne (tgt := 96) hx hb dMH_small_85 (by decide) (fun h42 => ?_) (fun h42 => absurd h42 (by decide))
                  refine lv_iload hx hb dMH_small_96 (lv_at hl 3 rfl) ?_
                  refine lv_bipush (v := nI 16) hx hb dMH_small_98 (by decide) ?_
                  refine mi_idiv hx hb dMH_small_100 (by omega) (by omega) (by omega) ?_
                  refine lv_istore (lv' := [(8, .int (nI (z22 / 16))), (7, .int (nI 1)), (5, .int (nI (i21 + 1))), (6, .int (nI z22)), (0, .ref h0), (1, .ref f)]) hx hb dMH_small_101 hl (by decide) rfl (fun ls hl => ?_)
                  refine lv_aload_n hx hb dMH_small_103 rfl (lv_at hl 4 rfl) ?_
                  refine ty_get (ci := 12) (C := "LatticeKeysModel$Hands") (TT := T_MH) (N := 31) (kd := (48, 0)) hx hb hts (wg_ft i_MH) hown hK hO k_h0 (nxg (clo_cons (clo_cons (clo_cons (clo_cons (clo_cons (clo_cons hc0 kr21 (by decide)) km21 (by decide)) km22 (by decide)) km23 (by decide)) km24 (by decide)) km25 (by decide)) k_h0 rfl) hP (fun _ h9 => h9) rfl 26 (by decide) (hts _ (wg_t kw_1458)) (fun _ h9 => h9) (cd := (1, 0, 2)) rfl dMH_small_104 (fun v31 hv31 => ?_)
                  obtain rfl := (show v31 = .int (nI 2) from hv31)
                  refine lv_iconst (v := nI 2) hx hb dMH_small_107 (by decide) ?_
                  refine mi_ne (tgt := 121) hx hb dMH_small_108 (by decide) (by omega) (by omega) (fun h43 => absurd h43 (by omega)) (fun h43 => ?_)
                  refine lv_iload hx hb dMH_small_111 (lv_at hl 0 rfl) ?_
                  refine lv_bipush (v := nI 14) hx hb dMH_small_113 (by decide) ?_
                  refine mi_le (tgt := 131) hx hb dMH_small_115 (by decide) (by omega) (by omega) (fun h44 => ?_) (fun h44 => ?_)
                  · refine lv_aload_n hx hb dMH_small_131 rfl (lv_at hl 4 rfl) ?_
                    refine ty_get (ci := 12) (C := "LatticeKeysModel$Hands") (TT := T_MH) (N := 31) (kd := (48, 0)) hx hb hts (wg_ft i_MH) hown hK hO k_h0 (nxg (clo_cons (clo_cons (clo_cons (clo_cons (clo_cons (clo_cons hc0 kr21 (by decide)) km21 (by decide)) km22 (by decide)) km23 (by decide)) km24 (by decide)) km25 (by decide)) k_h0 rfl) hP (fun _ h9 => h9) rfl 26 (by decide) (hts _ (wg_t kw_1458)) (fun _ h9 => h9) (cd := (1, 0, 2)) rfl dMH_small_132 (fun v32 hv32 => ?_)
                    obtain rfl := (show v32 = .int (nI 2) from hv32)
                    refine lv_iconst (v := nI 2) hx hb dMH_small_135 (by decide) ?_
                    refine mi_ne (tgt := 148) hx hb dMH_small_136 (by decide) (by omega) (by omega) (fun h45 => absurd h45 (by omega)) (fun h45 => ?_)
                    refine lv_iconst (v := nI 2) hx hb dMH_small_139 (by decide) ?_
                    refine lv_iload hx hb dMH_small_140 (lv_at hl 0 rfl) ?_
                    refine lv_iconst (v := nI 5) hx hb dMH_small_142 (by decide) ?_
                    refine mi_irem hx hb dMH_small_143 (by omega) (by omega) (by omega) ?_
                    refine lv_isub hx hb dMH_small_144 ?_
                    refine mi_any (fun z27 => ?_)
                    refine lv_goto (tgt := 152) hx hb dMH_small_145 (by decide) ?_
                    refine lv_istore (lv' := [(8, .int z27), (7, .int (nI 1)), (5, .int (nI (i21 + 1))), (6, .int (nI z22)), (0, .ref h0), (1, .ref f)]) hx hb dMH_small_152 hl (by decide) rfl (fun ls hl => ?_)
                    refine lv_aload_n hx hb dMH_small_154 rfl (lv_at hl 5 rfl) ?_
                    refine lv_iload hx hb dMH_small_155 (lv_at hl 2 rfl) ?_
                    refine lv_iload hx hb dMH_small_157 (lv_at hl 0 rfl) ?_
                    refine lv_if_ge (tgt := 170) hx hb dMH_small_159 (by decide) (fun h46 => ?_) (fun h46 => ?_)
                    · refine lv_iload hx hb dMH_small_170 (lv_at hl 0 rfl) ?_
                      refine ty_iast hx hb hK hO k_f (nxg (clo_cons (clo_cons (clo_cons (clo_cons (clo_cons (clo_cons hc0 kr21 (by decide)) km21 (by decide)) km22 (by decide)) km23 (by decide)) km24 (by decide)) km25 (by decide)) k_f rfl) hP hD hS (vp_in_nI (by omega) (by decide)) dMH_small_172 (fun pl H locs hO hP hD hS => ?_)
                      refine mi_iinc (k := 2) (x := i21 + 1) (d := 1) (y := i21 + 1 + 1) (lv' := [(5, .int (nI (i21 + 1 + 1))), (8, .int z27), (7, .int (nI 1)), (6, .int (nI z22)), (0, .ref h0), (1, .ref f)]) hx hb dMH_small_173 hl rfl (by decide) rfl (by decide) rfl (fun ls hl => ?_)
                      refine mi_iinc (k := 2) (x := 1) (d := 1) (y := 2) (lv' := [(7, .int (nI 2)), (5, .int (nI (i21 + 1 + 1))), (8, .int z27), (6, .int (nI z22)), (0, .ref h0), (1, .ref f)]) hx hb dMH_small_176 hl rfl (by decide) rfl (by decide) rfl (fun ls hl => ?_)
                      refine lv_goto (tgt := 69) hx hb dMH_small_179 (by decide) ?_
                      refine lv_iload hx hb dMH_small_69 (lv_at hl 0 rfl) ?_
                      refine lv_iconst (v := nI 2) hx hb dMH_small_71 (by decide) ?_
                      refine mi_ge (tgt := 182) hx hb dMH_small_72 (by decide) (by omega) (by omega) (fun h47 => ?_) (fun h47 => absurd h47 (by omega))
                      refine lv_goto (tgt := 49) hx hb dMH_small_182 (by decide) ?_
                      have hcm := cm_succ (c := c21) (m := mB) (k := 136)
                      exact ihq21 (mB * 136 - 1) (c21 + 1) (t21 + 1) (i21 + 1 + 1) ps23 f33 f34 f35 pl ls H locs (by omega) (by omega) (by omega) hs (lv_sub hl [1, 4, 5] rfl) hO hP hD hS
                    · refine lv_iload hx hb dMH_small_162 (lv_at hl 0 rfl) ?_
                      refine lv_ldc (v := 8380417) hx hb hown (hts _ (wg_t kw_1429)) dMH_small_164 ?_
                      refine mi_as (show (8380417 : Int32) = nI 8380417 by decide) ?_
                      refine lv_iadd hx hb dMH_small_166 ?_
                      refine mi_any (fun z28 => ?_)
                      refine lv_goto (tgt := 172) hx hb dMH_small_167 (by decide) ?_
                      refine ty_iast hx hb hK hO k_f (nxg (clo_cons (clo_cons (clo_cons (clo_cons (clo_cons (clo_cons hc0 kr21 (by decide)) km21 (by decide)) km22 (by decide)) km23 (by decide)) km24 (by decide)) km25 (by decide)) k_f rfl) hP hD hS (vp_in_nI (by omega) (by decide)) dMH_small_172 (fun pl H locs hO hP hD hS => ?_)
                      refine mi_iinc (k := 2) (x := i21 + 1) (d := 1) (y := i21 + 1 + 1) (lv' := [(5, .int (nI (i21 + 1 + 1))), (8, .int z27), (7, .int (nI 1)), (6, .int (nI z22)), (0, .ref h0), (1, .ref f)]) hx hb dMH_small_173 hl rfl (by decide) rfl (by decide) rfl (fun ls hl => ?_)
                      refine mi_iinc (k := 2) (x := 1) (d := 1) (y := 2) (lv' := [(7, .int (nI 2)), (5, .int (nI (i21 + 1 + 1))), (8, .int z27), (6, .int (nI z22)), (0, .ref h0), (1, .ref f)]) hx hb dMH_small_176 hl rfl (by decide) rfl (by decide) rfl (fun ls hl => ?_)
                      refine lv_goto (tgt := 69) hx hb dMH_small_179 (by decide) ?_
                      refine lv_iload hx hb dMH_small_69 (lv_at hl 0 rfl) ?_
                      refine lv_iconst (v := nI 2) hx hb dMH_small_71 (by decide) ?_
                      refine mi_ge (tgt := 182) hx hb dMH_small_72 (by decide) (by omega) (by omega) (fun h48 => ?_) (fun h48 => absurd h48 (by omega))
                      refine lv_goto (tgt := 49) hx hb dMH_small_182 (by decide) ?_
                      have hcm := cm_succ (c := c21) (m := mB) (k := 136)
                      exact ihq21 (mB * 136 - 1) (c21 + 1) (t21 + 1) (i21 + 1 + 1) ps23 f33 f34 f35 pl ls H locs (by omega) (by omega) (by omega) hs (lv_sub hl [1, 4, 5] rfl) hO hP hD hS
                  · refine lv_goto (tgt := 176) hx hb dMH_small_118 (by decide) ?_
                    refine mi_iinc (k := 1) (x := 1) (d := 1) (y := 2) (lv' := [(7, .int (nI 2)), (8, .int (nI (z22 / 16))), (5, .int (nI (i21 + 1))), (6, .int (nI z22)), (0, .ref h0), (1, .ref f)]) hx hb dMH_small_176 hl rfl (by decide) rfl (by decide) rfl (fun ls hl => ?_)
                    refine lv_goto (tgt := 69) hx hb dMH_small_179 (by decide) ?_
                    refine lv_iload hx hb dMH_small_69 (lv_at hl 0 rfl) ?_
                    refine lv_iconst (v := nI 2) hx hb dMH_small_71 (by decide) ?_
                    refine mi_ge (tgt := 182) hx hb dMH_small_72 (by decide) (by omega) (by omega) (fun h49 => ?_) (fun h49 => absurd h49 (by omega))
                    refine lv_goto (tgt := 49) hx hb dMH_small_182 (by decide) ?_
                    have hcm := cm_succ (c := c21) (m := mB) (k := 136)
                    exact ihq21 (mB * 136 - 1) (c21 + 1) (t21 + 1) (i21 + 1) ps23 f33 f34 f35 pl ls H locs (by omega) (by omega) (by omega) hs (lv_sub hl [2, 4, 5] rfl) hO hP hD hS
            · refine lv_goto (tgt := 176) hx hb dMH_small_118 (by decide) ?_
              refine mi_iinc (k := 1) (x := 0) (d := 1) (y := 1) (lv' := [(7, .int (nI 1)), (8, .int (nI (z22 % 16))), (6, .int (nI z22)), (5, .int (nI i21)), (0, .ref h0), (1, .ref f)]) hx hb dMH_small_176 hl rfl (by decide) rfl (by decide) rfl (fun ls hl => ?_)
              refine lv_goto (tgt := 69) hx hb dMH_small_179 (by decide) ?_
              refine lv_iload hx hb dMH_small_69 (lv_at hl 0 rfl) ?_
              refine lv_iconst (v := nI 2) hx hb dMH_small_71 (by decide) ?_
              refine mi_ge (tgt := 182) hx hb dMH_small_72 (by decide) (by omega) (by omega) (fun h50 => absurd h50 (by omega)) (fun h50 => ?_)
              refine lv_iload hx hb dMH_small_75 (lv_at hl 3 rfl) ?_
              refine lv_sipush (v := nI 256) hx hb dMH_small_77 (by decide) ?_
              refine mi_ge (tgt := 182) hx hb dMH_small_80 (by decide) (by omega) (by omega) (fun h51 => ?_) (fun h51 => ?_)
              · refine lv_goto (tgt := 49) hx hb dMH_small_182 (by decide) ?_
                exfalso
                omega
              · refine lv_iload hx hb dMH_small_83 (lv_at hl 0 rfl) ?_
                refine lv_if_ne (tgt := 96) hx hb dMH_small_85 (by decide) (fun h52 => ?_) (fun h52 => absurd h52 (by decide))
                refine lv_iload hx hb dMH_small_96 (lv_at hl 2 rfl) ?_
                refine lv_bipush (v := nI 16) hx hb dMH_small_98 (by decide) ?_
                refine mi_idiv hx hb dMH_small_100 (by omega) (by omega) (by omega) ?_
                refine lv_istore (lv' := [(8, .int (nI (z22 / 16))), (7, .int (nI 1)), (6, .int (nI z22)), (5, .int (nI i21)), (0, .ref h0), (1, .ref f)]) hx hb dMH_small_101 hl (by decide) rfl (fun ls hl => ?_)
                refine lv_aload_n hx hb dMH_small_103 rfl (lv_at hl 4 rfl) ?_
                refine ty_get (ci := 12) (C := "LatticeKeysModel$Hands") (TT := T_MH) (N := 31) (kd := (48, 0)) hx hb hts (wg_ft i_MH) hown hK hO k_h0 (nxg (clo_cons (clo_cons (clo_cons (clo_cons (clo_cons (clo_cons hc0 kr21 (by decide)) km21 (by decide)) km22 (by decide)) km23 (by decide)) km24 (by decide)) km25 (by decide)) k_h0 rfl) hP (fun _ h9 => h9) rfl 26 (by decide) (hts _ (wg_t kw_1458)) (fun _ h9 => h9) (cd := (1, 0, 2)) rfl dMH_small_104 (fun v33 hv33 => ?_)
                obtain rfl := (show v33 = .int (nI 2) from hv33)
                refine lv_iconst (v := nI 2) hx hb dMH_small_107 (by decide) ?_
                refine mi_ne (tgt := 121) hx hb dMH_small_108 (by decide) (by omega) (by omega) (fun h53 => absurd h53 (by omega)) (fun h53 => ?_)
                refine lv_iload hx hb dMH_small_111 (lv_at hl 0 rfl) ?_
                refine lv_bipush (v := nI 14) hx hb dMH_small_113 (by decide) ?_
                refine mi_le (tgt := 131) hx hb dMH_small_115 (by decide) (by omega) (by omega) (fun h54 => ?_) (fun h54 => ?_)
                · refine lv_aload_n hx hb dMH_small_131 rfl (lv_at hl 4 rfl) ?_
                  refine ty_get (ci := 12) (C := "LatticeKeysModel$Hands") (TT := T_MH) (N := 31) (kd := (48, 0)) hx hb hts (wg_ft i_MH) hown hK hO k_h0 (nxg (clo_cons (clo_cons (clo_cons (clo_cons (clo_cons (clo_cons hc0 kr21 (by decide)) km21 (by decide)) km22 (by decide)) km23 (by decide)) km24 (by decide)) km25 (by decide)) k_h0 rfl) hP (fun _ h9 => h9) rfl 26 (by decide) (hts _ (wg_t kw_1458)) (fun _ h9 => h9) (cd := (1, 0, 2)) rfl dMH_small_132 (fun v34 hv34 => ?_)
                  obtain rfl := (show v34 = .int (nI 2) from hv34)
                  refine lv_iconst (v := nI 2) hx hb dMH_small_135 (by decide) ?_
                  refine mi_ne (tgt := 148) hx hb dMH_small_136 (by decide) (by omega) (by omega) (fun h55 => absurd h55 (by omega)) (fun h55 => ?_)
                  refine lv_iconst (v := nI 2) hx hb dMH_small_139 (by decide) ?_
                  refine lv_iload hx hb dMH_small_140 (lv_at hl 0 rfl) ?_
                  refine lv_iconst (v := nI 5) hx hb dMH_small_142 (by decide) ?_
                  refine mi_irem hx hb dMH_small_143 (by omega) (by omega) (by omega) ?_
                  refine lv_isub hx hb dMH_small_144 ?_
                  refine mi_any (fun z29 => ?_)
                  refine lv_goto (tgt := 152) hx hb dMH_small_145 (by decide) ?_
                  refine lv_istore (lv' := [(8, .int z29), (7, .int (nI 1)), (6, .int (nI z22)), (5, .int (nI i21)), (0, .ref h0), (1, .ref f)]) hx hb dMH_small_152 hl (by decide) rfl (fun ls hl => ?_)
                  refine lv_aload_n hx hb dMH_small_154 rfl (lv_at hl 5 rfl) ?_
                  refine lv_iload hx hb dMH_small_155 (lv_at hl 3 rfl) ?_
                  refine lv_iload hx hb dMH_small_157 (lv_at hl 0 rfl) ?_
                  refine lv_if_ge (tgt := 170) hx hb dMH_small_159 (by decide) (fun h56 => ?_) (fun h56 => ?_)
                  · refine lv_iload hx hb dMH_small_170 (lv_at hl 0 rfl) ?_
                    refine ty_iast hx hb hK hO k_f (nxg (clo_cons (clo_cons (clo_cons (clo_cons (clo_cons (clo_cons hc0 kr21 (by decide)) km21 (by decide)) km22 (by decide)) km23 (by decide)) km24 (by decide)) km25 (by decide)) k_f rfl) hP hD hS (vp_in_nI (by omega) (by decide)) dMH_small_172 (fun pl H locs hO hP hD hS => ?_)
                    refine mi_iinc (k := 3) (x := i21) (d := 1) (y := i21 + 1) (lv' := [(5, .int (nI (i21 + 1))), (8, .int z29), (7, .int (nI 1)), (6, .int (nI z22)), (0, .ref h0), (1, .ref f)]) hx hb dMH_small_173 hl rfl (by decide) rfl (by decide) rfl (fun ls hl => ?_)
                    refine mi_iinc (k := 2) (x := 1) (d := 1) (y := 2) (lv' := [(7, .int (nI 2)), (5, .int (nI (i21 + 1))), (8, .int z29), (6, .int (nI z22)), (0, .ref h0), (1, .ref f)]) hx hb dMH_small_176 hl rfl (by decide) rfl (by decide) rfl (fun ls hl => ?_)
                    refine lv_goto (tgt := 69) hx hb dMH_small_179 (by decide) ?_
                    refine lv_iload hx hb dMH_small_69 (lv_at hl 0 rfl) ?_
                    refine lv_iconst (v := nI 2) hx hb dMH_small_71 (by decide) ?_
                    refine mi_ge (tgt := 182) hx hb dMH_small_72 (by decide) (by omega) (by omega) (fun h57 => ?_) (fun h57 => absurd h57 (by omega))
                    refine lv_goto (tgt := 49) hx hb dMH_small_182 (by decide) ?_
                    have hcm := cm_succ (c := c21) (m := mB) (k := 136)
                    exact ihq21 (mB * 136 - 1) (c21 + 1) (t21 + 1) (i21 + 1) ps23 f33 f34 f35 pl ls H locs (by omega) (by omega) (by omega) hs (lv_sub hl [1, 4, 5] rfl) hO hP hD hS
                  · refine lv_iload hx hb dMH_small_162 (lv_at hl 0 rfl) ?_
                    refine lv_ldc (v := 8380417) hx hb hown (hts _ (wg_t kw_1429)) dMH_small_164 ?_
                    refine mi_as (show (8380417 : Int32) = nI 8380417 by decide) ?_
                    refine lv_iadd hx hb dMH_small_166 ?_
                    refine mi_any (fun z30 => ?_)
                    refine lv_goto (tgt := 172) hx hb dMH_small_167 (by decide) ?_
                    refine ty_iast hx hb hK hO k_f (nxg (clo_cons (clo_cons (clo_cons (clo_cons (clo_cons (clo_cons hc0 kr21 (by decide)) km21 (by decide)) km22 (by decide)) km23 (by decide)) km24 (by decide)) km25 (by decide)) k_f rfl) hP hD hS (vp_in_nI (by omega) (by decide)) dMH_small_172 (fun pl H locs hO hP hD hS => ?_)
                    refine mi_iinc (k := 3) (x := i21) (d := 1) (y := i21 + 1) (lv' := [(5, .int (nI (i21 + 1))), (8, .int z29), (7, .int (nI 1)), (6, .int (nI z22)), (0, .ref h0), (1, .ref f)]) hx hb dMH_small_173 hl rfl (by decide) rfl (by decide) rfl (fun ls hl => ?_)
                    refine mi_iinc (k := 2) (x := 1) (d := 1) (y := 2) (lv' := [(7, .int (nI 2)), (5, .int (nI (i21 + 1))), (8, .int z29), (6, .int (nI z22)), (0, .ref h0), (1, .ref f)]) hx hb dMH_small_176 hl rfl (by decide) rfl (by decide) rfl (fun ls hl => ?_)
                    refine lv_goto (tgt := 69) hx hb dMH_small_179 (by decide) ?_
                    refine lv_iload hx hb dMH_small_69 (lv_at hl 0 rfl) ?_
                    refine lv_iconst (v := nI 2) hx hb dMH_small_71 (by decide) ?_
                    refine mi_ge (tgt := 182) hx hb dMH_small_72 (by decide) (by omega) (by omega) (fun h58 => ?_) (fun h58 => absurd h58 (by omega))
                    refine lv_goto (tgt := 49) hx hb dMH_small_182 (by decide) ?_
                    have hcm := cm_succ (c := c21) (m := mB) (k := 136)
                    exact ihq21 (mB * 136 - 1) (c21 + 1) (t21 + 1) (i21 + 1) ps23 f33 f34 f35 pl ls H locs (by omega) (by omega) (by omega) hs (lv_sub hl [1, 4, 5] rfl) hO hP hD hS
                · refine lv_goto (tgt := 176) hx hb dMH_small_118 (by decide) ?_
                  refine mi_iinc (k := 1) (x := 1) (d := 1) (y := 2) (lv' := [(7, .int (nI 2)), (8, .int (nI (z22 / 16))), (6, .int (nI z22)), (5, .int (nI i21)), (0, .ref h0), (1, .ref f)]) hx hb dMH_small_176 hl rfl (by decide) rfl (by decide) rfl (fun ls hl => ?_)
                  refine lv_goto (tgt := 69) hx hb dMH_small_179 (by decide) ?_
                  refine lv_iload hx hb dMH_small_69 (lv_at hl 0 rfl) ?_
                  refine lv_iconst (v := nI 2) hx hb dMH_small_71 (by decide) ?_
                  refine mi_ge (tgt := 182) hx hb dMH_small_72 (by decide) (by omega) (by omega) (fun h59 => ?_) (fun h59 => absurd h59 (by omega))
                  refine lv_goto (tgt := 49) hx hb dMH_small_182 (by decide) ?_
                  exfalso
                  omega
      | succ d21 ihd21 =>
        intro c21 t21 i21 ps22 f30 f31 f32 pl ls H locs hi21 hi22 hd21 hs hl hO hP hD hS
        have hsl := str_le hs
        refine lv_iload hx hb dMH_small_49 (lv_at hl 0 rfl) ?_
        refine lv_sipush (v := nI 256) hx hb dMH_small_51 (by decide) ?_
        refine mi_ge (tgt := 185) hx hb dMH_small_54 (by decide) (by omega) (by omega) (fun h60 => ?_) (fun h60 => ?_)
        · have hO := close1 (e := .inl (g.2.1 0, 25, .inl f25)) hO km25 ⟨_, rfl⟩
          have hO := close1 (e := .inl (g.2.1 2, 24, .inr (.inl f24))) hO km24 ⟨_, rfl⟩
          have hO := close1 (e := .inl (g.2.1 2, 5, .inr (.inl f32))) hO km23 ⟨_, rfl⟩
          have hO := close1 (e := .inl (g.2.1 2, 25, .inr (.inl f31))) hO km22 ⟨_, rfl⟩
          have hO := close1 (e := .inl (g.2.1 2, 25, .inr (.inl f30))) hO km21 ⟨_, rfl⟩
          have hO := close1 (e := .inr (9, [.ref am21, .ref am22, .ref am23, .ref am24, .ref am25, .int (nI 136), .int (nI ps22), .int (nI 31)])) hO kr21 ⟨_, _, _, _, _, _, _, _, rfl, km21, km22, km23, km24, km25, by omega, by omega, by omega⟩
          have hO : okx g T xs ((r21, .inr (9, [.ref am21, .ref am22, .ref am23, .ref am24, .ref am25, .int (nI 136), .int (nI ps22), .int (nI 31)])) :: (am21, .inl (g.2.1 2, 25, .inr (.inl f30))) :: (am22, .inl (g.2.1 2, 25, .inr (.inl f31))) :: (am23, .inl (g.2.1 2, 5, .inr (.inl f32))) :: (am24, .inl (g.2.1 2, 24, .inr (.inl f24))) :: (am25, .inl (g.2.1 0, 25, .inl f25)) :: pl) := hO
          have hP : va_P g.1 vcl ([] ++ ((r21, .inr (9, [.ref am21, .ref am22, .ref am23, .ref am24, .ref am25, .int (nI 136), .int (nI ps22), .int (nI 31)])) :: (am21, .inl (g.2.1 2, 25, .inr (.inl f30))) :: (am22, .inl (g.2.1 2, 25, .inr (.inl f31))) :: (am23, .inl (g.2.1 2, 5, .inr (.inl f32))) :: (am24, .inl (g.2.1 2, 24, .inr (.inl f24))) :: (am25, .inl (g.2.1 0, 25, .inl f25)) :: pl)) _ := hP
          have hD : va_D _ ([] ++ ((r21, .inr (9, [.ref am21, .ref am22, .ref am23, .ref am24, .ref am25, .int (nI 136), .int (nI ps22), .int (nI 31)])) :: (am21, .inl (g.2.1 2, 25, .inr (.inl f30))) :: (am22, .inl (g.2.1 2, 25, .inr (.inl f31))) :: (am23, .inl (g.2.1 2, 5, .inr (.inl f32))) :: (am24, .inl (g.2.1 2, 24, .inr (.inl f24))) :: (am25, .inl (g.2.1 0, 25, .inl f25)) :: pl)) := hD
          generalize ((r21, .inr (9, [.ref am21, .ref am22, .ref am23, .ref am24, .ref am25, .int (nI 136), .int (nI ps22), .int (nI 31)])) :: (am21, .inl (g.2.1 2, 25, .inr (.inl f30))) :: (am22, .inl (g.2.1 2, 25, .inr (.inl f31))) :: (am23, .inl (g.2.1 2, 5, .inr (.inl f32))) :: (am24, .inl (g.2.1 2, 24, .inr (.inl f24))) :: (am25, .inl (g.2.1 0, 25, .inl f25)) :: pl) = pl at hO hP hD
          exact mp_vret hx hb hr hlk hP hD hS pl ⟨trivial, hO⟩ [] rfl rfl rfl (by omega) (by omega) dMH_small_185
        · refine lv_aload_n hx hb dMH_small_57 rfl (lv_at hl 1 rfl) ?_
          refine ty_get (ci := 12) (C := "LatticeKeysModel$Hands") (TT := T_MH) (N := 31) (kd := (48, 0)) hx hb hts (wg_ft i_MH) hown hK hO k_h0 (nxg (clo_cons (clo_cons (clo_cons (clo_cons (clo_cons (clo_cons hc0 kr21 (by decide)) km21 (by decide)) km22 (by decide)) km23 (by decide)) km24 (by decide)) km25 (by decide)) k_h0 rfl) hP (fun _ h9 => h9) rfl 0 (by decide) (hts _ (wg_t kw_1432)) (fun _ h9 => h9) (cd := (3, 20, 0)) rfl dMH_small_58 (fun v35 hv35 => ?_)
          obtain ⟨r28, rfl, kr27⟩ := (show ∃ r : Nat, v35 = .ref r ∧ T r = some (20, 0) from hv35)
          obtain rfl : r21 = r28 := hU _ _ _ (by decide) kr21 kr27
          refine mp_i (cx := [(r21, .inr (9, [.ref am21, .ref am22, .ref am23, .ref am24, .ref am25, .int (nI 136), .int (nI ps22), .int (nI 31)])), (am21, .inl (g.2.1 2, 25, .inr (.inl f30))), (am22, .inl (g.2.1 2, 25, .inr (.inl f31))), (am23, .inl (g.2.1 2, 5, .inr (.inl f32))), (am24, .inl (g.2.1 2, 24, .inr (.inl f24))), (am25, .inl (g.2.1 0, 25, .inl f25))]) (wr := []) hP hD hS hA [0, 1, 2, 3, 4, 5] [] rfl rfl rfl (by decide) (va_runV (As := []) (rest := []) F (x_MS_next l g _ T (am25 :: (am24 :: (am23 :: (am22 :: (am21 :: (r21 :: xs)))))) pl hO hU  r21 am21 am22 am23 am24 am25 136 ps22 (nI 31) f30 f31 f32 f24 f25 (by omega) (by omega)) (cwV 0 hts (wg_app (wg_c kw_1728 (wg_c kw_1642 (wg_c kw_1643 (wg_c kw_10 wg_n)))) kw_1644) rfl rfl rfl (by decide +kernel) ⟨by decide, by decide⟩) (pp_V (en_ok g) (q0 := 0) hK hP hD hS hA hE [0, 1, 2, 3, 4, 5] rfl rfl rfl rfl) rfl rfl hl.1 rfl (lv_room (Nat.le_of_ble_eq_true rfl)) dMH_small_61 ⟨by omega, by omega⟩) (fun r29 u33 H locs hu27 hP hD hS => ?_)
          obtain ⟨u34, pl⟩ := u33
          obtain ⟨hq27, hO⟩ := hu27
          obtain ⟨ps24, f36, f37, f38⟩ := u34
          have hP : va_P g.1 vcl ([(r21, .inr (9, [.ref am21, .ref am22, .ref am23, .ref am24, .ref am25, .int (nI 136), .int (nI ps24), .int (nI 31)])), (am21, .inl (g.2.1 2, 25, .inr (.inl f36))), (am22, .inl (g.2.1 2, 25, .inr (.inl f37))), (am23, .inl (g.2.1 2, 5, .inr (.inl f38))), (am24, .inl (g.2.1 2, 24, .inr (.inl f24))), (am25, .inl (g.2.1 0, 25, .inl f25))] ++ pl) _ := hP
          have hD : va_D _ ([(r21, .inr (9, [.ref am21, .ref am22, .ref am23, .ref am24, .ref am25, .int (nI 136), .int (nI ps24), .int (nI 31)])), (am21, .inl (g.2.1 2, 25, .inr (.inl f36))), (am22, .inl (g.2.1 2, 25, .inr (.inl f37))), (am23, .inl (g.2.1 2, 5, .inr (.inl f38))), (am24, .inl (g.2.1 2, 24, .inr (.inl f24))), (am25, .inl (g.2.1 0, 25, .inl f25))] ++ pl) := hD
          obtain ⟨hn22, hl22, z31, hz22, rfl, h0z22⟩ := hq27
          have hl22 : ps24 ≤ 136 := hl22
          have hs := str_next (by decide) hs hn22
          refine W.widen (k := 0) (n := 0) (by omega) (by omega) ?_
          refine lv_istore (lv' := [(6, .int (nI z31)), (5, .int (nI i21)), (0, .ref h0), (1, .ref f)]) hx hb dMH_small_64 hl (by decide) rfl (fun ls hl => ?_)
          refine lv_iconst (v := nI 0) hx hb dMH_small_66 (by decide) ?_
          refine lv_istore (lv' := [(7, .int (nI 0)), (6, .int (nI z31)), (5, .int (nI i21)), (0, .ref h0), (1, .ref f)]) hx hb dMH_small_67 hl (by decide) rfl (fun ls hl => ?_)
          refine lv_iload hx hb dMH_small_69 (lv_at hl 0 rfl) ?_
          refine lv_iconst (v := nI 2) hx hb dMH_small_71 (by decide) ?_
          refine mi_ge (tgt := 182) hx hb dMH_small_72 (by decide) (by omega) (by omega) (fun h61 => absurd h61 (by omega)) (fun h61 => ?_)
          refine lv_iload hx hb dMH_small_75 (lv_at hl 2 rfl) ?_
          refine lv_sipush (v := nI 256) hx hb dMH_small_77 (by decide) ?_
          refine mi_ge (tgt := 182) hx hb dMH_small_80 (by decide) (by omega) (by omega) (fun h62 => ?_) (fun h62 => ?_)
          · refine lv_goto (tgt := 49) hx hb dMH_small_182 (by decide) ?_
            exact ihd21 c21 (t21 + 1) i21 ps24 f36 f37 f38 pl ls H locs (by omega) (by omega) (by omega) hs (lv_sub hl [2, 3, 4] rfl) hO hP hD hS
          · refine lv_iload hx hb dMH_small_83 (lv_at hl 0 rfl) ?_
            refine lv_if_ne (tgt := 96) hx hb dMH_small_85 (by decide) (fun h63 => absurd h63 (by decide)) (fun h63 => ?_)
            refine lv_iload hx hb dMH_small_88 (lv_at hl 1 rfl) ?_
            refine lv_bipush (v := nI 16) hx hb dMH_small_90 (by decide) ?_
            refine mi_irem hx hb dMH_small_92 (by omega) (by omega) (by omega) ?_
            refine lv_goto (tgt := 101) hx hb dMH_small_93 (by decide) ?_
            refine lv_istore (lv' := [(8, .int (nI (z31 % 16))), (7, .int (nI 0)), (6, .int (nI z31)), (5, .int (nI i21)), (0, .ref h0), (1, .ref f)]) hx hb dMH_small_101 hl (by decide) rfl (fun ls hl => ?_)
            refine lv_aload_n hx hb dMH_small_103 rfl (lv_at hl 4 rfl) ?_
            refine ty_get (ci := 12) (C := "LatticeKeysModel$Hands") (TT := T_MH) (N := 31) (kd := (48, 0)) hx hb hts (wg_ft i_MH) hown hK hO k_h0 (nxg (clo_cons (clo_cons (clo_cons (clo_cons (clo_cons (clo_cons hc0 kr21 (by decide)) km21 (by decide)) km22 (by decide)) km23 (by decide)) km24 (by decide)) km25 (by decide)) k_h0 rfl) hP (fun _ h9 => h9) rfl 26 (by decide) (hts _ (wg_t kw_1458)) (fun _ h9 => h9) (cd := (1, 0, 2)) rfl dMH_small_104 (fun v36 hv36 => ?_)
            obtain rfl := (show v36 = .int (nI 2) from hv36)
            refine lv_iconst (v := nI 2) hx hb dMH_small_107 (by decide) ?_
            refine mi_ne (tgt := 121) hx hb dMH_small_108 (by decide) (by omega) (by omega) (fun h64 => absurd h64 (by omega)) (fun h64 => ?_)
            refine lv_iload hx hb dMH_small_111 (lv_at hl 0 rfl) ?_
            refine lv_bipush (v := nI 14) hx hb dMH_small_113 (by decide) ?_
            refine mi_le (tgt := 131) hx hb dMH_small_115 (by decide) (by omega) (by omega) (fun h65 => ?_) (fun h65 => ?_)
            · refine lv_aload_n hx hb dMH_small_131 rfl (lv_at hl 4 rfl) ?_
              refine ty_get (ci := 12) (C := "LatticeKeysModel$Hands") (TT := T_MH) (N := 31) (kd := (48, 0)) hx hb hts (wg_ft i_MH) hown hK hO k_h0 (nxg (clo_cons (clo_cons (clo_cons (clo_cons (clo_cons (clo_cons hc0 kr21 (by decide)) km21 (by decide)) km22 (by decide)) km23 (by decide)) km24 (by decide)) km25 (by decide)) k_h0 rfl) hP (fun _ h9 => h9) rfl 26 (by decide) (hts _ (wg_t kw_1458)) (fun _ h9 => h9) (cd := (1, 0, 2)) rfl dMH_small_132 (fun v37 hv37 => ?_)
              obtain rfl := (show v37 = .int (nI 2) from hv37)
              refine lv_iconst (v := nI 2) hx hb dMH_small_135 (by decide) ?_
              refine mi_ne (tgt := 148) hx hb dMH_small_136 (by decide) (by omega) (by omega) (fun h66 => absurd h66 (by omega)) (fun h66 => ?_)
              refine lv_iconst (v := nI 2) hx hb dMH_small_139 (by decide) ?_
              refine lv_iload hx hb dMH_small_140 (lv_at hl 0 rfl) ?_
              refine lv_iconst (v := nI 5) hx hb dMH_small_142 (by decide) ?_
              refine mi_irem hx hb dMH_small_143 (by omega) (by omega) (by omega) ?_
              refine lv_isub hx hb dMH_small_144 ?_
              refine mi_any (fun z32 => ?_)
              refine lv_goto (tgt := 152) hx hb dMH_small_145 (by decide) ?_
              refine lv_istore (lv' := [(8, .int z32), (7, .int (nI 0)), (6, .int (nI z31)), (5, .int (nI i21)), (0, .ref h0), (1, .ref f)]) hx hb dMH_small_152 hl (by decide) rfl (fun ls hl => ?_)
              refine lv_aload_n hx hb dMH_small_154 rfl (lv_at hl 5 rfl) ?_
              refine lv_iload hx hb dMH_small_155 (lv_at hl 3 rfl) ?_
              refine lv_iload hx hb dMH_small_157 (lv_at hl 0 rfl) ?_
              refine lv_if_ge (tgt := 170) hx hb dMH_small_159 (by decide) (fun h67 => ?_) (fun h67 => ?_)
              · refine lv_iload hx hb dMH_small_170 (lv_at hl 0 rfl) ?_
                refine ty_iast hx hb hK hO k_f (nxg (clo_cons (clo_cons (clo_cons (clo_cons (clo_cons (clo_cons hc0 kr21 (by decide)) km21 (by decide)) km22 (by decide)) km23 (by decide)) km24 (by decide)) km25 (by decide)) k_f rfl) hP hD hS (vp_in_nI (by omega) (by decide)) dMH_small_172 (fun pl H locs hO hP hD hS => ?_)
                refine mi_iinc (k := 3) (x := i21) (d := 1) (y := i21 + 1) (lv' := [(5, .int (nI (i21 + 1))), (8, .int z32), (7, .int (nI 0)), (6, .int (nI z31)), (0, .ref h0), (1, .ref f)]) hx hb dMH_small_173 hl rfl (by decide) rfl (by decide) rfl (fun ls hl => ?_)
                refine mi_iinc (k := 2) (x := 0) (d := 1) (y := 1) (lv' := [(7, .int (nI 1)), (5, .int (nI (i21 + 1))), (8, .int z32), (6, .int (nI z31)), (0, .ref h0), (1, .ref f)]) hx hb dMH_small_176 hl rfl (by decide) rfl (by decide) rfl (fun ls hl => ?_)
                refine lv_goto (tgt := 69) hx hb dMH_small_179 (by decide) ?_
                refine lv_iload hx hb dMH_small_69 (lv_at hl 0 rfl) ?_
                refine lv_iconst (v := nI 2) hx hb dMH_small_71 (by decide) ?_
                refine mi_ge (tgt := 182) hx hb dMH_small_72 (by decide) (by omega) (by omega) (fun h68 => absurd h68 (by omega)) (fun h68 => ?_)
                refine lv_iload hx hb dMH_small_75 (lv_at hl 1 rfl) ?_
                refine lv_sipush (v := nI 256) hx hb dMH_small_77 (by decide) ?_
                refine mi_ge (tgt := 182) hx hb dMH_small_80 (by decide) (by omega) (by omega) (fun h69 => ?_) (fun h69 => ?_)
                · refine lv_goto (tgt := 49) hx hb dMH_small_182 (by decide) ?_
                  exact ihq21 d21 c21 (t21 + 1) (i21 + 1) ps24 f36 f37 f38 pl ls H locs (by omega) (by omega) (by omega) hs (lv_sub hl [1, 4, 5] rfl) hO hP hD hS
                · refine lv_iload hx hb dMH_small_83 (lv_at hl 0 rfl) ?_
                  refine lv_if_ne (tgt := 96) hx hb dMH_small_85 (by decide) (fun h70 => ?_) (fun h70 => absurd h70 (by decide))
                  refine lv_iload hx hb dMH_small_96 (lv_at hl 3 rfl) ?_
                  refine lv_bipush (v := nI 16) hx hb dMH_small_98 (by decide) ?_
                  refine mi_idiv hx hb dMH_small_100 (by omega) (by omega) (by omega) ?_
                  refine lv_istore (lv' := [(8, .int (nI (z31 / 16))), (7, .int (nI 1)), (5, .int (nI (i21 + 1))), (6, .int (nI z31)), (0, .ref h0), (1, .ref f)]) hx hb dMH_small_101 hl (by decide) rfl (fun ls hl => ?_)
                  refine lv_aload_n hx hb dMH_small_103 rfl (lv_at hl 4 rfl) ?_
                  refine ty_get (ci := 12) (C := "LatticeKeysModel$Hands") (TT := T_MH) (N := 31) (kd := (48, 0)) hx hb hts (wg_ft i_MH) hown hK hO k_h0 (nxg (clo_cons (clo_cons (clo_cons (clo_cons (clo_cons (clo_cons hc0 kr21 (by decide)) km21 (by decide)) km22 (by decide)) km23 (by decide)) km24 (by decide)) km25 (by decide)) k_h0 rfl) hP (fun _ h9 => h9) rfl 26 (by decide) (hts _ (wg_t kw_1458)) (fun _ h9 => h9) (cd := (1, 0, 2)) rfl dMH_small_104 (fun v38 hv38 => ?_)
                  obtain rfl := (show v38 = .int (nI 2) from hv38)
                  refine lv_iconst (v := nI 2) hx hb dMH_small_107 (by decide) ?_
                  refine mi_ne (tgt := 121) hx hb dMH_small_108 (by decide) (by omega) (by omega) (fun h71 => absurd h71 (by omega)) (fun h71 => ?_)
                  refine lv_iload hx hb dMH_small_111 (lv_at hl 0 rfl) ?_
                  refine lv_bipush (v := nI 14) hx hb dMH_small_113 (by decide) ?_
                  refine mi_le (tgt := 131) hx hb dMH_small_115 (by decide) (by omega) (by omega) (fun h72 => ?_) (fun h72 => ?_)
                  · refine lv_aload_n hx hb dMH_small_131 rfl (lv_at hl 4 rfl) ?_
                    refine ty_get (ci := 12) (C := "LatticeKeysModel$Hands") (TT := T_MH) (N := 31) (kd := (48, 0)) hx hb hts (wg_ft i_MH) hown hK hO k_h0 (nxg (clo_cons (clo_cons (clo_cons (clo_cons (clo_cons (clo_cons hc0 kr21 (by decide)) km21 (by decide)) km22 (by decide)) km23 (by decide)) km24 (by decide)) km25 (by decide)) k_h0 rfl) hP (fun _ h9 => h9) rfl 26 (by decide) (hts _ (wg_t kw_1458)) (fun _ h9 => h9) (cd := (1, 0, 2)) rfl dMH_small_132 (fun v39 hv39 => ?_)
                    obtain rfl := (show v39 = .int (nI 2) from hv39)
                    refine lv_iconst (v := nI 2) hx hb dMH_small_135 (by decide) ?_
                    refine mi_ne (tgt := 148) hx hb dMH_small_136 (by decide) (by omega) (by omega) (fun h73 => absurd h73 (by omega)) (fun h73 => ?_)
                    refine lv_iconst (v := nI 2) hx hb dMH_small_139 (by decide) ?_
                    refine lv_iload hx hb dMH_small_140 (lv_at hl 0 rfl) ?_
                    refine lv_iconst (v := nI 5) hx hb dMH_small_142 (by decide) ?_
                    refine mi_irem hx hb dMH_small_143 (by omega) (by omega) (by omega) ?_
                    refine lv_isub hx hb dMH_small_144 ?_
                    refine mi_any (fun z33 => ?_)
                    refine lv_goto (tgt := 152) hx hb dMH_small_145 (by decide) ?_
                    refine lv_istore (lv' := [(8, .int z33), (7, .int (nI 1)), (5, .int (nI (i21 + 1))), (6, .int (nI z31)), (0, .ref h0), (1, .ref f)]) hx hb dMH_small_152 hl (by decide) rfl (fun ls hl => ?_)
                    refine lv_aload_n hx hb dMH_small_154 rfl (lv_at hl 5 rfl) ?_
                    refine lv_iload hx hb dMH_small_155 (lv_at hl 2 rfl) ?_
                    refine lv_iload hx hb dMH_small_157 (lv_at hl 0 rfl) ?_
                    refine lv_if_ge (tgt := 170) hx hb dMH_small_159 (by decide) (fun h74 => ?_) (fun h74 => ?_)
                    · refine lv_iload hx hb dMH_small_170 (lv_at hl 0 rfl) ?_
                      refine ty_iast hx hb hK hO k_f (nxg (clo_cons (clo_cons (clo_cons (clo_cons (clo_cons (clo_cons hc0 kr21 (by decide)) km21 (by decide)) km22 (by decide)) km23 (by decide)) km24 (by decide)) km25 (by decide)) k_f rfl) hP hD hS (vp_in_nI (by omega) (by decide)) dMH_small_172 (fun pl H locs hO hP hD hS => ?_)
                      refine mi_iinc (k := 2) (x := i21 + 1) (d := 1) (y := i21 + 1 + 1) (lv' := [(5, .int (nI (i21 + 1 + 1))), (8, .int z33), (7, .int (nI 1)), (6, .int (nI z31)), (0, .ref h0), (1, .ref f)]) hx hb dMH_small_173 hl rfl (by decide) rfl (by decide) rfl (fun ls hl => ?_)
                      refine mi_iinc (k := 2) (x := 1) (d := 1) (y := 2) (lv' := [(7, .int (nI 2)), (5, .int (nI (i21 + 1 + 1))), (8, .int z33), (6, .int (nI z31)), (0, .ref h0), (1, .ref f)]) hx hb dMH_small_176 hl rfl (by decide) rfl (by decide) rfl (fun ls hl => ?_)
                      refine lv_goto (tgt := 69) hx hb dMH_small_179 (by decide) ?_
                      refine lv_iload hx hb dMH_small_69 (lv_at hl 0 rfl) ?_
                      refine lv_iconst (v := nI 2) hx hb dMH_small_71 (by decide) ?_
                      refine mi_ge (tgt := 182) hx hb dMH_small_72 (by decide) (by omega) (by omega) (fun h75 => ?_) (fun h75 => absurd h75 (by omega))
                      refine lv_goto (tgt := 49) hx hb dMH_small_182 (by decide) ?_
                      exact ihq21 d21 c21 (t21 + 1) (i21 + 1 + 1) ps24 f36 f37 f38 pl ls H locs (by omega) (by omega) (by omega) hs (lv_sub hl [1, 4, 5] rfl) hO hP hD hS
                    · refine lv_iload hx hb dMH_small_162 (lv_at hl 0 rfl) ?_
                      refine lv_ldc (v := 8380417) hx hb hown (hts _ (wg_t kw_1429)) dMH_small_164 ?_
                      refine mi_as (show (8380417 : Int32) = nI 8380417 by decide) ?_
                      refine lv_iadd hx hb dMH_small_166 ?_
                      refine mi_any (fun z34 => ?_)
                      refine lv_goto (tgt := 172) hx hb dMH_small_167 (by decide) ?_
                      refine ty_iast hx hb hK hO k_f (nxg (clo_cons (clo_cons (clo_cons (clo_cons (clo_cons (clo_cons hc0 kr21 (by decide)) km21 (by decide)) km22 (by decide)) km23 (by decide)) km24 (by decide)) km25 (by decide)) k_f rfl) hP hD hS (vp_in_nI (by omega) (by decide)) dMH_small_172 (fun pl H locs hO hP hD hS => ?_)
                      refine mi_iinc (k := 2) (x := i21 + 1) (d := 1) (y := i21 + 1 + 1) (lv' := [(5, .int (nI (i21 + 1 + 1))), (8, .int z33), (7, .int (nI 1)), (6, .int (nI z31)), (0, .ref h0), (1, .ref f)]) hx hb dMH_small_173 hl rfl (by decide) rfl (by decide) rfl (fun ls hl => ?_)
                      refine mi_iinc (k := 2) (x := 1) (d := 1) (y := 2) (lv' := [(7, .int (nI 2)), (5, .int (nI (i21 + 1 + 1))), (8, .int z33), (6, .int (nI z31)), (0, .ref h0), (1, .ref f)]) hx hb dMH_small_176 hl rfl (by decide) rfl (by decide) rfl (fun ls hl => ?_)
                      refine lv_goto (tgt := 69) hx hb dMH_small_179 (by decide) ?_
                      refine lv_iload hx hb dMH_small_69 (lv_at hl 0 rfl) ?_
                      refine lv_iconst (v := nI 2) hx hb dMH_small_71 (by decide) ?_
                      refine mi_ge (tgt := 182) hx hb dMH_small_72 (by decide) (by omega) (by omega) (fun h76 => ?_) (fun h76 => absurd h76 (by omega))
                      refine lv_goto (tgt := 49) hx hb dMH_small_182 (by decide) ?_
                      exact ihq21 d21 c21 (t21 + 1) (i21 + 1 + 1) ps24 f36 f37 f38 pl ls H locs (by omega) (by omega) (by omega) hs (lv_sub hl [1, 4, 5] rfl) hO hP hD hS
                  · refine lv_goto (tgt := 176) hx hb dMH_small_118 (by decide) ?_
                    refine mi_iinc (k := 1) (x := 1) (d := 1) (y := 2) (lv' := [(7, .int (nI 2)), (8, .int (nI (z31 / 16))), (5, .int (nI (i21 + 1))), (6, .int (nI z31)), (0, .ref h0), (1, .ref f)]) hx hb dMH_small_176 hl rfl (by decide) rfl (by decide) rfl (fun ls hl => ?_)
                    refine lv_goto (tgt := 69) hx hb dMH_small_179 (by decide) ?_
                    refine lv_iload hx hb dMH_small_69 (lv_at hl 0 rfl) ?_
                    refine lv_iconst (v := nI 2) hx hb dMH_small_71 (by decide) ?_
                    refine mi_ge (tgt := 182) hx hb dMH_small_72 (by decide) (by omega) (by omega) (fun h77 => ?_) (fun h77 => absurd h77 (by omega))
                    refine lv_goto (tgt := 49) hx hb dMH_small_182 (by decide) ?_
                    exact ihq21 d21 c21 (t21 + 1) (i21 + 1) ps24 f36 f37 f38 pl ls H locs (by omega) (by omega) (by omega) hs (lv_sub hl [2, 4, 5] rfl) hO hP hD hS
              · refine lv_iload hx hb dMH_small_162 (lv_at hl 0 rfl) ?_
                refine lv_ldc (v := 8380417) hx hb hown (hts _ (wg_t kw_1429)) dMH_small_164 ?_
                refine mi_as (show (8380417 : Int32) = nI 8380417 by decide) ?_
                refine lv_iadd hx hb dMH_small_166 ?_
                refine mi_any (fun z35 => ?_)
                refine lv_goto (tgt := 172) hx hb dMH_small_167 (by decide) ?_
                refine ty_iast hx hb hK hO k_f (nxg (clo_cons (clo_cons (clo_cons (clo_cons (clo_cons (clo_cons hc0 kr21 (by decide)) km21 (by decide)) km22 (by decide)) km23 (by decide)) km24 (by decide)) km25 (by decide)) k_f rfl) hP hD hS (vp_in_nI (by omega) (by decide)) dMH_small_172 (fun pl H locs hO hP hD hS => ?_)
                refine mi_iinc (k := 3) (x := i21) (d := 1) (y := i21 + 1) (lv' := [(5, .int (nI (i21 + 1))), (8, .int z32), (7, .int (nI 0)), (6, .int (nI z31)), (0, .ref h0), (1, .ref f)]) hx hb dMH_small_173 hl rfl (by decide) rfl (by decide) rfl (fun ls hl => ?_)
                refine mi_iinc (k := 2) (x := 0) (d := 1) (y := 1) (lv' := [(7, .int (nI 1)), (5, .int (nI (i21 + 1))), (8, .int z32), (6, .int (nI z31)), (0, .ref h0), (1, .ref f)]) hx hb dMH_small_176 hl rfl (by decide) rfl (by decide) rfl (fun ls hl => ?_)
                refine lv_goto (tgt := 69) hx hb dMH_small_179 (by decide) ?_
                refine lv_iload hx hb dMH_small_69 (lv_at hl 0 rfl) ?_
                refine lv_iconst (v := nI 2) hx hb dMH_small_71 (by decide) ?_
                refine mi_ge (tgt := 182) hx hb dMH_small_72 (by decide) (by omega) (by omega) (fun h78 => absurd h78 (by omega)) (fun h78 => ?_)
                refine lv_iload hx hb dMH_small_75 (lv_at hl 1 rfl) ?_
                refine lv_sipush (v := nI 256) hx hb dMH_small_77 (by decide) ?_
                refine mi_ge (tgt := 182) hx hb dMH_small_80 (by decide) (by omega) (by omega) (fun h79 => ?_) (fun h79 => ?_)
                · refine lv_goto (tgt := 49) hx hb dMH_small_182 (by decide) ?_
                  exact ihq21 d21 c21 (t21 + 1) (i21 + 1) ps24 f36 f37 f38 pl ls H locs (by omega) (by omega) (by omega) hs (lv_sub hl [1, 4, 5] rfl) hO hP hD hS
                · refine lv_iload hx hb dMH_small_83 (lv_at hl 0 rfl) ?_
                  refine lv_if_ne (tgt := 96) hx hb dMH_small_85 (by decide) (fun h80 => ?_) (fun h80 => absurd h80 (by decide))
                  refine lv_iload hx hb dMH_small_96 (lv_at hl 3 rfl) ?_
                  refine lv_bipush (v := nI 16) hx hb dMH_small_98 (by decide) ?_
                  refine mi_idiv hx hb dMH_small_100 (by omega) (by omega) (by omega) ?_
                  refine lv_istore (lv' := [(8, .int (nI (z31 / 16))), (7, .int (nI 1)), (5, .int (nI (i21 + 1))), (6, .int (nI z31)), (0, .ref h0), (1, .ref f)]) hx hb dMH_small_101 hl (by decide) rfl (fun ls hl => ?_)
                  refine lv_aload_n hx hb dMH_small_103 rfl (lv_at hl 4 rfl) ?_
                  refine ty_get (ci := 12) (C := "LatticeKeysModel$Hands") (TT := T_MH) (N := 31) (kd := (48, 0)) hx hb hts (wg_ft i_MH) hown hK hO k_h0 (nxg (clo_cons (clo_cons (clo_cons (clo_cons (clo_cons (clo_cons hc0 kr21 (by decide)) km21 (by decide)) km22 (by decide)) km23 (by decide)) km24 (by decide)) km25 (by decide)) k_h0 rfl) hP (fun _ h9 => h9) rfl 26 (by decide) (hts _ (wg_t kw_1458)) (fun _ h9 => h9) (cd := (1, 0, 2)) rfl dMH_small_104 (fun v40 hv40 => ?_)
                  obtain rfl := (show v40 = .int (nI 2) from hv40)
                  refine lv_iconst (v := nI 2) hx hb dMH_small_107 (by decide) ?_
                  refine mi_ne (tgt := 121) hx hb dMH_small_108 (by decide) (by omega) (by omega) (fun h81 => absurd h81 (by omega)) (fun h81 => ?_)
                  refine lv_iload hx hb dMH_small_111 (lv_at hl 0 rfl) ?_
                  refine lv_bipush (v := nI 14) hx hb dMH_small_113 (by decide) ?_
                  refine mi_le (tgt := 131) hx hb dMH_small_115 (by decide) (by omega) (by omega) (fun h82 => ?_) (fun h82 => ?_)
                  · refine lv_aload_n hx hb dMH_small_131 rfl (lv_at hl 4 rfl) ?_
                    refine ty_get (ci := 12) (C := "LatticeKeysModel$Hands") (TT := T_MH) (N := 31) (kd := (48, 0)) hx hb hts (wg_ft i_MH) hown hK hO k_h0 (nxg (clo_cons (clo_cons (clo_cons (clo_cons (clo_cons (clo_cons hc0 kr21 (by decide)) km21 (by decide)) km22 (by decide)) km23 (by decide)) km24 (by decide)) km25 (by decide)) k_h0 rfl) hP (fun _ h9 => h9) rfl 26 (by decide) (hts _ (wg_t kw_1458)) (fun _ h9 => h9) (cd := (1, 0, 2)) rfl dMH_small_132 (fun v41 hv41 => ?_)
                    obtain rfl := (show v41 = .int (nI 2) from hv41)
                    refine lv_iconst (v := nI 2) hx hb dMH_small_135 (by decide) ?_
                    refine mi_ne (tgt := 148) hx hb dMH_small_136 (by decide) (by omega) (by omega) (fun h83 => absurd h83 (by omega)) (fun h83 => ?_)
                    refine lv_iconst (v := nI 2) hx hb dMH_small_139 (by decide) ?_
                    refine lv_iload hx hb dMH_small_140 (lv_at hl 0 rfl) ?_
                    refine lv_iconst (v := nI 5) hx hb dMH_small_142 (by decide) ?_
                    refine mi_irem hx hb dMH_small_143 (by omega) (by omega) (by omega) ?_
                    refine lv_isub hx hb dMH_small_144 ?_
                    refine mi_any (fun z36 => ?_)
                    refine lv_goto (tgt := 152) hx hb dMH_small_145 (by decide) ?_
                    refine lv_istore (lv' := [(8, .int z36), (7, .int (nI 1)), (5, .int (nI (i21 + 1))), (6, .int (nI z31)), (0, .ref h0), (1, .ref f)]) hx hb dMH_small_152 hl (by decide) rfl (fun ls hl => ?_)
                    refine lv_aload_n hx hb dMH_small_154 rfl (lv_at hl 5 rfl) ?_
                    refine lv_iload hx hb dMH_small_155 (lv_at hl 2 rfl) ?_
                    refine lv_iload hx hb dMH_small_157 (lv_at hl 0 rfl) ?_
                    refine lv_if_ge (tgt := 170) hx hb dMH_small_159 (by decide) (fun h84 => ?_) (fun h84 => ?_)
                    · refine lv_iload hx hb dMH_small_170 (lv_at hl 0 rfl) ?_
                      refine ty_iast hx hb hK hO k_f (nxg (clo_cons (clo_cons (clo_cons (clo_cons (clo_cons (clo_cons hc0 kr21 (by decide)) km21 (by decide)) km22 (by decide)) km23 (by decide)) km24 (by decide)) km25 (by decide)) k_f rfl) hP hD hS (vp_in_nI (by omega) (by decide)) dMH_small_172 (fun pl H locs hO hP hD hS => ?_)
                      refine mi_iinc (k := 2) (x := i21 + 1) (d := 1) (y := i21 + 1 + 1) (lv' := [(5, .int (nI (i21 + 1 + 1))), (8, .int z36), (7, .int (nI 1)), (6, .int (nI z31)), (0, .ref h0), (1, .ref f)]) hx hb dMH_small_173 hl rfl (by decide) rfl (by decide) rfl (fun ls hl => ?_)
                      refine mi_iinc (k := 2) (x := 1) (d := 1) (y := 2) (lv' := [(7, .int (nI 2)), (5, .int (nI (i21 + 1 + 1))), (8, .int z36), (6, .int (nI z31)), (0, .ref h0), (1, .ref f)]) hx hb dMH_small_176 hl rfl (by decide) rfl (by decide) rfl (fun ls hl => ?_)
                      refine lv_goto (tgt := 69) hx hb dMH_small_179 (by decide) ?_
                      refine lv_iload hx hb dMH_small_69 (lv_at hl 0 rfl) ?_
                      refine lv_iconst (v := nI 2) hx hb dMH_small_71 (by decide) ?_
                      refine mi_ge (tgt := 182) hx hb dMH_small_72 (by decide) (by omega) (by omega) (fun h85 => ?_) (fun h85 => absurd h85 (by omega))
                      refine lv_goto (tgt := 49) hx hb dMH_small_182 (by decide) ?_
                      exact ihq21 d21 c21 (t21 + 1) (i21 + 1 + 1) ps24 f36 f37 f38 pl ls H locs (by omega) (by omega) (by omega) hs (lv_sub hl [1, 4, 5] rfl) hO hP hD hS
                    · refine lv_iload hx hb dMH_small_162 (lv_at hl 0 rfl) ?_
                      refine lv_ldc (v := 8380417) hx hb hown (hts _ (wg_t kw_1429)) dMH_small_164 ?_
                      refine mi_as (show (8380417 : Int32) = nI 8380417 by decide) ?_
                      refine lv_iadd hx hb dMH_small_166 ?_
                      refine mi_any (fun z37 => ?_)
                      refine lv_goto (tgt := 172) hx hb dMH_small_167 (by decide) ?_
                      refine ty_iast hx hb hK hO k_f (nxg (clo_cons (clo_cons (clo_cons (clo_cons (clo_cons (clo_cons hc0 kr21 (by decide)) km21 (by decide)) km22 (by decide)) km23 (by decide)) km24 (by decide)) km25 (by decide)) k_f rfl) hP hD hS (vp_in_nI (by omega) (by decide)) dMH_small_172 (fun pl H locs hO hP hD hS => ?_)
                      refine mi_iinc (k := 2) (x := i21 + 1) (d := 1) (y := i21 + 1 + 1) (lv' := [(5, .int (nI (i21 + 1 + 1))), (8, .int z36), (7, .int (nI 1)), (6, .int (nI z31)), (0, .ref h0), (1, .ref f)]) hx hb dMH_small_173 hl rfl (by decide) rfl (by decide) rfl (fun ls hl => ?_)
                      refine mi_iinc (k := 2) (x := 1) (d := 1) (y := 2) (lv' := [(7, .int (nI 2)), (5, .int (nI (i21 + 1 + 1))), (8, .int z36), (6, .int (nI z31)), (0, .ref h0), (1, .ref f)]) hx hb dMH_small_176 hl rfl (by decide) rfl (by decide) rfl (fun ls hl => ?_)
                      refine lv_goto (tgt := 69) hx hb dMH_small_179 (by decide) ?_
                      refine lv_iload hx hb dMH_small_69 (lv_at hl 0 rfl) ?_
                      refine lv_iconst (v := nI 2) hx hb dMH_small_71 (by decide) ?_
                      refine mi_ge (tgt := 182) hx hb dMH_small_72 (by decide) (by omega) (by omega) (fun h86 => ?_) (fun h86 => absurd h86 (by omega))
                      refine lv_goto (tgt := 49) hx hb dMH_small_182 (by decide) ?_
                      exact ihq21 d21 c21 (t21 + 1) (i21 + 1 + 1) ps24 f36 f37 f38 pl ls H locs (by omega) (by omega) (by omega) hs (lv_sub hl [1, 4, 5] rfl) hO hP hD hS
                  · refine lv_goto (tgt := 176) hx hb dMH_small_118 (by decide) ?_
                    refine mi_iinc (k := 1) (x := 1) (d := 1) (y := 2) (lv' := [(7, .int (nI 2)), (8, .int (nI (z31 / 16))), (5, .int (nI (i21 + 1))), (6, .int (nI z31)), (0, .ref h0), (1, .ref f)]) hx hb dMH_small_176 hl rfl (by decide) rfl (by decide) rfl (fun ls hl => ?_)
                    refine lv_goto (tgt := 69) hx hb dMH_small_179 (by decide) ?_
                    refine lv_iload hx hb dMH_small_69 (lv_at hl 0 rfl) ?_
                    refine lv_iconst (v := nI 2) hx hb dMH_small_71 (by decide) ?_
                    refine mi_ge (tgt := 182) hx hb dMH_small_72 (by decide) (by omega) (by omega) (fun h87 => ?_) (fun h87 => absurd h87 (by omega))
                    refine lv_goto (tgt := 49) hx hb dMH_small_182 (by decide) ?_
                    exact ihq21 d21 c21 (t21 + 1) (i21 + 1) ps24 f36 f37 f38 pl ls H locs (by omega) (by omega) (by omega) hs (lv_sub hl [2, 4, 5] rfl) hO hP hD hS
            · refine lv_goto (tgt := 176) hx hb dMH_small_118 (by decide) ?_
              refine mi_iinc (k := 1) (x := 0) (d := 1) (y := 1) (lv' := [(7, .int (nI 1)), (8, .int (nI (z31 % 16))), (6, .int (nI z31)), (5, .int (nI i21)), (0, .ref h0), (1, .ref f)]) hx hb dMH_small_176 hl rfl (by decide) rfl (by decide) rfl (fun ls hl => ?_)
              refine lv_goto (tgt := 69) hx hb dMH_small_179 (by decide) ?_
              refine lv_iload hx hb dMH_small_69 (lv_at hl 0 rfl) ?_
              refine lv_iconst (v := nI 2) hx hb dMH_small_71 (by decide) ?_
              refine mi_ge (tgt := 182) hx hb dMH_small_72 (by decide) (by omega) (by omega) (fun h88 => absurd h88 (by omega)) (fun h88 => ?_)
              refine lv_iload hx hb dMH_small_75 (lv_at hl 3 rfl) ?_
              refine lv_sipush (v := nI 256) hx hb dMH_small_77 (by decide) ?_
              refine mi_ge (tgt := 182) hx hb dMH_small_80 (by decide) (by omega) (by omega) (fun h89 => ?_) (fun h89 => ?_)
              · refine lv_goto (tgt := 49) hx hb dMH_small_182 (by decide) ?_
                exact ihd21 c21 (t21 + 1) i21 ps24 f36 f37 f38 pl ls H locs (by omega) (by omega) (by omega) hs (lv_sub hl [3, 4, 5] rfl) hO hP hD hS
              · refine lv_iload hx hb dMH_small_83 (lv_at hl 0 rfl) ?_
                refine lv_if_ne (tgt := 96) hx hb dMH_small_85 (by decide) (fun h90 => ?_) (fun h90 => absurd h90 (by decide))
                refine lv_iload hx hb dMH_small_96 (lv_at hl 2 rfl) ?_
                refine lv_bipush (v := nI 16) hx hb dMH_small_98 (by decide) ?_
                refine mi_idiv hx hb dMH_small_100 (by omega) (by omega) (by omega) ?_
                refine lv_istore (lv' := [(8, .int (nI (z31 / 16))), (7, .int (nI 1)), (6, .int (nI z31)), (5, .int (nI i21)), (0, .ref h0), (1, .ref f)]) hx hb dMH_small_101 hl (by decide) rfl (fun ls hl => ?_)
                refine lv_aload_n hx hb dMH_small_103 rfl (lv_at hl 4 rfl) ?_
                refine ty_get (ci := 12) (C := "LatticeKeysModel$Hands") (TT := T_MH) (N := 31) (kd := (48, 0)) hx hb hts (wg_ft i_MH) hown hK hO k_h0 (nxg (clo_cons (clo_cons (clo_cons (clo_cons (clo_cons (clo_cons hc0 kr21 (by decide)) km21 (by decide)) km22 (by decide)) km23 (by decide)) km24 (by decide)) km25 (by decide)) k_h0 rfl) hP (fun _ h9 => h9) rfl 26 (by decide) (hts _ (wg_t kw_1458)) (fun _ h9 => h9) (cd := (1, 0, 2)) rfl dMH_small_104 (fun v42 hv42 => ?_)
                obtain rfl := (show v42 = .int (nI 2) from hv42)
                refine lv_iconst (v := nI 2) hx hb dMH_small_107 (by decide) ?_
                refine mi_ne (tgt := 121) hx hb dMH_small_108 (by decide) (by omega) (by omega) (fun h91 => absurd h91 (by omega)) (fun h91 => ?_)
                refine lv_iload hx hb dMH_small_111 (lv_at hl 0 rfl) ?_
                refine lv_bipush (v := nI 14) hx hb dMH_small_113 (by decide) ?_
                refine mi_le (tgt := 131) hx hb dMH_small_115 (by decide) (by omega) (by omega) (fun h92 => ?_) (fun h92 => ?_)
                · refine lv_aload_n hx hb dMH_small_131 rfl (lv_at hl 4 rfl) ?_
                  refine ty_get (ci := 12) (C := "LatticeKeysModel$Hands") (TT := T_MH) (N := 31) (kd := (48, 0)) hx hb hts (wg_ft i_MH) hown hK hO k_h0 (nxg (clo_cons (clo_cons (clo_cons (clo_cons (clo_cons (clo_cons hc0 kr21 (by decide)) km21 (by decide)) km22 (by decide)) km23 (by decide)) km24 (by decide)) km25 (by decide)) k_h0 rfl) hP (fun _ h9 => h9) rfl 26 (by decide) (hts _ (wg_t kw_1458)) (fun _ h9 => h9) (cd := (1, 0, 2)) rfl dMH_small_132 (fun v43 hv43 => ?_)
                  obtain rfl := (show v43 = .int (nI 2) from hv43)
                  refine lv_iconst (v := nI 2) hx hb dMH_small_135 (by decide) ?_
                  refine mi_ne (tgt := 148) hx hb dMH_small_136 (by decide) (by omega) (by omega) (fun h93 => absurd h93 (by omega)) (fun h93 => ?_)
                  refine lv_iconst (v := nI 2) hx hb dMH_small_139 (by decide) ?_
                  refine lv_iload hx hb dMH_small_140 (lv_at hl 0 rfl) ?_
                  refine lv_iconst (v := nI 5) hx hb dMH_small_142 (by decide) ?_
                  refine mi_irem hx hb dMH_small_143 (by omega) (by omega) (by omega) ?_
                  refine lv_isub hx hb dMH_small_144 ?_
                  refine mi_any (fun z38 => ?_)
                  refine lv_goto (tgt := 152) hx hb dMH_small_145 (by decide) ?_
                  refine lv_istore (lv' := [(8, .int z38), (7, .int (nI 1)), (6, .int (nI z31)), (5, .int (nI i21)), (0, .ref h0), (1, .ref f)]) hx hb dMH_small_152 hl (by decide) rfl (fun ls hl => ?_)
                  refine lv_aload_n hx hb dMH_small_154 rfl (lv_at hl 5 rfl) ?_
                  refine lv_iload hx hb dMH_small_155 (lv_at hl 3 rfl) ?_
                  refine lv_iload hx hb dMH_small_157 (lv_at hl 0 rfl) ?_
                  refine lv_if_ge (tgt := 170) hx hb dMH_small_159 (by decide) (fun h94 => ?_) (fun h94 => ?_)
                  · refine lv_iload hx hb dMH_small_170 (lv_at hl 0 rfl) ?_
                    refine ty_iast hx hb hK hO k_f (nxg (clo_cons (clo_cons (clo_cons (clo_cons (clo_cons (clo_cons hc0 kr21 (by decide)) km21 (by decide)) km22 (by decide)) km23 (by decide)) km24 (by decide)) km25 (by decide)) k_f rfl) hP hD hS (vp_in_nI (by omega) (by decide)) dMH_small_172 (fun pl H locs hO hP hD hS => ?_)
                    refine mi_iinc (k := 3) (x := i21) (d := 1) (y := i21 + 1) (lv' := [(5, .int (nI (i21 + 1))), (8, .int z38), (7, .int (nI 1)), (6, .int (nI z31)), (0, .ref h0), (1, .ref f)]) hx hb dMH_small_173 hl rfl (by decide) rfl (by decide) rfl (fun ls hl => ?_)
                    refine mi_iinc (k := 2) (x := 1) (d := 1) (y := 2) (lv' := [(7, .int (nI 2)), (5, .int (nI (i21 + 1))), (8, .int z38), (6, .int (nI z31)), (0, .ref h0), (1, .ref f)]) hx hb dMH_small_176 hl rfl (by decide) rfl (by decide) rfl (fun ls hl => ?_)
                    refine lv_goto (tgt := 69) hx hb dMH_small_179 (by decide) ?_
                    refine lv_iload hx hb dMH_small_69 (lv_at hl 0 rfl) ?_
                    refine lv_iconst (v := nI 2) hx hb dMH_small_71 (by decide) ?_
                    refine mi_ge (tgt := 182) hx hb dMH_small_72 (by decide) (by omega) (by omega) (fun h95 => ?_) (fun h95 => absurd h95 (by omega))
                    refine lv_goto (tgt := 49) hx hb dMH_small_182 (by decide) ?_
                    exact ihq21 d21 c21 (t21 + 1) (i21 + 1) ps24 f36 f37 f38 pl ls H locs (by omega) (by omega) (by omega) hs (lv_sub hl [1, 4, 5] rfl) hO hP hD hS
                  · refine lv_iload hx hb dMH_small_162 (lv_at hl 0 rfl) ?_
                    refine lv_ldc (v := 8380417) hx hb hown (hts _ (wg_t kw_1429)) dMH_small_164 ?_
                    refine mi_as (show (8380417 : Int32) = nI 8380417 by decide) ?_
                    refine lv_iadd hx hb dMH_small_166 ?_
                    refine mi_any (fun z39 => ?_)
                    refine lv_goto (tgt := 172) hx hb dMH_small_167 (by decide) ?_
                    refine ty_iast hx hb hK hO k_f (nxg (clo_cons (clo_cons (clo_cons (clo_cons (clo_cons (clo_cons hc0 kr21 (by decide)) km21 (by decide)) km22 (by decide)) km23 (by decide)) km24 (by decide)) km25 (by decide)) k_f rfl) hP hD hS (vp_in_nI (by omega) (by decide)) dMH_small_172 (fun pl H locs hO hP hD hS => ?_)
                    refine mi_iinc (k := 3) (x := i21) (d := 1) (y := i21 + 1) (lv' := [(5, .int (nI (i21 + 1))), (8, .int z38), (7, .int (nI 1)), (6, .int (nI z31)), (0, .ref h0), (1, .ref f)]) hx hb dMH_small_173 hl rfl (by decide) rfl (by decide) rfl (fun ls hl => ?_)
                    refine mi_iinc (k := 2) (x := 1) (d := 1) (y := 2) (lv' := [(7, .int (nI 2)), (5, .int (nI (i21 + 1))), (8, .int z38), (6, .int (nI z31)), (0, .ref h0), (1, .ref f)]) hx hb dMH_small_176 hl rfl (by decide) rfl (by decide) rfl (fun ls hl => ?_)
                    refine lv_goto (tgt := 69) hx hb dMH_small_179 (by decide) ?_
                    refine lv_iload hx hb dMH_small_69 (lv_at hl 0 rfl) ?_
                    refine lv_iconst (v := nI 2) hx hb dMH_small_71 (by decide) ?_
                    refine mi_ge (tgt := 182) hx hb dMH_small_72 (by decide) (by omega) (by omega) (fun h96 => ?_) (fun h96 => absurd h96 (by omega))
                    refine lv_goto (tgt := 49) hx hb dMH_small_182 (by decide) ?_
                    exact ihq21 d21 c21 (t21 + 1) (i21 + 1) ps24 f36 f37 f38 pl ls H locs (by omega) (by omega) (by omega) hs (lv_sub hl [1, 4, 5] rfl) hO hP hD hS
                · refine lv_goto (tgt := 176) hx hb dMH_small_118 (by decide) ?_
                  refine mi_iinc (k := 1) (x := 1) (d := 1) (y := 2) (lv' := [(7, .int (nI 2)), (8, .int (nI (z31 / 16))), (6, .int (nI z31)), (5, .int (nI i21)), (0, .ref h0), (1, .ref f)]) hx hb dMH_small_176 hl rfl (by decide) rfl (by decide) rfl (fun ls hl => ?_)
                  refine lv_goto (tgt := 69) hx hb dMH_small_179 (by decide) ?_
                  refine lv_iload hx hb dMH_small_69 (lv_at hl 0 rfl) ?_
                  refine lv_iconst (v := nI 2) hx hb dMH_small_71 (by decide) ?_
                  refine mi_ge (tgt := 182) hx hb dMH_small_72 (by decide) (by omega) (by omega) (fun h97 => ?_) (fun h97 => absurd h97 (by omega))
                  refine lv_goto (tgt := 49) hx hb dMH_small_182 (by decide) ?_
                  exact ihd21 c21 (t21 + 1) i21 ps24 f36 f37 f38 pl ls H locs (by omega) (by omega) (by omega) hs (lv_sub hl [3, 4, 5] rfl) hO hP hD hS
  have htg := tgt_le (m := mB) (t := 136) (rt := 136) (p := 72) hm0 (by decide)
  exact lp21 256 ((136 + 1) * mB * 136 + 72 - (136)) (136 + 1) (136) 0 0 f26 f27 f28 pl ls _ _ (by omega) (by omega) (by omega) hs (lv_sub hl [0, 1, 2] rfl) hO hP hD hS
set_option maxHeartbeats 400000 in
set_option maxRecDepth 100000 in
theorem t_MH_ball_0 (l : Launch) (g : Gd) (sz : Nat) (T : Ty) (xs : List Nat) (pl : va_W) (hO : okx g T xs pl) (hU : uni T) (hc0 : clo T xs 0) (hc9 : clo T xs 9) (h0 b : Nat) (k_h0 : T h0 = some (46, 0)) (k_b : T b = some (1, 64))  : Met l y_MH_ball w_MH_ball ({ frames := 3, cells := 0, slots := 0, locals := 67 } : Room) (va_Pc [.ref h0, .ref b] (pr (en g) g.1 vcl sz ([] ++ pl))) (va_Qv (fun (u : va_W) => (True) ∧ okx g T xs u) (po g.1 vcl (va_A ([] ++ pl) sz) (fun (u : va_W) => [] ++ u)) (va_A ([] ++ pl) sz)) 0 0 (va_A ([] ++ pl) sz) := by
  refine mc_entry (cc := c_MH_ball) (maxL := 6) (ret := none) (by decide) rfl (Nat.le_of_ble_eq_true rfl) ?_
  intro p e s m args below meth c ls F hr hlk hnm hsz hP hD hE hA hl
  obtain ⟨hx, hb, hml, hown, hts⟩ := id F
  have hK := hE.1
  generalize va_A ([] ++ pl) sz = A at hD hE hA ⊢
  have hS : va_S A s.heap s.heap [] := va_S.rf
  have hl : lv_has ls 6 [(0, .ref h0), (1, .ref b)] := hl
  refine lv_aload_n hx hb dMH_ball_0 rfl (lv_at hl 0 rfl) ?_
  refine ty_get (ci := 12) (C := "LatticeKeysModel$Hands") (TT := T_MH) (N := 31) (kd := (46, 0)) hx hb hts (wg_ft i_MH) hown hK hO k_h0 (nxg hc0 k_h0 rfl) hP (fun _ h9 => h9) rfl 0 (by decide) (hts _ (wg_t kw_1432)) (fun _ h9 => h9) (cd := (3, 20, 0)) rfl dMH_ball_1 (fun v21 hv21 => ?_)
  obtain ⟨r21, rfl, kr21⟩ := (show ∃ r : Nat, v21 = .ref r ∧ T r = some (20, 0) from hv21)
  obtain ⟨e21, pl, hP, hD, hk21, hO⟩ := open1 hP hD hO kr21 (nxg hc9 kr21 rfl)
  obtain ⟨am21, am22, am23, am24, am25, rt21, ps21, x21, rfl, km21, km22, km23, km24, km25, hr21, hr22, hr23⟩ := hk21
  obtain ⟨e22, pl, hP, hD, hk22, hO⟩ := open1 hP hD hO km21 (nmc (knd_ne km21 kr21 (by decide)) (nxg hc9 km21 rfl))
  obtain ⟨f21, rfl⟩ := hk22
  obtain ⟨e23, pl, hP, hD, hk23, hO⟩ := open1 hP hD hO km22 (nmc (knd_ne km22 km21 (by decide)) (nmc (knd_ne km22 kr21 (by decide)) (nxg hc9 km22 rfl)))
  obtain ⟨f22, rfl⟩ := hk23
  obtain ⟨e24, pl, hP, hD, hk24, hO⟩ := open1 hP hD hO km23 (nmc (knd_ne km23 km22 (by decide)) (nmc (knd_ne km23 km21 (by decide)) (nmc (knd_ne km23 kr21 (by decide)) (nxg hc9 km23 rfl))))
  obtain ⟨f23, rfl⟩ := hk24
  obtain ⟨e25, pl, hP, hD, hk25, hO⟩ := open1 hP hD hO km24 (nmc (knd_ne km24 km23 (by decide)) (nmc (knd_ne km24 km22 (by decide)) (nmc (knd_ne km24 km21 (by decide)) (nmc (knd_ne km24 kr21 (by decide)) (nxg hc9 km24 rfl)))))
  obtain ⟨f24, rfl⟩ := hk25
  obtain ⟨e26, pl, hP, hD, hk26, hO⟩ := open1 hP hD hO km25 (nmc (knd_ne km25 km24 (by decide)) (nmc (knd_ne km25 km23 (by decide)) (nmc (knd_ne km25 km22 (by decide)) (nmc (knd_ne km25 km21 (by decide)) (nmc (knd_ne km25 kr21 (by decide)) (nxg hc9 km25 rfl))))))
  obtain ⟨f25, rfl⟩ := hk26
  have hP : va_P g.1 vcl ([(r21, .inr (9, [.ref am21, .ref am22, .ref am23, .ref am24, .ref am25, .int (nI rt21), .int (nI ps21), .int x21])), (am21, .inl (g.2.1 2, 25, .inr (.inl f21))), (am22, .inl (g.2.1 2, 25, .inr (.inl f22))), (am23, .inl (g.2.1 2, 5, .inr (.inl f23))), (am24, .inl (g.2.1 2, 24, .inr (.inl f24))), (am25, .inl (g.2.1 0, 25, .inl f25))] ++ pl) _ := hP
  have hD : va_D _ ([(r21, .inr (9, [.ref am21, .ref am22, .ref am23, .ref am24, .ref am25, .int (nI rt21), .int (nI ps21), .int x21])), (am21, .inl (g.2.1 2, 25, .inr (.inl f21))), (am22, .inl (g.2.1 2, 25, .inr (.inl f22))), (am23, .inl (g.2.1 2, 5, .inr (.inl f23))), (am24, .inl (g.2.1 2, 24, .inr (.inl f24))), (am25, .inl (g.2.1 0, 25, .inl f25))] ++ pl) := hD
  refine mp_v (cx := [(r21, .inr (9, [.ref am21, .ref am22, .ref am23, .ref am24, .ref am25, .int (nI rt21), .int (nI ps21), .int x21])), (am21, .inl (g.2.1 2, 25, .inr (.inl f21))), (am22, .inl (g.2.1 2, 25, .inr (.inl f22))), (am23, .inl (g.2.1 2, 5, .inr (.inl f23))), (am24, .inl (g.2.1 2, 24, .inr (.inl f24))), (am25, .inl (g.2.1 0, 25, .inl f25))]) (wr := []) hP hD hS hA [0, 1, 2, 3, 4, 5] [] rfl rfl rfl (by decide) (va_runV (As := []) (rest := []) F (x_MS_shake l g _ T (am25 :: (am24 :: (am23 :: (am22 :: (am21 :: (r21 :: xs)))))) pl hO hU  r21 am21 am22 am23 am24 am25 rt21 ps21 x21 f21 f22 f23 f24 f25) (cwV 0 hts (wg_app (wg_c kw_1718 (wg_c kw_1661 (wg_c kw_1662 (wg_c kw_10 wg_n)))) kw_1663) rfl rfl rfl (by decide +kernel) ⟨by decide, by decide⟩) (pp_V (en_ok g) (q0 := 0) hK hP hD hS hA hE [0, 1, 2, 3, 4, 5] rfl rfl rfl rfl) rfl rfl hl.1 rfl (lv_room (Nat.le_of_ble_eq_true rfl)) dMH_ball_4 ⟨by omega, by omega⟩) (fun  u21 H locs hu21 hP hD hS => ?_)
  obtain ⟨u22, pl⟩ := u21
  obtain ⟨hq21, hO⟩ := hu21
  have hP : va_P g.1 vcl ([(r21, .inr (9, [.ref am21, .ref am22, .ref am23, .ref am24, .ref am25, .int (nI 136), .int (nI 0), .int (nI 31)])), (am21, .inl (g.2.1 2, 25, .inr (.inl u22))), (am22, .inl (g.2.1 2, 25, .inr (.inl f22))), (am23, .inl (g.2.1 2, 5, .inr (.inl f23))), (am24, .inl (g.2.1 2, 24, .inr (.inl f24))), (am25, .inl (g.2.1 0, 25, .inl f25))] ++ pl) _ := hP
  have hD : va_D _ ([(r21, .inr (9, [.ref am21, .ref am22, .ref am23, .ref am24, .ref am25, .int (nI 136), .int (nI 0), .int (nI 31)])), (am21, .inl (g.2.1 2, 25, .inr (.inl u22))), (am22, .inl (g.2.1 2, 25, .inr (.inl f22))), (am23, .inl (g.2.1 2, 5, .inr (.inl f23))), (am24, .inl (g.2.1 2, 24, .inr (.inl f24))), (am25, .inl (g.2.1 0, 25, .inl f25))] ++ pl) := hD
  have hq21 : ∀ j, j < 25 → u22 j = 0 := hq21
  refine W.widen (k := 0) (n := 0) (by omega) (by omega) ?_
  refine lv_aload_n hx hb dMH_ball_7 rfl (lv_at hl 0 rfl) ?_
  refine ty_get (ci := 12) (C := "LatticeKeysModel$Hands") (TT := T_MH) (N := 31) (kd := (46, 0)) hx hb hts (wg_ft i_MH) hown hK hO k_h0 (nxg (clo_cons (clo_cons (clo_cons (clo_cons (clo_cons (clo_cons hc0 kr21 (by decide)) km21 (by decide)) km22 (by decide)) km23 (by decide)) km24 (by decide)) km25 (by decide)) k_h0 rfl) hP (fun _ h9 => h9) rfl 0 (by decide) (hts _ (wg_t kw_1432)) (fun _ h9 => h9) (cd := (3, 20, 0)) rfl dMH_ball_8 (fun v22 hv22 => ?_)
  obtain ⟨r22, rfl, kr22⟩ := (show ∃ r : Nat, v22 = .ref r ∧ T r = some (20, 0) from hv22)
  obtain rfl : r21 = r22 := hU _ _ _ (by decide) kr21 kr22
  refine lv_aload_n hx hb dMH_ball_11 rfl (lv_at hl 1 rfl) ?_
  refine lv_iconst (v := nI 0) hx hb dMH_ball_12 (by decide) ?_
  refine lv_aload_n hx hb dMH_ball_13 rfl (lv_at hl 0 rfl) ?_
  refine ty_get (ci := 12) (C := "LatticeKeysModel$Hands") (TT := T_MH) (N := 31) (kd := (46, 0)) hx hb hts (wg_ft i_MH) hown hK hO k_h0 (nxg (clo_cons (clo_cons (clo_cons (clo_cons (clo_cons (clo_cons hc0 kr21 (by decide)) km21 (by decide)) km22 (by decide)) km23 (by decide)) km24 (by decide)) km25 (by decide)) k_h0 rfl) hP (fun _ h9 => h9) rfl 30 (by decide) (hts _ (wg_t kw_1462)) (fun _ h9 => h9) (cd := (1, 0, 32)) rfl dMH_ball_14 (fun v23 hv23 => ?_)
  obtain rfl := (show v23 = .int (nI 32) from hv23)
  refine mp_v (cx := [(r21, .inr (9, [.ref am21, .ref am22, .ref am23, .ref am24, .ref am25, .int (nI 136), .int (nI 0), .int (nI 31)])), (am21, .inl (g.2.1 2, 25, .inr (.inl u22))), (am22, .inl (g.2.1 2, 25, .inr (.inl f22))), (am23, .inl (g.2.1 2, 5, .inr (.inl f23))), (am24, .inl (g.2.1 2, 24, .inr (.inl f24))), (am25, .inl (g.2.1 0, 25, .inl f25))]) (wr := []) hP hD hS hA [0, 1, 2, 3, 4, 5] [] rfl rfl rfl (by decide) (va_runV (As := [.ref b, .int (nI 0), .int (nI 32)]) (rest := []) F (x_MS_puts l g _ T (am25 :: (am24 :: (am23 :: (am22 :: (am21 :: (r21 :: xs)))))) pl hO hU (clo_cons (clo_cons (clo_cons (clo_cons (clo_cons (clo_cons hc0 kr21 (by decide)) km21 (by decide)) km22 (by decide)) km23 (by decide)) km24 (by decide)) km25 (by decide)) b 64 0 32 r21 am21 am22 am23 am24 am25 136 0 (nI 31) u22 f22 f23 f24 f25 k_b (by omega) (by omega) (by omega) (by omega)) (cwV 3 hts (wg_app (wg_c kw_1719 (wg_c kw_1612 (wg_c kw_1613 (wg_c kw_10 wg_n)))) kw_1614) rfl rfl rfl (by decide +kernel) ⟨by decide, by decide⟩) (pp_V (en_ok g) (q0 := 0) hK hP hD hS hA hE [0, 1, 2, 3, 4, 5] rfl rfl rfl rfl) rfl rfl hl.1 rfl (lv_room (Nat.le_of_ble_eq_true rfl)) dMH_ball_17 ⟨by omega, by omega⟩) (fun  u23 H locs hu22 hP hD hS => ?_)
  obtain ⟨u24, pl⟩ := u23
  obtain ⟨hq22, hO⟩ := hu22
  have hP : va_P g.1 vcl ([(r21, .inr (9, [.ref am21, .ref am22, .ref am23, .ref am24, .ref am25, .int (nI 136), .int (nI 32), .int (nI 31)])), (am21, .inl (g.2.1 2, 25, .inr (.inl u24))), (am22, .inl (g.2.1 2, 25, .inr (.inl f22))), (am23, .inl (g.2.1 2, 5, .inr (.inl f23))), (am24, .inl (g.2.1 2, 24, .inr (.inl f24))), (am25, .inl (g.2.1 0, 25, .inl f25))] ++ pl) _ := hP
  have hD : va_D _ ([(r21, .inr (9, [.ref am21, .ref am22, .ref am23, .ref am24, .ref am25, .int (nI 136), .int (nI 32), .int (nI 31)])), (am21, .inl (g.2.1 2, 25, .inr (.inl u24))), (am22, .inl (g.2.1 2, 25, .inr (.inl f22))), (am23, .inl (g.2.1 2, 5, .inr (.inl f23))), (am24, .inl (g.2.1 2, 24, .inr (.inl f24))), (am25, .inl (g.2.1 0, 25, .inl f25))] ++ pl) := hD
  refine W.widen (k := 0) (n := 0) (by omega) (by omega) ?_
  refine lv_aload_n hx hb dMH_ball_20 rfl (lv_at hl 0 rfl) ?_
  refine ty_get (ci := 12) (C := "LatticeKeysModel$Hands") (TT := T_MH) (N := 31) (kd := (46, 0)) hx hb hts (wg_ft i_MH) hown hK hO k_h0 (nxg (clo_cons (clo_cons (clo_cons (clo_cons (clo_cons (clo_cons hc0 kr21 (by decide)) km21 (by decide)) km22 (by decide)) km23 (by decide)) km24 (by decide)) km25 (by decide)) k_h0 rfl) hP (fun _ h9 => h9) rfl 0 (by decide) (hts _ (wg_t kw_1432)) (fun _ h9 => h9) (cd := (3, 20, 0)) rfl dMH_ball_21 (fun v24 hv24 => ?_)
  obtain ⟨r23, rfl, kr23⟩ := (show ∃ r : Nat, v24 = .ref r ∧ T r = some (20, 0) from hv24)
  obtain rfl : r21 = r23 := hU _ _ _ (by decide) kr21 kr23
  refine mp_v (cx := [(r21, .inr (9, [.ref am21, .ref am22, .ref am23, .ref am24, .ref am25, .int (nI 136), .int (nI 32), .int (nI 31)])), (am21, .inl (g.2.1 2, 25, .inr (.inl u24))), (am22, .inl (g.2.1 2, 25, .inr (.inl f22))), (am23, .inl (g.2.1 2, 5, .inr (.inl f23))), (am24, .inl (g.2.1 2, 24, .inr (.inl f24))), (am25, .inl (g.2.1 0, 25, .inl f25))]) (wr := []) hP hD hS hA [0, 1, 2, 3, 4, 5] [] rfl rfl rfl (by decide) (va_runV (As := []) (rest := []) F (x_MS_end l g _ T (am25 :: (am24 :: (am23 :: (am22 :: (am21 :: (r21 :: xs)))))) pl hO hU  r21 am21 am22 am23 am24 am25 136 32 (nI 31) u24 f22 f23 f24 f25 (by omega) (by omega)) (cwV 0 hts (wg_app (wg_c kw_1721 (wg_c kw_1634 (wg_c kw_1635 (wg_c kw_10 wg_n)))) kw_1636) rfl rfl rfl (by decide +kernel) ⟨by decide, by decide⟩) (pp_V (en_ok g) (q0 := 0) hK hP hD hS hA hE [0, 1, 2, 3, 4, 5] rfl rfl rfl rfl) rfl rfl hl.1 rfl (lv_room (Nat.le_of_ble_eq_true rfl)) dMH_ball_24 ⟨by omega, by omega⟩) (fun  u25 H locs hu23 hP hD hS => ?_)
  obtain ⟨u26, pl⟩ := u25
  obtain ⟨hq23, hO⟩ := hu23
  obtain ⟨f26, f27, f28, f29⟩ := u26
  have hP : va_P g.1 vcl ([(r21, .inr (9, [.ref am21, .ref am22, .ref am23, .ref am24, .ref am25, .int (nI 136), .int (nI 0), .int (nI 31)])), (am21, .inl (g.2.1 2, 25, .inr (.inl f26))), (am22, .inl (g.2.1 2, 25, .inr (.inl f27))), (am23, .inl (g.2.1 2, 5, .inr (.inl f28))), (am24, .inl (g.2.1 2, 24, .inr (.inl f24))), (am25, .inl (g.2.1 0, 25, .inl f25))] ++ pl) _ := hP
  have hD : va_D _ ([(r21, .inr (9, [.ref am21, .ref am22, .ref am23, .ref am24, .ref am25, .int (nI 136), .int (nI 0), .int (nI 31)])), (am21, .inl (g.2.1 2, 25, .inr (.inl f26))), (am22, .inl (g.2.1 2, 25, .inr (.inl f27))), (am23, .inl (g.2.1 2, 5, .inr (.inl f28))), (am24, .inl (g.2.1 2, 24, .inr (.inl f24))), (am25, .inl (g.2.1 0, 25, .inl f25))] ++ pl) := hD
  refine W.widen (k := 0) (n := 0) (by omega) (by omega) ?_
  have hz : ∀ j, 9 ≤ j → j < 16 → f29 j = 0 := fun j h8 h9 => ((hq23.2 j (by omega) (by omega)).trans (hq22 j (by omega))).trans (hq21 j (by omega))
  have hs : str f25 f24 f29 136 136 0 f26 := ⟨1, by omega, by omega, hq23.1⟩
  obtain ⟨mB, hm0, hmP⟩ := blk_back f25 f24 f29
  refine lv_lconst (v := 0) hx hb dMH_ball_27 (by decide) ?_
  refine lv_lstore_n (lv' := [(2, .long 0), (0, .ref h0), (1, .ref b)]) hx hb dMH_ball_28 rfl hl (by decide) rfl (fun ls hl => ?_)
  refine lv_iconst (v := nI 0) hx hb dMH_ball_29 (by decide) ?_
  refine lv_istore (lv' := [(4, .int (nI 0)), (2, .long 0), (0, .ref h0), (1, .ref b)]) hx hb dMH_ball_30 hl (by decide) rfl (fun ls hl => ?_)
  have lp21 : ∀ (n21 : Nat) (i21 : Nat) (y21 : Int64) (ps22 : Nat) (f30 : Nat → Int64) (f31 : Nat → Int64) (f32 : Nat → Int64) (pl : va_W) (ls : Array Slot) (H : Heap) (locs : List Loc), n21 + i21 = 8 → (ps22 ≤ 136) → (∃ t, str f25 f24 f29 136 t ps22 f30) → lv_has ls 6 [(4, .int (nI i21)), (2, .long y21), (0, .ref h0)] → okx g T (am25 :: (am24 :: (am23 :: (am22 :: (am21 :: (r21 :: xs)))))) pl → va_P g.1 vcl ([(r21, .inr (9, [.ref am21, .ref am22, .ref am23, .ref am24, .ref am25, .int (nI 136), .int (nI ps22), .int (nI 31)])), (am21, .inl (g.2.1 2, 25, .inr (.inl f30))), (am22, .inl (g.2.1 2, 25, .inr (.inl f31))), (am23, .inl (g.2.1 2, 5, .inr (.inl f32))), (am24, .inl (g.2.1 2, 24, .inr (.inl f24))), (am25, .inl (g.2.1 0, 25, .inl f25))] ++ pl) H → va_D A ([(r21, .inr (9, [.ref am21, .ref am22, .ref am23, .ref am24, .ref am25, .int (nI 136), .int (nI ps22), .int (nI 31)])), (am21, .inl (g.2.1 2, 25, .inr (.inl f30))), (am22, .inl (g.2.1 2, 25, .inr (.inl f31))), (am23, .inl (g.2.1 2, 5, .inr (.inl f32))), (am24, .inl (g.2.1 2, 24, .inr (.inl f24))), (am25, .inl (g.2.1 0, 25, .inl f25))] ++ pl) → va_S A s.heap H locs → W p l e ({ frames := 3, cells := 0, slots := 0, locals := 67 } : Room) s m args below meth c H locs 0 0 (MQ below (va_Qv (fun (u : va_W) => (True) ∧ okx g T xs u) (po g.1 vcl A (fun (u : va_W) => [] ++ u)) A) args s 0 0 A) (F0 m 32 ls []) := by
    intro n21
    induction n21 with
    | zero =>
      intro i21 y21 ps22 f30 f31 f32 pl ls H locs hm21 hi21 hst hl hO hP hD hS
      obtain ⟨t21, hs⟩ := hst
      refine lv_iload hx hb dMH_ball_32 (lv_at hl 0 rfl) ?_
      refine lv_bipush (v := nI 8) hx hb dMH_ball_34 (by decide) ?_
      refine mi_ge (tgt := 62) hx hb dMH_ball_36 (by decide) (by omega) (by omega) (fun h21 => ?_) (fun h21 => absurd h21 (by omega))
      refine lv_iconst (v := nI 0) hx hb dMH_ball_62 (by decide) ?_
      refine lv_istore (lv' := [(4, .int (nI 0)), (2, .long y21), (0, .ref h0)]) hx hb dMH_ball_63 hl (by decide) rfl (fun ls hl => ?_)
      have lp22 : ∀ (n22 : Nat) (i22 : Nat) (pl : va_W) (ls : Array Slot) (H : Heap) (locs : List Loc), n22 + i22 = 256 → lv_has ls 6 [(4, .int (nI i22)), (2, .long y21), (0, .ref h0)] → okx g T (am25 :: (am24 :: (am23 :: (am22 :: (am21 :: (r21 :: xs)))))) pl → va_P g.1 vcl ([(r21, .inr (9, [.ref am21, .ref am22, .ref am23, .ref am24, .ref am25, .int (nI 136), .int (nI ps22), .int (nI 31)])), (am21, .inl (g.2.1 2, 25, .inr (.inl f30))), (am22, .inl (g.2.1 2, 25, .inr (.inl f31))), (am23, .inl (g.2.1 2, 5, .inr (.inl f32))), (am24, .inl (g.2.1 2, 24, .inr (.inl f24))), (am25, .inl (g.2.1 0, 25, .inl f25))] ++ pl) H → va_D A ([(r21, .inr (9, [.ref am21, .ref am22, .ref am23, .ref am24, .ref am25, .int (nI 136), .int (nI ps22), .int (nI 31)])), (am21, .inl (g.2.1 2, 25, .inr (.inl f30))), (am22, .inl (g.2.1 2, 25, .inr (.inl f31))), (am23, .inl (g.2.1 2, 5, .inr (.inl f32))), (am24, .inl (g.2.1 2, 24, .inr (.inl f24))), (am25, .inl (g.2.1 0, 25, .inl f25))] ++ pl) → va_S A s.heap H locs → W p l e ({ frames := 3, cells := 0, slots := 0, locals := 67 } : Room) s m args below meth c H locs 0 0 (MQ below (va_Qv (fun (u : va_W) => (True) ∧ okx g T xs u) (po g.1 vcl A (fun (u : va_W) => [] ++ u)) A) args s 0 0 A) (F0 m 65 ls []) := by
        intro n22
        induction n22 with
        | zero =>
          intro i22 pl ls H locs hm22  hl hO hP hD hS
          refine lv_iload hx hb dMH_ball_65 (lv_at hl 0 rfl) ?_
          refine lv_sipush (v := nI 256) hx hb dMH_ball_67 (by decide) ?_
          refine mi_ge (tgt := 87) hx hb dMH_ball_70 (by decide) (by omega) (by omega) (fun h22 => ?_) (fun h22 => absurd h22 (by omega))
          refine lv_sipush (v := nI 256) hx hb dMH_ball_87 (by decide) ?_
          refine va_gets hx hb (hE.2.1 26 _ rfl).1 hS hown (hts _ (wg_t kw_1716)) (fun _ h9 => h9) dMH_ball_90 ?_
          refine lv_aload_n hx hb dMH_ball_93 rfl (lv_at hl 2 rfl) ?_
          refine ty_get (ci := 12) (C := "LatticeKeysModel$Hands") (TT := T_MH) (N := 31) (kd := (46, 0)) hx hb hts (wg_ft i_MH) hown hK hO k_h0 (nxg (clo_cons (clo_cons (clo_cons (clo_cons (clo_cons (clo_cons hc0 kr21 (by decide)) km21 (by decide)) km22 (by decide)) km23 (by decide)) km24 (by decide)) km25 (by decide)) k_h0 rfl) hP (fun _ h9 => h9) rfl 23 (by decide) (hts _ (wg_t kw_1455)) (fun _ h9 => h9) (cd := (1, 0, 0)) rfl dMH_ball_94 (fun v25 hv25 => ?_)
          obtain rfl := (show v25 = .int (nI 0) from hv25)
          refine va_ti (v := .int (nI 39)) hx hb (hE.2.1 26 _ rfl).2 hS (vp_in_nI (by decide) (by decide)) (by decide +kernel) dMH_ball_97 ?_
          refine mi_isub hx hb dMH_ball_98 (by omega) ?_
          refine mi_as (show nI (256 - 39) = nI 217 from rfl) ?_
          refine lv_istore (lv' := [(4, .int (nI 217)), (2, .long y21), (0, .ref h0)]) hx hb dMH_ball_99 hl (by decide) rfl (fun ls hl => ?_)
          have lp23 : ∀ (n23 : Nat) (i23 : Nat) (ps23 : Nat) (f33 : Nat → Int64) (f34 : Nat → Int64) (f35 : Nat → Int64) (pl : va_W) (ls : Array Slot) (H : Heap) (locs : List Loc), n23 + i23 = 256 → (ps23 ≤ 136) → (217 ≤ i23) → (∃ t, str f25 f24 f29 136 t ps23 f33) → lv_has ls 6 [(4, .int (nI i23)), (2, .long y21), (0, .ref h0)] → okx g T (am25 :: (am24 :: (am23 :: (am22 :: (am21 :: (r21 :: xs)))))) pl → va_P g.1 vcl ([(r21, .inr (9, [.ref am21, .ref am22, .ref am23, .ref am24, .ref am25, .int (nI 136), .int (nI ps23), .int (nI 31)])), (am21, .inl (g.2.1 2, 25, .inr (.inl f33))), (am22, .inl (g.2.1 2, 25, .inr (.inl f34))), (am23, .inl (g.2.1 2, 5, .inr (.inl f35))), (am24, .inl (g.2.1 2, 24, .inr (.inl f24))), (am25, .inl (g.2.1 0, 25, .inl f25))] ++ pl) H → va_D A ([(r21, .inr (9, [.ref am21, .ref am22, .ref am23, .ref am24, .ref am25, .int (nI 136), .int (nI ps23), .int (nI 31)])), (am21, .inl (g.2.1 2, 25, .inr (.inl f33))), (am22, .inl (g.2.1 2, 25, .inr (.inl f34))), (am23, .inl (g.2.1 2, 5, .inr (.inl f35))), (am24, .inl (g.2.1 2, 24, .inr (.inl f24))), (am25, .inl (g.2.1 0, 25, .inl f25))] ++ pl) → va_S A s.heap H locs → W p l e ({ frames := 3, cells := 0, slots := 0, locals := 67 } : Room) s m args below meth c H locs 0 0 (MQ below (va_Qv (fun (u : va_W) => (True) ∧ okx g T xs u) (po g.1 vcl A (fun (u : va_W) => [] ++ u)) A) args s 0 0 A) (F0 m 101 ls []) := by
            intro n23
            induction n23 with
            | zero =>
              intro i23 ps23 f33 f34 f35 pl ls H locs hm23 hi23 hi24 hst hl hO hP hD hS
              obtain ⟨t22, hs⟩ := hst
              refine lv_iload hx hb dMH_ball_101 (lv_at hl 0 rfl) ?_
              refine lv_sipush (v := nI 256) hx hb dMH_ball_103 (by decide) ?_
              refine mi_ge (tgt := 193) hx hb dMH_ball_106 (by decide) (by omega) (by omega) (fun h23 => ?_) (fun h23 => absurd h23 (by omega))
              have hO := close1 (e := .inl (g.2.1 0, 25, .inl f25)) hO km25 ⟨_, rfl⟩
              have hO := close1 (e := .inl (g.2.1 2, 24, .inr (.inl f24))) hO km24 ⟨_, rfl⟩
              have hO := close1 (e := .inl (g.2.1 2, 5, .inr (.inl f35))) hO km23 ⟨_, rfl⟩
              have hO := close1 (e := .inl (g.2.1 2, 25, .inr (.inl f34))) hO km22 ⟨_, rfl⟩
              have hO := close1 (e := .inl (g.2.1 2, 25, .inr (.inl f33))) hO km21 ⟨_, rfl⟩
              have hO := close1 (e := .inr (9, [.ref am21, .ref am22, .ref am23, .ref am24, .ref am25, .int (nI 136), .int (nI ps23), .int (nI 31)])) hO kr21 ⟨_, _, _, _, _, _, _, _, rfl, km21, km22, km23, km24, km25, by omega, by omega, by omega⟩
              have hO : okx g T xs ((r21, .inr (9, [.ref am21, .ref am22, .ref am23, .ref am24, .ref am25, .int (nI 136), .int (nI ps23), .int (nI 31)])) :: (am21, .inl (g.2.1 2, 25, .inr (.inl f33))) :: (am22, .inl (g.2.1 2, 25, .inr (.inl f34))) :: (am23, .inl (g.2.1 2, 5, .inr (.inl f35))) :: (am24, .inl (g.2.1 2, 24, .inr (.inl f24))) :: (am25, .inl (g.2.1 0, 25, .inl f25)) :: pl) := hO
              have hP : va_P g.1 vcl ([] ++ ((r21, .inr (9, [.ref am21, .ref am22, .ref am23, .ref am24, .ref am25, .int (nI 136), .int (nI ps23), .int (nI 31)])) :: (am21, .inl (g.2.1 2, 25, .inr (.inl f33))) :: (am22, .inl (g.2.1 2, 25, .inr (.inl f34))) :: (am23, .inl (g.2.1 2, 5, .inr (.inl f35))) :: (am24, .inl (g.2.1 2, 24, .inr (.inl f24))) :: (am25, .inl (g.2.1 0, 25, .inl f25)) :: pl)) _ := hP
              have hD : va_D _ ([] ++ ((r21, .inr (9, [.ref am21, .ref am22, .ref am23, .ref am24, .ref am25, .int (nI 136), .int (nI ps23), .int (nI 31)])) :: (am21, .inl (g.2.1 2, 25, .inr (.inl f33))) :: (am22, .inl (g.2.1 2, 25, .inr (.inl f34))) :: (am23, .inl (g.2.1 2, 5, .inr (.inl f35))) :: (am24, .inl (g.2.1 2, 24, .inr (.inl f24))) :: (am25, .inl (g.2.1 0, 25, .inl f25)) :: pl)) := hD
              generalize ((r21, .inr (9, [.ref am21, .ref am22, .ref am23, .ref am24, .ref am25, .int (nI 136), .int (nI ps23), .int (nI 31)])) :: (am21, .inl (g.2.1 2, 25, .inr (.inl f33))) :: (am22, .inl (g.2.1 2, 25, .inr (.inl f34))) :: (am23, .inl (g.2.1 2, 5, .inr (.inl f35))) :: (am24, .inl (g.2.1 2, 24, .inr (.inl f24))) :: (am25, .inl (g.2.1 0, 25, .inl f25)) :: pl) = pl at hO hP hD
              exact mp_vret hx hb hr hlk hP hD hS pl ⟨trivial, hO⟩ [] rfl rfl rfl (by omega) (by omega) dMH_ball_193
            | succ n23 ih23 =>
              intro i23 ps23 f33 f34 f35 pl ls H locs hm23 hi23 hi24 hst hl hO hP hD hS
              obtain ⟨t22, hs⟩ := hst
              refine lv_iload hx hb dMH_ball_101 (lv_at hl 0 rfl) ?_
              refine lv_sipush (v := nI 256) hx hb dMH_ball_103 (by decide) ?_
              refine mi_ge (tgt := 193) hx hb dMH_ball_106 (by decide) (by omega) (by omega) (fun h24 => absurd h24 (by omega)) (fun h24 => ?_)
              refine lv_aload_n hx hb dMH_ball_109 rfl (lv_at hl 2 rfl) ?_
              refine ty_get (ci := 12) (C := "LatticeKeysModel$Hands") (TT := T_MH) (N := 31) (kd := (46, 0)) hx hb hts (wg_ft i_MH) hown hK hO k_h0 (nxg (clo_cons (clo_cons (clo_cons (clo_cons (clo_cons (clo_cons hc0 kr21 (by decide)) km21 (by decide)) km22 (by decide)) km23 (by decide)) km24 (by decide)) km25 (by decide)) k_h0 rfl) hP (fun _ h9 => h9) rfl 0 (by decide) (hts _ (wg_t kw_1432)) (fun _ h9 => h9) (cd := (3, 20, 0)) rfl dMH_ball_110 (fun v26 hv26 => ?_)
              obtain ⟨r24, rfl, kr24⟩ := (show ∃ r : Nat, v26 = .ref r ∧ T r = some (20, 0) from hv26)
              obtain rfl : r21 = r24 := hU _ _ _ (by decide) kr21 kr24
              refine mp_i (cx := [(r21, .inr (9, [.ref am21, .ref am22, .ref am23, .ref am24, .ref am25, .int (nI 136), .int (nI ps23), .int (nI 31)])), (am21, .inl (g.2.1 2, 25, .inr (.inl f33))), (am22, .inl (g.2.1 2, 25, .inr (.inl f34))), (am23, .inl (g.2.1 2, 5, .inr (.inl f35))), (am24, .inl (g.2.1 2, 24, .inr (.inl f24))), (am25, .inl (g.2.1 0, 25, .inl f25))]) (wr := []) hP hD hS hA [0, 1, 2, 3, 4, 5] [] rfl rfl rfl (by decide) (va_runV (As := []) (rest := []) F (x_MS_next l g _ T (am25 :: (am24 :: (am23 :: (am22 :: (am21 :: (r21 :: xs)))))) pl hO hU  r21 am21 am22 am23 am24 am25 136 ps23 (nI 31) f33 f34 f35 f24 f25 (by omega) (by omega)) (cwV 0 hts (wg_app (wg_c kw_1728 (wg_c kw_1642 (wg_c kw_1643 (wg_c kw_10 wg_n)))) kw_1644) rfl rfl rfl (by decide +kernel) ⟨by decide, by decide⟩) (pp_V (en_ok g) (q0 := 0) hK hP hD hS hA hE [0, 1, 2, 3, 4, 5] rfl rfl rfl rfl) rfl rfl hl.1 rfl (lv_room (Nat.le_of_ble_eq_true rfl)) dMH_ball_113 ⟨by omega, by omega⟩) (fun r25 u27 H locs hu24 hP hD hS => ?_)
              obtain ⟨u28, pl⟩ := u27
              obtain ⟨hq24, hO⟩ := hu24
              obtain ⟨ps24, f36, f37, f38⟩ := u28
              have hP : va_P g.1 vcl ([(r21, .inr (9, [.ref am21, .ref am22, .ref am23, .ref am24, .ref am25, .int (nI 136), .int (nI ps24), .int (nI 31)])), (am21, .inl (g.2.1 2, 25, .inr (.inl f36))), (am22, .inl (g.2.1 2, 25, .inr (.inl f37))), (am23, .inl (g.2.1 2, 5, .inr (.inl f38))), (am24, .inl (g.2.1 2, 24, .inr (.inl f24))), (am25, .inl (g.2.1 0, 25, .inl f25))] ++ pl) _ := hP
              have hD : va_D _ ([(r21, .inr (9, [.ref am21, .ref am22, .ref am23, .ref am24, .ref am25, .int (nI 136), .int (nI ps24), .int (nI 31)])), (am21, .inl (g.2.1 2, 25, .inr (.inl f36))), (am22, .inl (g.2.1 2, 25, .inr (.inl f37))), (am23, .inl (g.2.1 2, 5, .inr (.inl f38))), (am24, .inl (g.2.1 2, 24, .inr (.inl f24))), (am25, .inl (g.2.1 0, 25, .inl f25))] ++ pl) := hD
              obtain ⟨hn21, hl21, z21, hz21, rfl, h0z21⟩ := hq24
              have hl21 : ps24 ≤ 136 := hl21
              have hs := str_next (by decide) hs hn21
              refine W.widen (k := 0) (n := 0) (by omega) (by omega) ?_
              refine lv_istore (lv' := [(5, .int (nI z21)), (4, .int (nI i23)), (2, .long y21), (0, .ref h0)]) hx hb dMH_ball_116 hl (by decide) rfl (fun ls hl => ?_)
              have lp24 : ∀ (d21 : Nat) (c21 t23 : Nat) (i24 : Nat) (ps25 : Nat) (f39 f40 f41 : Nat → Int64) (pl : va_W) (ls : Array Slot) (H : Heap) (locs : List Loc), i24 < 256 → t23 + 1 * d21 = c21 * mB * 136 + 72 → str f25 f24 f29 136 t23 ps25 f39 → lv_has ls 6 [(5, .int (nI i24)), (4, .int (nI i23)), (2, .long y21), (0, .ref h0)] → okx g T (am25 :: (am24 :: (am23 :: (am22 :: (am21 :: (r21 :: xs)))))) pl → va_P g.1 vcl ([(r21, .inr (9, [.ref am21, .ref am22, .ref am23, .ref am24, .ref am25, .int (nI 136), .int (nI ps25), .int (nI 31)])), (am21, .inl (g.2.1 2, 25, .inr (.inl f39))), (am22, .inl (g.2.1 2, 25, .inr (.inl f40))), (am23, .inl (g.2.1 2, 5, .inr (.inl f41))), (am24, .inl (g.2.1 2, 24, .inr (.inl f24))), (am25, .inl (g.2.1 0, 25, .inl f25))] ++ pl) H → va_D A ([(r21, .inr (9, [.ref am21, .ref am22, .ref am23, .ref am24, .ref am25, .int (nI 136), .int (nI ps25), .int (nI 31)])), (am21, .inl (g.2.1 2, 25, .inr (.inl f39))), (am22, .inl (g.2.1 2, 25, .inr (.inl f40))), (am23, .inl (g.2.1 2, 5, .inr (.inl f41))), (am24, .inl (g.2.1 2, 24, .inr (.inl f24))), (am25, .inl (g.2.1 0, 25, .inl f25))] ++ pl) → va_S A s.heap H locs → W p l e ({ frames := 3, cells := 0, slots := 0, locals := 67 } : Room) s m args below meth c H locs 0 0 (MQ below (va_Qv (fun (u : va_W) => (True) ∧ okx g T xs u) (po g.1 vcl A (fun (u : va_W) => [] ++ u)) A) args s 0 0 A) (F0 m 118 ls []) := by
                intro d21
                induction d21 with
                | zero =>
                  intro c21 t23 i24 ps25 f39 f40 f41 pl ls H locs hi26 hd21 hs hl hO hP hD hS
                  have hsl := str_le hs
                  refine lv_iload hx hb dMH_ball_118 (lv_at hl 0 rfl) ?_
                  refine lv_iload hx hb dMH_ball_120 (lv_at hl 1 rfl) ?_
                  refine mi_le (tgt := 137) hx hb dMH_ball_122 (by decide) (by omega) (by omega) (fun h25 => ?_) (fun h25 => ?_)
                  · refine lv_aload_n hx hb dMH_ball_137 rfl (lv_at hl 3 rfl) ?_
                    refine ty_get (ci := 12) (C := "LatticeKeysModel$Hands") (TT := T_MH) (N := 31) (kd := (46, 0)) hx hb hts (wg_ft i_MH) hown hK hO k_h0 (nxg (clo_cons (clo_cons (clo_cons (clo_cons (clo_cons (clo_cons hc0 kr21 (by decide)) km21 (by decide)) km22 (by decide)) km23 (by decide)) km24 (by decide)) km25 (by decide)) k_h0 rfl) hP (fun _ h9 => h9) rfl 12 (by decide) (hts _ (wg_t kw_1444)) (fun _ h9 => h9) (cd := (3, 0, 256)) rfl dMH_ball_138 (fun v27 hv27 => ?_)
                    obtain ⟨r26, rfl, kr25⟩ := (show ∃ r : Nat, v27 = .ref r ∧ T r = some (0, 256) from hv27)
                    refine lv_iload hx hb dMH_ball_141 (lv_at hl 1 rfl) ?_
                    refine lv_aload_n hx hb dMH_ball_143 rfl (lv_at hl 3 rfl) ?_
                    refine ty_get (ci := 12) (C := "LatticeKeysModel$Hands") (TT := T_MH) (N := 31) (kd := (46, 0)) hx hb hts (wg_ft i_MH) hown hK hO k_h0 (nxg (clo_cons (clo_cons (clo_cons (clo_cons (clo_cons (clo_cons hc0 kr21 (by decide)) km21 (by decide)) km22 (by decide)) km23 (by decide)) km24 (by decide)) km25 (by decide)) k_h0 rfl) hP (fun _ h9 => h9) rfl 12 (by decide) (hts _ (wg_t kw_1444)) (fun _ h9 => h9) (cd := (3, 0, 256)) rfl dMH_ball_144 (fun v28 hv28 => ?_)
                    obtain ⟨r27, rfl, kr26⟩ := (show ∃ r : Nat, v28 = .ref r ∧ T r = some (0, 256) from hv28)
                    refine lv_iload hx hb dMH_ball_147 (lv_at hl 0 rfl) ?_
                    refine ty_iald hx hb hK hO kr26 (nxg (clo_cons (clo_cons (clo_cons (clo_cons (clo_cons (clo_cons hc0 kr21 (by decide)) km21 (by decide)) km22 (by decide)) km23 (by decide)) km24 (by decide)) km25 (by decide)) kr26 rfl) hP (vp_in_nI (by omega) (by decide)) dMH_ball_149 (fun z22 => ?_)
                    refine ty_iast hx hb hK hO kr25 (nxg (clo_cons (clo_cons (clo_cons (clo_cons (clo_cons (clo_cons hc0 kr21 (by decide)) km21 (by decide)) km22 (by decide)) km23 (by decide)) km24 (by decide)) km25 (by decide)) kr25 rfl) hP hD hS (vp_in_nI (by omega) (by decide)) dMH_ball_150 (fun pl H locs hO hP hD hS => ?_)
                    refine lv_aload_n hx hb dMH_ball_151 rfl (lv_at hl 3 rfl) ?_
                    refine ty_get (ci := 12) (C := "LatticeKeysModel$Hands") (TT := T_MH) (N := 31) (kd := (46, 0)) hx hb hts (wg_ft i_MH) hown hK hO k_h0 (nxg (clo_cons (clo_cons (clo_cons (clo_cons (clo_cons (clo_cons hc0 kr21 (by decide)) km21 (by decide)) km22 (by decide)) km23 (by decide)) km24 (by decide)) km25 (by decide)) k_h0 rfl) hP (fun _ h9 => h9) rfl 12 (by decide) (hts _ (wg_t kw_1444)) (fun _ h9 => h9) (cd := (3, 0, 256)) rfl dMH_ball_152 (fun v29 hv29 => ?_)
                    obtain ⟨r28, rfl, kr27⟩ := (show ∃ r : Nat, v29 = .ref r ∧ T r = some (0, 256) from hv29)
                    refine lv_iload hx hb dMH_ball_155 (lv_at hl 0 rfl) ?_
                    refine lv_lload_n hx hb dMH_ball_157 rfl (lv_at hl 2 rfl) ?_
                    refine lv_iload hx hb dMH_ball_158 (lv_at hl 1 rfl) ?_
                    refine va_gets hx hb (hE.2.1 26 _ rfl).1 hS hown (hts _ (wg_t kw_1716)) (fun _ h9 => h9) dMH_ball_160 ?_
                    refine lv_aload_n hx hb dMH_ball_163 rfl (lv_at hl 3 rfl) ?_
                    refine ty_get (ci := 12) (C := "LatticeKeysModel$Hands") (TT := T_MH) (N := 31) (kd := (46, 0)) hx hb hts (wg_ft i_MH) hown hK hO k_h0 (nxg (clo_cons (clo_cons (clo_cons (clo_cons (clo_cons (clo_cons hc0 kr21 (by decide)) km21 (by decide)) km22 (by decide)) km23 (by decide)) km24 (by decide)) km25 (by decide)) k_h0 rfl) hP (fun _ h9 => h9) rfl 23 (by decide) (hts _ (wg_t kw_1455)) (fun _ h9 => h9) (cd := (1, 0, 0)) rfl dMH_ball_164 (fun v30 hv30 => ?_)
                    obtain rfl := (show v30 = .int (nI 0) from hv30)
                    refine va_ti (v := .int (nI 39)) hx hb (hE.2.1 26 _ rfl).2 hS (vp_in_nI (by decide) (by decide)) (by decide +kernel) dMH_ball_167 ?_
                    refine mi_iadd hx hb dMH_ball_168 ?_
                    refine lv_sipush (v := nI 256) hx hb dMH_ball_169 (by decide) ?_
                    refine lv_isub hx hb dMH_ball_172 ?_
                    refine mi_any (fun z23 => ?_)
                    refine lv_lushr hx hb dMH_ball_173 rfl ?_
                    refine ml_any (fun y22 => ?_)
                    refine lv_lconst (v := 1) hx hb dMH_ball_174 (by decide) ?_
                    refine lv_land hx hb dMH_ball_175 ?_
                    refine lv_lconst (v := 1) hx hb dMH_ball_176 (by decide) ?_
                    refine W.lcmp hx hb dMH_ball_177 ?_
                    refine mi_any (fun z24 => ?_)
                    refine lv_if_ne (tgt := 185) hx hb dMH_ball_178 (by decide) (fun h26 => ?_) (fun h26 => ?_)
                    · refine lv_iconst (v := nI 1) hx hb dMH_ball_185 (by decide) ?_
                      refine ty_iast hx hb hK hO kr27 (nxg (clo_cons (clo_cons (clo_cons (clo_cons (clo_cons (clo_cons hc0 kr21 (by decide)) km21 (by decide)) km22 (by decide)) km23 (by decide)) km24 (by decide)) km25 (by decide)) kr27 rfl) hP hD hS (vp_in_nI (by omega) (by decide)) dMH_ball_186 (fun pl H locs hO hP hD hS => ?_)
                      refine mi_iinc (k := 1) (x := i23) (d := 1) (y := i23 + 1) (lv' := [(4, .int (nI (i23 + 1))), (5, .int (nI i24)), (2, .long y21), (0, .ref h0)]) hx hb dMH_ball_187 hl rfl (by decide) rfl (by decide) rfl (fun ls hl => ?_)
                      refine lv_goto (tgt := 101) hx hb dMH_ball_190 (by decide) ?_
                      exact ih23 (i23 + 1) ps25 f39 f40 f41 pl ls H locs (by omega) (by omega) (by omega) ⟨_, hs⟩ (lv_sub hl [0, 2, 3] rfl) hO hP hD hS
                    · refine lv_iconst (v := (-1)) hx hb dMH_ball_181 (by decide) ?_
                      refine lv_goto (tgt := 186) hx hb dMH_ball_182 (by decide) ?_
                      refine ty_iast hx hb hK hO kr27 (nxg (clo_cons (clo_cons (clo_cons (clo_cons (clo_cons (clo_cons hc0 kr21 (by decide)) km21 (by decide)) km22 (by decide)) km23 (by decide)) km24 (by decide)) km25 (by decide)) kr27 rfl) hP hD hS (vp_in_nI (by omega) (by decide)) dMH_ball_186 (fun pl H locs hO hP hD hS => ?_)
                      refine mi_iinc (k := 1) (x := i23) (d := 1) (y := i23 + 1) (lv' := [(4, .int (nI (i23 + 1))), (5, .int (nI i24)), (2, .long y21), (0, .ref h0)]) hx hb dMH_ball_187 hl rfl (by decide) rfl (by decide) rfl (fun ls hl => ?_)
                      refine lv_goto (tgt := 101) hx hb dMH_ball_190 (by decide) ?_
                      exact ih23 (i23 + 1) ps25 f39 f40 f41 pl ls H locs (by omega) (by omega) (by omega) ⟨_, hs⟩ (lv_sub hl [0, 2, 3] rfl) hO hP hD hS
                  · refine lv_aload_n hx hb dMH_ball_125 rfl (lv_at hl 3 rfl) ?_
                    refine ty_get (ci := 12) (C := "LatticeKeysModel$Hands") (TT := T_MH) (N := 31) (kd := (46, 0)) hx hb hts (wg_ft i_MH) hown hK hO k_h0 (nxg (clo_cons (clo_cons (clo_cons (clo_cons (clo_cons (clo_cons hc0 kr21 (by decide)) km21 (by decide)) km22 (by decide)) km23 (by decide)) km24 (by decide)) km25 (by decide)) k_h0 rfl) hP (fun _ h9 => h9) rfl 0 (by decide) (hts _ (wg_t kw_1432)) (fun _ h9 => h9) (cd := (3, 20, 0)) rfl dMH_ball_126 (fun v31 hv31 => ?_)
                    obtain ⟨r29, rfl, kr28⟩ := (show ∃ r : Nat, v31 = .ref r ∧ T r = some (20, 0) from hv31)
                    obtain rfl : r21 = r29 := hU _ _ _ (by decide) kr21 kr28
                    refine mp_i (cx := [(r21, .inr (9, [.ref am21, .ref am22, .ref am23, .ref am24, .ref am25, .int (nI 136), .int (nI ps25), .int (nI 31)])), (am21, .inl (g.2.1 2, 25, .inr (.inl f39))), (am22, .inl (g.2.1 2, 25, .inr (.inl f40))), (am23, .inl (g.2.1 2, 5, .inr (.inl f41))), (am24, .inl (g.2.1 2, 24, .inr (.inl f24))), (am25, .inl (g.2.1 0, 25, .inl f25))]) (wr := []) hP hD hS hA [0, 1, 2, 3, 4, 5] [] rfl rfl rfl (by decide) (va_runV (As := []) (rest := []) F (x_MS_next l g _ T (am25 :: (am24 :: (am23 :: (am22 :: (am21 :: (r21 :: xs)))))) pl hO hU  r21 am21 am22 am23 am24 am25 136 ps25 (nI 31) f39 f40 f41 f24 f25 (by omega) (by omega)) (cwV 0 hts (wg_app (wg_c kw_1728 (wg_c kw_1642 (wg_c kw_1643 (wg_c kw_10 wg_n)))) kw_1644) rfl rfl rfl (by decide +kernel) ⟨by decide, by decide⟩) (pp_V (en_ok g) (q0 := 0) hK hP hD hS hA hE [0, 1, 2, 3, 4, 5] rfl rfl rfl rfl) rfl rfl hl.1 rfl (lv_room (Nat.le_of_ble_eq_true rfl)) dMH_ball_129 ⟨by omega, by omega⟩) (fun r30 u29 H locs hu25 hP hD hS => ?_)
                    obtain ⟨u30, pl⟩ := u29
                    obtain ⟨hq25, hO⟩ := hu25
                    obtain ⟨ps26, f42, f43, f44⟩ := u30
                    have hP : va_P g.1 vcl ([(r21, .inr (9, [.ref am21, .ref am22, .ref am23, .ref am24, .ref am25, .int (nI 136), .int (nI ps26), .int (nI 31)])), (am21, .inl (g.2.1 2, 25, .inr (.inl f42))), (am22, .inl (g.2.1 2, 25, .inr (.inl f43))), (am23, .inl (g.2.1 2, 5, .inr (.inl f44))), (am24, .inl (g.2.1 2, 24, .inr (.inl f24))), (am25, .inl (g.2.1 0, 25, .inl f25))] ++ pl) _ := hP
                    have hD : va_D _ ([(r21, .inr (9, [.ref am21, .ref am22, .ref am23, .ref am24, .ref am25, .int (nI 136), .int (nI ps26), .int (nI 31)])), (am21, .inl (g.2.1 2, 25, .inr (.inl f42))), (am22, .inl (g.2.1 2, 25, .inr (.inl f43))), (am23, .inl (g.2.1 2, 5, .inr (.inl f44))), (am24, .inl (g.2.1 2, 24, .inr (.inl f24))), (am25, .inl (g.2.1 0, 25, .inl f25))] ++ pl) := hD
                    obtain ⟨hn22, hl22, z25, hz22, rfl, h0z22⟩ := hq25
                    have hl22 : ps26 ≤ 136 := hl22
                    have hzzz25 : z25 = 0 := str_zero (q := 72) (hmP c21) hs hn22 (by omega) (by decide) (by decide) (hz 9 (by decide) (by decide)) (by decide) h0z22
                    have hs := str_next (by decide) hs hn22
                    refine W.widen (k := 0) (n := 0) (by omega) (by omega) ?_
                    refine lv_istore (lv' := [(5, .int (nI z25)), (4, .int (nI i23)), (2, .long y21), (0, .ref h0)]) hx hb dMH_ball_132 hl (by decide) rfl (fun ls hl => ?_)
                    refine lv_goto (tgt := 118) hx hb dMH_ball_134 (by decide) ?_
                    refine lv_iload hx hb dMH_ball_118 (lv_at hl 0 rfl) ?_
                    refine lv_iload hx hb dMH_ball_120 (lv_at hl 1 rfl) ?_
                    refine mi_le (tgt := 137) hx hb dMH_ball_122 (by decide) (by omega) (by omega) (fun h27 => ?_) (fun h27 => absurd h27 (by omega))
                    refine lv_aload_n hx hb dMH_ball_137 rfl (lv_at hl 3 rfl) ?_
                    refine ty_get (ci := 12) (C := "LatticeKeysModel$Hands") (TT := T_MH) (N := 31) (kd := (46, 0)) hx hb hts (wg_ft i_MH) hown hK hO k_h0 (nxg (clo_cons (clo_cons (clo_cons (clo_cons (clo_cons (clo_cons hc0 kr21 (by decide)) km21 (by decide)) km22 (by decide)) km23 (by decide)) km24 (by decide)) km25 (by decide)) k_h0 rfl) hP (fun _ h9 => h9) rfl 12 (by decide) (hts _ (wg_t kw_1444)) (fun _ h9 => h9) (cd := (3, 0, 256)) rfl dMH_ball_138 (fun v32 hv32 => ?_)
                    obtain ⟨r31, rfl, kr29⟩ := (show ∃ r : Nat, v32 = .ref r ∧ T r = some (0, 256) from hv32)
                    refine lv_iload hx hb dMH_ball_141 (lv_at hl 1 rfl) ?_
                    refine lv_aload_n hx hb dMH_ball_143 rfl (lv_at hl 3 rfl) ?_
                    refine ty_get (ci := 12) (C := "LatticeKeysModel$Hands") (TT := T_MH) (N := 31) (kd := (46, 0)) hx hb hts (wg_ft i_MH) hown hK hO k_h0 (nxg (clo_cons (clo_cons (clo_cons (clo_cons (clo_cons (clo_cons hc0 kr21 (by decide)) km21 (by decide)) km22 (by decide)) km23 (by decide)) km24 (by decide)) km25 (by decide)) k_h0 rfl) hP (fun _ h9 => h9) rfl 12 (by decide) (hts _ (wg_t kw_1444)) (fun _ h9 => h9) (cd := (3, 0, 256)) rfl dMH_ball_144 (fun v33 hv33 => ?_)
                    obtain ⟨r32, rfl, kr30⟩ := (show ∃ r : Nat, v33 = .ref r ∧ T r = some (0, 256) from hv33)
                    refine lv_iload hx hb dMH_ball_147 (lv_at hl 0 rfl) ?_
                    refine ty_iald hx hb hK hO kr30 (nxg (clo_cons (clo_cons (clo_cons (clo_cons (clo_cons (clo_cons hc0 kr21 (by decide)) km21 (by decide)) km22 (by decide)) km23 (by decide)) km24 (by decide)) km25 (by decide)) kr30 rfl) hP (vp_in_nI (by omega) (by decide)) dMH_ball_149 (fun z26 => ?_)
                    refine ty_iast hx hb hK hO kr29 (nxg (clo_cons (clo_cons (clo_cons (clo_cons (clo_cons (clo_cons hc0 kr21 (by decide)) km21 (by decide)) km22 (by decide)) km23 (by decide)) km24 (by decide)) km25 (by decide)) kr29 rfl) hP hD hS (vp_in_nI (by omega) (by decide)) dMH_ball_150 (fun pl H locs hO hP hD hS => ?_)
                    refine lv_aload_n hx hb dMH_ball_151 rfl (lv_at hl 3 rfl) ?_
                    refine ty_get (ci := 12) (C := "LatticeKeysModel$Hands") (TT := T_MH) (N := 31) (kd := (46, 0)) hx hb hts (wg_ft i_MH) hown hK hO k_h0 (nxg (clo_cons (clo_cons (clo_cons (clo_cons (clo_cons (clo_cons hc0 kr21 (by decide)) km21 (by decide)) km22 (by decide)) km23 (by decide)) km24 (by decide)) km25 (by decide)) k_h0 rfl) hP (fun _ h9 => h9) rfl 12 (by decide) (hts _ (wg_t kw_1444)) (fun _ h9 => h9) (cd := (3, 0, 256)) rfl dMH_ball_152 (fun v34 hv34 => ?_)
                    obtain ⟨r33, rfl, kr31⟩ := (show ∃ r : Nat, v34 = .ref r ∧ T r = some (0, 256) from hv34)
                    refine lv_iload hx hb dMH_ball_155 (lv_at hl 0 rfl) ?_
                    refine lv_lload_n hx hb dMH_ball_157 rfl (lv_at hl 2 rfl) ?_
                    refine lv_iload hx hb dMH_ball_158 (lv_at hl 1 rfl) ?_
                    refine va_gets hx hb (hE.2.1 26 _ rfl).1 hS hown (hts _ (wg_t kw_1716)) (fun _ h9 => h9) dMH_ball_160 ?_
                    refine lv_aload_n hx hb dMH_ball_163 rfl (lv_at hl 3 rfl) ?_
                    refine ty_get (ci := 12) (C := "LatticeKeysModel$Hands") (TT := T_MH) (N := 31) (kd := (46, 0)) hx hb hts (wg_ft i_MH) hown hK hO k_h0 (nxg (clo_cons (clo_cons (clo_cons (clo_cons (clo_cons (clo_cons hc0 kr21 (by decide)) km21 (by decide)) km22 (by decide)) km23 (by decide)) km24 (by decide)) km25 (by decide)) k_h0 rfl) hP (fun _ h9 => h9) rfl 23 (by decide) (hts _ (wg_t kw_1455)) (fun _ h9 => h9) (cd := (1, 0, 0)) rfl dMH_ball_164 (fun v35 hv35 => ?_)
                    obtain rfl := (show v35 = .int (nI 0) from hv35)
                    refine va_ti (v := .int (nI 39)) hx hb (hE.2.1 26 _ rfl).2 hS (vp_in_nI (by decide) (by decide)) (by decide +kernel) dMH_ball_167 ?_
                    refine mi_iadd hx hb dMH_ball_168 ?_
                    refine lv_sipush (v := nI 256) hx hb dMH_ball_169 (by decide) ?_
                    refine lv_isub hx hb dMH_ball_172 ?_
                    refine mi_any (fun z27 => ?_)
                    refine lv_lushr hx hb dMH_ball_173 rfl ?_
                    refine ml_any (fun y23 => ?_)
                    refine lv_lconst (v := 1) hx hb dMH_ball_174 (by decide) ?_
                    refine lv_land hx hb dMH_ball_175 ?_
                    refine lv_lconst (v := 1) hx hb dMH_ball_176 (by decide) ?_
                    refine W.lcmp hx hb dMH_ball_177 ?_
                    refine mi_any (fun z28 => ?_)
                    refine lv_if_ne (tgt := 185) hx hb dMH_ball_178 (by decide) (fun h28 => ?_) (fun h28 => ?_)
                    · refine lv_iconst (v := nI 1) hx hb dMH_ball_185 (by decide) ?_
                      refine ty_iast hx hb hK hO kr31 (nxg (clo_cons (clo_cons (clo_cons (clo_cons (clo_cons (clo_cons hc0 kr21 (by decide)) km21 (by decide)) km22 (by decide)) km23 (by decide)) km24 (by decide)) km25 (by decide)) kr31 rfl) hP hD hS (vp_in_nI (by omega) (by decide)) dMH_ball_186 (fun pl H locs hO hP hD hS => ?_)
                      refine mi_iinc (k := 1) (x := i23) (d := 1) (y := i23 + 1) (lv' := [(4, .int (nI (i23 + 1))), (5, .int (nI z25)), (2, .long y21), (0, .ref h0)]) hx hb dMH_ball_187 hl rfl (by decide) rfl (by decide) rfl (fun ls hl => ?_)
                      refine lv_goto (tgt := 101) hx hb dMH_ball_190 (by decide) ?_
                      exact ih23 (i23 + 1) ps26 f42 f43 f44 pl ls H locs (by omega) (by omega) (by omega) ⟨_, hs⟩ (lv_sub hl [0, 2, 3] rfl) hO hP hD hS
                    · refine lv_iconst (v := (-1)) hx hb dMH_ball_181 (by decide) ?_
                      refine lv_goto (tgt := 186) hx hb dMH_ball_182 (by decide) ?_
                      refine ty_iast hx hb hK hO kr31 (nxg (clo_cons (clo_cons (clo_cons (clo_cons (clo_cons (clo_cons hc0 kr21 (by decide)) km21 (by decide)) km22 (by decide)) km23 (by decide)) km24 (by decide)) km25 (by decide)) kr31 rfl) hP hD hS (vp_in_nI (by omega) (by decide)) dMH_ball_186 (fun pl H locs hO hP hD hS => ?_)
                      refine mi_iinc (k := 1) (x := i23) (d := 1) (y := i23 + 1) (lv' := [(4, .int (nI (i23 + 1))), (5, .int (nI z25)), (2, .long y21), (0, .ref h0)]) hx hb dMH_ball_187 hl rfl (by decide) rfl (by decide) rfl (fun ls hl => ?_)
                      refine lv_goto (tgt := 101) hx hb dMH_ball_190 (by decide) ?_
                      exact ih23 (i23 + 1) ps26 f42 f43 f44 pl ls H locs (by omega) (by omega) (by omega) ⟨_, hs⟩ (lv_sub hl [0, 2, 3] rfl) hO hP hD hS
                | succ d21 ihd21 =>
                  intro c21 t23 i24 ps25 f39 f40 f41 pl ls H locs hi26 hd21 hs hl hO hP hD hS
                  have hsl := str_le hs
                  refine lv_iload hx hb dMH_ball_118 (lv_at hl 0 rfl) ?_
                  refine lv_iload hx hb dMH_ball_120 (lv_at hl 1 rfl) ?_
                  refine mi_le (tgt := 137) hx hb dMH_ball_122 (by decide) (by omega) (by omega) (fun h29 => ?_) (fun h29 => ?_)
                  · refine lv_aload_n hx hb dMH_ball_137 rfl (lv_at hl 3 rfl) ?_
                    refine ty_get (ci := 12) (C := "LatticeKeysModel$Hands") (TT := T_MH) (N := 31) (kd := (46, 0)) hx hb hts (wg_ft i_MH) hown hK hO k_h0 (nxg (clo_cons (clo_cons (clo_cons (clo_cons (clo_cons (clo_cons hc0 kr21 (by decide)) km21 (by decide)) km22 (by decide)) km23 (by decide)) km24 (by decide)) km25 (by decide)) k_h0 rfl) hP (fun _ h9 => h9) rfl 12 (by decide) (hts _ (wg_t kw_1444)) (fun _ h9 => h9) (cd := (3, 0, 256)) rfl dMH_ball_138 (fun v36 hv36 => ?_)
                    obtain ⟨r34, rfl, kr32⟩ := (show ∃ r : Nat, v36 = .ref r ∧ T r = some (0, 256) from hv36)
                    refine lv_iload hx hb dMH_ball_141 (lv_at hl 1 rfl) ?_
                    refine lv_aload_n hx hb dMH_ball_143 rfl (lv_at hl 3 rfl) ?_
                    refine ty_get (ci := 12) (C := "LatticeKeysModel$Hands") (TT := T_MH) (N := 31) (kd := (46, 0)) hx hb hts (wg_ft i_MH) hown hK hO k_h0 (nxg (clo_cons (clo_cons (clo_cons (clo_cons (clo_cons (clo_cons hc0 kr21 (by decide)) km21 (by decide)) km22 (by decide)) km23 (by decide)) km24 (by decide)) km25 (by decide)) k_h0 rfl) hP (fun _ h9 => h9) rfl 12 (by decide) (hts _ (wg_t kw_1444)) (fun _ h9 => h9) (cd := (3, 0, 256)) rfl dMH_ball_144 (fun v37 hv37 => ?_)
                    obtain ⟨r35, rfl, kr33⟩ := (show ∃ r : Nat, v37 = .ref r ∧ T r = some (0, 256) from hv37)
                    refine lv_iload hx hb dMH_ball_147 (lv_at hl 0 rfl) ?_
                    refine ty_iald hx hb hK hO kr33 (nxg (clo_cons (clo_cons (clo_cons (clo_cons (clo_cons (clo_cons hc0 kr21 (by decide)) km21 (by decide)) km22 (by decide)) km23 (by decide)) km24 (by decide)) km25 (by decide)) kr33 rfl) hP (vp_in_nI (by omega) (by decide)) dMH_ball_149 (fun z29 => ?_)
                    refine ty_iast hx hb hK hO kr32 (nxg (clo_cons (clo_cons (clo_cons (clo_cons (clo_cons (clo_cons hc0 kr21 (by decide)) km21 (by decide)) km22 (by decide)) km23 (by decide)) km24 (by decide)) km25 (by decide)) kr32 rfl) hP hD hS (vp_in_nI (by omega) (by decide)) dMH_ball_150 (fun pl H locs hO hP hD hS => ?_)
                    refine lv_aload_n hx hb dMH_ball_151 rfl (lv_at hl 3 rfl) ?_
                    refine ty_get (ci := 12) (C := "LatticeKeysModel$Hands") (TT := T_MH) (N := 31) (kd := (46, 0)) hx hb hts (wg_ft i_MH) hown hK hO k_h0 (nxg (clo_cons (clo_cons (clo_cons (clo_cons (clo_cons (clo_cons hc0 kr21 (by decide)) km21 (by decide)) km22 (by decide)) km23 (by decide)) km24 (by decide)) km25 (by decide)) k_h0 rfl) hP (fun _ h9 => h9) rfl 12 (by decide) (hts _ (wg_t kw_1444)) (fun _ h9 => h9) (cd := (3, 0, 256)) rfl dMH_ball_152 (fun v38 hv38 => ?_)
                    obtain ⟨r36, rfl, kr34⟩ := (show ∃ r : Nat, v38 = .ref r ∧ T r = some (0, 256) from hv38)
                    refine lv_iload hx hb dMH_ball_155 (lv_at hl 0 rfl) ?_
                    refine lv_lload_n hx hb dMH_ball_157 rfl (lv_at hl 2 rfl) ?_
                    refine lv_iload hx hb dMH_ball_158 (lv_at hl 1 rfl) ?_
                    refine va_gets hx hb (hE.2.1 26 _ rfl).1 hS hown (hts _ (wg_t kw_1716)) (fun _ h9 => h9) dMH_ball_160 ?_
                    refine lv_aload_n hx hb dMH_ball_163 rfl (lv_at hl 3 rfl) ?_
                    refine ty_get (ci := 12) (C := "LatticeKeysModel$Hands") (TT := T_MH) (N := 31) (kd := (46, 0)) hx hb hts (wg_ft i_MH) hown hK hO k_h0 (nxg (clo_cons (clo_cons (clo_cons (clo_cons (clo_cons (clo_cons hc0 kr21 (by decide)) km21 (by decide)) km22 (by decide)) km23 (by decide)) km24 (by decide)) km25 (by decide)) k_h0 rfl) hP (fun _ h9 => h9) rfl 23 (by decide) (hts _ (wg_t kw_1455)) (fun _ h9 => h9) (cd := (1, 0, 0)) rfl dMH_ball_164 (fun v39 hv39 => ?_)
                    obtain rfl := (show v39 = .int (nI 0) from hv39)
                    refine va_ti (v := .int (nI 39)) hx hb (hE.2.1 26 _ rfl).2 hS (vp_in_nI (by decide) (by decide)) (by decide +kernel) dMH_ball_167 ?_
                    refine mi_iadd hx hb dMH_ball_168 ?_
                    refine lv_sipush (v := nI 256) hx hb dMH_ball_169 (by decide) ?_
                    refine lv_isub hx hb dMH_ball_172 ?_
                    refine mi_any (fun z30 => ?_)
                    refine lv_lushr hx hb dMH_ball_173 rfl ?_
                    refine ml_any (fun y24 => ?_)
                    refine lv_lconst (v := 1) hx hb dMH_ball_174 (by decide) ?_
                    refine lv_land hx hb dMH_ball_175 ?_
                    refine lv_lconst (v := 1) hx hb dMH_ball_176 (by decide) ?_
                    refine W.lcmp hx hb dMH_ball_177 ?_
                    refine mi_any (fun z31 => ?_)
                    refine lv_if_ne (tgt := 185) hx hb dMH_ball_178 (by decide) (fun h30 => ?_) (fun h30 => ?_)
                    · refine lv_iconst (v := nI 1) hx hb dMH_ball_185 (by decide) ?_
                      refine ty_iast hx hb hK hO kr34 (nxg (clo_cons (clo_cons (clo_cons (clo_cons (clo_cons (clo_cons hc0 kr21 (by decide)) km21 (by decide)) km22 (by decide)) km23 (by decide)) km24 (by decide)) km25 (by decide)) kr34 rfl) hP hD hS (vp_in_nI (by omega) (by decide)) dMH_ball_186 (fun pl H locs hO hP hD hS => ?_)
                      refine mi_iinc (k := 1) (x := i23) (d := 1) (y := i23 + 1) (lv' := [(4, .int (nI (i23 + 1))), (5, .int (nI i24)), (2, .long y21), (0, .ref h0)]) hx hb dMH_ball_187 hl rfl (by decide) rfl (by decide) rfl (fun ls hl => ?_)
                      refine lv_goto (tgt := 101) hx hb dMH_ball_190 (by decide) ?_
                      exact ih23 (i23 + 1) ps25 f39 f40 f41 pl ls H locs (by omega) (by omega) (by omega) ⟨_, hs⟩ (lv_sub hl [0, 2, 3] rfl) hO hP hD hS
                    · refine lv_iconst (v := (-1)) hx hb dMH_ball_181 (by decide) ?_
                      refine lv_goto (tgt := 186) hx hb dMH_ball_182 (by decide) ?_
                      refine ty_iast hx hb hK hO kr34 (nxg (clo_cons (clo_cons (clo_cons (clo_cons (clo_cons (clo_cons hc0 kr21 (by decide)) km21 (by decide)) km22 (by decide)) km23 (by decide)) km24 (by decide)) km25 (by decide)) kr34 rfl) hP hD hS (vp_in_nI (by omega) (by decide)) dMH_ball_186 (fun pl H locs hO hP hD hS => ?_)
                      refine mi_iinc (k := 1) (x := i23) (d := 1) (y := i23 + 1) (lv' := [(4, .int (nI (i23 + 1))), (5, .int (nI i24)), (2, .long y21), (0, .ref h0)]) hx hb dMH_ball_187 hl rfl (by decide) rfl (by decide) rfl (fun ls hl => ?_)
                      refine lv_goto (tgt := 101) hx hb dMH_ball_190 (by decide) ?_
                      exact ih23 (i23 + 1) ps25 f39 f40 f41 pl ls H locs (by omega) (by omega) (by omega) ⟨_, hs⟩ (lv_sub hl [0, 2, 3] rfl) hO hP hD hS
                  · refine lv_aload_n hx hb dMH_ball_125 rfl (lv_at hl 3 rfl) ?_
                    refine ty_get (ci := 12) (C := "LatticeKeysModel$Hands") (TT := T_MH) (N := 31) (kd := (46, 0)) hx hb hts (wg_ft i_MH) hown hK hO k_h0 (nxg (clo_cons (clo_cons (clo_cons (clo_cons (clo_cons (clo_cons hc0 kr21 (by decide)) km21 (by decide)) km22 (by decide)) km23 (by decide)) km24 (by decide)) km25 (by decide)) k_h0 rfl) hP (fun _ h9 => h9) rfl 0 (by decide) (hts _ (wg_t kw_1432)) (fun _ h9 => h9) (cd := (3, 20, 0)) rfl dMH_ball_126 (fun v40 hv40 => ?_)
                    obtain ⟨r37, rfl, kr35⟩ := (show ∃ r : Nat, v40 = .ref r ∧ T r = some (20, 0) from hv40)
                    obtain rfl : r21 = r37 := hU _ _ _ (by decide) kr21 kr35
                    refine mp_i (cx := [(r21, .inr (9, [.ref am21, .ref am22, .ref am23, .ref am24, .ref am25, .int (nI 136), .int (nI ps25), .int (nI 31)])), (am21, .inl (g.2.1 2, 25, .inr (.inl f39))), (am22, .inl (g.2.1 2, 25, .inr (.inl f40))), (am23, .inl (g.2.1 2, 5, .inr (.inl f41))), (am24, .inl (g.2.1 2, 24, .inr (.inl f24))), (am25, .inl (g.2.1 0, 25, .inl f25))]) (wr := []) hP hD hS hA [0, 1, 2, 3, 4, 5] [] rfl rfl rfl (by decide) (va_runV (As := []) (rest := []) F (x_MS_next l g _ T (am25 :: (am24 :: (am23 :: (am22 :: (am21 :: (r21 :: xs)))))) pl hO hU  r21 am21 am22 am23 am24 am25 136 ps25 (nI 31) f39 f40 f41 f24 f25 (by omega) (by omega)) (cwV 0 hts (wg_app (wg_c kw_1728 (wg_c kw_1642 (wg_c kw_1643 (wg_c kw_10 wg_n)))) kw_1644) rfl rfl rfl (by decide +kernel) ⟨by decide, by decide⟩) (pp_V (en_ok g) (q0 := 0) hK hP hD hS hA hE [0, 1, 2, 3, 4, 5] rfl rfl rfl rfl) rfl rfl hl.1 rfl (lv_room (Nat.le_of_ble_eq_true rfl)) dMH_ball_129 ⟨by omega, by omega⟩) (fun r38 u31 H locs hu26 hP hD hS => ?_)
                    obtain ⟨u32, pl⟩ := u31
                    obtain ⟨hq26, hO⟩ := hu26
                    obtain ⟨ps27, f45, f46, f47⟩ := u32
                    have hP : va_P g.1 vcl ([(r21, .inr (9, [.ref am21, .ref am22, .ref am23, .ref am24, .ref am25, .int (nI 136), .int (nI ps27), .int (nI 31)])), (am21, .inl (g.2.1 2, 25, .inr (.inl f45))), (am22, .inl (g.2.1 2, 25, .inr (.inl f46))), (am23, .inl (g.2.1 2, 5, .inr (.inl f47))), (am24, .inl (g.2.1 2, 24, .inr (.inl f24))), (am25, .inl (g.2.1 0, 25, .inl f25))] ++ pl) _ := hP
                    have hD : va_D _ ([(r21, .inr (9, [.ref am21, .ref am22, .ref am23, .ref am24, .ref am25, .int (nI 136), .int (nI ps27), .int (nI 31)])), (am21, .inl (g.2.1 2, 25, .inr (.inl f45))), (am22, .inl (g.2.1 2, 25, .inr (.inl f46))), (am23, .inl (g.2.1 2, 5, .inr (.inl f47))), (am24, .inl (g.2.1 2, 24, .inr (.inl f24))), (am25, .inl (g.2.1 0, 25, .inl f25))] ++ pl) := hD
                    obtain ⟨hn23, hl23, z32, hz23, rfl, h0z23⟩ := hq26
                    have hl23 : ps27 ≤ 136 := hl23
                    have hs := str_next (by decide) hs hn23
                    refine W.widen (k := 0) (n := 0) (by omega) (by omega) ?_
                    refine lv_istore (lv' := [(5, .int (nI z32)), (4, .int (nI i23)), (2, .long y21), (0, .ref h0)]) hx hb dMH_ball_132 hl (by decide) rfl (fun ls hl => ?_)
                    refine lv_goto (tgt := 118) hx hb dMH_ball_134 (by decide) ?_
                    exact ihd21 c21 (t23 + 1) z32 ps27 f45 f46 f47 pl ls H locs (by omega) (by omega) hs (lv_sub hl [0, 1, 2, 3] rfl) hO hP hD hS
              have htg := tgt_le (m := mB) (t := t22 + 1) (rt := 136) (p := 72) hm0 (by decide)
              exact lp24 ((t22 + 1 + 1) * mB * 136 + 72 - (t22 + 1)) (t22 + 1 + 1) (t22 + 1) z21 ps24 f36 f37 f38 pl ls _ _ (by omega) (by omega) hs (lv_sub hl [0, 1, 2, 3] rfl) hO hP hD hS
          exact lp23 (256 - 217) 217 ps22 f30 f31 f32 pl ls _ _ (by omega) (by omega) (by omega) ⟨_, hs⟩ (lv_sub hl [0, 1, 2] rfl) hO hP hD hS
        | succ n22 ih22 =>
          intro i22 pl ls H locs hm22  hl hO hP hD hS
          refine lv_iload hx hb dMH_ball_65 (lv_at hl 0 rfl) ?_
          refine lv_sipush (v := nI 256) hx hb dMH_ball_67 (by decide) ?_
          refine mi_ge (tgt := 87) hx hb dMH_ball_70 (by decide) (by omega) (by omega) (fun h31 => absurd h31 (by omega)) (fun h31 => ?_)
          refine lv_aload_n hx hb dMH_ball_73 rfl (lv_at hl 2 rfl) ?_
          refine ty_get (ci := 12) (C := "LatticeKeysModel$Hands") (TT := T_MH) (N := 31) (kd := (46, 0)) hx hb hts (wg_ft i_MH) hown hK hO k_h0 (nxg (clo_cons (clo_cons (clo_cons (clo_cons (clo_cons (clo_cons hc0 kr21 (by decide)) km21 (by decide)) km22 (by decide)) km23 (by decide)) km24 (by decide)) km25 (by decide)) k_h0 rfl) hP (fun _ h9 => h9) rfl 12 (by decide) (hts _ (wg_t kw_1444)) (fun _ h9 => h9) (cd := (3, 0, 256)) rfl dMH_ball_74 (fun v41 hv41 => ?_)
          obtain ⟨r39, rfl, kr36⟩ := (show ∃ r : Nat, v41 = .ref r ∧ T r = some (0, 256) from hv41)
          refine lv_iload hx hb dMH_ball_77 (lv_at hl 0 rfl) ?_
          refine lv_iconst (v := nI 0) hx hb dMH_ball_79 (by decide) ?_
          refine ty_iast hx hb hK hO kr36 (nxg (clo_cons (clo_cons (clo_cons (clo_cons (clo_cons (clo_cons hc0 kr21 (by decide)) km21 (by decide)) km22 (by decide)) km23 (by decide)) km24 (by decide)) km25 (by decide)) kr36 rfl) hP hD hS (vp_in_nI (by omega) (by decide)) dMH_ball_80 (fun pl H locs hO hP hD hS => ?_)
          refine mi_iinc (k := 0) (x := i22) (d := 1) (y := i22 + 1) (lv' := [(4, .int (nI (i22 + 1))), (2, .long y21), (0, .ref h0)]) hx hb dMH_ball_81 hl rfl (by decide) rfl (by decide) rfl (fun ls hl => ?_)
          refine lv_goto (tgt := 65) hx hb dMH_ball_84 (by decide) ?_
          exact ih22 (i22 + 1) pl ls H locs (by omega) (lv_sub hl [0, 1, 2] rfl) hO hP hD hS
      exact lp22 256 0 pl ls _ _ (by omega) (lv_sub hl [0, 1, 2] rfl) hO hP hD hS
    | succ n21 ih21 =>
      intro i21 y21 ps22 f30 f31 f32 pl ls H locs hm21 hi21 hst hl hO hP hD hS
      obtain ⟨t21, hs⟩ := hst
      refine lv_iload hx hb dMH_ball_32 (lv_at hl 0 rfl) ?_
      refine lv_bipush (v := nI 8) hx hb dMH_ball_34 (by decide) ?_
      refine mi_ge (tgt := 62) hx hb dMH_ball_36 (by decide) (by omega) (by omega) (fun h32 => absurd h32 (by omega)) (fun h32 => ?_)
      refine lv_lload_n hx hb dMH_ball_39 rfl (lv_at hl 1 rfl) ?_
      refine lv_aload_n hx hb dMH_ball_40 rfl (lv_at hl 2 rfl) ?_
      refine ty_get (ci := 12) (C := "LatticeKeysModel$Hands") (TT := T_MH) (N := 31) (kd := (46, 0)) hx hb hts (wg_ft i_MH) hown hK hO k_h0 (nxg (clo_cons (clo_cons (clo_cons (clo_cons (clo_cons (clo_cons hc0 kr21 (by decide)) km21 (by decide)) km22 (by decide)) km23 (by decide)) km24 (by decide)) km25 (by decide)) k_h0 rfl) hP (fun _ h9 => h9) rfl 0 (by decide) (hts _ (wg_t kw_1432)) (fun _ h9 => h9) (cd := (3, 20, 0)) rfl dMH_ball_41 (fun v42 hv42 => ?_)
      obtain ⟨r40, rfl, kr37⟩ := (show ∃ r : Nat, v42 = .ref r ∧ T r = some (20, 0) from hv42)
      obtain rfl : r21 = r40 := hU _ _ _ (by decide) kr21 kr37
      refine mp_i (cx := [(r21, .inr (9, [.ref am21, .ref am22, .ref am23, .ref am24, .ref am25, .int (nI 136), .int (nI ps22), .int (nI 31)])), (am21, .inl (g.2.1 2, 25, .inr (.inl f30))), (am22, .inl (g.2.1 2, 25, .inr (.inl f31))), (am23, .inl (g.2.1 2, 5, .inr (.inl f32))), (am24, .inl (g.2.1 2, 24, .inr (.inl f24))), (am25, .inl (g.2.1 0, 25, .inl f25))]) (wr := []) hP hD hS hA [0, 1, 2, 3, 4, 5] [] rfl rfl rfl (by decide) (va_runV (As := []) (rest := [.long y21]) F (x_MS_next l g _ T (am25 :: (am24 :: (am23 :: (am22 :: (am21 :: (r21 :: xs)))))) pl hO hU  r21 am21 am22 am23 am24 am25 136 ps22 (nI 31) f30 f31 f32 f24 f25 (by omega) (by omega)) (cwV 0 hts (wg_app (wg_c kw_1728 (wg_c kw_1642 (wg_c kw_1643 (wg_c kw_10 wg_n)))) kw_1644) rfl rfl rfl (by decide +kernel) ⟨by decide, by decide⟩) (pp_V (en_ok g) (q0 := 0) hK hP hD hS hA hE [0, 1, 2, 3, 4, 5] rfl rfl rfl rfl) rfl rfl hl.1 rfl (lv_room (Nat.le_of_ble_eq_true rfl)) dMH_ball_44 ⟨by omega, by omega⟩) (fun r41 u33 H locs hu27 hP hD hS => ?_)
      obtain ⟨u34, pl⟩ := u33
      obtain ⟨hq27, hO⟩ := hu27
      obtain ⟨ps28, f48, f49, f50⟩ := u34
      have hP : va_P g.1 vcl ([(r21, .inr (9, [.ref am21, .ref am22, .ref am23, .ref am24, .ref am25, .int (nI 136), .int (nI ps28), .int (nI 31)])), (am21, .inl (g.2.1 2, 25, .inr (.inl f48))), (am22, .inl (g.2.1 2, 25, .inr (.inl f49))), (am23, .inl (g.2.1 2, 5, .inr (.inl f50))), (am24, .inl (g.2.1 2, 24, .inr (.inl f24))), (am25, .inl (g.2.1 0, 25, .inl f25))] ++ pl) _ := hP
      have hD : va_D _ ([(r21, .inr (9, [.ref am21, .ref am22, .ref am23, .ref am24, .ref am25, .int (nI 136), .int (nI ps28), .int (nI 31)])), (am21, .inl (g.2.1 2, 25, .inr (.inl f48))), (am22, .inl (g.2.1 2, 25, .inr (.inl f49))), (am23, .inl (g.2.1 2, 5, .inr (.inl f50))), (am24, .inl (g.2.1 2, 24, .inr (.inl f24))), (am25, .inl (g.2.1 0, 25, .inl f25))] ++ pl) := hD
      obtain ⟨hn24, hl24, z33, hz24, rfl, h0z24⟩ := hq27
      have hl24 : ps28 ≤ 136 := hl24
      have hs := str_next (by decide) hs hn24
      refine W.widen (k := 0) (n := 0) (by omega) (by omega) ?_
      refine lv_i2l hx hb dMH_ball_47 rfl ?_
      refine ml_any (fun y25 => ?_)
      refine lv_bipush (v := nI 8) hx hb dMH_ball_48 (by decide) ?_
      refine lv_iload hx hb dMH_ball_50 (lv_at hl 0 rfl) ?_
      refine mi_imul hx hb dMH_ball_52 ?_
      refine lv_lshl hx hb dMH_ball_53 rfl ?_
      refine ml_any (fun y26 => ?_)
      refine lv_lor hx hb dMH_ball_54 ?_
      refine lv_lstore_n (lv' := [(2, .long ((y21 ||| y26))), (4, .int (nI i21)), (0, .ref h0)]) hx hb dMH_ball_55 rfl hl (by decide) rfl (fun ls hl => ?_)
      refine mi_iinc (k := 1) (x := i21) (d := 1) (y := i21 + 1) (lv' := [(4, .int (nI (i21 + 1))), (2, .long ((y21 ||| y26))), (0, .ref h0)]) hx hb dMH_ball_56 hl rfl (by decide) rfl (by decide) rfl (fun ls hl => ?_)
      refine lv_goto (tgt := 32) hx hb dMH_ball_59 (by decide) ?_
      exact ih21 (i21 + 1) ((y21 ||| y26)) ps28 f48 f49 f50 pl ls H locs (by omega) (by omega) ⟨_, hs⟩ (lv_sub hl [0, 1, 2] rfl) hO hP hD hS
  exact lp21 8 0 0 0 f26 f27 f28 pl ls _ _ (by omega) (by omega) ⟨_, hs⟩ (lv_sub hl [0, 1, 2] rfl) hO hP hD hS
set_option maxHeartbeats 400000 in
set_option maxRecDepth 100000 in
theorem t_MH_ball_1 (l : Launch) (g : Gd) (sz : Nat) (T : Ty) (xs : List Nat) (pl : va_W) (hO : okx g T xs pl) (hU : uni T) (hc0 : clo T xs 0) (hc9 : clo T xs 9) (h0 b : Nat) (k_h0 : T h0 = some (47, 0)) (k_b : T b = some (1, 64))  : Met l y_MH_ball w_MH_ball ({ frames := 3, cells := 0, slots := 0, locals := 67 } : Room) (va_Pc [.ref h0, .ref b] (pr (en g) g.1 vcl sz ([] ++ pl))) (va_Qv (fun (u : va_W) => (True) ∧ okx g T xs u) (po g.1 vcl (va_A ([] ++ pl) sz) (fun (u : va_W) => [] ++ u)) (va_A ([] ++ pl) sz)) 0 0 (va_A ([] ++ pl) sz) := by
  refine mc_entry (cc := c_MH_ball) (maxL := 6) (ret := none) (by decide) rfl (Nat.le_of_ble_eq_true rfl) ?_
  intro p e s m args below meth c ls F hr hlk hnm hsz hP hD hE hA hl
  obtain ⟨hx, hb, hml, hown, hts⟩ := id F
  have hK := hE.1
  generalize va_A ([] ++ pl) sz = A at hD hE hA ⊢
  have hS : va_S A s.heap s.heap [] := va_S.rf
  have hl : lv_has ls 6 [(0, .ref h0), (1, .ref b)] := hl
  refine lv_aload_n hx hb dMH_ball_0 rfl (lv_at hl 0 rfl) ?_
  refine ty_get (ci := 12) (C := "LatticeKeysModel$Hands") (TT := T_MH) (N := 31) (kd := (47, 0)) hx hb hts (wg_ft i_MH) hown hK hO k_h0 (nxg hc0 k_h0 rfl) hP (fun _ h9 => h9) rfl 0 (by decide) (hts _ (wg_t kw_1432)) (fun _ h9 => h9) (cd := (3, 20, 0)) rfl dMH_ball_1 (fun v21 hv21 => ?_)
  obtain ⟨r21, rfl, kr21⟩ := (show ∃ r : Nat, v21 = .ref r ∧ T r = some (20, 0) from hv21)
  obtain ⟨e21, pl, hP, hD, hk21, hO⟩ := open1 hP hD hO kr21 (nxg hc9 kr21 rfl)
  obtain ⟨am21, am22, am23, am24, am25, rt21, ps21, x21, rfl, km21, km22, km23, km24, km25, hr21, hr22, hr23⟩ := hk21
  obtain ⟨e22, pl, hP, hD, hk22, hO⟩ := open1 hP hD hO km21 (nmc (knd_ne km21 kr21 (by decide)) (nxg hc9 km21 rfl))
  obtain ⟨f21, rfl⟩ := hk22
  obtain ⟨e23, pl, hP, hD, hk23, hO⟩ := open1 hP hD hO km22 (nmc (knd_ne km22 km21 (by decide)) (nmc (knd_ne km22 kr21 (by decide)) (nxg hc9 km22 rfl)))
  obtain ⟨f22, rfl⟩ := hk23
  obtain ⟨e24, pl, hP, hD, hk24, hO⟩ := open1 hP hD hO km23 (nmc (knd_ne km23 km22 (by decide)) (nmc (knd_ne km23 km21 (by decide)) (nmc (knd_ne km23 kr21 (by decide)) (nxg hc9 km23 rfl))))
  obtain ⟨f23, rfl⟩ := hk24
  obtain ⟨e25, pl, hP, hD, hk25, hO⟩ := open1 hP hD hO km24 (nmc (knd_ne km24 km23 (by decide)) (nmc (knd_ne km24 km22 (by decide)) (nmc (knd_ne km24 km21 (by decide)) (nmc (knd_ne km24 kr21 (by decide)) (nxg hc9 km24 rfl)))))
  obtain ⟨f24, rfl⟩ := hk25
  obtain ⟨e26, pl, hP, hD, hk26, hO⟩ := open1 hP hD hO km25 (nmc (knd_ne km25 km24 (by decide)) (nmc (knd_ne km25 km23 (by decide)) (nmc (knd_ne km25 km22 (by decide)) (nmc (knd_ne km25 km21 (by decide)) (nmc (knd_ne km25 kr21 (by decide)) (nxg hc9 km25 rfl))))))
  obtain ⟨f25, rfl⟩ := hk26
  have hP : va_P g.1 vcl ([(r21, .inr (9, [.ref am21, .ref am22, .ref am23, .ref am24, .ref am25, .int (nI rt21), .int (nI ps21), .int x21])), (am21, .inl (g.2.1 2, 25, .inr (.inl f21))), (am22, .inl (g.2.1 2, 25, .inr (.inl f22))), (am23, .inl (g.2.1 2, 5, .inr (.inl f23))), (am24, .inl (g.2.1 2, 24, .inr (.inl f24))), (am25, .inl (g.2.1 0, 25, .inl f25))] ++ pl) _ := hP
  have hD : va_D _ ([(r21, .inr (9, [.ref am21, .ref am22, .ref am23, .ref am24, .ref am25, .int (nI rt21), .int (nI ps21), .int x21])), (am21, .inl (g.2.1 2, 25, .inr (.inl f21))), (am22, .inl (g.2.1 2, 25, .inr (.inl f22))), (am23, .inl (g.2.1 2, 5, .inr (.inl f23))), (am24, .inl (g.2.1 2, 24, .inr (.inl f24))), (am25, .inl (g.2.1 0, 25, .inl f25))] ++ pl) := hD
  refine mp_v (cx := [(r21, .inr (9, [.ref am21, .ref am22, .ref am23, .ref am24, .ref am25, .int (nI rt21), .int (nI ps21), .int x21])), (am21, .inl (g.2.1 2, 25, .inr (.inl f21))), (am22, .inl (g.2.1 2, 25, .inr (.inl f22))), (am23, .inl (g.2.1 2, 5, .inr (.inl f23))), (am24, .inl (g.2.1 2, 24, .inr (.inl f24))), (am25, .inl (g.2.1 0, 25, .inl f25))]) (wr := []) hP hD hS hA [0, 1, 2, 3, 4, 5] [] rfl rfl rfl (by decide) (va_runV (As := []) (rest := []) F (x_MS_shake l g _ T (am25 :: (am24 :: (am23 :: (am22 :: (am21 :: (r21 :: xs)))))) pl hO hU  r21 am21 am22 am23 am24 am25 rt21 ps21 x21 f21 f22 f23 f24 f25) (cwV 0 hts (wg_app (wg_c kw_1718 (wg_c kw_1661 (wg_c kw_1662 (wg_c kw_10 wg_n)))) kw_1663) rfl rfl rfl (by decide +kernel) ⟨by decide, by decide⟩) (pp_V (en_ok g) (q0 := 0) hK hP hD hS hA hE [0, 1, 2, 3, 4, 5] rfl rfl rfl rfl) rfl rfl hl.1 rfl (lv_room (Nat.le_of_ble_eq_true rfl)) dMH_ball_4 ⟨by omega, by omega⟩) (fun  u21 H locs hu21 hP hD hS => ?_)
  obtain ⟨u22, pl⟩ := u21
  obtain ⟨hq21, hO⟩ := hu21
  have hP : va_P g.1 vcl ([(r21, .inr (9, [.ref am21, .ref am22, .ref am23, .ref am24, .ref am25, .int (nI 136), .int (nI 0), .int (nI 31)])), (am21, .inl (g.2.1 2, 25, .inr (.inl u22))), (am22, .inl (g.2.1 2, 25, .inr (.inl f22))), (am23, .inl (g.2.1 2, 5, .inr (.inl f23))), (am24, .inl (g.2.1 2, 24, .inr (.inl f24))), (am25, .inl (g.2.1 0, 25, .inl f25))] ++ pl) _ := hP
  have hD : va_D _ ([(r21, .inr (9, [.ref am21, .ref am22, .ref am23, .ref am24, .ref am25, .int (nI 136), .int (nI 0), .int (nI 31)])), (am21, .inl (g.2.1 2, 25, .inr (.inl u22))), (am22, .inl (g.2.1 2, 25, .inr (.inl f22))), (am23, .inl (g.2.1 2, 5, .inr (.inl f23))), (am24, .inl (g.2.1 2, 24, .inr (.inl f24))), (am25, .inl (g.2.1 0, 25, .inl f25))] ++ pl) := hD
  have hq21 : ∀ j, j < 25 → u22 j = 0 := hq21
  refine W.widen (k := 0) (n := 0) (by omega) (by omega) ?_
  refine lv_aload_n hx hb dMH_ball_7 rfl (lv_at hl 0 rfl) ?_
  refine ty_get (ci := 12) (C := "LatticeKeysModel$Hands") (TT := T_MH) (N := 31) (kd := (47, 0)) hx hb hts (wg_ft i_MH) hown hK hO k_h0 (nxg (clo_cons (clo_cons (clo_cons (clo_cons (clo_cons (clo_cons hc0 kr21 (by decide)) km21 (by decide)) km22 (by decide)) km23 (by decide)) km24 (by decide)) km25 (by decide)) k_h0 rfl) hP (fun _ h9 => h9) rfl 0 (by decide) (hts _ (wg_t kw_1432)) (fun _ h9 => h9) (cd := (3, 20, 0)) rfl dMH_ball_8 (fun v22 hv22 => ?_)
  obtain ⟨r22, rfl, kr22⟩ := (show ∃ r : Nat, v22 = .ref r ∧ T r = some (20, 0) from hv22)
  obtain rfl : r21 = r22 := hU _ _ _ (by decide) kr21 kr22
  refine lv_aload_n hx hb dMH_ball_11 rfl (lv_at hl 1 rfl) ?_
  refine lv_iconst (v := nI 0) hx hb dMH_ball_12 (by decide) ?_
  refine lv_aload_n hx hb dMH_ball_13 rfl (lv_at hl 0 rfl) ?_
  refine ty_get (ci := 12) (C := "LatticeKeysModel$Hands") (TT := T_MH) (N := 31) (kd := (47, 0)) hx hb hts (wg_ft i_MH) hown hK hO k_h0 (nxg (clo_cons (clo_cons (clo_cons (clo_cons (clo_cons (clo_cons hc0 kr21 (by decide)) km21 (by decide)) km22 (by decide)) km23 (by decide)) km24 (by decide)) km25 (by decide)) k_h0 rfl) hP (fun _ h9 => h9) rfl 30 (by decide) (hts _ (wg_t kw_1462)) (fun _ h9 => h9) (cd := (1, 0, 48)) rfl dMH_ball_14 (fun v23 hv23 => ?_)
  obtain rfl := (show v23 = .int (nI 48) from hv23)
  refine mp_v (cx := [(r21, .inr (9, [.ref am21, .ref am22, .ref am23, .ref am24, .ref am25, .int (nI 136), .int (nI 0), .int (nI 31)])), (am21, .inl (g.2.1 2, 25, .inr (.inl u22))), (am22, .inl (g.2.1 2, 25, .inr (.inl f22))), (am23, .inl (g.2.1 2, 5, .inr (.inl f23))), (am24, .inl (g.2.1 2, 24, .inr (.inl f24))), (am25, .inl (g.2.1 0, 25, .inl f25))]) (wr := []) hP hD hS hA [0, 1, 2, 3, 4, 5] [] rfl rfl rfl (by decide) (va_runV (As := [.ref b, .int (nI 0), .int (nI 48)]) (rest := []) F (x_MS_puts l g _ T (am25 :: (am24 :: (am23 :: (am22 :: (am21 :: (r21 :: xs)))))) pl hO hU (clo_cons (clo_cons (clo_cons (clo_cons (clo_cons (clo_cons hc0 kr21 (by decide)) km21 (by decide)) km22 (by decide)) km23 (by decide)) km24 (by decide)) km25 (by decide)) b 64 0 48 r21 am21 am22 am23 am24 am25 136 0 (nI 31) u22 f22 f23 f24 f25 k_b (by omega) (by omega) (by omega) (by omega)) (cwV 3 hts (wg_app (wg_c kw_1719 (wg_c kw_1612 (wg_c kw_1613 (wg_c kw_10 wg_n)))) kw_1614) rfl rfl rfl (by decide +kernel) ⟨by decide, by decide⟩) (pp_V (en_ok g) (q0 := 0) hK hP hD hS hA hE [0, 1, 2, 3, 4, 5] rfl rfl rfl rfl) rfl rfl hl.1 rfl (lv_room (Nat.le_of_ble_eq_true rfl)) dMH_ball_17 ⟨by omega, by omega⟩) (fun  u23 H locs hu22 hP hD hS => ?_)
  obtain ⟨u24, pl⟩ := u23
  obtain ⟨hq22, hO⟩ := hu22
  have hP : va_P g.1 vcl ([(r21, .inr (9, [.ref am21, .ref am22, .ref am23, .ref am24, .ref am25, .int (nI 136), .int (nI 48), .int (nI 31)])), (am21, .inl (g.2.1 2, 25, .inr (.inl u24))), (am22, .inl (g.2.1 2, 25, .inr (.inl f22))), (am23, .inl (g.2.1 2, 5, .inr (.inl f23))), (am24, .inl (g.2.1 2, 24, .inr (.inl f24))), (am25, .inl (g.2.1 0, 25, .inl f25))] ++ pl) _ := hP
  have hD : va_D _ ([(r21, .inr (9, [.ref am21, .ref am22, .ref am23, .ref am24, .ref am25, .int (nI 136), .int (nI 48), .int (nI 31)])), (am21, .inl (g.2.1 2, 25, .inr (.inl u24))), (am22, .inl (g.2.1 2, 25, .inr (.inl f22))), (am23, .inl (g.2.1 2, 5, .inr (.inl f23))), (am24, .inl (g.2.1 2, 24, .inr (.inl f24))), (am25, .inl (g.2.1 0, 25, .inl f25))] ++ pl) := hD
  refine W.widen (k := 0) (n := 0) (by omega) (by omega) ?_
  refine lv_aload_n hx hb dMH_ball_20 rfl (lv_at hl 0 rfl) ?_
  refine ty_get (ci := 12) (C := "LatticeKeysModel$Hands") (TT := T_MH) (N := 31) (kd := (47, 0)) hx hb hts (wg_ft i_MH) hown hK hO k_h0 (nxg (clo_cons (clo_cons (clo_cons (clo_cons (clo_cons (clo_cons hc0 kr21 (by decide)) km21 (by decide)) km22 (by decide)) km23 (by decide)) km24 (by decide)) km25 (by decide)) k_h0 rfl) hP (fun _ h9 => h9) rfl 0 (by decide) (hts _ (wg_t kw_1432)) (fun _ h9 => h9) (cd := (3, 20, 0)) rfl dMH_ball_21 (fun v24 hv24 => ?_)
  obtain ⟨r23, rfl, kr23⟩ := (show ∃ r : Nat, v24 = .ref r ∧ T r = some (20, 0) from hv24)
  obtain rfl : r21 = r23 := hU _ _ _ (by decide) kr21 kr23
  refine mp_v (cx := [(r21, .inr (9, [.ref am21, .ref am22, .ref am23, .ref am24, .ref am25, .int (nI 136), .int (nI 48), .int (nI 31)])), (am21, .inl (g.2.1 2, 25, .inr (.inl u24))), (am22, .inl (g.2.1 2, 25, .inr (.inl f22))), (am23, .inl (g.2.1 2, 5, .inr (.inl f23))), (am24, .inl (g.2.1 2, 24, .inr (.inl f24))), (am25, .inl (g.2.1 0, 25, .inl f25))]) (wr := []) hP hD hS hA [0, 1, 2, 3, 4, 5] [] rfl rfl rfl (by decide) (va_runV (As := []) (rest := []) F (x_MS_end l g _ T (am25 :: (am24 :: (am23 :: (am22 :: (am21 :: (r21 :: xs)))))) pl hO hU  r21 am21 am22 am23 am24 am25 136 48 (nI 31) u24 f22 f23 f24 f25 (by omega) (by omega)) (cwV 0 hts (wg_app (wg_c kw_1721 (wg_c kw_1634 (wg_c kw_1635 (wg_c kw_10 wg_n)))) kw_1636) rfl rfl rfl (by decide +kernel) ⟨by decide, by decide⟩) (pp_V (en_ok g) (q0 := 0) hK hP hD hS hA hE [0, 1, 2, 3, 4, 5] rfl rfl rfl rfl) rfl rfl hl.1 rfl (lv_room (Nat.le_of_ble_eq_true rfl)) dMH_ball_24 ⟨by omega, by omega⟩) (fun  u25 H locs hu23 hP hD hS => ?_)
  obtain ⟨u26, pl⟩ := u25
  obtain ⟨hq23, hO⟩ := hu23
  obtain ⟨f26, f27, f28, f29⟩ := u26
  have hP : va_P g.1 vcl ([(r21, .inr (9, [.ref am21, .ref am22, .ref am23, .ref am24, .ref am25, .int (nI 136), .int (nI 0), .int (nI 31)])), (am21, .inl (g.2.1 2, 25, .inr (.inl f26))), (am22, .inl (g.2.1 2, 25, .inr (.inl f27))), (am23, .inl (g.2.1 2, 5, .inr (.inl f28))), (am24, .inl (g.2.1 2, 24, .inr (.inl f24))), (am25, .inl (g.2.1 0, 25, .inl f25))] ++ pl) _ := hP
  have hD : va_D _ ([(r21, .inr (9, [.ref am21, .ref am22, .ref am23, .ref am24, .ref am25, .int (nI 136), .int (nI 0), .int (nI 31)])), (am21, .inl (g.2.1 2, 25, .inr (.inl f26))), (am22, .inl (g.2.1 2, 25, .inr (.inl f27))), (am23, .inl (g.2.1 2, 5, .inr (.inl f28))), (am24, .inl (g.2.1 2, 24, .inr (.inl f24))), (am25, .inl (g.2.1 0, 25, .inl f25))] ++ pl) := hD
  refine W.widen (k := 0) (n := 0) (by omega) (by omega) ?_
  have hz : ∀ j, 9 ≤ j → j < 16 → f29 j = 0 := fun j h8 h9 => ((hq23.2 j (by omega) (by omega)).trans (hq22 j (by omega))).trans (hq21 j (by omega))
  have hs : str f25 f24 f29 136 136 0 f26 := ⟨1, by omega, by omega, hq23.1⟩
  obtain ⟨mB, hm0, hmP⟩ := blk_back f25 f24 f29
  refine lv_lconst (v := 0) hx hb dMH_ball_27 (by decide) ?_
  refine lv_lstore_n (lv' := [(2, .long 0), (0, .ref h0), (1, .ref b)]) hx hb dMH_ball_28 rfl hl (by decide) rfl (fun ls hl => ?_)
  refine lv_iconst (v := nI 0) hx hb dMH_ball_29 (by decide) ?_
  refine lv_istore (lv' := [(4, .int (nI 0)), (2, .long 0), (0, .ref h0), (1, .ref b)]) hx hb dMH_ball_30 hl (by decide) rfl (fun ls hl => ?_)
  have lp21 : ∀ (n21 : Nat) (i21 : Nat) (y21 : Int64) (ps22 : Nat) (f30 : Nat → Int64) (f31 : Nat → Int64) (f32 : Nat → Int64) (pl : va_W) (ls : Array Slot) (H : Heap) (locs : List Loc), n21 + i21 = 8 → (ps22 ≤ 136) → (∃ t, str f25 f24 f29 136 t ps22 f30) → lv_has ls 6 [(4, .int (nI i21)), (2, .long y21), (0, .ref h0)] → okx g T (am25 :: (am24 :: (am23 :: (am22 :: (am21 :: (r21 :: xs)))))) pl → va_P g.1 vcl ([(r21, .inr (9, [.ref am21, .ref am22, .ref am23, .ref am24, .ref am25, .int (nI 136), .int (nI ps22), .int (nI 31)])), (am21, .inl (g.2.1 2, 25, .inr (.inl f30))), (am22, .inl (g.2.1 2, 25, .inr (.inl f31))), (am23, .inl (g.2.1 2, 5, .inr (.inl f32))), (am24, .inl (g.2.1 2, 24, .inr (.inl f24))), (am25, .inl (g.2.1 0, 25, .inl f25))] ++ pl) H → va_D A ([(r21, .inr (9, [.ref am21, .ref am22, .ref am23, .ref am24, .ref am25, .int (nI 136), .int (nI ps22), .int (nI 31)])), (am21, .inl (g.2.1 2, 25, .inr (.inl f30))), (am22, .inl (g.2.1 2, 25, .inr (.inl f31))), (am23, .inl (g.2.1 2, 5, .inr (.inl f32))), (am24, .inl (g.2.1 2, 24, .inr (.inl f24))), (am25, .inl (g.2.1 0, 25, .inl f25))] ++ pl) → va_S A s.heap H locs → W p l e ({ frames := 3, cells := 0, slots := 0, locals := 67 } : Room) s m args below meth c H locs 0 0 (MQ below (va_Qv (fun (u : va_W) => (True) ∧ okx g T xs u) (po g.1 vcl A (fun (u : va_W) => [] ++ u)) A) args s 0 0 A) (F0 m 32 ls []) := by
    intro n21
    induction n21 with
    | zero =>
      intro i21 y21 ps22 f30 f31 f32 pl ls H locs hm21 hi21 hst hl hO hP hD hS
      obtain ⟨t21, hs⟩ := hst
      refine lv_iload hx hb dMH_ball_32 (lv_at hl 0 rfl) ?_
      refine lv_bipush (v := nI 8) hx hb dMH_ball_34 (by decide) ?_
      refine mi_ge (tgt := 62) hx hb dMH_ball_36 (by decide) (by omega) (by omega) (fun h21 => ?_) (fun h21 => absurd h21 (by omega))
      refine lv_iconst (v := nI 0) hx hb dMH_ball_62 (by decide) ?_
      refine lv_istore (lv' := [(4, .int (nI 0)), (2, .long y21), (0, .ref h0)]) hx hb dMH_ball_63 hl (by decide) rfl (fun ls hl => ?_)
      have lp22 : ∀ (n22 : Nat) (i22 : Nat) (pl : va_W) (ls : Array Slot) (H : Heap) (locs : List Loc), n22 + i22 = 256 → lv_has ls 6 [(4, .int (nI i22)), (2, .long y21), (0, .ref h0)] → okx g T (am25 :: (am24 :: (am23 :: (am22 :: (am21 :: (r21 :: xs)))))) pl → va_P g.1 vcl ([(r21, .inr (9, [.ref am21, .ref am22, .ref am23, .ref am24, .ref am25, .int (nI 136), .int (nI ps22), .int (nI 31)])), (am21, .inl (g.2.1 2, 25, .inr (.inl f30))), (am22, .inl (g.2.1 2, 25, .inr (.inl f31))), (am23, .inl (g.2.1 2, 5, .inr (.inl f32))), (am24, .inl (g.2.1 2, 24, .inr (.inl f24))), (am25, .inl (g.2.1 0, 25, .inl f25))] ++ pl) H → va_D A ([(r21, .inr (9, [.ref am21, .ref am22, .ref am23, .ref am24, .ref am25, .int (nI 136), .int (nI ps22), .int (nI 31)])), (am21, .inl (g.2.1 2, 25, .inr (.inl f30))), (am22, .inl (g.2.1 2, 25, .inr (.inl f31))), (am23, .inl (g.2.1 2, 5, .inr (.inl f32))), (am24, .inl (g.2.1 2, 24, .inr (.inl f24))), (am25, .inl (g.2.1 0, 25, .inl f25))] ++ pl) → va_S A s.heap H locs → W p l e ({ frames := 3, cells := 0, slots := 0, locals := 67 } : Room) s m args below meth c H locs 0 0 (MQ below (va_Qv (fun (u : va_W) => (True) ∧ okx g T xs u) (po g.1 vcl A (fun (u : va_W) => [] ++ u)) A) args s 0 0 A) (F0 m 65 ls []) := by
        intro n22
        induction n22 with
        | zero =>
          intro i22 pl ls H locs hm22  hl hO hP hD hS
          refine lv_iload hx hb dMH_ball_65 (lv_at hl 0 rfl) ?_
          refine lv_sipush (v := nI 256) hx hb dMH_ball_67 (by decide) ?_
          refine mi_ge (tgt := 87) hx hb dMH_ball_70 (by decide) (by omega) (by omega) (fun h22 => ?_) (fun h22 => absurd h22 (by omega))
          refine lv_sipush (v := nI 256) hx hb dMH_ball_87 (by decide) ?_
          refine va_gets hx hb (hE.2.1 26 _ rfl).1 hS hown (hts _ (wg_t kw_1716)) (fun _ h9 => h9) dMH_ball_90 ?_
          refine lv_aload_n hx hb dMH_ball_93 rfl (lv_at hl 2 rfl) ?_
          refine ty_get (ci := 12) (C := "LatticeKeysModel$Hands") (TT := T_MH) (N := 31) (kd := (47, 0)) hx hb hts (wg_ft i_MH) hown hK hO k_h0 (nxg (clo_cons (clo_cons (clo_cons (clo_cons (clo_cons (clo_cons hc0 kr21 (by decide)) km21 (by decide)) km22 (by decide)) km23 (by decide)) km24 (by decide)) km25 (by decide)) k_h0 rfl) hP (fun _ h9 => h9) rfl 23 (by decide) (hts _ (wg_t kw_1455)) (fun _ h9 => h9) (cd := (1, 0, 1)) rfl dMH_ball_94 (fun v25 hv25 => ?_)
          obtain rfl := (show v25 = .int (nI 1) from hv25)
          refine va_ti (v := .int (nI 49)) hx hb (hE.2.1 26 _ rfl).2 hS (vp_in_nI (by decide) (by decide)) (by decide +kernel) dMH_ball_97 ?_
          refine mi_isub hx hb dMH_ball_98 (by omega) ?_
          refine mi_as (show nI (256 - 49) = nI 207 from rfl) ?_
          refine lv_istore (lv' := [(4, .int (nI 207)), (2, .long y21), (0, .ref h0)]) hx hb dMH_ball_99 hl (by decide) rfl (fun ls hl => ?_)
          have lp23 : ∀ (n23 : Nat) (i23 : Nat) (ps23 : Nat) (f33 : Nat → Int64) (f34 : Nat → Int64) (f35 : Nat → Int64) (pl : va_W) (ls : Array Slot) (H : Heap) (locs : List Loc), n23 + i23 = 256 → (ps23 ≤ 136) → (207 ≤ i23) → (∃ t, str f25 f24 f29 136 t ps23 f33) → lv_has ls 6 [(4, .int (nI i23)), (2, .long y21), (0, .ref h0)] → okx g T (am25 :: (am24 :: (am23 :: (am22 :: (am21 :: (r21 :: xs)))))) pl → va_P g.1 vcl ([(r21, .inr (9, [.ref am21, .ref am22, .ref am23, .ref am24, .ref am25, .int (nI 136), .int (nI ps23), .int (nI 31)])), (am21, .inl (g.2.1 2, 25, .inr (.inl f33))), (am22, .inl (g.2.1 2, 25, .inr (.inl f34))), (am23, .inl (g.2.1 2, 5, .inr (.inl f35))), (am24, .inl (g.2.1 2, 24, .inr (.inl f24))), (am25, .inl (g.2.1 0, 25, .inl f25))] ++ pl) H → va_D A ([(r21, .inr (9, [.ref am21, .ref am22, .ref am23, .ref am24, .ref am25, .int (nI 136), .int (nI ps23), .int (nI 31)])), (am21, .inl (g.2.1 2, 25, .inr (.inl f33))), (am22, .inl (g.2.1 2, 25, .inr (.inl f34))), (am23, .inl (g.2.1 2, 5, .inr (.inl f35))), (am24, .inl (g.2.1 2, 24, .inr (.inl f24))), (am25, .inl (g.2.1 0, 25, .inl f25))] ++ pl) → va_S A s.heap H locs → W p l e ({ frames := 3, cells := 0, slots := 0, locals := 67 } : Room) s m args below meth c H locs 0 0 (MQ below (va_Qv (fun (u : va_W) => (True) ∧ okx g T xs u) (po g.1 vcl A (fun (u : va_W) => [] ++ u)) A) args s 0 0 A) (F0 m 101 ls []) := by
            intro n23
            induction n23 with
            | zero =>
              intro i23 ps23 f33 f34 f35 pl ls H locs hm23 hi23 hi24 hst hl hO hP hD hS
              obtain ⟨t22, hs⟩ := hst
              refine lv_iload hx hb dMH_ball_101 (lv_at hl 0 rfl) ?_
              refine lv_sipush (v := nI 256) hx hb dMH_ball_103 (by decide) ?_
              refine mi_ge (tgt := 193) hx hb dMH_ball_106 (by decide) (by omega) (by omega) (fun h23 => ?_) (fun h23 => absurd h23 (by omega))
              have hO := close1 (e := .inl (g.2.1 0, 25, .inl f25)) hO km25 ⟨_, rfl⟩
              have hO := close1 (e := .inl (g.2.1 2, 24, .inr (.inl f24))) hO km24 ⟨_, rfl⟩
              have hO := close1 (e := .inl (g.2.1 2, 5, .inr (.inl f35))) hO km23 ⟨_, rfl⟩
              have hO := close1 (e := .inl (g.2.1 2, 25, .inr (.inl f34))) hO km22 ⟨_, rfl⟩
              have hO := close1 (e := .inl (g.2.1 2, 25, .inr (.inl f33))) hO km21 ⟨_, rfl⟩
              have hO := close1 (e := .inr (9, [.ref am21, .ref am22, .ref am23, .ref am24, .ref am25, .int (nI 136), .int (nI ps23), .int (nI 31)])) hO kr21 ⟨_, _, _, _, _, _, _, _, rfl, km21, km22, km23, km24, km25, by omega, by omega, by omega⟩
              have hO : okx g T xs ((r21, .inr (9, [.ref am21, .ref am22, .ref am23, .ref am24, .ref am25, .int (nI 136), .int (nI ps23), .int (nI 31)])) :: (am21, .inl (g.2.1 2, 25, .inr (.inl f33))) :: (am22, .inl (g.2.1 2, 25, .inr (.inl f34))) :: (am23, .inl (g.2.1 2, 5, .inr (.inl f35))) :: (am24, .inl (g.2.1 2, 24, .inr (.inl f24))) :: (am25, .inl (g.2.1 0, 25, .inl f25)) :: pl) := hO
              have hP : va_P g.1 vcl ([] ++ ((r21, .inr (9, [.ref am21, .ref am22, .ref am23, .ref am24, .ref am25, .int (nI 136), .int (nI ps23), .int (nI 31)])) :: (am21, .inl (g.2.1 2, 25, .inr (.inl f33))) :: (am22, .inl (g.2.1 2, 25, .inr (.inl f34))) :: (am23, .inl (g.2.1 2, 5, .inr (.inl f35))) :: (am24, .inl (g.2.1 2, 24, .inr (.inl f24))) :: (am25, .inl (g.2.1 0, 25, .inl f25)) :: pl)) _ := hP
              have hD : va_D _ ([] ++ ((r21, .inr (9, [.ref am21, .ref am22, .ref am23, .ref am24, .ref am25, .int (nI 136), .int (nI ps23), .int (nI 31)])) :: (am21, .inl (g.2.1 2, 25, .inr (.inl f33))) :: (am22, .inl (g.2.1 2, 25, .inr (.inl f34))) :: (am23, .inl (g.2.1 2, 5, .inr (.inl f35))) :: (am24, .inl (g.2.1 2, 24, .inr (.inl f24))) :: (am25, .inl (g.2.1 0, 25, .inl f25)) :: pl)) := hD
              generalize ((r21, .inr (9, [.ref am21, .ref am22, .ref am23, .ref am24, .ref am25, .int (nI 136), .int (nI ps23), .int (nI 31)])) :: (am21, .inl (g.2.1 2, 25, .inr (.inl f33))) :: (am22, .inl (g.2.1 2, 25, .inr (.inl f34))) :: (am23, .inl (g.2.1 2, 5, .inr (.inl f35))) :: (am24, .inl (g.2.1 2, 24, .inr (.inl f24))) :: (am25, .inl (g.2.1 0, 25, .inl f25)) :: pl) = pl at hO hP hD
              exact mp_vret hx hb hr hlk hP hD hS pl ⟨trivial, hO⟩ [] rfl rfl rfl (by omega) (by omega) dMH_ball_193
            | succ n23 ih23 =>
              intro i23 ps23 f33 f34 f35 pl ls H locs hm23 hi23 hi24 hst hl hO hP hD hS
              obtain ⟨t22, hs⟩ := hst
              refine lv_iload hx hb dMH_ball_101 (lv_at hl 0 rfl) ?_
              refine lv_sipush (v := nI 256) hx hb dMH_ball_103 (by decide) ?_
              refine mi_ge (tgt := 193) hx hb dMH_ball_106 (by decide) (by omega) (by omega) (fun h24 => absurd h24 (by omega)) (fun h24 => ?_)
              refine lv_aload_n hx hb dMH_ball_109 rfl (lv_at hl 2 rfl) ?_
              refine ty_get (ci := 12) (C := "LatticeKeysModel$Hands") (TT := T_MH) (N := 31) (kd := (47, 0)) hx hb hts (wg_ft i_MH) hown hK hO k_h0 (nxg (clo_cons (clo_cons (clo_cons (clo_cons (clo_cons (clo_cons hc0 kr21 (by decide)) km21 (by decide)) km22 (by decide)) km23 (by decide)) km24 (by decide)) km25 (by decide)) k_h0 rfl) hP (fun _ h9 => h9) rfl 0 (by decide) (hts _ (wg_t kw_1432)) (fun _ h9 => h9) (cd := (3, 20, 0)) rfl dMH_ball_110 (fun v26 hv26 => ?_)
              obtain ⟨r24, rfl, kr24⟩ := (show ∃ r : Nat, v26 = .ref r ∧ T r = some (20, 0) from hv26)
              obtain rfl : r21 = r24 := hU _ _ _ (by decide) kr21 kr24
              refine mp_i (cx := [(r21, .inr (9, [.ref am21, .ref am22, .ref am23, .ref am24, .ref am25, .int (nI 136), .int (nI ps23), .int (nI 31)])), (am21, .inl (g.2.1 2, 25, .inr (.inl f33))), (am22, .inl (g.2.1 2, 25, .inr (.inl f34))), (am23, .inl (g.2.1 2, 5, .inr (.inl f35))), (am24, .inl (g.2.1 2, 24, .inr (.inl f24))), (am25, .inl (g.2.1 0, 25, .inl f25))]) (wr := []) hP hD hS hA [0, 1, 2, 3, 4, 5] [] rfl rfl rfl (by decide) (va_runV (As := []) (rest := []) F (x_MS_next l g _ T (am25 :: (am24 :: (am23 :: (am22 :: (am21 :: (r21 :: xs)))))) pl hO hU  r21 am21 am22 am23 am24 am25 136 ps23 (nI 31) f33 f34 f35 f24 f25 (by omega) (by omega)) (cwV 0 hts (wg_app (wg_c kw_1728 (wg_c kw_1642 (wg_c kw_1643 (wg_c kw_10 wg_n)))) kw_1644) rfl rfl rfl (by decide +kernel) ⟨by decide, by decide⟩) (pp_V (en_ok g) (q0 := 0) hK hP hD hS hA hE [0, 1, 2, 3, 4, 5] rfl rfl rfl rfl) rfl rfl hl.1 rfl (lv_room (Nat.le_of_ble_eq_true rfl)) dMH_ball_113 ⟨by omega, by omega⟩) (fun r25 u27 H locs hu24 hP hD hS => ?_)
              obtain ⟨u28, pl⟩ := u27
              obtain ⟨hq24, hO⟩ := hu24
              obtain ⟨ps24, f36, f37, f38⟩ := u28
              have hP : va_P g.1 vcl ([(r21, .inr (9, [.ref am21, .ref am22, .ref am23, .ref am24, .ref am25, .int (nI 136), .int (nI ps24), .int (nI 31)])), (am21, .inl (g.2.1 2, 25, .inr (.inl f36))), (am22, .inl (g.2.1 2, 25, .inr (.inl f37))), (am23, .inl (g.2.1 2, 5, .inr (.inl f38))), (am24, .inl (g.2.1 2, 24, .inr (.inl f24))), (am25, .inl (g.2.1 0, 25, .inl f25))] ++ pl) _ := hP
              have hD : va_D _ ([(r21, .inr (9, [.ref am21, .ref am22, .ref am23, .ref am24, .ref am25, .int (nI 136), .int (nI ps24), .int (nI 31)])), (am21, .inl (g.2.1 2, 25, .inr (.inl f36))), (am22, .inl (g.2.1 2, 25, .inr (.inl f37))), (am23, .inl (g.2.1 2, 5, .inr (.inl f38))), (am24, .inl (g.2.1 2, 24, .inr (.inl f24))), (am25, .inl (g.2.1 0, 25, .inl f25))] ++ pl) := hD
              obtain ⟨hn21, hl21, z21, hz21, rfl, h0z21⟩ := hq24
              have hl21 : ps24 ≤ 136 := hl21
              have hs := str_next (by decide) hs hn21
              refine W.widen (k := 0) (n := 0) (by omega) (by omega) ?_
              refine lv_istore (lv' := [(5, .int (nI z21)), (4, .int (nI i23)), (2, .long y21), (0, .ref h0)]) hx hb dMH_ball_116 hl (by decide) rfl (fun ls hl => ?_)
              have lp24 : ∀ (d21 : Nat) (c21 t23 : Nat) (i24 : Nat) (ps25 : Nat) (f39 f40 f41 : Nat → Int64) (pl : va_W) (ls : Array Slot) (H : Heap) (locs : List Loc), i24 < 256 → t23 + 1 * d21 = c21 * mB * 136 + 72 → str f25 f24 f29 136 t23 ps25 f39 → lv_has ls 6 [(5, .int (nI i24)), (4, .int (nI i23)), (2, .long y21), (0, .ref h0)] → okx g T (am25 :: (am24 :: (am23 :: (am22 :: (am21 :: (r21 :: xs)))))) pl → va_P g.1 vcl ([(r21, .inr (9, [.ref am21, .ref am22, .ref am23, .ref am24, .ref am25, .int (nI 136), .int (nI ps25), .int (nI 31)])), (am21, .inl (g.2.1 2, 25, .inr (.inl f39))), (am22, .inl (g.2.1 2, 25, .inr (.inl f40))), (am23, .inl (g.2.1 2, 5, .inr (.inl f41))), (am24, .inl (g.2.1 2, 24, .inr (.inl f24))), (am25, .inl (g.2.1 0, 25, .inl f25))] ++ pl) H → va_D A ([(r21, .inr (9, [.ref am21, .ref am22, .ref am23, .ref am24, .ref am25, .int (nI 136), .int (nI ps25), .int (nI 31)])), (am21, .inl (g.2.1 2, 25, .inr (.inl f39))), (am22, .inl (g.2.1 2, 25, .inr (.inl f40))), (am23, .inl (g.2.1 2, 5, .inr (.inl f41))), (am24, .inl (g.2.1 2, 24, .inr (.inl f24))), (am25, .inl (g.2.1 0, 25, .inl f25))] ++ pl) → va_S A s.heap H locs → W p l e ({ frames := 3, cells := 0, slots := 0, locals := 67 } : Room) s m args below meth c H locs 0 0 (MQ below (va_Qv (fun (u : va_W) => (True) ∧ okx g T xs u) (po g.1 vcl A (fun (u : va_W) => [] ++ u)) A) args s 0 0 A) (F0 m 118 ls []) := by
                intro d21
                induction d21 with
                | zero =>
                  intro c21 t23 i24 ps25 f39 f40 f41 pl ls H locs hi26 hd21 hs hl hO hP hD hS
                  have hsl := str_le hs
                  refine lv_iload hx hb dMH_ball_118 (lv_at hl 0 rfl) ?_
                  refine lv_iload hx hb dMH_ball_120 (lv_at hl 1 rfl) ?_
                  refine mi_le (tgt := 137) hx hb dMH_ball_122 (by decide) (by omega) (by omega) (fun h25 => ?_) (fun h25 => ?_)
                  · refine lv_aload_n hx hb dMH_ball_137 rfl (lv_at hl 3 rfl) ?_
                    refine ty_get (ci := 12) (C := "LatticeKeysModel$Hands") (TT := T_MH) (N := 31) (kd := (47, 0)) hx hb hts (wg_ft i_MH) hown hK hO k_h0 (nxg (clo_cons (clo_cons (clo_cons (clo_cons (clo_cons (clo_cons hc0 kr21 (by decide)) km21 (by decide)) km22 (by decide)) km23 (by decide)) km24 (by decide)) km25 (by decide)) k_h0 rfl) hP (fun _ h9 => h9) rfl 12 (by decide) (hts _ (wg_t kw_1444)) (fun _ h9 => h9) (cd := (3, 0, 256)) rfl dMH_ball_138 (fun v27 hv27 => ?_)
                    obtain ⟨r26, rfl, kr25⟩ := (show ∃ r : Nat, v27 = .ref r ∧ T r = some (0, 256) from hv27)
                    refine lv_iload hx hb dMH_ball_141 (lv_at hl 1 rfl) ?_
                    refine lv_aload_n hx hb dMH_ball_143 rfl (lv_at hl 3 rfl) ?_
                    refine ty_get (ci := 12) (C := "LatticeKeysModel$Hands") (TT := T_MH) (N := 31) (kd := (47, 0)) hx hb hts (wg_ft i_MH) hown hK hO k_h0 (nxg (clo_cons (clo_cons (clo_cons (clo_cons (clo_cons (clo_cons hc0 kr21 (by decide)) km21 (by decide)) km22 (by decide)) km23 (by decide)) km24 (by decide)) km25 (by decide)) k_h0 rfl) hP (fun _ h9 => h9) rfl 12 (by decide) (hts _ (wg_t kw_1444)) (fun _ h9 => h9) (cd := (3, 0, 256)) rfl dMH_ball_144 (fun v28 hv28 => ?_)
                    obtain ⟨r27, rfl, kr26⟩ := (show ∃ r : Nat, v28 = .ref r ∧ T r = some (0, 256) from hv28)
                    refine lv_iload hx hb dMH_ball_147 (lv_at hl 0 rfl) ?_
                    refine ty_iald hx hb hK hO kr26 (nxg (clo_cons (clo_cons (clo_cons (clo_cons (clo_cons (clo_cons hc0 kr21 (by decide)) km21 (by decide)) km22 (by decide)) km23 (by decide)) km24 (by decide)) km25 (by decide)) kr26 rfl) hP (vp_in_nI (by omega) (by decide)) dMH_ball_149 (fun z22 => ?_)
                    refine ty_iast hx hb hK hO kr25 (nxg (clo_cons (clo_cons (clo_cons (clo_cons (clo_cons (clo_cons hc0 kr21 (by decide)) km21 (by decide)) km22 (by decide)) km23 (by decide)) km24 (by decide)) km25 (by decide)) kr25 rfl) hP hD hS (vp_in_nI (by omega) (by decide)) dMH_ball_150 (fun pl H locs hO hP hD hS => ?_)
                    refine lv_aload_n hx hb dMH_ball_151 rfl (lv_at hl 3 rfl) ?_
                    refine ty_get (ci := 12) (C := "LatticeKeysModel$Hands") (TT := T_MH) (N := 31) (kd := (47, 0)) hx hb hts (wg_ft i_MH) hown hK hO k_h0 (nxg (clo_cons (clo_cons (clo_cons (clo_cons (clo_cons (clo_cons hc0 kr21 (by decide)) km21 (by decide)) km22 (by decide)) km23 (by decide)) km24 (by decide)) km25 (by decide)) k_h0 rfl) hP (fun _ h9 => h9) rfl 12 (by decide) (hts _ (wg_t kw_1444)) (fun _ h9 => h9) (cd := (3, 0, 256)) rfl dMH_ball_152 (fun v29 hv29 => ?_)
                    obtain ⟨r28, rfl, kr27⟩ := (show ∃ r : Nat, v29 = .ref r ∧ T r = some (0, 256) from hv29)
                    refine lv_iload hx hb dMH_ball_155 (lv_at hl 0 rfl) ?_
                    refine lv_lload_n hx hb dMH_ball_157 rfl (lv_at hl 2 rfl) ?_
                    refine lv_iload hx hb dMH_ball_158 (lv_at hl 1 rfl) ?_
                    refine va_gets hx hb (hE.2.1 26 _ rfl).1 hS hown (hts _ (wg_t kw_1716)) (fun _ h9 => h9) dMH_ball_160 ?_
                    refine lv_aload_n hx hb dMH_ball_163 rfl (lv_at hl 3 rfl) ?_
                    refine ty_get (ci := 12) (C := "LatticeKeysModel$Hands") (TT := T_MH) (N := 31) (kd := (47, 0)) hx hb hts (wg_ft i_MH) hown hK hO k_h0 (nxg (clo_cons (clo_cons (clo_cons (clo_cons (clo_cons (clo_cons hc0 kr21 (by decide)) km21 (by decide)) km22 (by decide)) km23 (by decide)) km24 (by decide)) km25 (by decide)) k_h0 rfl) hP (fun _ h9 => h9) rfl 23 (by decide) (hts _ (wg_t kw_1455)) (fun _ h9 => h9) (cd := (1, 0, 1)) rfl dMH_ball_164 (fun v30 hv30 => ?_)
                    obtain rfl := (show v30 = .int (nI 1) from hv30)
                    refine va_ti (v := .int (nI 49)) hx hb (hE.2.1 26 _ rfl).2 hS (vp_in_nI (by decide) (by decide)) (by decide +kernel) dMH_ball_167 ?_
                    refine mi_iadd hx hb dMH_ball_168 ?_
                    refine lv_sipush (v := nI 256) hx hb dMH_ball_169 (by decide) ?_
                    refine lv_isub hx hb dMH_ball_172 ?_
                    refine mi_any (fun z23 => ?_)
                    refine lv_lushr hx hb dMH_ball_173 rfl ?_
                    refine ml_any (fun y22 => ?_)
                    refine lv_lconst (v := 1) hx hb dMH_ball_174 (by decide) ?_
                    refine lv_land hx hb dMH_ball_175 ?_
                    refine lv_lconst (v := 1) hx hb dMH_ball_176 (by decide) ?_
                    refine W.lcmp hx hb dMH_ball_177 ?_
                    refine mi_any (fun z24 => ?_)
                    refine lv_if_ne (tgt := 185) hx hb dMH_ball_178 (by decide) (fun h26 => ?_) (fun h26 => ?_)
                    · refine lv_iconst (v := nI 1) hx hb dMH_ball_185 (by decide) ?_
                      refine ty_iast hx hb hK hO kr27 (nxg (clo_cons (clo_cons (clo_cons (clo_cons (clo_cons (clo_cons hc0 kr21 (by decide)) km21 (by decide)) km22 (by decide)) km23 (by decide)) km24 (by decide)) km25 (by decide)) kr27 rfl) hP hD hS (vp_in_nI (by omega) (by decide)) dMH_ball_186 (fun pl H locs hO hP hD hS => ?_)
                      refine mi_iinc (k := 1) (x := i23) (d := 1) (y := i23 + 1) (lv' := [(4, .int (nI (i23 + 1))), (5, .int (nI i24)), (2, .long y21), (0, .ref h0)]) hx hb dMH_ball_187 hl rfl (by decide) rfl (by decide) rfl (fun ls hl => ?_)
                      refine lv_goto (tgt := 101) hx hb dMH_ball_190 (by decide) ?_
                      exact ih23 (i23 + 1) ps25 f39 f40 f41 pl ls H locs (by omega) (by omega) (by omega) ⟨_, hs⟩ (lv_sub hl [0, 2, 3] rfl) hO hP hD hS
                    · refine lv_iconst (v := (-1)) hx hb dMH_ball_181 (by decide) ?_
                      refine lv_goto (tgt := 186) hx hb dMH_ball_182 (by decide) ?_
                      refine ty_iast hx hb hK hO kr27 (nxg (clo_cons (clo_cons (clo_cons (clo_cons (clo_cons (clo_cons hc0 kr21 (by decide)) km21 (by decide)) km22 (by decide)) km23 (by decide)) km24 (by decide)) km25 (by decide)) kr27 rfl) hP hD hS (vp_in_nI (by omega) (by decide)) dMH_ball_186 (fun pl H locs hO hP hD hS => ?_)
                      refine mi_iinc (k := 1) (x := i23) (d := 1) (y := i23 + 1) (lv' := [(4, .int (nI (i23 + 1))), (5, .int (nI i24)), (2, .long y21), (0, .ref h0)]) hx hb dMH_ball_187 hl rfl (by decide) rfl (by decide) rfl (fun ls hl => ?_)
                      refine lv_goto (tgt := 101) hx hb dMH_ball_190 (by decide) ?_
                      exact ih23 (i23 + 1) ps25 f39 f40 f41 pl ls H locs (by omega) (by omega) (by omega) ⟨_, hs⟩ (lv_sub hl [0, 2, 3] rfl) hO hP hD hS
                  · refine lv_aload_n hx hb dMH_ball_125 rfl (lv_at hl 3 rfl) ?_
                    refine ty_get (ci := 12) (C := "LatticeKeysModel$Hands") (TT := T_MH) (N := 31) (kd := (47, 0)) hx hb hts (wg_ft i_MH) hown hK hO k_h0 (nxg (clo_cons (clo_cons (clo_cons (clo_cons (clo_cons (clo_cons hc0 kr21 (by decide)) km21 (by decide)) km22 (by decide)) km23 (by decide)) km24 (by decide)) km25 (by decide)) k_h0 rfl) hP (fun _ h9 => h9) rfl 0 (by decide) (hts _ (wg_t kw_1432)) (fun _ h9 => h9) (cd := (3, 20, 0)) rfl dMH_ball_126 (fun v31 hv31 => ?_)
                    obtain ⟨r29, rfl, kr28⟩ := (show ∃ r : Nat, v31 = .ref r ∧ T r = some (20, 0) from hv31)
                    obtain rfl : r21 = r29 := hU _ _ _ (by decide) kr21 kr28
                    refine mp_i (cx := [(r21, .inr (9, [.ref am21, .ref am22, .ref am23, .ref am24, .ref am25, .int (nI 136), .int (nI ps25), .int (nI 31)])), (am21, .inl (g.2.1 2, 25, .inr (.inl f39))), (am22, .inl (g.2.1 2, 25, .inr (.inl f40))), (am23, .inl (g.2.1 2, 5, .inr (.inl f41))), (am24, .inl (g.2.1 2, 24, .inr (.inl f24))), (am25, .inl (g.2.1 0, 25, .inl f25))]) (wr := []) hP hD hS hA [0, 1, 2, 3, 4, 5] [] rfl rfl rfl (by decide) (va_runV (As := []) (rest := []) F (x_MS_next l g _ T (am25 :: (am24 :: (am23 :: (am22 :: (am21 :: (r21 :: xs)))))) pl hO hU  r21 am21 am22 am23 am24 am25 136 ps25 (nI 31) f39 f40 f41 f24 f25 (by omega) (by omega)) (cwV 0 hts (wg_app (wg_c kw_1728 (wg_c kw_1642 (wg_c kw_1643 (wg_c kw_10 wg_n)))) kw_1644) rfl rfl rfl (by decide +kernel) ⟨by decide, by decide⟩) (pp_V (en_ok g) (q0 := 0) hK hP hD hS hA hE [0, 1, 2, 3, 4, 5] rfl rfl rfl rfl) rfl rfl hl.1 rfl (lv_room (Nat.le_of_ble_eq_true rfl)) dMH_ball_129 ⟨by omega, by omega⟩) (fun r30 u29 H locs hu25 hP hD hS => ?_)
                    obtain ⟨u30, pl⟩ := u29
                    obtain ⟨hq25, hO⟩ := hu25
                    obtain ⟨ps26, f42, f43, f44⟩ := u30
                    have hP : va_P g.1 vcl ([(r21, .inr (9, [.ref am21, .ref am22, .ref am23, .ref am24, .ref am25, .int (nI 136), .int (nI ps26), .int (nI 31)])), (am21, .inl (g.2.1 2, 25, .inr (.inl f42))), (am22, .inl (g.2.1 2, 25, .inr (.inl f43))), (am23, .inl (g.2.1 2, 5, .inr (.inl f44))), (am24, .inl (g.2.1 2, 24, .inr (.inl f24))), (am25, .inl (g.2.1 0, 25, .inl f25))] ++ pl) _ := hP
                    have hD : va_D _ ([(r21, .inr (9, [.ref am21, .ref am22, .ref am23, .ref am24, .ref am25, .int (nI 136), .int (nI ps26), .int (nI 31)])), (am21, .inl (g.2.1 2, 25, .inr (.inl f42))), (am22, .inl (g.2.1 2, 25, .inr (.inl f43))), (am23, .inl (g.2.1 2, 5, .inr (.inl f44))), (am24, .inl (g.2.1 2, 24, .inr (.inl f24))), (am25, .inl (g.2.1 0, 25, .inl f25))] ++ pl) := hD
                    obtain ⟨hn22, hl22, z25, hz22, rfl, h0z22⟩ := hq25
                    have hl22 : ps26 ≤ 136 := hl22
                    have hzzz25 : z25 = 0 := str_zero (q := 72) (hmP c21) hs hn22 (by omega) (by decide) (by decide) (hz 9 (by decide) (by decide)) (by decide) h0z22
                    have hs := str_next (by decide) hs hn22
                    refine W.widen (k := 0) (n := 0) (by omega) (by omega) ?_
                    refine lv_istore (lv' := [(5, .int (nI z25)), (4, .int (nI i23)), (2, .long y21), (0, .ref h0)]) hx hb dMH_ball_132 hl (by decide) rfl (fun ls hl => ?_)
                    refine lv_goto (tgt := 118) hx hb dMH_ball_134 (by decide) ?_
                    refine lv_iload hx hb dMH_ball_118 (lv_at hl 0 rfl) ?_
                    refine lv_iload hx hb dMH_ball_120 (lv_at hl 1 rfl) ?_
                    refine mi_le (tgt := 137) hx hb dMH_ball_122 (by decide) (by omega) (by omega) (fun h27 => ?_) (fun h27 => absurd h27 (by omega))
                    refine lv_aload_n hx hb dMH_ball_137 rfl (lv_at hl 3 rfl) ?_
                    refine ty_get (ci := 12) (C := "LatticeKeysModel$Hands") (TT := T_MH) (N := 31) (kd := (47, 0)) hx hb hts (wg_ft i_MH) hown hK hO k_h0 (nxg (clo_cons (clo_cons (clo_cons (clo_cons (clo_cons (clo_cons hc0 kr21 (by decide)) km21 (by decide)) km22 (by decide)) km23 (by decide)) km24 (by decide)) km25 (by decide)) k_h0 rfl) hP (fun _ h9 => h9) rfl 12 (by decide) (hts _ (wg_t kw_1444)) (fun _ h9 => h9) (cd := (3, 0, 256)) rfl dMH_ball_138 (fun v32 hv32 => ?_)
                    obtain ⟨r31, rfl, kr29⟩ := (show ∃ r : Nat, v32 = .ref r ∧ T r = some (0, 256) from hv32)
                    refine lv_iload hx hb dMH_ball_141 (lv_at hl 1 rfl) ?_
                    refine lv_aload_n hx hb dMH_ball_143 rfl (lv_at hl 3 rfl) ?_
                    refine ty_get (ci := 12) (C := "LatticeKeysModel$Hands") (TT := T_MH) (N := 31) (kd := (47, 0)) hx hb hts (wg_ft i_MH) hown hK hO k_h0 (nxg (clo_cons (clo_cons (clo_cons (clo_cons (clo_cons (clo_cons hc0 kr21 (by decide)) km21 (by decide)) km22 (by decide)) km23 (by decide)) km24 (by decide)) km25 (by decide)) k_h0 rfl) hP (fun _ h9 => h9) rfl 12 (by decide) (hts _ (wg_t kw_1444)) (fun _ h9 => h9) (cd := (3, 0, 256)) rfl dMH_ball_144 (fun v33 hv33 => ?_)
                    obtain ⟨r32, rfl, kr30⟩ := (show ∃ r : Nat, v33 = .ref r ∧ T r = some (0, 256) from hv33)
                    refine lv_iload hx hb dMH_ball_147 (lv_at hl 0 rfl) ?_
                    refine ty_iald hx hb hK hO kr30 (nxg (clo_cons (clo_cons (clo_cons (clo_cons (clo_cons (clo_cons hc0 kr21 (by decide)) km21 (by decide)) km22 (by decide)) km23 (by decide)) km24 (by decide)) km25 (by decide)) kr30 rfl) hP (vp_in_nI (by omega) (by decide)) dMH_ball_149 (fun z26 => ?_)
                    refine ty_iast hx hb hK hO kr29 (nxg (clo_cons (clo_cons (clo_cons (clo_cons (clo_cons (clo_cons hc0 kr21 (by decide)) km21 (by decide)) km22 (by decide)) km23 (by decide)) km24 (by decide)) km25 (by decide)) kr29 rfl) hP hD hS (vp_in_nI (by omega) (by decide)) dMH_ball_150 (fun pl H locs hO hP hD hS => ?_)
                    refine lv_aload_n hx hb dMH_ball_151 rfl (lv_at hl 3 rfl) ?_
                    refine ty_get (ci := 12) (C := "LatticeKeysModel$Hands") (TT := T_MH) (N := 31) (kd := (47, 0)) hx hb hts (wg_ft i_MH) hown hK hO k_h0 (nxg (clo_cons (clo_cons (clo_cons (clo_cons (clo_cons (clo_cons hc0 kr21 (by decide)) km21 (by decide)) km22 (by decide)) km23 (by decide)) km24 (by decide)) km25 (by decide)) k_h0 rfl) hP (fun _ h9 => h9) rfl 12 (by decide) (hts _ (wg_t kw_1444)) (fun _ h9 => h9) (cd := (3, 0, 256)) rfl dMH_ball_152 (fun v34 hv34 => ?_)
                    obtain ⟨r33, rfl, kr31⟩ := (show ∃ r : Nat, v34 = .ref r ∧ T r = some (0, 256) from hv34)
                    refine lv_iload hx hb dMH_ball_155 (lv_at hl 0 rfl) ?_
                    refine lv_lload_n hx hb dMH_ball_157 rfl (lv_at hl 2 rfl) ?_
                    refine lv_iload hx hb dMH_ball_158 (lv_at hl 1 rfl) ?_
                    refine va_gets hx hb (hE.2.1 26 _ rfl).1 hS hown (hts _ (wg_t kw_1716)) (fun _ h9 => h9) dMH_ball_160 ?_
                    refine lv_aload_n hx hb dMH_ball_163 rfl (lv_at hl 3 rfl) ?_
                    refine ty_get (ci := 12) (C := "LatticeKeysModel$Hands") (TT := T_MH) (N := 31) (kd := (47, 0)) hx hb hts (wg_ft i_MH) hown hK hO k_h0 (nxg (clo_cons (clo_cons (clo_cons (clo_cons (clo_cons (clo_cons hc0 kr21 (by decide)) km21 (by decide)) km22 (by decide)) km23 (by decide)) km24 (by decide)) km25 (by decide)) k_h0 rfl) hP (fun _ h9 => h9) rfl 23 (by decide) (hts _ (wg_t kw_1455)) (fun _ h9 => h9) (cd := (1, 0, 1)) rfl dMH_ball_164 (fun v35 hv35 => ?_)
                    obtain rfl := (show v35 = .int (nI 1) from hv35)
                    refine va_ti (v := .int (nI 49)) hx hb (hE.2.1 26 _ rfl).2 hS (vp_in_nI (by decide) (by decide)) (by decide +kernel) dMH_ball_167 ?_
                    refine mi_iadd hx hb dMH_ball_168 ?_
                    refine lv_sipush (v := nI 256) hx hb dMH_ball_169 (by decide) ?_
                    refine lv_isub hx hb dMH_ball_172 ?_
                    refine mi_any (fun z27 => ?_)
                    refine lv_lushr hx hb dMH_ball_173 rfl ?_
                    refine ml_any (fun y23 => ?_)
                    refine lv_lconst (v := 1) hx hb dMH_ball_174 (by decide) ?_
                    refine lv_land hx hb dMH_ball_175 ?_
                    refine lv_lconst (v := 1) hx hb dMH_ball_176 (by decide) ?_
                    refine W.lcmp hx hb dMH_ball_177 ?_
                    refine mi_any (fun z28 => ?_)
                    refine lv_if_ne (tgt := 185) hx hb dMH_ball_178 (by decide) (fun h28 => ?_) (fun h28 => ?_)
                    · refine lv_iconst (v := nI 1) hx hb dMH_ball_185 (by decide) ?_
                      refine ty_iast hx hb hK hO kr31 (nxg (clo_cons (clo_cons (clo_cons (clo_cons (clo_cons (clo_cons hc0 kr21 (by decide)) km21 (by decide)) km22 (by decide)) km23 (by decide)) km24 (by decide)) km25 (by decide)) kr31 rfl) hP hD hS (vp_in_nI (by omega) (by decide)) dMH_ball_186 (fun pl H locs hO hP hD hS => ?_)
                      refine mi_iinc (k := 1) (x := i23) (d := 1) (y := i23 + 1) (lv' := [(4, .int (nI (i23 + 1))), (5, .int (nI z25)), (2, .long y21), (0, .ref h0)]) hx hb dMH_ball_187 hl rfl (by decide) rfl (by decide) rfl (fun ls hl => ?_)
                      refine lv_goto (tgt := 101) hx hb dMH_ball_190 (by decide) ?_
                      exact ih23 (i23 + 1) ps26 f42 f43 f44 pl ls H locs (by omega) (by omega) (by omega) ⟨_, hs⟩ (lv_sub hl [0, 2, 3] rfl) hO hP hD hS
                    · refine lv_iconst (v := (-1)) hx hb dMH_ball_181 (by decide) ?_
                      refine lv_goto (tgt := 186) hx hb dMH_ball_182 (by decide) ?_
                      refine ty_iast hx hb hK hO kr31 (nxg (clo_cons (clo_cons (clo_cons (clo_cons (clo_cons (clo_cons hc0 kr21 (by decide)) km21 (by decide)) km22 (by decide)) km23 (by decide)) km24 (by decide)) km25 (by decide)) kr31 rfl) hP hD hS (vp_in_nI (by omega) (by decide)) dMH_ball_186 (fun pl H locs hO hP hD hS => ?_)
                      refine mi_iinc (k := 1) (x := i23) (d := 1) (y := i23 + 1) (lv' := [(4, .int (nI (i23 + 1))), (5, .int (nI z25)), (2, .long y21), (0, .ref h0)]) hx hb dMH_ball_187 hl rfl (by decide) rfl (by decide) rfl (fun ls hl => ?_)
                      refine lv_goto (tgt := 101) hx hb dMH_ball_190 (by decide) ?_
                      exact ih23 (i23 + 1) ps26 f42 f43 f44 pl ls H locs (by omega) (by omega) (by omega) ⟨_, hs⟩ (lv_sub hl [0, 2, 3] rfl) hO hP hD hS
                | succ d21 ihd21 =>
                  intro c21 t23 i24 ps25 f39 f40 f41 pl ls H locs hi26 hd21 hs hl hO hP hD hS
                  have hsl := str_le hs
                  refine lv_iload hx hb dMH_ball_118 (lv_at hl 0 rfl) ?_
                  refine lv_iload hx hb dMH_ball_120 (lv_at hl 1 rfl) ?_
                  refine mi_le (tgt := 137) hx hb dMH_ball_122 (by decide) (by omega) (by omega) (fun h29 => ?_) (fun h29 => ?_)
                  · refine lv_aload_n hx hb dMH_ball_137 rfl (lv_at hl 3 rfl) ?_
                    refine ty_get (ci := 12) (C := "LatticeKeysModel$Hands") (TT := T_MH) (N := 31) (kd := (47, 0)) hx hb hts (wg_ft i_MH) hown hK hO k_h0 (nxg (clo_cons (clo_cons (clo_cons (clo_cons (clo_cons (clo_cons hc0 kr21 (by decide)) km21 (by decide)) km22 (by decide)) km23 (by decide)) km24 (by decide)) km25 (by decide)) k_h0 rfl) hP (fun _ h9 => h9) rfl 12 (by decide) (hts _ (wg_t kw_1444)) (fun _ h9 => h9) (cd := (3, 0, 256)) rfl dMH_ball_138 (fun v36 hv36 => ?_)
                    obtain ⟨r34, rfl, kr32⟩ := (show ∃ r : Nat, v36 = .ref r ∧ T r = some (0, 256) from hv36)
                    refine lv_iload hx hb dMH_ball_141 (lv_at hl 1 rfl) ?_
                    refine lv_aload_n hx hb dMH_ball_143 rfl (lv_at hl 3 rfl) ?_
                    refine ty_get (ci := 12) (C := "LatticeKeysModel$Hands") (TT := T_MH) (N := 31) (kd := (47, 0)) hx hb hts (wg_ft i_MH) hown hK hO k_h0 (nxg (clo_cons (clo_cons (clo_cons (clo_cons (clo_cons (clo_cons hc0 kr21 (by decide)) km21 (by decide)) km22 (by decide)) km23 (by decide)) km24 (by decide)) km25 (by decide)) k_h0 rfl) hP (fun _ h9 => h9) rfl 12 (by decide) (hts _ (wg_t kw_1444)) (fun _ h9 => h9) (cd := (3, 0, 256)) rfl dMH_ball_144 (fun v37 hv37 => ?_)
                    obtain ⟨r35, rfl, kr33⟩ := (show ∃ r : Nat, v37 = .ref r ∧ T r = some (0, 256) from hv37)
                    refine lv_iload hx hb dMH_ball_147 (lv_at hl 0 rfl) ?_
                    refine ty_iald hx hb hK hO kr33 (nxg (clo_cons (clo_cons (clo_cons (clo_cons (clo_cons (clo_cons hc0 kr21 (by decide)) km21 (by decide)) km22 (by decide)) km23 (by decide)) km24 (by decide)) km25 (by decide)) kr33 rfl) hP (vp_in_nI (by omega) (by decide)) dMH_ball_149 (fun z29 => ?_)
                    refine ty_iast hx hb hK hO kr32 (nxg (clo_cons (clo_cons (clo_cons (clo_cons (clo_cons (clo_cons hc0 kr21 (by decide)) km21 (by decide)) km22 (by decide)) km23 (by decide)) km24 (by decide)) km25 (by decide)) kr32 rfl) hP hD hS (vp_in_nI (by omega) (by decide)) dMH_ball_150 (fun pl H locs hO hP hD hS => ?_)
                    refine lv_aload_n hx hb dMH_ball_151 rfl (lv_at hl 3 rfl) ?_
                    refine ty_get (ci := 12) (C := "LatticeKeysModel$Hands") (TT := T_MH) (N := 31) (kd := (47, 0)) hx hb hts (wg_ft i_MH) hown hK hO k_h0 (nxg (clo_cons (clo_cons (clo_cons (clo_cons (clo_cons (clo_cons hc0 kr21 (by decide)) km21 (by decide)) km22 (by decide)) km23 (by decide)) km24 (by decide)) km25 (by decide)) k_h0 rfl) hP (fun _ h9 => h9) rfl 12 (by decide) (hts _ (wg_t kw_1444)) (fun _ h9 => h9) (cd := (3, 0, 256)) rfl dMH_ball_152 (fun v38 hv38 => ?_)
                    obtain ⟨r36, rfl, kr34⟩ := (show ∃ r : Nat, v38 = .ref r ∧ T r = some (0, 256) from hv38)
                    refine lv_iload hx hb dMH_ball_155 (lv_at hl 0 rfl) ?_
                    refine lv_lload_n hx hb dMH_ball_157 rfl (lv_at hl 2 rfl) ?_
                    refine lv_iload hx hb dMH_ball_158 (lv_at hl 1 rfl) ?_
                    refine va_gets hx hb (hE.2.1 26 _ rfl).1 hS hown (hts _ (wg_t kw_1716)) (fun _ h9 => h9) dMH_ball_160 ?_
                    refine lv_aload_n hx hb dMH_ball_163 rfl (lv_at hl 3 rfl) ?_
                    refine ty_get (ci := 12) (C := "LatticeKeysModel$Hands") (TT := T_MH) (N := 31) (kd := (47, 0)) hx hb hts (wg_ft i_MH) hown hK hO k_h0 (nxg (clo_cons (clo_cons (clo_cons (clo_cons (clo_cons (clo_cons hc0 kr21 (by decide)) km21 (by decide)) km22 (by decide)) km23 (by decide)) km24 (by decide)) km25 (by decide)) k_h0 rfl) hP (fun _ h9 => h9) rfl 23 (by decide) (hts _ (wg_t kw_1455)) (fun _ h9 => h9) (cd := (1, 0, 1)) rfl dMH_ball_164 (fun v39 hv39 => ?_)
                    obtain rfl := (show v39 = .int (nI 1) from hv39)
                    refine va_ti (v := .int (nI 49)) hx hb (hE.2.1 26 _ rfl).2 hS (vp_in_nI (by decide) (by decide)) (by decide +kernel) dMH_ball_167 ?_
                    refine mi_iadd hx hb dMH_ball_168 ?_
                    refine lv_sipush (v := nI 256) hx hb dMH_ball_169 (by decide) ?_
                    refine lv_isub hx hb dMH_ball_172 ?_
                    refine mi_any (fun z30 => ?_)
                    refine lv_lushr hx hb dMH_ball_173 rfl ?_
                    refine ml_any (fun y24 => ?_)
                    refine lv_lconst (v := 1) hx hb dMH_ball_174 (by decide) ?_
                    refine lv_land hx hb dMH_ball_175 ?_
                    refine lv_lconst (v := 1) hx hb dMH_ball_176 (by decide) ?_
                    refine W.lcmp hx hb dMH_ball_177 ?_
                    refine mi_any (fun z31 => ?_)
                    refine lv_if_ne (tgt := 185) hx hb dMH_ball_178 (by decide) (fun h30 => ?_) (fun h30 => ?_)
                    · refine lv_iconst (v := nI 1) hx hb dMH_ball_185 (by decide) ?_
                      refine ty_iast hx hb hK hO kr34 (nxg (clo_cons (clo_cons (clo_cons (clo_cons (clo_cons (clo_cons hc0 kr21 (by decide)) km21 (by decide)) km22 (by decide)) km23 (by decide)) km24 (by decide)) km25 (by decide)) kr34 rfl) hP hD hS (vp_in_nI (by omega) (by decide)) dMH_ball_186 (fun pl H locs hO hP hD hS => ?_)
                      refine mi_iinc (k := 1) (x := i23) (d := 1) (y := i23 + 1) (lv' := [(4, .int (nI (i23 + 1))), (5, .int (nI i24)), (2, .long y21), (0, .ref h0)]) hx hb dMH_ball_187 hl rfl (by decide) rfl (by decide) rfl (fun ls hl => ?_)
                      refine lv_goto (tgt := 101) hx hb dMH_ball_190 (by decide) ?_
                      exact ih23 (i23 + 1) ps25 f39 f40 f41 pl ls H locs (by omega) (by omega) (by omega) ⟨_, hs⟩ (lv_sub hl [0, 2, 3] rfl) hO hP hD hS
                    · refine lv_iconst (v := (-1)) hx hb dMH_ball_181 (by decide) ?_
                      refine lv_goto (tgt := 186) hx hb dMH_ball_182 (by decide) ?_
                      refine ty_iast hx hb hK hO kr34 (nxg (clo_cons (clo_cons (clo_cons (clo_cons (clo_cons (clo_cons hc0 kr21 (by decide)) km21 (by decide)) km22 (by decide)) km23 (by decide)) km24 (by decide)) km25 (by decide)) kr34 rfl) hP hD hS (vp_in_nI (by omega) (by decide)) dMH_ball_186 (fun pl H locs hO hP hD hS => ?_)
                      refine mi_iinc (k := 1) (x := i23) (d := 1) (y := i23 + 1) (lv' := [(4, .int (nI (i23 + 1))), (5, .int (nI i24)), (2, .long y21), (0, .ref h0)]) hx hb dMH_ball_187 hl rfl (by decide) rfl (by decide) rfl (fun ls hl => ?_)
                      refine lv_goto (tgt := 101) hx hb dMH_ball_190 (by decide) ?_
                      exact ih23 (i23 + 1) ps25 f39 f40 f41 pl ls H locs (by omega) (by omega) (by omega) ⟨_, hs⟩ (lv_sub hl [0, 2, 3] rfl) hO hP hD hS
                  · refine lv_aload_n hx hb dMH_ball_125 rfl (lv_at hl 3 rfl) ?_
                    refine ty_get (ci := 12) (C := "LatticeKeysModel$Hands") (TT := T_MH) (N := 31) (kd := (47, 0)) hx hb hts (wg_ft i_MH) hown hK hO k_h0 (nxg (clo_cons (clo_cons (clo_cons (clo_cons (clo_cons (clo_cons hc0 kr21 (by decide)) km21 (by decide)) km22 (by decide)) km23 (by decide)) km24 (by decide)) km25 (by decide)) k_h0 rfl) hP (fun _ h9 => h9) rfl 0 (by decide) (hts _ (wg_t kw_1432)) (fun _ h9 => h9) (cd := (3, 20, 0)) rfl dMH_ball_126 (fun v40 hv40 => ?_)
                    obtain ⟨r37, rfl, kr35⟩ := (show ∃ r : Nat, v40 = .ref r ∧ T r = some (20, 0) from hv40)
                    obtain rfl : r21 = r37 := hU _ _ _ (by decide) kr21 kr35
                    refine mp_i (cx := [(r21, .inr (9, [.ref am21, .ref am22, .ref am23, .ref am24, .ref am25, .int (nI 136), .int (nI ps25), .int (nI 31)])), (am21, .inl (g.2.1 2, 25, .inr (.inl f39))), (am22, .inl (g.2.1 2, 25, .inr (.inl f40))), (am23, .inl (g.2.1 2, 5, .inr (.inl f41))), (am24, .inl (g.2.1 2, 24, .inr (.inl f24))), (am25, .inl (g.2.1 0, 25, .inl f25))]) (wr := []) hP hD hS hA [0, 1, 2, 3, 4, 5] [] rfl rfl rfl (by decide) (va_runV (As := []) (rest := []) F (x_MS_next l g _ T (am25 :: (am24 :: (am23 :: (am22 :: (am21 :: (r21 :: xs)))))) pl hO hU  r21 am21 am22 am23 am24 am25 136 ps25 (nI 31) f39 f40 f41 f24 f25 (by omega) (by omega)) (cwV 0 hts (wg_app (wg_c kw_1728 (wg_c kw_1642 (wg_c kw_1643 (wg_c kw_10 wg_n)))) kw_1644) rfl rfl rfl (by decide +kernel) ⟨by decide, by decide⟩) (pp_V (en_ok g) (q0 := 0) hK hP hD hS hA hE [0, 1, 2, 3, 4, 5] rfl rfl rfl rfl) rfl rfl hl.1 rfl (lv_room (Nat.le_of_ble_eq_true rfl)) dMH_ball_129 ⟨by omega, by omega⟩) (fun r38 u31 H locs hu26 hP hD hS => ?_)
                    obtain ⟨u32, pl⟩ := u31
                    obtain ⟨hq26, hO⟩ := hu26
                    obtain ⟨ps27, f45, f46, f47⟩ := u32
                    have hP : va_P g.1 vcl ([(r21, .inr (9, [.ref am21, .ref am22, .ref am23, .ref am24, .ref am25, .int (nI 136), .int (nI ps27), .int (nI 31)])), (am21, .inl (g.2.1 2, 25, .inr (.inl f45))), (am22, .inl (g.2.1 2, 25, .inr (.inl f46))), (am23, .inl (g.2.1 2, 5, .inr (.inl f47))), (am24, .inl (g.2.1 2, 24, .inr (.inl f24))), (am25, .inl (g.2.1 0, 25, .inl f25))] ++ pl) _ := hP
                    have hD : va_D _ ([(r21, .inr (9, [.ref am21, .ref am22, .ref am23, .ref am24, .ref am25, .int (nI 136), .int (nI ps27), .int (nI 31)])), (am21, .inl (g.2.1 2, 25, .inr (.inl f45))), (am22, .inl (g.2.1 2, 25, .inr (.inl f46))), (am23, .inl (g.2.1 2, 5, .inr (.inl f47))), (am24, .inl (g.2.1 2, 24, .inr (.inl f24))), (am25, .inl (g.2.1 0, 25, .inl f25))] ++ pl) := hD
                    obtain ⟨hn23, hl23, z32, hz23, rfl, h0z23⟩ := hq26
                    have hl23 : ps27 ≤ 136 := hl23
                    have hs := str_next (by decide) hs hn23
                    refine W.widen (k := 0) (n := 0) (by omega) (by omega) ?_
                    refine lv_istore (lv' := [(5, .int (nI z32)), (4, .int (nI i23)), (2, .long y21), (0, .ref h0)]) hx hb dMH_ball_132 hl (by decide) rfl (fun ls hl => ?_)
                    refine lv_goto (tgt := 118) hx hb dMH_ball_134 (by decide) ?_
                    exact ihd21 c21 (t23 + 1) z32 ps27 f45 f46 f47 pl ls H locs (by omega) (by omega) hs (lv_sub hl [0, 1, 2, 3] rfl) hO hP hD hS
              have htg := tgt_le (m := mB) (t := t22 + 1) (rt := 136) (p := 72) hm0 (by decide)
              exact lp24 ((t22 + 1 + 1) * mB * 136 + 72 - (t22 + 1)) (t22 + 1 + 1) (t22 + 1) z21 ps24 f36 f37 f38 pl ls _ _ (by omega) (by omega) hs (lv_sub hl [0, 1, 2, 3] rfl) hO hP hD hS
          exact lp23 (256 - 207) 207 ps22 f30 f31 f32 pl ls _ _ (by omega) (by omega) (by omega) ⟨_, hs⟩ (lv_sub hl [0, 1, 2] rfl) hO hP hD hS
        | succ n22 ih22 =>
          intro i22 pl ls H locs hm22  hl hO hP hD hS
          refine lv_iload hx hb dMH_ball_65 (lv_at hl 0 rfl) ?_
          refine lv_sipush (v := nI 256) hx hb dMH_ball_67 (by decide) ?_
          refine mi_ge (tgt := 87) hx hb dMH_ball_70 (by decide) (by omega) (by omega) (fun h31 => absurd h31 (by omega)) (fun h31 => ?_)
          refine lv_aload_n hx hb dMH_ball_73 rfl (lv_at hl 2 rfl) ?_
          refine ty_get (ci := 12) (C := "LatticeKeysModel$Hands") (TT := T_MH) (N := 31) (kd := (47, 0)) hx hb hts (wg_ft i_MH) hown hK hO k_h0 (nxg (clo_cons (clo_cons (clo_cons (clo_cons (clo_cons (clo_cons hc0 kr21 (by decide)) km21 (by decide)) km22 (by decide)) km23 (by decide)) km24 (by decide)) km25 (by decide)) k_h0 rfl) hP (fun _ h9 => h9) rfl 12 (by decide) (hts _ (wg_t kw_1444)) (fun _ h9 => h9) (cd := (3, 0, 256)) rfl dMH_ball_74 (fun v41 hv41 => ?_)
          obtain ⟨r39, rfl, kr36⟩ := (show ∃ r : Nat, v41 = .ref r ∧ T r = some (0, 256) from hv41)
          refine lv_iload hx hb dMH_ball_77 (lv_at hl 0 rfl) ?_
          refine lv_iconst (v := nI 0) hx hb dMH_ball_79 (by decide) ?_
          refine ty_iast hx hb hK hO kr36 (nxg (clo_cons (clo_cons (clo_cons (clo_cons (clo_cons (clo_cons hc0 kr21 (by decide)) km21 (by decide)) km22 (by decide)) km23 (by decide)) km24 (by decide)) km25 (by decide)) kr36 rfl) hP hD hS (vp_in_nI (by omega) (by decide)) dMH_ball_80 (fun pl H locs hO hP hD hS => ?_)
          refine mi_iinc (k := 0) (x := i22) (d := 1) (y := i22 + 1) (lv' := [(4, .int (nI (i22 + 1))), (2, .long y21), (0, .ref h0)]) hx hb dMH_ball_81 hl rfl (by decide) rfl (by decide) rfl (fun ls hl => ?_)
          refine lv_goto (tgt := 65) hx hb dMH_ball_84 (by decide) ?_
          exact ih22 (i22 + 1) pl ls H locs (by omega) (lv_sub hl [0, 1, 2] rfl) hO hP hD hS
      exact lp22 256 0 pl ls _ _ (by omega) (lv_sub hl [0, 1, 2] rfl) hO hP hD hS
    | succ n21 ih21 =>
      intro i21 y21 ps22 f30 f31 f32 pl ls H locs hm21 hi21 hst hl hO hP hD hS
      obtain ⟨t21, hs⟩ := hst
      refine lv_iload hx hb dMH_ball_32 (lv_at hl 0 rfl) ?_
      refine lv_bipush (v := nI 8) hx hb dMH_ball_34 (by decide) ?_
      refine mi_ge (tgt := 62) hx hb dMH_ball_36 (by decide) (by omega) (by omega) (fun h32 => absurd h32 (by omega)) (fun h32 => ?_)
      refine lv_lload_n hx hb dMH_ball_39 rfl (lv_at hl 1 rfl) ?_
      refine lv_aload_n hx hb dMH_ball_40 rfl (lv_at hl 2 rfl) ?_
      refine ty_get (ci := 12) (C := "LatticeKeysModel$Hands") (TT := T_MH) (N := 31) (kd := (47, 0)) hx hb hts (wg_ft i_MH) hown hK hO k_h0 (nxg (clo_cons (clo_cons (clo_cons (clo_cons (clo_cons (clo_cons hc0 kr21 (by decide)) km21 (by decide)) km22 (by decide)) km23 (by decide)) km24 (by decide)) km25 (by decide)) k_h0 rfl) hP (fun _ h9 => h9) rfl 0 (by decide) (hts _ (wg_t kw_1432)) (fun _ h9 => h9) (cd := (3, 20, 0)) rfl dMH_ball_41 (fun v42 hv42 => ?_)
      obtain ⟨r40, rfl, kr37⟩ := (show ∃ r : Nat, v42 = .ref r ∧ T r = some (20, 0) from hv42)
      obtain rfl : r21 = r40 := hU _ _ _ (by decide) kr21 kr37
      refine mp_i (cx := [(r21, .inr (9, [.ref am21, .ref am22, .ref am23, .ref am24, .ref am25, .int (nI 136), .int (nI ps22), .int (nI 31)])), (am21, .inl (g.2.1 2, 25, .inr (.inl f30))), (am22, .inl (g.2.1 2, 25, .inr (.inl f31))), (am23, .inl (g.2.1 2, 5, .inr (.inl f32))), (am24, .inl (g.2.1 2, 24, .inr (.inl f24))), (am25, .inl (g.2.1 0, 25, .inl f25))]) (wr := []) hP hD hS hA [0, 1, 2, 3, 4, 5] [] rfl rfl rfl (by decide) (va_runV (As := []) (rest := [.long y21]) F (x_MS_next l g _ T (am25 :: (am24 :: (am23 :: (am22 :: (am21 :: (r21 :: xs)))))) pl hO hU  r21 am21 am22 am23 am24 am25 136 ps22 (nI 31) f30 f31 f32 f24 f25 (by omega) (by omega)) (cwV 0 hts (wg_app (wg_c kw_1728 (wg_c kw_1642 (wg_c kw_1643 (wg_c kw_10 wg_n)))) kw_1644) rfl rfl rfl (by decide +kernel) ⟨by decide, by decide⟩) (pp_V (en_ok g) (q0 := 0) hK hP hD hS hA hE [0, 1, 2, 3, 4, 5] rfl rfl rfl rfl) rfl rfl hl.1 rfl (lv_room (Nat.le_of_ble_eq_true rfl)) dMH_ball_44 ⟨by omega, by omega⟩) (fun r41 u33 H locs hu27 hP hD hS => ?_)
      obtain ⟨u34, pl⟩ := u33
      obtain ⟨hq27, hO⟩ := hu27
      obtain ⟨ps28, f48, f49, f50⟩ := u34
      have hP : va_P g.1 vcl ([(r21, .inr (9, [.ref am21, .ref am22, .ref am23, .ref am24, .ref am25, .int (nI 136), .int (nI ps28), .int (nI 31)])), (am21, .inl (g.2.1 2, 25, .inr (.inl f48))), (am22, .inl (g.2.1 2, 25, .inr (.inl f49))), (am23, .inl (g.2.1 2, 5, .inr (.inl f50))), (am24, .inl (g.2.1 2, 24, .inr (.inl f24))), (am25, .inl (g.2.1 0, 25, .inl f25))] ++ pl) _ := hP
      have hD : va_D _ ([(r21, .inr (9, [.ref am21, .ref am22, .ref am23, .ref am24, .ref am25, .int (nI 136), .int (nI ps28), .int (nI 31)])), (am21, .inl (g.2.1 2, 25, .inr (.inl f48))), (am22, .inl (g.2.1 2, 25, .inr (.inl f49))), (am23, .inl (g.2.1 2, 5, .inr (.inl f50))), (am24, .inl (g.2.1 2, 24, .inr (.inl f24))), (am25, .inl (g.2.1 0, 25, .inl f25))] ++ pl) := hD
      obtain ⟨hn24, hl24, z33, hz24, rfl, h0z24⟩ := hq27
      have hl24 : ps28 ≤ 136 := hl24
      have hs := str_next (by decide) hs hn24
      refine W.widen (k := 0) (n := 0) (by omega) (by omega) ?_
      refine lv_i2l hx hb dMH_ball_47 rfl ?_
      refine ml_any (fun y25 => ?_)
      refine lv_bipush (v := nI 8) hx hb dMH_ball_48 (by decide) ?_
      refine lv_iload hx hb dMH_ball_50 (lv_at hl 0 rfl) ?_
      refine mi_imul hx hb dMH_ball_52 ?_
      refine lv_lshl hx hb dMH_ball_53 rfl ?_
      refine ml_any (fun y26 => ?_)
      refine lv_lor hx hb dMH_ball_54 ?_
      refine lv_lstore_n (lv' := [(2, .long ((y21 ||| y26))), (4, .int (nI i21)), (0, .ref h0)]) hx hb dMH_ball_55 rfl hl (by decide) rfl (fun ls hl => ?_)
      refine mi_iinc (k := 1) (x := i21) (d := 1) (y := i21 + 1) (lv' := [(4, .int (nI (i21 + 1))), (2, .long ((y21 ||| y26))), (0, .ref h0)]) hx hb dMH_ball_56 hl rfl (by decide) rfl (by decide) rfl (fun ls hl => ?_)
      refine lv_goto (tgt := 32) hx hb dMH_ball_59 (by decide) ?_
      exact ih21 (i21 + 1) ((y21 ||| y26)) ps28 f48 f49 f50 pl ls H locs (by omega) (by omega) ⟨_, hs⟩ (lv_sub hl [0, 1, 2] rfl) hO hP hD hS
  exact lp21 8 0 0 0 f26 f27 f28 pl ls _ _ (by omega) (by omega) ⟨_, hs⟩ (lv_sub hl [0, 1, 2] rfl) hO hP hD hS
set_option maxHeartbeats 400000 in
set_option maxRecDepth 100000 in
theorem t_MH_ball_2 (l : Launch) (g : Gd) (sz : Nat) (T : Ty) (xs : List Nat) (pl : va_W) (hO : okx g T xs pl) (hU : uni T) (hc0 : clo T xs 0) (hc9 : clo T xs 9) (h0 b : Nat) (k_h0 : T h0 = some (48, 0)) (k_b : T b = some (1, 64))  : Met l y_MH_ball w_MH_ball ({ frames := 3, cells := 0, slots := 0, locals := 67 } : Room) (va_Pc [.ref h0, .ref b] (pr (en g) g.1 vcl sz ([] ++ pl))) (va_Qv (fun (u : va_W) => (True) ∧ okx g T xs u) (po g.1 vcl (va_A ([] ++ pl) sz) (fun (u : va_W) => [] ++ u)) (va_A ([] ++ pl) sz)) 0 0 (va_A ([] ++ pl) sz) := by
  refine mc_entry (cc := c_MH_ball) (maxL := 6) (ret := none) (by decide) rfl (Nat.le_of_ble_eq_true rfl) ?_
  intro p e s m args below meth c ls F hr hlk hnm hsz hP hD hE hA hl
  obtain ⟨hx, hb, hml, hown, hts⟩ := id F
  have hK := hE.1
  generalize va_A ([] ++ pl) sz = A at hD hE hA ⊢
  have hS : va_S A s.heap s.heap [] := va_S.rf
  have hl : lv_has ls 6 [(0, .ref h0), (1, .ref b)] := hl
  refine lv_aload_n hx hb dMH_ball_0 rfl (lv_at hl 0 rfl) ?_
  refine ty_get (ci := 12) (C := "LatticeKeysModel$Hands") (TT := T_MH) (N := 31) (kd := (48, 0)) hx hb hts (wg_ft i_MH) hown hK hO k_h0 (nxg hc0 k_h0 rfl) hP (fun _ h9 => h9) rfl 0 (by decide) (hts _ (wg_t kw_1432)) (fun _ h9 => h9) (cd := (3, 20, 0)) rfl dMH_ball_1 (fun v21 hv21 => ?_)
  obtain ⟨r21, rfl, kr21⟩ := (show ∃ r : Nat, v21 = .ref r ∧ T r = some (20, 0) from hv21)
  obtain ⟨e21, pl, hP, hD, hk21, hO⟩ := open1 hP hD hO kr21 (nxg hc9 kr21 rfl)
  obtain ⟨am21, am22, am23, am24, am25, rt21, ps21, x21, rfl, km21, km22, km23, km24, km25, hr21, hr22, hr23⟩ := hk21
  obtain ⟨e22, pl, hP, hD, hk22, hO⟩ := open1 hP hD hO km21 (nmc (knd_ne km21 kr21 (by decide)) (nxg hc9 km21 rfl))
  obtain ⟨f21, rfl⟩ := hk22
  obtain ⟨e23, pl, hP, hD, hk23, hO⟩ := open1 hP hD hO km22 (nmc (knd_ne km22 km21 (by decide)) (nmc (knd_ne km22 kr21 (by decide)) (nxg hc9 km22 rfl)))
  obtain ⟨f22, rfl⟩ := hk23
  obtain ⟨e24, pl, hP, hD, hk24, hO⟩ := open1 hP hD hO km23 (nmc (knd_ne km23 km22 (by decide)) (nmc (knd_ne km23 km21 (by decide)) (nmc (knd_ne km23 kr21 (by decide)) (nxg hc9 km23 rfl))))
  obtain ⟨f23, rfl⟩ := hk24
  obtain ⟨e25, pl, hP, hD, hk25, hO⟩ := open1 hP hD hO km24 (nmc (knd_ne km24 km23 (by decide)) (nmc (knd_ne km24 km22 (by decide)) (nmc (knd_ne km24 km21 (by decide)) (nmc (knd_ne km24 kr21 (by decide)) (nxg hc9 km24 rfl)))))
  obtain ⟨f24, rfl⟩ := hk25
  obtain ⟨e26, pl, hP, hD, hk26, hO⟩ := open1 hP hD hO km25 (nmc (knd_ne km25 km24 (by decide)) (nmc (knd_ne km25 km23 (by decide)) (nmc (knd_ne km25 km22 (by decide)) (nmc (knd_ne km25 km21 (by decide)) (nmc (knd_ne km25 kr21 (by decide)) (nxg hc9 km25 rfl))))))
  obtain ⟨f25, rfl⟩ := hk26
  have hP : va_P g.1 vcl ([(r21, .inr (9, [.ref am21, .ref am22, .ref am23, .ref am24, .ref am25, .int (nI rt21), .int (nI ps21), .int x21])), (am21, .inl (g.2.1 2, 25, .inr (.inl f21))), (am22, .inl (g.2.1 2, 25, .inr (.inl f22))), (am23, .inl (g.2.1 2, 5, .inr (.inl f23))), (am24, .inl (g.2.1 2, 24, .inr (.inl f24))), (am25, .inl (g.2.1 0, 25, .inl f25))] ++ pl) _ := hP
  have hD : va_D _ ([(r21, .inr (9, [.ref am21, .ref am22, .ref am23, .ref am24, .ref am25, .int (nI rt21), .int (nI ps21), .int x21])), (am21, .inl (g.2.1 2, 25, .inr (.inl f21))), (am22, .inl (g.2.1 2, 25, .inr (.inl f22))), (am23, .inl (g.2.1 2, 5, .inr (.inl f23))), (am24, .inl (g.2.1 2, 24, .inr (.inl f24))), (am25, .inl (g.2.1 0, 25, .inl f25))] ++ pl) := hD
  refine mp_v (cx := [(r21, .inr (9, [.ref am21, .ref am22, .ref am23, .ref am24, .ref am25, .int (nI rt21), .int (nI ps21), .int x21])), (am21, .inl (g.2.1 2, 25, .inr (.inl f21))), (am22, .inl (g.2.1 2, 25, .inr (.inl f22))), (am23, .inl (g.2.1 2, 5, .inr (.inl f23))), (am24, .inl (g.2.1 2, 24, .inr (.inl f24))), (am25, .inl (g.2.1 0, 25, .inl f25))]) (wr := []) hP hD hS hA [0, 1, 2, 3, 4, 5] [] rfl rfl rfl (by decide) (va_runV (As := []) (rest := []) F (x_MS_shake l g _ T (am25 :: (am24 :: (am23 :: (am22 :: (am21 :: (r21 :: xs)))))) pl hO hU  r21 am21 am22 am23 am24 am25 rt21 ps21 x21 f21 f22 f23 f24 f25) (cwV 0 hts (wg_app (wg_c kw_1718 (wg_c kw_1661 (wg_c kw_1662 (wg_c kw_10 wg_n)))) kw_1663) rfl rfl rfl (by decide +kernel) ⟨by decide, by decide⟩) (pp_V (en_ok g) (q0 := 0) hK hP hD hS hA hE [0, 1, 2, 3, 4, 5] rfl rfl rfl rfl) rfl rfl hl.1 rfl (lv_room (Nat.le_of_ble_eq_true rfl)) dMH_ball_4 ⟨by omega, by omega⟩) (fun  u21 H locs hu21 hP hD hS => ?_)
  obtain ⟨u22, pl⟩ := u21
  obtain ⟨hq21, hO⟩ := hu21
  have hP : va_P g.1 vcl ([(r21, .inr (9, [.ref am21, .ref am22, .ref am23, .ref am24, .ref am25, .int (nI 136), .int (nI 0), .int (nI 31)])), (am21, .inl (g.2.1 2, 25, .inr (.inl u22))), (am22, .inl (g.2.1 2, 25, .inr (.inl f22))), (am23, .inl (g.2.1 2, 5, .inr (.inl f23))), (am24, .inl (g.2.1 2, 24, .inr (.inl f24))), (am25, .inl (g.2.1 0, 25, .inl f25))] ++ pl) _ := hP
  have hD : va_D _ ([(r21, .inr (9, [.ref am21, .ref am22, .ref am23, .ref am24, .ref am25, .int (nI 136), .int (nI 0), .int (nI 31)])), (am21, .inl (g.2.1 2, 25, .inr (.inl u22))), (am22, .inl (g.2.1 2, 25, .inr (.inl f22))), (am23, .inl (g.2.1 2, 5, .inr (.inl f23))), (am24, .inl (g.2.1 2, 24, .inr (.inl f24))), (am25, .inl (g.2.1 0, 25, .inl f25))] ++ pl) := hD
  have hq21 : ∀ j, j < 25 → u22 j = 0 := hq21
  refine W.widen (k := 0) (n := 0) (by omega) (by omega) ?_
  refine lv_aload_n hx hb dMH_ball_7 rfl (lv_at hl 0 rfl) ?_
  refine ty_get (ci := 12) (C := "LatticeKeysModel$Hands") (TT := T_MH) (N := 31) (kd := (48, 0)) hx hb hts (wg_ft i_MH) hown hK hO k_h0 (nxg (clo_cons (clo_cons (clo_cons (clo_cons (clo_cons (clo_cons hc0 kr21 (by decide)) km21 (by decide)) km22 (by decide)) km23 (by decide)) km24 (by decide)) km25 (by decide)) k_h0 rfl) hP (fun _ h9 => h9) rfl 0 (by decide) (hts _ (wg_t kw_1432)) (fun _ h9 => h9) (cd := (3, 20, 0)) rfl dMH_ball_8 (fun v22 hv22 => ?_)
  obtain ⟨r22, rfl, kr22⟩ := (show ∃ r : Nat, v22 = .ref r ∧ T r = some (20, 0) from hv22)
  obtain rfl : r21 = r22 := hU _ _ _ (by decide) kr21 kr22
  refine lv_aload_n hx hb dMH_ball_11 rfl (lv_at hl 1 rfl) ?_
  refine lv_iconst (v := nI 0) hx hb dMH_ball_12 (by decide) ?_
  refine lv_aload_n hx hb dMH_ball_13 rfl (lv_at hl 0 rfl) ?_
  refine ty_get (ci := 12) (C := "LatticeKeysModel$Hands") (TT := T_MH) (N := 31) (kd := (48, 0)) hx hb hts (wg_ft i_MH) hown hK hO k_h0 (nxg (clo_cons (clo_cons (clo_cons (clo_cons (clo_cons (clo_cons hc0 kr21 (by decide)) km21 (by decide)) km22 (by decide)) km23 (by decide)) km24 (by decide)) km25 (by decide)) k_h0 rfl) hP (fun _ h9 => h9) rfl 30 (by decide) (hts _ (wg_t kw_1462)) (fun _ h9 => h9) (cd := (1, 0, 64)) rfl dMH_ball_14 (fun v23 hv23 => ?_)
  obtain rfl := (show v23 = .int (nI 64) from hv23)
  refine mp_v (cx := [(r21, .inr (9, [.ref am21, .ref am22, .ref am23, .ref am24, .ref am25, .int (nI 136), .int (nI 0), .int (nI 31)])), (am21, .inl (g.2.1 2, 25, .inr (.inl u22))), (am22, .inl (g.2.1 2, 25, .inr (.inl f22))), (am23, .inl (g.2.1 2, 5, .inr (.inl f23))), (am24, .inl (g.2.1 2, 24, .inr (.inl f24))), (am25, .inl (g.2.1 0, 25, .inl f25))]) (wr := []) hP hD hS hA [0, 1, 2, 3, 4, 5] [] rfl rfl rfl (by decide) (va_runV (As := [.ref b, .int (nI 0), .int (nI 64)]) (rest := []) F (x_MS_puts l g _ T (am25 :: (am24 :: (am23 :: (am22 :: (am21 :: (r21 :: xs)))))) pl hO hU (clo_cons (clo_cons (clo_cons (clo_cons (clo_cons (clo_cons hc0 kr21 (by decide)) km21 (by decide)) km22 (by decide)) km23 (by decide)) km24 (by decide)) km25 (by decide)) b 64 0 64 r21 am21 am22 am23 am24 am25 136 0 (nI 31) u22 f22 f23 f24 f25 k_b (by omega) (by omega) (by omega) (by omega)) (cwV 3 hts (wg_app (wg_c kw_1719 (wg_c kw_1612 (wg_c kw_1613 (wg_c kw_10 wg_n)))) kw_1614) rfl rfl rfl (by decide +kernel) ⟨by decide, by decide⟩) (pp_V (en_ok g) (q0 := 0) hK hP hD hS hA hE [0, 1, 2, 3, 4, 5] rfl rfl rfl rfl) rfl rfl hl.1 rfl (lv_room (Nat.le_of_ble_eq_true rfl)) dMH_ball_17 ⟨by omega, by omega⟩) (fun  u23 H locs hu22 hP hD hS => ?_)
  obtain ⟨u24, pl⟩ := u23
  obtain ⟨hq22, hO⟩ := hu22
  have hP : va_P g.1 vcl ([(r21, .inr (9, [.ref am21, .ref am22, .ref am23, .ref am24, .ref am25, .int (nI 136), .int (nI 64), .int (nI 31)])), (am21, .inl (g.2.1 2, 25, .inr (.inl u24))), (am22, .inl (g.2.1 2, 25, .inr (.inl f22))), (am23, .inl (g.2.1 2, 5, .inr (.inl f23))), (am24, .inl (g.2.1 2, 24, .inr (.inl f24))), (am25, .inl (g.2.1 0, 25, .inl f25))] ++ pl) _ := hP
  have hD : va_D _ ([(r21, .inr (9, [.ref am21, .ref am22, .ref am23, .ref am24, .ref am25, .int (nI 136), .int (nI 64), .int (nI 31)])), (am21, .inl (g.2.1 2, 25, .inr (.inl u24))), (am22, .inl (g.2.1 2, 25, .inr (.inl f22))), (am23, .inl (g.2.1 2, 5, .inr (.inl f23))), (am24, .inl (g.2.1 2, 24, .inr (.inl f24))), (am25, .inl (g.2.1 0, 25, .inl f25))] ++ pl) := hD
  refine W.widen (k := 0) (n := 0) (by omega) (by omega) ?_
  refine lv_aload_n hx hb dMH_ball_20 rfl (lv_at hl 0 rfl) ?_
  refine ty_get (ci := 12) (C := "LatticeKeysModel$Hands") (TT := T_MH) (N := 31) (kd := (48, 0)) hx hb hts (wg_ft i_MH) hown hK hO k_h0 (nxg (clo_cons (clo_cons (clo_cons (clo_cons (clo_cons (clo_cons hc0 kr21 (by decide)) km21 (by decide)) km22 (by decide)) km23 (by decide)) km24 (by decide)) km25 (by decide)) k_h0 rfl) hP (fun _ h9 => h9) rfl 0 (by decide) (hts _ (wg_t kw_1432)) (fun _ h9 => h9) (cd := (3, 20, 0)) rfl dMH_ball_21 (fun v24 hv24 => ?_)
  obtain ⟨r23, rfl, kr23⟩ := (show ∃ r : Nat, v24 = .ref r ∧ T r = some (20, 0) from hv24)
  obtain rfl : r21 = r23 := hU _ _ _ (by decide) kr21 kr23
  refine mp_v (cx := [(r21, .inr (9, [.ref am21, .ref am22, .ref am23, .ref am24, .ref am25, .int (nI 136), .int (nI 64), .int (nI 31)])), (am21, .inl (g.2.1 2, 25, .inr (.inl u24))), (am22, .inl (g.2.1 2, 25, .inr (.inl f22))), (am23, .inl (g.2.1 2, 5, .inr (.inl f23))), (am24, .inl (g.2.1 2, 24, .inr (.inl f24))), (am25, .inl (g.2.1 0, 25, .inl f25))]) (wr := []) hP hD hS hA [0, 1, 2, 3, 4, 5] [] rfl rfl rfl (by decide) (va_runV (As := []) (rest := []) F (x_MS_end l g _ T (am25 :: (am24 :: (am23 :: (am22 :: (am21 :: (r21 :: xs)))))) pl hO hU  r21 am21 am22 am23 am24 am25 136 64 (nI 31) u24 f22 f23 f24 f25 (by omega) (by omega)) (cwV 0 hts (wg_app (wg_c kw_1721 (wg_c kw_1634 (wg_c kw_1635 (wg_c kw_10 wg_n)))) kw_1636) rfl rfl rfl (by decide +kernel) ⟨by decide, by decide⟩) (pp_V (en_ok g) (q0 := 0) hK hP hD hS hA hE [0, 1, 2, 3, 4, 5] rfl rfl rfl rfl) rfl rfl hl.1 rfl (lv_room (Nat.le_of_ble_eq_true rfl)) dMH_ball_24 ⟨by omega, by omega⟩) (fun  u25 H locs hu23 hP hD hS => ?_)
  obtain ⟨u26, pl⟩ := u25
  obtain ⟨hq23, hO⟩ := hu23
  obtain ⟨f26, f27, f28, f29⟩ := u26
  have hP : va_P g.1 vcl ([(r21, .inr (9, [.ref am21, .ref am22, .ref am23, .ref am24, .ref am25, .int (nI 136), .int (nI 0), .int (nI 31)])), (am21, .inl (g.2.1 2, 25, .inr (.inl f26))), (am22, .inl (g.2.1 2, 25, .inr (.inl f27))), (am23, .inl (g.2.1 2, 5, .inr (.inl f28))), (am24, .inl (g.2.1 2, 24, .inr (.inl f24))), (am25, .inl (g.2.1 0, 25, .inl f25))] ++ pl) _ := hP
  have hD : va_D _ ([(r21, .inr (9, [.ref am21, .ref am22, .ref am23, .ref am24, .ref am25, .int (nI 136), .int (nI 0), .int (nI 31)])), (am21, .inl (g.2.1 2, 25, .inr (.inl f26))), (am22, .inl (g.2.1 2, 25, .inr (.inl f27))), (am23, .inl (g.2.1 2, 5, .inr (.inl f28))), (am24, .inl (g.2.1 2, 24, .inr (.inl f24))), (am25, .inl (g.2.1 0, 25, .inl f25))] ++ pl) := hD
  refine W.widen (k := 0) (n := 0) (by omega) (by omega) ?_
  have hz : ∀ j, 9 ≤ j → j < 16 → f29 j = 0 := fun j h8 h9 => ((hq23.2 j (by omega) (by omega)).trans (hq22 j (by omega))).trans (hq21 j (by omega))
  have hs : str f25 f24 f29 136 136 0 f26 := ⟨1, by omega, by omega, hq23.1⟩
  obtain ⟨mB, hm0, hmP⟩ := blk_back f25 f24 f29
  refine lv_lconst (v := 0) hx hb dMH_ball_27 (by decide) ?_
  refine lv_lstore_n (lv' := [(2, .long 0), (0, .ref h0), (1, .ref b)]) hx hb dMH_ball_28 rfl hl (by decide) rfl (fun ls hl => ?_)
  refine lv_iconst (v := nI 0) hx hb dMH_ball_29 (by decide) ?_
  refine lv_istore (lv' := [(4, .int (nI 0)), (2, .long 0), (0, .ref h0), (1, .ref b)]) hx hb dMH_ball_30 hl (by decide) rfl (fun ls hl => ?_)
  have lp21 : ∀ (n21 : Nat) (i21 : Nat) (y21 : Int64) (ps22 : Nat) (f30 : Nat → Int64) (f31 : Nat → Int64) (f32 : Nat → Int64) (pl : va_W) (ls : Array Slot) (H : Heap) (locs : List Loc), n21 + i21 = 8 → (ps22 ≤ 136) → (∃ t, str f25 f24 f29 136 t ps22 f30) → lv_has ls 6 [(4, .int (nI i21)), (2, .long y21), (0, .ref h0)] → okx g T (am25 :: (am24 :: (am23 :: (am22 :: (am21 :: (r21 :: xs)))))) pl → va_P g.1 vcl ([(r21, .inr (9, [.ref am21, .ref am22, .ref am23, .ref am24, .ref am25, .int (nI 136), .int (nI ps22), .int (nI 31)])), (am21, .inl (g.2.1 2, 25, .inr (.inl f30))), (am22, .inl (g.2.1 2, 25, .inr (.inl f31))), (am23, .inl (g.2.1 2, 5, .inr (.inl f32))), (am24, .inl (g.2.1 2, 24, .inr (.inl f24))), (am25, .inl (g.2.1 0, 25, .inl f25))] ++ pl) H → va_D A ([(r21, .inr (9, [.ref am21, .ref am22, .ref am23, .ref am24, .ref am25, .int (nI 136), .int (nI ps22), .int (nI 31)])), (am21, .inl (g.2.1 2, 25, .inr (.inl f30))), (am22, .inl (g.2.1 2, 25, .inr (.inl f31))), (am23, .inl (g.2.1 2, 5, .inr (.inl f32))), (am24, .inl (g.2.1 2, 24, .inr (.inl f24))), (am25, .inl (g.2.1 0, 25, .inl f25))] ++ pl) → va_S A s.heap H locs → W p l e ({ frames := 3, cells := 0, slots := 0, locals := 67 } : Room) s m args below meth c H locs 0 0 (MQ below (va_Qv (fun (u : va_W) => (True) ∧ okx g T xs u) (po g.1 vcl A (fun (u : va_W) => [] ++ u)) A) args s 0 0 A) (F0 m 32 ls []) := by
    intro n21
    induction n21 with
    | zero =>
      intro i21 y21 ps22 f30 f31 f32 pl ls H locs hm21 hi21 hst hl hO hP hD hS
      obtain ⟨t21, hs⟩ := hst
      refine lv_iload hx hb dMH_ball_32 (lv_at hl 0 rfl) ?_
      refine lv_bipush (v := nI 8) hx hb dMH_ball_34 (by decide) ?_
      refine mi_ge (tgt := 62) hx hb dMH_ball_36 (by decide) (by omega) (by omega) (fun h21 => ?_) (fun h21 => absurd h21 (by omega))
      refine lv_iconst (v := nI 0) hx hb dMH_ball_62 (by decide) ?_
      refine lv_istore (lv' := [(4, .int (nI 0)), (2, .long y21), (0, .ref h0)]) hx hb dMH_ball_63 hl (by decide) rfl (fun ls hl => ?_)
      have lp22 : ∀ (n22 : Nat) (i22 : Nat) (pl : va_W) (ls : Array Slot) (H : Heap) (locs : List Loc), n22 + i22 = 256 → lv_has ls 6 [(4, .int (nI i22)), (2, .long y21), (0, .ref h0)] → okx g T (am25 :: (am24 :: (am23 :: (am22 :: (am21 :: (r21 :: xs)))))) pl → va_P g.1 vcl ([(r21, .inr (9, [.ref am21, .ref am22, .ref am23, .ref am24, .ref am25, .int (nI 136), .int (nI ps22), .int (nI 31)])), (am21, .inl (g.2.1 2, 25, .inr (.inl f30))), (am22, .inl (g.2.1 2, 25, .inr (.inl f31))), (am23, .inl (g.2.1 2, 5, .inr (.inl f32))), (am24, .inl (g.2.1 2, 24, .inr (.inl f24))), (am25, .inl (g.2.1 0, 25, .inl f25))] ++ pl) H → va_D A ([(r21, .inr (9, [.ref am21, .ref am22, .ref am23, .ref am24, .ref am25, .int (nI 136), .int (nI ps22), .int (nI 31)])), (am21, .inl (g.2.1 2, 25, .inr (.inl f30))), (am22, .inl (g.2.1 2, 25, .inr (.inl f31))), (am23, .inl (g.2.1 2, 5, .inr (.inl f32))), (am24, .inl (g.2.1 2, 24, .inr (.inl f24))), (am25, .inl (g.2.1 0, 25, .inl f25))] ++ pl) → va_S A s.heap H locs → W p l e ({ frames := 3, cells := 0, slots := 0, locals := 67 } : Room) s m args below meth c H locs 0 0 (MQ below (va_Qv (fun (u : va_W) => (True) ∧ okx g T xs u) (po g.1 vcl A (fun (u : va_W) => [] ++ u)) A) args s 0 0 A) (F0 m 65 ls []) := by
        intro n22
        induction n22 with
        | zero =>
          intro i22 pl ls H locs hm22  hl hO hP hD hS
          refine lv_iload hx hb dMH_ball_65 (lv_at hl 0 rfl) ?_
          refine lv_sipush (v := nI 256) hx hb dMH_ball_67 (by decide) ?_
          refine mi_ge (tgt := 87) hx hb dMH_ball_70 (by decide) (by omega) (by omega) (fun h22 => ?_) (fun h22 => absurd h22 (by omega))
          refine lv_sipush (v := nI 256) hx hb dMH_ball_87 (by decide) ?_
          refine va_gets hx hb (hE.2.1 26 _ rfl).1 hS hown (hts _ (wg_t kw_1716)) (fun _ h9 => h9) dMH_ball_90 ?_
          refine lv_aload_n hx hb dMH_ball_93 rfl (lv_at hl 2 rfl) ?_
          refine ty_get (ci := 12) (C := "LatticeKeysModel$Hands") (TT := T_MH) (N := 31) (kd := (48, 0)) hx hb hts (wg_ft i_MH) hown hK hO k_h0 (nxg (clo_cons (clo_cons (clo_cons (clo_cons (clo_cons (clo_cons hc0 kr21 (by decide)) km21 (by decide)) km22 (by decide)) km23 (by decide)) km24 (by decide)) km25 (by decide)) k_h0 rfl) hP (fun _ h9 => h9) rfl 23 (by decide) (hts _ (wg_t kw_1455)) (fun _ h9 => h9) (cd := (1, 0, 2)) rfl dMH_ball_94 (fun v25 hv25 => ?_)
          obtain rfl := (show v25 = .int (nI 2) from hv25)
          refine va_ti (v := .int (nI 60)) hx hb (hE.2.1 26 _ rfl).2 hS (vp_in_nI (by decide) (by decide)) (by decide +kernel) dMH_ball_97 ?_
          refine mi_isub hx hb dMH_ball_98 (by omega) ?_
          refine mi_as (show nI (256 - 60) = nI 196 from rfl) ?_
          refine lv_istore (lv' := [(4, .int (nI 196)), (2, .long y21), (0, .ref h0)]) hx hb dMH_ball_99 hl (by decide) rfl (fun ls hl => ?_)
          have lp23 : ∀ (n23 : Nat) (i23 : Nat) (ps23 : Nat) (f33 : Nat → Int64) (f34 : Nat → Int64) (f35 : Nat → Int64) (pl : va_W) (ls : Array Slot) (H : Heap) (locs : List Loc), n23 + i23 = 256 → (ps23 ≤ 136) → (196 ≤ i23) → (∃ t, str f25 f24 f29 136 t ps23 f33) → lv_has ls 6 [(4, .int (nI i23)), (2, .long y21), (0, .ref h0)] → okx g T (am25 :: (am24 :: (am23 :: (am22 :: (am21 :: (r21 :: xs)))))) pl → va_P g.1 vcl ([(r21, .inr (9, [.ref am21, .ref am22, .ref am23, .ref am24, .ref am25, .int (nI 136), .int (nI ps23), .int (nI 31)])), (am21, .inl (g.2.1 2, 25, .inr (.inl f33))), (am22, .inl (g.2.1 2, 25, .inr (.inl f34))), (am23, .inl (g.2.1 2, 5, .inr (.inl f35))), (am24, .inl (g.2.1 2, 24, .inr (.inl f24))), (am25, .inl (g.2.1 0, 25, .inl f25))] ++ pl) H → va_D A ([(r21, .inr (9, [.ref am21, .ref am22, .ref am23, .ref am24, .ref am25, .int (nI 136), .int (nI ps23), .int (nI 31)])), (am21, .inl (g.2.1 2, 25, .inr (.inl f33))), (am22, .inl (g.2.1 2, 25, .inr (.inl f34))), (am23, .inl (g.2.1 2, 5, .inr (.inl f35))), (am24, .inl (g.2.1 2, 24, .inr (.inl f24))), (am25, .inl (g.2.1 0, 25, .inl f25))] ++ pl) → va_S A s.heap H locs → W p l e ({ frames := 3, cells := 0, slots := 0, locals := 67 } : Room) s m args below meth c H locs 0 0 (MQ below (va_Qv (fun (u : va_W) => (True) ∧ okx g T xs u) (po g.1 vcl A (fun (u : va_W) => [] ++ u)) A) args s 0 0 A) (F0 m 101 ls []) := by
            intro n23
            induction n23 with
            | zero =>
              intro i23 ps23 f33 f34 f35 pl ls H locs hm23 hi23 hi24 hst hl hO hP hD hS
              obtain ⟨t22, hs⟩ := hst
              refine lv_iload hx hb dMH_ball_101 (lv_at hl 0 rfl) ?_
              refine lv_sipush (v := nI 256) hx hb dMH_ball_103 (by decide) ?_
              refine mi_ge (tgt := 193) hx hb dMH_ball_106 (by decide) (by omega) (by omega) (fun h23 => ?_) (fun h23 => absurd h23 (by omega))
              have hO := close1 (e := .inl (g.2.1 0, 25, .inl f25)) hO km25 ⟨_, rfl⟩
              have hO := close1 (e := .inl (g.2.1 2, 24, .inr (.inl f24))) hO km24 ⟨_, rfl⟩
              have hO := close1 (e := .inl (g.2.1 2, 5, .inr (.inl f35))) hO km23 ⟨_, rfl⟩
              have hO := close1 (e := .inl (g.2.1 2, 25, .inr (.inl f34))) hO km22 ⟨_, rfl⟩
              have hO := close1 (e := .inl (g.2.1 2, 25, .inr (.inl f33))) hO km21 ⟨_, rfl⟩
              have hO := close1 (e := .inr (9, [.ref am21, .ref am22, .ref am23, .ref am24, .ref am25, .int (nI 136), .int (nI ps23), .int (nI 31)])) hO kr21 ⟨_, _, _, _, _, _, _, _, rfl, km21, km22, km23, km24, km25, by omega, by omega, by omega⟩
              have hO : okx g T xs ((r21, .inr (9, [.ref am21, .ref am22, .ref am23, .ref am24, .ref am25, .int (nI 136), .int (nI ps23), .int (nI 31)])) :: (am21, .inl (g.2.1 2, 25, .inr (.inl f33))) :: (am22, .inl (g.2.1 2, 25, .inr (.inl f34))) :: (am23, .inl (g.2.1 2, 5, .inr (.inl f35))) :: (am24, .inl (g.2.1 2, 24, .inr (.inl f24))) :: (am25, .inl (g.2.1 0, 25, .inl f25)) :: pl) := hO
              have hP : va_P g.1 vcl ([] ++ ((r21, .inr (9, [.ref am21, .ref am22, .ref am23, .ref am24, .ref am25, .int (nI 136), .int (nI ps23), .int (nI 31)])) :: (am21, .inl (g.2.1 2, 25, .inr (.inl f33))) :: (am22, .inl (g.2.1 2, 25, .inr (.inl f34))) :: (am23, .inl (g.2.1 2, 5, .inr (.inl f35))) :: (am24, .inl (g.2.1 2, 24, .inr (.inl f24))) :: (am25, .inl (g.2.1 0, 25, .inl f25)) :: pl)) _ := hP
              have hD : va_D _ ([] ++ ((r21, .inr (9, [.ref am21, .ref am22, .ref am23, .ref am24, .ref am25, .int (nI 136), .int (nI ps23), .int (nI 31)])) :: (am21, .inl (g.2.1 2, 25, .inr (.inl f33))) :: (am22, .inl (g.2.1 2, 25, .inr (.inl f34))) :: (am23, .inl (g.2.1 2, 5, .inr (.inl f35))) :: (am24, .inl (g.2.1 2, 24, .inr (.inl f24))) :: (am25, .inl (g.2.1 0, 25, .inl f25)) :: pl)) := hD
              generalize ((r21, .inr (9, [.ref am21, .ref am22, .ref am23, .ref am24, .ref am25, .int (nI 136), .int (nI ps23), .int (nI 31)])) :: (am21, .inl (g.2.1 2, 25, .inr (.inl f33))) :: (am22, .inl (g.2.1 2, 25, .inr (.inl f34))) :: (am23, .inl (g.2.1 2, 5, .inr (.inl f35))) :: (am24, .inl (g.2.1 2, 24, .inr (.inl f24))) :: (am25, .inl (g.2.1 0, 25, .inl f25)) :: pl) = pl at hO hP hD
              exact mp_vret hx hb hr hlk hP hD hS pl ⟨trivial, hO⟩ [] rfl rfl rfl (by omega) (by omega) dMH_ball_193
            | succ n23 ih23 =>
              intro i23 ps23 f33 f34 f35 pl ls H locs hm23 hi23 hi24 hst hl hO hP hD hS
              obtain ⟨t22, hs⟩ := hst
              refine lv_iload hx hb dMH_ball_101 (lv_at hl 0 rfl) ?_
              refine lv_sipush (v := nI 256) hx hb dMH_ball_103 (by decide) ?_
              refine mi_ge (tgt := 193) hx hb dMH_ball_106 (by decide) (by omega) (by omega) (fun h24 => absurd h24 (by omega)) (fun h24 => ?_)
              refine lv_aload_n hx hb dMH_ball_109 rfl (lv_at hl 2 rfl) ?_
              refine ty_get (ci := 12) (C := "LatticeKeysModel$Hands") (TT := T_MH) (N := 31) (kd := (48, 0)) hx hb hts (wg_ft i_MH) hown hK hO k_h0 (nxg (clo_cons (clo_cons (clo_cons (clo_cons (clo_cons (clo_cons hc0 kr21 (by decide)) km21 (by decide)) km22 (by decide)) km23 (by decide)) km24 (by decide)) km25 (by decide)) k_h0 rfl) hP (fun _ h9 => h9) rfl 0 (by decide) (hts _ (wg_t kw_1432)) (fun _ h9 => h9) (cd := (3, 20, 0)) rfl dMH_ball_110 (fun v26 hv26 => ?_)
              obtain ⟨r24, rfl, kr24⟩ := (show ∃ r : Nat, v26 = .ref r ∧ T r = some (20, 0) from hv26)
              obtain rfl : r21 = r24 := hU _ _ _ (by decide) kr21 kr24
              refine mp_i (cx := [(r21, .inr (9, [.ref am21, .ref am22, .ref am23, .ref am24, .ref am25, .int (nI 136), .int (nI ps23), .int (nI 31)])), (am21, .inl (g.2.1 2, 25, .inr (.inl f33))), (am22, .inl (g.2.1 2, 25, .inr (.inl f34))), (am23, .inl (g.2.1 2, 5, .inr (.inl f35))), (am24, .inl (g.2.1 2, 24, .inr (.inl f24))), (am25, .inl (g.2.1 0, 25, .inl f25))]) (wr := []) hP hD hS hA [0, 1, 2, 3, 4, 5] [] rfl rfl rfl (by decide) (va_runV (As := []) (rest := []) F (x_MS_next l g _ T (am25 :: (am24 :: (am23 :: (am22 :: (am21 :: (r21 :: xs)))))) pl hO hU  r21 am21 am22 am23 am24 am25 136 ps23 (nI 31) f33 f34 f35 f24 f25 (by omega) (by omega)) (cwV 0 hts (wg_app (wg_c kw_1728 (wg_c kw_1642 (wg_c kw_1643 (wg_c kw_10 wg_n)))) kw_1644) rfl rfl rfl (by decide +kernel) ⟨by decide, by decide⟩) (pp_V (en_ok g) (q0 := 0) hK hP hD hS hA hE [0, 1, 2, 3, 4, 5] rfl rfl rfl rfl) rfl rfl hl.1 rfl (lv_room (Nat.le_of_ble_eq_true rfl)) dMH_ball_113 ⟨by omega, by omega⟩) (fun r25 u27 H locs hu24 hP hD hS => ?_)
              obtain ⟨u28, pl⟩ := u27
              obtain ⟨hq24, hO⟩ := hu24
              obtain ⟨ps24, f36, f37, f38⟩ := u28
              have hP : va_P g.1 vcl ([(r21, .inr (9, [.ref am21, .ref am22, .ref am23, .ref am24, .ref am25, .int (nI 136), .int (nI ps24), .int (nI 31)])), (am21, .inl (g.2.1 2, 25, .inr (.inl f36))), (am22, .inl (g.2.1 2, 25, .inr (.inl f37))), (am23, .inl (g.2.1 2, 5, .inr (.inl f38))), (am24, .inl (g.2.1 2, 24, .inr (.inl f24))), (am25, .inl (g.2.1 0, 25, .inl f25))] ++ pl) _ := hP
              have hD : va_D _ ([(r21, .inr (9, [.ref am21, .ref am22, .ref am23, .ref am24, .ref am25, .int (nI 136), .int (nI ps24), .int (nI 31)])), (am21, .inl (g.2.1 2, 25, .inr (.inl f36))), (am22, .inl (g.2.1 2, 25, .inr (.inl f37))), (am23, .inl (g.2.1 2, 5, .inr (.inl f38))), (am24, .inl (g.2.1 2, 24, .inr (.inl f24))), (am25, .inl (g.2.1 0, 25, .inl f25))] ++ pl) := hD
              obtain ⟨hn21, hl21, z21, hz21, rfl, h0z21⟩ := hq24
              have hl21 : ps24 ≤ 136 := hl21
              have hs := str_next (by decide) hs hn21
              refine W.widen (k := 0) (n := 0) (by omega) (by omega) ?_
              refine lv_istore (lv' := [(5, .int (nI z21)), (4, .int (nI i23)), (2, .long y21), (0, .ref h0)]) hx hb dMH_ball_116 hl (by decide) rfl (fun ls hl => ?_)
              have lp24 : ∀ (d21 : Nat) (c21 t23 : Nat) (i24 : Nat) (ps25 : Nat) (f39 f40 f41 : Nat → Int64) (pl : va_W) (ls : Array Slot) (H : Heap) (locs : List Loc), i24 < 256 → t23 + 1 * d21 = c21 * mB * 136 + 72 → str f25 f24 f29 136 t23 ps25 f39 → lv_has ls 6 [(5, .int (nI i24)), (4, .int (nI i23)), (2, .long y21), (0, .ref h0)] → okx g T (am25 :: (am24 :: (am23 :: (am22 :: (am21 :: (r21 :: xs)))))) pl → va_P g.1 vcl ([(r21, .inr (9, [.ref am21, .ref am22, .ref am23, .ref am24, .ref am25, .int (nI 136), .int (nI ps25), .int (nI 31)])), (am21, .inl (g.2.1 2, 25, .inr (.inl f39))), (am22, .inl (g.2.1 2, 25, .inr (.inl f40))), (am23, .inl (g.2.1 2, 5, .inr (.inl f41))), (am24, .inl (g.2.1 2, 24, .inr (.inl f24))), (am25, .inl (g.2.1 0, 25, .inl f25))] ++ pl) H → va_D A ([(r21, .inr (9, [.ref am21, .ref am22, .ref am23, .ref am24, .ref am25, .int (nI 136), .int (nI ps25), .int (nI 31)])), (am21, .inl (g.2.1 2, 25, .inr (.inl f39))), (am22, .inl (g.2.1 2, 25, .inr (.inl f40))), (am23, .inl (g.2.1 2, 5, .inr (.inl f41))), (am24, .inl (g.2.1 2, 24, .inr (.inl f24))), (am25, .inl (g.2.1 0, 25, .inl f25))] ++ pl) → va_S A s.heap H locs → W p l e ({ frames := 3, cells := 0, slots := 0, locals := 67 } : Room) s m args below meth c H locs 0 0 (MQ below (va_Qv (fun (u : va_W) => (True) ∧ okx g T xs u) (po g.1 vcl A (fun (u : va_W) => [] ++ u)) A) args s 0 0 A) (F0 m 118 ls []) := by
                intro d21
                induction d21 with
                | zero =>
                  intro c21 t23 i24 ps25 f39 f40 f41 pl ls H locs hi26 hd21 hs hl hO hP hD hS
                  have hsl := str_le hs
                  refine lv_iload hx hb dMH_ball_118 (lv_at hl 0 rfl) ?_
                  refine lv_iload hx hb dMH_ball_120 (lv_at hl 1 rfl) ?_
                  refine mi_le (tgt := 137) hx hb dMH_ball_122 (by decide) (by omega) (by omega) (fun h25 => ?_) (fun h25 => ?_)
                  · refine lv_aload_n hx hb dMH_ball_137 rfl (lv_at hl 3 rfl) ?_
                    refine ty_get (ci := 12) (C := "LatticeKeysModel$Hands") (TT := T_MH) (N := 31) (kd := (48, 0)) hx hb hts (wg_ft i_MH) hown hK hO k_h0 (nxg (clo_cons (clo_cons (clo_cons (clo_cons (clo_cons (clo_cons hc0 kr21 (by decide)) km21 (by decide)) km22 (by decide)) km23 (by decide)) km24 (by decide)) km25 (by decide)) k_h0 rfl) hP (fun _ h9 => h9) rfl 12 (by decide) (hts _ (wg_t kw_1444)) (fun _ h9 => h9) (cd := (3, 0, 256)) rfl dMH_ball_138 (fun v27 hv27 => ?_)
                    obtain ⟨r26, rfl, kr25⟩ := (show ∃ r : Nat, v27 = .ref r ∧ T r = some (0, 256) from hv27)
                    refine lv_iload hx hb dMH_ball_141 (lv_at hl 1 rfl) ?_
                    refine lv_aload_n hx hb dMH_ball_143 rfl (lv_at hl 3 rfl) ?_
                    refine ty_get (ci := 12) (C := "LatticeKeysModel$Hands") (TT := T_MH) (N := 31) (kd := (48, 0)) hx hb hts (wg_ft i_MH) hown hK hO k_h0 (nxg (clo_cons (clo_cons (clo_cons (clo_cons (clo_cons (clo_cons hc0 kr21 (by decide)) km21 (by decide)) km22 (by decide)) km23 (by decide)) km24 (by decide)) km25 (by decide)) k_h0 rfl) hP (fun _ h9 => h9) rfl 12 (by decide) (hts _ (wg_t kw_1444)) (fun _ h9 => h9) (cd := (3, 0, 256)) rfl dMH_ball_144 (fun v28 hv28 => ?_)
                    obtain ⟨r27, rfl, kr26⟩ := (show ∃ r : Nat, v28 = .ref r ∧ T r = some (0, 256) from hv28)
                    refine lv_iload hx hb dMH_ball_147 (lv_at hl 0 rfl) ?_
                    refine ty_iald hx hb hK hO kr26 (nxg (clo_cons (clo_cons (clo_cons (clo_cons (clo_cons (clo_cons hc0 kr21 (by decide)) km21 (by decide)) km22 (by decide)) km23 (by decide)) km24 (by decide)) km25 (by decide)) kr26 rfl) hP (vp_in_nI (by omega) (by decide)) dMH_ball_149 (fun z22 => ?_)
                    refine ty_iast hx hb hK hO kr25 (nxg (clo_cons (clo_cons (clo_cons (clo_cons (clo_cons (clo_cons hc0 kr21 (by decide)) km21 (by decide)) km22 (by decide)) km23 (by decide)) km24 (by decide)) km25 (by decide)) kr25 rfl) hP hD hS (vp_in_nI (by omega) (by decide)) dMH_ball_150 (fun pl H locs hO hP hD hS => ?_)
                    refine lv_aload_n hx hb dMH_ball_151 rfl (lv_at hl 3 rfl) ?_
                    refine ty_get (ci := 12) (C := "LatticeKeysModel$Hands") (TT := T_MH) (N := 31) (kd := (48, 0)) hx hb hts (wg_ft i_MH) hown hK hO k_h0 (nxg (clo_cons (clo_cons (clo_cons (clo_cons (clo_cons (clo_cons hc0 kr21 (by decide)) km21 (by decide)) km22 (by decide)) km23 (by decide)) km24 (by decide)) km25 (by decide)) k_h0 rfl) hP (fun _ h9 => h9) rfl 12 (by decide) (hts _ (wg_t kw_1444)) (fun _ h9 => h9) (cd := (3, 0, 256)) rfl dMH_ball_152 (fun v29 hv29 => ?_)
                    obtain ⟨r28, rfl, kr27⟩ := (show ∃ r : Nat, v29 = .ref r ∧ T r = some (0, 256) from hv29)
                    refine lv_iload hx hb dMH_ball_155 (lv_at hl 0 rfl) ?_
                    refine lv_lload_n hx hb dMH_ball_157 rfl (lv_at hl 2 rfl) ?_
                    refine lv_iload hx hb dMH_ball_158 (lv_at hl 1 rfl) ?_
                    refine va_gets hx hb (hE.2.1 26 _ rfl).1 hS hown (hts _ (wg_t kw_1716)) (fun _ h9 => h9) dMH_ball_160 ?_
                    refine lv_aload_n hx hb dMH_ball_163 rfl (lv_at hl 3 rfl) ?_
                    refine ty_get (ci := 12) (C := "LatticeKeysModel$Hands") (TT := T_MH) (N := 31) (kd := (48, 0)) hx hb hts (wg_ft i_MH) hown hK hO k_h0 (nxg (clo_cons (clo_cons (clo_cons (clo_cons (clo_cons (clo_cons hc0 kr21 (by decide)) km21 (by decide)) km22 (by decide)) km23 (by decide)) km24 (by decide)) km25 (by decide)) k_h0 rfl) hP (fun _ h9 => h9) rfl 23 (by decide) (hts _ (wg_t kw_1455)) (fun _ h9 => h9) (cd := (1, 0, 2)) rfl dMH_ball_164 (fun v30 hv30 => ?_)
                    obtain rfl := (show v30 = .int (nI 2) from hv30)
                    refine va_ti (v := .int (nI 60)) hx hb (hE.2.1 26 _ rfl).2 hS (vp_in_nI (by decide) (by decide)) (by decide +kernel) dMH_ball_167 ?_
                    refine mi_iadd hx hb dMH_ball_168 ?_
                    refine lv_sipush (v := nI 256) hx hb dMH_ball_169 (by decide) ?_
                    refine lv_isub hx hb dMH_ball_172 ?_
                    refine mi_any (fun z23 => ?_)
                    refine lv_lushr hx hb dMH_ball_173 rfl ?_
                    refine ml_any (fun y22 => ?_)
                    refine lv_lconst (v := 1) hx hb dMH_ball_174 (by decide) ?_
                    refine lv_land hx hb dMH_ball_175 ?_
                    refine lv_lconst (v := 1) hx hb dMH_ball_176 (by decide) ?_
                    refine W.lcmp hx hb dMH_ball_177 ?_
                    refine mi_any (fun z24 => ?_)
                    refine lv_if_ne (tgt := 185) hx hb dMH_ball_178 (by decide) (fun h26 => ?_) (fun h26 => ?_)
                    · refine lv_iconst (v := nI 1) hx hb dMH_ball_185 (by decide) ?_
                      refine ty_iast hx hb hK hO kr27 (nxg (clo_cons (clo_cons (clo_cons (clo_cons (clo_cons (clo_cons hc0 kr21 (by decide)) km21 (by decide)) km22 (by decide)) km23 (by decide)) km24 (by decide)) km25 (by decide)) kr27 rfl) hP hD hS (vp_in_nI (by omega) (by decide)) dMH_ball_186 (fun pl H locs hO hP hD hS => ?_)
                      refine mi_iinc (k := 1) (x := i23) (d := 1) (y := i23 + 1) (lv' := [(4, .int (nI (i23 + 1))), (5, .int (nI i24)), (2, .long y21), (0, .ref h0)]) hx hb dMH_ball_187 hl rfl (by decide) rfl (by decide) rfl (fun ls hl => ?_)
                      refine lv_goto (tgt := 101) hx hb dMH_ball_190 (by decide) ?_
                      exact ih23 (i23 + 1) ps25 f39 f40 f41 pl ls H locs (by omega) (by omega) (by omega) ⟨_, hs⟩ (lv_sub hl [0, 2, 3] rfl) hO hP hD hS
                    · refine lv_iconst (v := (-1)) hx hb dMH_ball_181 (by decide) ?_
                      refine lv_goto (tgt := 186) hx hb dMH_ball_182 (by decide) ?_
                      refine ty_iast hx hb hK hO kr27 (nxg (clo_cons (clo_cons (clo_cons (clo_cons (clo_cons (clo_cons hc0 kr21 (by decide)) km21 (by decide)) km22 (by decide)) km23 (by decide)) km24 (by decide)) km25 (by decide)) kr27 rfl) hP hD hS (vp_in_nI (by omega) (by decide)) dMH_ball_186 (fun pl H locs hO hP hD hS => ?_)
                      refine mi_iinc (k := 1) (x := i23) (d := 1) (y := i23 + 1) (lv' := [(4, .int (nI (i23 + 1))), (5, .int (nI i24)), (2, .long y21), (0, .ref h0)]) hx hb dMH_ball_187 hl rfl (by decide) rfl (by decide) rfl (fun ls hl => ?_)
                      refine lv_goto (tgt := 101) hx hb dMH_ball_190 (by decide) ?_
                      exact ih23 (i23 + 1) ps25 f39 f40 f41 pl ls H locs (by omega) (by omega) (by omega) ⟨_, hs⟩ (lv_sub hl [0, 2, 3] rfl) hO hP hD hS
                  · refine lv_aload_n hx hb dMH_ball_125 rfl (lv_at hl 3 rfl) ?_
                    refine ty_get (ci := 12) (C := "LatticeKeysModel$Hands") (TT := T_MH) (N := 31) (kd := (48, 0)) hx hb hts (wg_ft i_MH) hown hK hO k_h0 (nxg (clo_cons (clo_cons (clo_cons (clo_cons (clo_cons (clo_cons hc0 kr21 (by decide)) km21 (by decide)) km22 (by decide)) km23 (by decide)) km24 (by decide)) km25 (by decide)) k_h0 rfl) hP (fun _ h9 => h9) rfl 0 (by decide) (hts _ (wg_t kw_1432)) (fun _ h9 => h9) (cd := (3, 20, 0)) rfl dMH_ball_126 (fun v31 hv31 => ?_)
                    obtain ⟨r29, rfl, kr28⟩ := (show ∃ r : Nat, v31 = .ref r ∧ T r = some (20, 0) from hv31)
                    obtain rfl : r21 = r29 := hU _ _ _ (by decide) kr21 kr28
                    refine mp_i (cx := [(r21, .inr (9, [.ref am21, .ref am22, .ref am23, .ref am24, .ref am25, .int (nI 136), .int (nI ps25), .int (nI 31)])), (am21, .inl (g.2.1 2, 25, .inr (.inl f39))), (am22, .inl (g.2.1 2, 25, .inr (.inl f40))), (am23, .inl (g.2.1 2, 5, .inr (.inl f41))), (am24, .inl (g.2.1 2, 24, .inr (.inl f24))), (am25, .inl (g.2.1 0, 25, .inl f25))]) (wr := []) hP hD hS hA [0, 1, 2, 3, 4, 5] [] rfl rfl rfl (by decide) (va_runV (As := []) (rest := []) F (x_MS_next l g _ T (am25 :: (am24 :: (am23 :: (am22 :: (am21 :: (r21 :: xs)))))) pl hO hU  r21 am21 am22 am23 am24 am25 136 ps25 (nI 31) f39 f40 f41 f24 f25 (by omega) (by omega)) (cwV 0 hts (wg_app (wg_c kw_1728 (wg_c kw_1642 (wg_c kw_1643 (wg_c kw_10 wg_n)))) kw_1644) rfl rfl rfl (by decide +kernel) ⟨by decide, by decide⟩) (pp_V (en_ok g) (q0 := 0) hK hP hD hS hA hE [0, 1, 2, 3, 4, 5] rfl rfl rfl rfl) rfl rfl hl.1 rfl (lv_room (Nat.le_of_ble_eq_true rfl)) dMH_ball_129 ⟨by omega, by omega⟩) (fun r30 u29 H locs hu25 hP hD hS => ?_)
                    obtain ⟨u30, pl⟩ := u29
                    obtain ⟨hq25, hO⟩ := hu25
                    obtain ⟨ps26, f42, f43, f44⟩ := u30
                    have hP : va_P g.1 vcl ([(r21, .inr (9, [.ref am21, .ref am22, .ref am23, .ref am24, .ref am25, .int (nI 136), .int (nI ps26), .int (nI 31)])), (am21, .inl (g.2.1 2, 25, .inr (.inl f42))), (am22, .inl (g.2.1 2, 25, .inr (.inl f43))), (am23, .inl (g.2.1 2, 5, .inr (.inl f44))), (am24, .inl (g.2.1 2, 24, .inr (.inl f24))), (am25, .inl (g.2.1 0, 25, .inl f25))] ++ pl) _ := hP
                    have hD : va_D _ ([(r21, .inr (9, [.ref am21, .ref am22, .ref am23, .ref am24, .ref am25, .int (nI 136), .int (nI ps26), .int (nI 31)])), (am21, .inl (g.2.1 2, 25, .inr (.inl f42))), (am22, .inl (g.2.1 2, 25, .inr (.inl f43))), (am23, .inl (g.2.1 2, 5, .inr (.inl f44))), (am24, .inl (g.2.1 2, 24, .inr (.inl f24))), (am25, .inl (g.2.1 0, 25, .inl f25))] ++ pl) := hD
                    obtain ⟨hn22, hl22, z25, hz22, rfl, h0z22⟩ := hq25
                    have hl22 : ps26 ≤ 136 := hl22
                    have hzzz25 : z25 = 0 := str_zero (q := 72) (hmP c21) hs hn22 (by omega) (by decide) (by decide) (hz 9 (by decide) (by decide)) (by decide) h0z22
                    have hs := str_next (by decide) hs hn22
                    refine W.widen (k := 0) (n := 0) (by omega) (by omega) ?_
                    refine lv_istore (lv' := [(5, .int (nI z25)), (4, .int (nI i23)), (2, .long y21), (0, .ref h0)]) hx hb dMH_ball_132 hl (by decide) rfl (fun ls hl => ?_)
                    refine lv_goto (tgt := 118) hx hb dMH_ball_134 (by decide) ?_
                    refine lv_iload hx hb dMH_ball_118 (lv_at hl 0 rfl) ?_
                    refine lv_iload hx hb dMH_ball_120 (lv_at hl 1 rfl) ?_
                    refine mi_le (tgt := 137) hx hb dMH_ball_122 (by decide) (by omega) (by omega) (fun h27 => ?_) (fun h27 => absurd h27 (by omega))
                    refine lv_aload_n hx hb dMH_ball_137 rfl (lv_at hl 3 rfl) ?_
                    refine ty_get (ci := 12) (C := "LatticeKeysModel$Hands") (TT := T_MH) (N := 31) (kd := (48, 0)) hx hb hts (wg_ft i_MH) hown hK hO k_h0 (nxg (clo_cons (clo_cons (clo_cons (clo_cons (clo_cons (clo_cons hc0 kr21 (by decide)) km21 (by decide)) km22 (by decide)) km23 (by decide)) km24 (by decide)) km25 (by decide)) k_h0 rfl) hP (fun _ h9 => h9) rfl 12 (by decide) (hts _ (wg_t kw_1444)) (fun _ h9 => h9) (cd := (3, 0, 256)) rfl dMH_ball_138 (fun v32 hv32 => ?_)
                    obtain ⟨r31, rfl, kr29⟩ := (show ∃ r : Nat, v32 = .ref r ∧ T r = some (0, 256) from hv32)
                    refine lv_iload hx hb dMH_ball_141 (lv_at hl 1 rfl) ?_
                    refine lv_aload_n hx hb dMH_ball_143 rfl (lv_at hl 3 rfl) ?_
                    refine ty_get (ci := 12) (C := "LatticeKeysModel$Hands") (TT := T_MH) (N := 31) (kd := (48, 0)) hx hb hts (wg_ft i_MH) hown hK hO k_h0 (nxg (clo_cons (clo_cons (clo_cons (clo_cons (clo_cons (clo_cons hc0 kr21 (by decide)) km21 (by decide)) km22 (by decide)) km23 (by decide)) km24 (by decide)) km25 (by decide)) k_h0 rfl) hP (fun _ h9 => h9) rfl 12 (by decide) (hts _ (wg_t kw_1444)) (fun _ h9 => h9) (cd := (3, 0, 256)) rfl dMH_ball_144 (fun v33 hv33 => ?_)
                    obtain ⟨r32, rfl, kr30⟩ := (show ∃ r : Nat, v33 = .ref r ∧ T r = some (0, 256) from hv33)
                    refine lv_iload hx hb dMH_ball_147 (lv_at hl 0 rfl) ?_
                    refine ty_iald hx hb hK hO kr30 (nxg (clo_cons (clo_cons (clo_cons (clo_cons (clo_cons (clo_cons hc0 kr21 (by decide)) km21 (by decide)) km22 (by decide)) km23 (by decide)) km24 (by decide)) km25 (by decide)) kr30 rfl) hP (vp_in_nI (by omega) (by decide)) dMH_ball_149 (fun z26 => ?_)
                    refine ty_iast hx hb hK hO kr29 (nxg (clo_cons (clo_cons (clo_cons (clo_cons (clo_cons (clo_cons hc0 kr21 (by decide)) km21 (by decide)) km22 (by decide)) km23 (by decide)) km24 (by decide)) km25 (by decide)) kr29 rfl) hP hD hS (vp_in_nI (by omega) (by decide)) dMH_ball_150 (fun pl H locs hO hP hD hS => ?_)
                    refine lv_aload_n hx hb dMH_ball_151 rfl (lv_at hl 3 rfl) ?_
                    refine ty_get (ci := 12) (C := "LatticeKeysModel$Hands") (TT := T_MH) (N := 31) (kd := (48, 0)) hx hb hts (wg_ft i_MH) hown hK hO k_h0 (nxg (clo_cons (clo_cons (clo_cons (clo_cons (clo_cons (clo_cons hc0 kr21 (by decide)) km21 (by decide)) km22 (by decide)) km23 (by decide)) km24 (by decide)) km25 (by decide)) k_h0 rfl) hP (fun _ h9 => h9) rfl 12 (by decide) (hts _ (wg_t kw_1444)) (fun _ h9 => h9) (cd := (3, 0, 256)) rfl dMH_ball_152 (fun v34 hv34 => ?_)
                    obtain ⟨r33, rfl, kr31⟩ := (show ∃ r : Nat, v34 = .ref r ∧ T r = some (0, 256) from hv34)
                    refine lv_iload hx hb dMH_ball_155 (lv_at hl 0 rfl) ?_
                    refine lv_lload_n hx hb dMH_ball_157 rfl (lv_at hl 2 rfl) ?_
                    refine lv_iload hx hb dMH_ball_158 (lv_at hl 1 rfl) ?_
                    refine va_gets hx hb (hE.2.1 26 _ rfl).1 hS hown (hts _ (wg_t kw_1716)) (fun _ h9 => h9) dMH_ball_160 ?_
                    refine lv_aload_n hx hb dMH_ball_163 rfl (lv_at hl 3 rfl) ?_
                    refine ty_get (ci := 12) (C := "LatticeKeysModel$Hands") (TT := T_MH) (N := 31) (kd := (48, 0)) hx hb hts (wg_ft i_MH) hown hK hO k_h0 (nxg (clo_cons (clo_cons (clo_cons (clo_cons (clo_cons (clo_cons hc0 kr21 (by decide)) km21 (by decide)) km22 (by decide)) km23 (by decide)) km24 (by decide)) km25 (by decide)) k_h0 rfl) hP (fun _ h9 => h9) rfl 23 (by decide) (hts _ (wg_t kw_1455)) (fun _ h9 => h9) (cd := (1, 0, 2)) rfl dMH_ball_164 (fun v35 hv35 => ?_)
                    obtain rfl := (show v35 = .int (nI 2) from hv35)
                    refine va_ti (v := .int (nI 60)) hx hb (hE.2.1 26 _ rfl).2 hS (vp_in_nI (by decide) (by decide)) (by decide +kernel) dMH_ball_167 ?_
                    refine mi_iadd hx hb dMH_ball_168 ?_
                    refine lv_sipush (v := nI 256) hx hb dMH_ball_169 (by decide) ?_
                    refine lv_isub hx hb dMH_ball_172 ?_
                    refine mi_any (fun z27 => ?_)
                    refine lv_lushr hx hb dMH_ball_173 rfl ?_
                    refine ml_any (fun y23 => ?_)
                    refine lv_lconst (v := 1) hx hb dMH_ball_174 (by decide) ?_
                    refine lv_land hx hb dMH_ball_175 ?_
                    refine lv_lconst (v := 1) hx hb dMH_ball_176 (by decide) ?_
                    refine W.lcmp hx hb dMH_ball_177 ?_
                    refine mi_any (fun z28 => ?_)
                    refine lv_if_ne (tgt := 185) hx hb dMH_ball_178 (by decide) (fun h28 => ?_) (fun h28 => ?_)
                    · refine lv_iconst (v := nI 1) hx hb dMH_ball_185 (by decide) ?_
                      refine ty_iast hx hb hK hO kr31 (nxg (clo_cons (clo_cons (clo_cons (clo_cons (clo_cons (clo_cons hc0 kr21 (by decide)) km21 (by decide)) km22 (by decide)) km23 (by decide)) km24 (by decide)) km25 (by decide)) kr31 rfl) hP hD hS (vp_in_nI (by omega) (by decide)) dMH_ball_186 (fun pl H locs hO hP hD hS => ?_)
                      refine mi_iinc (k := 1) (x := i23) (d := 1) (y := i23 + 1) (lv' := [(4, .int (nI (i23 + 1))), (5, .int (nI z25)), (2, .long y21), (0, .ref h0)]) hx hb dMH_ball_187 hl rfl (by decide) rfl (by decide) rfl (fun ls hl => ?_)
                      refine lv_goto (tgt := 101) hx hb dMH_ball_190 (by decide) ?_
                      exact ih23 (i23 + 1) ps26 f42 f43 f44 pl ls H locs (by omega) (by omega) (by omega) ⟨_, hs⟩ (lv_sub hl [0, 2, 3] rfl) hO hP hD hS
                    · refine lv_iconst (v := (-1)) hx hb dMH_ball_181 (by decide) ?_
                      refine lv_goto (tgt := 186) hx hb dMH_ball_182 (by decide) ?_
                      refine ty_iast hx hb hK hO kr31 (nxg (clo_cons (clo_cons (clo_cons (clo_cons (clo_cons (clo_cons hc0 kr21 (by decide)) km21 (by decide)) km22 (by decide)) km23 (by decide)) km24 (by decide)) km25 (by decide)) kr31 rfl) hP hD hS (vp_in_nI (by omega) (by decide)) dMH_ball_186 (fun pl H locs hO hP hD hS => ?_)
                      refine mi_iinc (k := 1) (x := i23) (d := 1) (y := i23 + 1) (lv' := [(4, .int (nI (i23 + 1))), (5, .int (nI z25)), (2, .long y21), (0, .ref h0)]) hx hb dMH_ball_187 hl rfl (by decide) rfl (by decide) rfl (fun ls hl => ?_)
                      refine lv_goto (tgt := 101) hx hb dMH_ball_190 (by decide) ?_
                      exact ih23 (i23 + 1) ps26 f42 f43 f44 pl ls H locs (by omega) (by omega) (by omega) ⟨_, hs⟩ (lv_sub hl [0, 2, 3] rfl) hO hP hD hS
                | succ d21 ihd21 =>
                  intro c21 t23 i24 ps25 f39 f40 f41 pl ls H locs hi26 hd21 hs hl hO hP hD hS
                  have hsl := str_le hs
                  refine lv_iload hx hb dMH_ball_118 (lv_at hl 0 rfl) ?_
                  refine lv_iload hx hb dMH_ball_120 (lv_at hl 1 rfl) ?_
                  refine mi_le (tgt := 137) hx hb dMH_ball_122 (by decide) (by omega) (by omega) (fun h29 => ?_) (fun h29 => ?_)
                  · refine lv_aload_n hx hb dMH_ball_137 rfl (lv_at hl 3 rfl) ?_
                    refine ty_get (ci := 12) (C := "LatticeKeysModel$Hands") (TT := T_MH) (N := 31) (kd := (48, 0)) hx hb hts (wg_ft i_MH) hown hK hO k_h0 (nxg (clo_cons (clo_cons (clo_cons (clo_cons (clo_cons (clo_cons hc0 kr21 (by decide)) km21 (by decide)) km22 (by decide)) km23 (by decide)) km24 (by decide)) km25 (by decide)) k_h0 rfl) hP (fun _ h9 => h9) rfl 12 (by decide) (hts _ (wg_t kw_1444)) (fun _ h9 => h9) (cd := (3, 0, 256)) rfl dMH_ball_138 (fun v36 hv36 => ?_)
                    obtain ⟨r34, rfl, kr32⟩ := (show ∃ r : Nat, v36 = .ref r ∧ T r = some (0, 256) from hv36)
                    refine lv_iload hx hb dMH_ball_141 (lv_at hl 1 rfl) ?_
                    refine lv_aload_n hx hb dMH_ball_143 rfl (lv_at hl 3 rfl) ?_
                    refine ty_get (ci := 12) (C := "LatticeKeysModel$Hands") (TT := T_MH) (N := 31) (kd := (48, 0)) hx hb hts (wg_ft i_MH) hown hK hO k_h0 (nxg (clo_cons (clo_cons (clo_cons (clo_cons (clo_cons (clo_cons hc0 kr21 (by decide)) km21 (by decide)) km22 (by decide)) km23 (by decide)) km24 (by decide)) km25 (by decide)) k_h0 rfl) hP (fun _ h9 => h9) rfl 12 (by decide) (hts _ (wg_t kw_1444)) (fun _ h9 => h9) (cd := (3, 0, 256)) rfl dMH_ball_144 (fun v37 hv37 => ?_)
                    obtain ⟨r35, rfl, kr33⟩ := (show ∃ r : Nat, v37 = .ref r ∧ T r = some (0, 256) from hv37)
                    refine lv_iload hx hb dMH_ball_147 (lv_at hl 0 rfl) ?_
                    refine ty_iald hx hb hK hO kr33 (nxg (clo_cons (clo_cons (clo_cons (clo_cons (clo_cons (clo_cons hc0 kr21 (by decide)) km21 (by decide)) km22 (by decide)) km23 (by decide)) km24 (by decide)) km25 (by decide)) kr33 rfl) hP (vp_in_nI (by omega) (by decide)) dMH_ball_149 (fun z29 => ?_)
                    refine ty_iast hx hb hK hO kr32 (nxg (clo_cons (clo_cons (clo_cons (clo_cons (clo_cons (clo_cons hc0 kr21 (by decide)) km21 (by decide)) km22 (by decide)) km23 (by decide)) km24 (by decide)) km25 (by decide)) kr32 rfl) hP hD hS (vp_in_nI (by omega) (by decide)) dMH_ball_150 (fun pl H locs hO hP hD hS => ?_)
                    refine lv_aload_n hx hb dMH_ball_151 rfl (lv_at hl 3 rfl) ?_
                    refine ty_get (ci := 12) (C := "LatticeKeysModel$Hands") (TT := T_MH) (N := 31) (kd := (48, 0)) hx hb hts (wg_ft i_MH) hown hK hO k_h0 (nxg (clo_cons (clo_cons (clo_cons (clo_cons (clo_cons (clo_cons hc0 kr21 (by decide)) km21 (by decide)) km22 (by decide)) km23 (by decide)) km24 (by decide)) km25 (by decide)) k_h0 rfl) hP (fun _ h9 => h9) rfl 12 (by decide) (hts _ (wg_t kw_1444)) (fun _ h9 => h9) (cd := (3, 0, 256)) rfl dMH_ball_152 (fun v38 hv38 => ?_)
                    obtain ⟨r36, rfl, kr34⟩ := (show ∃ r : Nat, v38 = .ref r ∧ T r = some (0, 256) from hv38)
                    refine lv_iload hx hb dMH_ball_155 (lv_at hl 0 rfl) ?_
                    refine lv_lload_n hx hb dMH_ball_157 rfl (lv_at hl 2 rfl) ?_
                    refine lv_iload hx hb dMH_ball_158 (lv_at hl 1 rfl) ?_
                    refine va_gets hx hb (hE.2.1 26 _ rfl).1 hS hown (hts _ (wg_t kw_1716)) (fun _ h9 => h9) dMH_ball_160 ?_
                    refine lv_aload_n hx hb dMH_ball_163 rfl (lv_at hl 3 rfl) ?_
                    refine ty_get (ci := 12) (C := "LatticeKeysModel$Hands") (TT := T_MH) (N := 31) (kd := (48, 0)) hx hb hts (wg_ft i_MH) hown hK hO k_h0 (nxg (clo_cons (clo_cons (clo_cons (clo_cons (clo_cons (clo_cons hc0 kr21 (by decide)) km21 (by decide)) km22 (by decide)) km23 (by decide)) km24 (by decide)) km25 (by decide)) k_h0 rfl) hP (fun _ h9 => h9) rfl 23 (by decide) (hts _ (wg_t kw_1455)) (fun _ h9 => h9) (cd := (1, 0, 2)) rfl dMH_ball_164 (fun v39 hv39 => ?_)
                    obtain rfl := (show v39 = .int (nI 2) from hv39)
                    refine va_ti (v := .int (nI 60)) hx hb (hE.2.1 26 _ rfl).2 hS (vp_in_nI (by decide) (by decide)) (by decide +kernel) dMH_ball_167 ?_
                    refine mi_iadd hx hb dMH_ball_168 ?_
                    refine lv_sipush (v := nI 256) hx hb dMH_ball_169 (by decide) ?_
                    refine lv_isub hx hb dMH_ball_172 ?_
                    refine mi_any (fun z30 => ?_)
                    refine lv_lushr hx hb dMH_ball_173 rfl ?_
                    refine ml_any (fun y24 => ?_)
                    refine lv_lconst (v := 1) hx hb dMH_ball_174 (by decide) ?_
                    refine lv_land hx hb dMH_ball_175 ?_
                    refine lv_lconst (v := 1) hx hb dMH_ball_176 (by decide) ?_
                    refine W.lcmp hx hb dMH_ball_177 ?_
                    refine mi_any (fun z31 => ?_)
                    refine lv_if_ne (tgt := 185) hx hb dMH_ball_178 (by decide) (fun h30 => ?_) (fun h30 => ?_)
                    · refine lv_iconst (v := nI 1) hx hb dMH_ball_185 (by decide) ?_
                      refine ty_iast hx hb hK hO kr34 (nxg (clo_cons (clo_cons (clo_cons (clo_cons (clo_cons (clo_cons hc0 kr21 (by decide)) km21 (by decide)) km22 (by decide)) km23 (by decide)) km24 (by decide)) km25 (by decide)) kr34 rfl) hP hD hS (vp_in_nI (by omega) (by decide)) dMH_ball_186 (fun pl H locs hO hP hD hS => ?_)
                      refine mi_iinc (k := 1) (x := i23) (d := 1) (y := i23 + 1) (lv' := [(4, .int (nI (i23 + 1))), (5, .int (nI i24)), (2, .long y21), (0, .ref h0)]) hx hb dMH_ball_187 hl rfl (by decide) rfl (by decide) rfl (fun ls hl => ?_)
                      refine lv_goto (tgt := 101) hx hb dMH_ball_190 (by decide) ?_
                      exact ih23 (i23 + 1) ps25 f39 f40 f41 pl ls H locs (by omega) (by omega) (by omega) ⟨_, hs⟩ (lv_sub hl [0, 2, 3] rfl) hO hP hD hS
                    · refine lv_iconst (v := (-1)) hx hb dMH_ball_181 (by decide) ?_
                      refine lv_goto (tgt := 186) hx hb dMH_ball_182 (by decide) ?_
                      refine ty_iast hx hb hK hO kr34 (nxg (clo_cons (clo_cons (clo_cons (clo_cons (clo_cons (clo_cons hc0 kr21 (by decide)) km21 (by decide)) km22 (by decide)) km23 (by decide)) km24 (by decide)) km25 (by decide)) kr34 rfl) hP hD hS (vp_in_nI (by omega) (by decide)) dMH_ball_186 (fun pl H locs hO hP hD hS => ?_)
                      refine mi_iinc (k := 1) (x := i23) (d := 1) (y := i23 + 1) (lv' := [(4, .int (nI (i23 + 1))), (5, .int (nI i24)), (2, .long y21), (0, .ref h0)]) hx hb dMH_ball_187 hl rfl (by decide) rfl (by decide) rfl (fun ls hl => ?_)
                      refine lv_goto (tgt := 101) hx hb dMH_ball_190 (by decide) ?_
                      exact ih23 (i23 + 1) ps25 f39 f40 f41 pl ls H locs (by omega) (by omega) (by omega) ⟨_, hs⟩ (lv_sub hl [0, 2, 3] rfl) hO hP hD hS
                  · refine lv_aload_n hx hb dMH_ball_125 rfl (lv_at hl 3 rfl) ?_
                    refine ty_get (ci := 12) (C := "LatticeKeysModel$Hands") (TT := T_MH) (N := 31) (kd := (48, 0)) hx hb hts (wg_ft i_MH) hown hK hO k_h0 (nxg (clo_cons (clo_cons (clo_cons (clo_cons (clo_cons (clo_cons hc0 kr21 (by decide)) km21 (by decide)) km22 (by decide)) km23 (by decide)) km24 (by decide)) km25 (by decide)) k_h0 rfl) hP (fun _ h9 => h9) rfl 0 (by decide) (hts _ (wg_t kw_1432)) (fun _ h9 => h9) (cd := (3, 20, 0)) rfl dMH_ball_126 (fun v40 hv40 => ?_)
                    obtain ⟨r37, rfl, kr35⟩ := (show ∃ r : Nat, v40 = .ref r ∧ T r = some (20, 0) from hv40)
                    obtain rfl : r21 = r37 := hU _ _ _ (by decide) kr21 kr35
                    refine mp_i (cx := [(r21, .inr (9, [.ref am21, .ref am22, .ref am23, .ref am24, .ref am25, .int (nI 136), .int (nI ps25), .int (nI 31)])), (am21, .inl (g.2.1 2, 25, .inr (.inl f39))), (am22, .inl (g.2.1 2, 25, .inr (.inl f40))), (am23, .inl (g.2.1 2, 5, .inr (.inl f41))), (am24, .inl (g.2.1 2, 24, .inr (.inl f24))), (am25, .inl (g.2.1 0, 25, .inl f25))]) (wr := []) hP hD hS hA [0, 1, 2, 3, 4, 5] [] rfl rfl rfl (by decide) (va_runV (As := []) (rest := []) F (x_MS_next l g _ T (am25 :: (am24 :: (am23 :: (am22 :: (am21 :: (r21 :: xs)))))) pl hO hU  r21 am21 am22 am23 am24 am25 136 ps25 (nI 31) f39 f40 f41 f24 f25 (by omega) (by omega)) (cwV 0 hts (wg_app (wg_c kw_1728 (wg_c kw_1642 (wg_c kw_1643 (wg_c kw_10 wg_n)))) kw_1644) rfl rfl rfl (by decide +kernel) ⟨by decide, by decide⟩) (pp_V (en_ok g) (q0 := 0) hK hP hD hS hA hE [0, 1, 2, 3, 4, 5] rfl rfl rfl rfl) rfl rfl hl.1 rfl (lv_room (Nat.le_of_ble_eq_true rfl)) dMH_ball_129 ⟨by omega, by omega⟩) (fun r38 u31 H locs hu26 hP hD hS => ?_)
                    obtain ⟨u32, pl⟩ := u31
                    obtain ⟨hq26, hO⟩ := hu26
                    obtain ⟨ps27, f45, f46, f47⟩ := u32
                    have hP : va_P g.1 vcl ([(r21, .inr (9, [.ref am21, .ref am22, .ref am23, .ref am24, .ref am25, .int (nI 136), .int (nI ps27), .int (nI 31)])), (am21, .inl (g.2.1 2, 25, .inr (.inl f45))), (am22, .inl (g.2.1 2, 25, .inr (.inl f46))), (am23, .inl (g.2.1 2, 5, .inr (.inl f47))), (am24, .inl (g.2.1 2, 24, .inr (.inl f24))), (am25, .inl (g.2.1 0, 25, .inl f25))] ++ pl) _ := hP
                    have hD : va_D _ ([(r21, .inr (9, [.ref am21, .ref am22, .ref am23, .ref am24, .ref am25, .int (nI 136), .int (nI ps27), .int (nI 31)])), (am21, .inl (g.2.1 2, 25, .inr (.inl f45))), (am22, .inl (g.2.1 2, 25, .inr (.inl f46))), (am23, .inl (g.2.1 2, 5, .inr (.inl f47))), (am24, .inl (g.2.1 2, 24, .inr (.inl f24))), (am25, .inl (g.2.1 0, 25, .inl f25))] ++ pl) := hD
                    obtain ⟨hn23, hl23, z32, hz23, rfl, h0z23⟩ := hq26
                    have hl23 : ps27 ≤ 136 := hl23
                    have hs := str_next (by decide) hs hn23
                    refine W.widen (k := 0) (n := 0) (by omega) (by omega) ?_
                    refine lv_istore (lv' := [(5, .int (nI z32)), (4, .int (nI i23)), (2, .long y21), (0, .ref h0)]) hx hb dMH_ball_132 hl (by decide) rfl (fun ls hl => ?_)
                    refine lv_goto (tgt := 118) hx hb dMH_ball_134 (by decide) ?_
                    exact ihd21 c21 (t23 + 1) z32 ps27 f45 f46 f47 pl ls H locs (by omega) (by omega) hs (lv_sub hl [0, 1, 2, 3] rfl) hO hP hD hS
              have htg := tgt_le (m := mB) (t := t22 + 1) (rt := 136) (p := 72) hm0 (by decide)
              exact lp24 ((t22 + 1 + 1) * mB * 136 + 72 - (t22 + 1)) (t22 + 1 + 1) (t22 + 1) z21 ps24 f36 f37 f38 pl ls _ _ (by omega) (by omega) hs (lv_sub hl [0, 1, 2, 3] rfl) hO hP hD hS
          exact lp23 (256 - 196) 196 ps22 f30 f31 f32 pl ls _ _ (by omega) (by omega) (by omega) ⟨_, hs⟩ (lv_sub hl [0, 1, 2] rfl) hO hP hD hS
        | succ n22 ih22 =>
          intro i22 pl ls H locs hm22  hl hO hP hD hS
          refine lv_iload hx hb dMH_ball_65 (lv_at hl 0 rfl) ?_
          refine lv_sipush (v := nI 256) hx hb dMH_ball_67 (by decide) ?_
          refine mi_ge (tgt := 87) hx hb dMH_ball_70 (by decide) (by omega) (by omega) (fun h31 => absurd h31 (by omega)) (fun h31 => ?_)
          refine lv_aload_n hx hb dMH_ball_73 rfl (lv_at hl 2 rfl) ?_
          refine ty_get (ci := 12) (C := "LatticeKeysModel$Hands") (TT := T_MH) (N := 31) (kd := (48, 0)) hx hb hts (wg_ft i_MH) hown hK hO k_h0 (nxg (clo_cons (clo_cons (clo_cons (clo_cons (clo_cons (clo_cons hc0 kr21 (by decide)) km21 (by decide)) km22 (by decide)) km23 (by decide)) km24 (by decide)) km25 (by decide)) k_h0 rfl) hP (fun _ h9 => h9) rfl 12 (by decide) (hts _ (wg_t kw_1444)) (fun _ h9 => h9) (cd := (3, 0, 256)) rfl dMH_ball_74 (fun v41 hv41 => ?_)
          obtain ⟨r39, rfl, kr36⟩ := (show ∃ r : Nat, v41 = .ref r ∧ T r = some (0, 256) from hv41)
          refine lv_iload hx hb dMH_ball_77 (lv_at hl 0 rfl) ?_
          refine lv_iconst (v := nI 0) hx hb dMH_ball_79 (by decide) ?_
          refine ty_iast hx hb hK hO kr36 (nxg (clo_cons (clo_cons (clo_cons (clo_cons (clo_cons (clo_cons hc0 kr21 (by decide)) km21 (by decide)) km22 (by decide)) km23 (by decide)) km24 (by decide)) km25 (by decide)) kr36 rfl) hP hD hS (vp_in_nI (by omega) (by decide)) dMH_ball_80 (fun pl H locs hO hP hD hS => ?_)
          refine mi_iinc (k := 0) (x := i22) (d := 1) (y := i22 + 1) (lv' := [(4, .int (nI (i22 + 1))), (2, .long y21), (0, .ref h0)]) hx hb dMH_ball_81 hl rfl (by decide) rfl (by decide) rfl (fun ls hl => ?_)
          refine lv_goto (tgt := 65) hx hb dMH_ball_84 (by decide) ?_
          exact ih22 (i22 + 1) pl ls H locs (by omega) (lv_sub hl [0, 1, 2] rfl) hO hP hD hS
      exact lp22 256 0 pl ls _ _ (by omega) (lv_sub hl [0, 1, 2] rfl) hO hP hD hS
    | succ n21 ih21 =>
      intro i21 y21 ps22 f30 f31 f32 pl ls H locs hm21 hi21 hst hl hO hP hD hS
      obtain ⟨t21, hs⟩ := hst
      refine lv_iload hx hb dMH_ball_32 (lv_at hl 0 rfl) ?_
      refine lv_bipush (v := nI 8) hx hb dMH_ball_34 (by decide) ?_
      refine mi_ge (tgt := 62) hx hb dMH_ball_36 (by decide) (by omega) (by omega) (fun h32 => absurd h32 (by omega)) (fun h32 => ?_)
      refine lv_lload_n hx hb dMH_ball_39 rfl (lv_at hl 1 rfl) ?_
      refine lv_aload_n hx hb dMH_ball_40 rfl (lv_at hl 2 rfl) ?_
      refine ty_get (ci := 12) (C := "LatticeKeysModel$Hands") (TT := T_MH) (N := 31) (kd := (48, 0)) hx hb hts (wg_ft i_MH) hown hK hO k_h0 (nxg (clo_cons (clo_cons (clo_cons (clo_cons (clo_cons (clo_cons hc0 kr21 (by decide)) km21 (by decide)) km22 (by decide)) km23 (by decide)) km24 (by decide)) km25 (by decide)) k_h0 rfl) hP (fun _ h9 => h9) rfl 0 (by decide) (hts _ (wg_t kw_1432)) (fun _ h9 => h9) (cd := (3, 20, 0)) rfl dMH_ball_41 (fun v42 hv42 => ?_)
      obtain ⟨r40, rfl, kr37⟩ := (show ∃ r : Nat, v42 = .ref r ∧ T r = some (20, 0) from hv42)
      obtain rfl : r21 = r40 := hU _ _ _ (by decide) kr21 kr37
      refine mp_i (cx := [(r21, .inr (9, [.ref am21, .ref am22, .ref am23, .ref am24, .ref am25, .int (nI 136), .int (nI ps22), .int (nI 31)])), (am21, .inl (g.2.1 2, 25, .inr (.inl f30))), (am22, .inl (g.2.1 2, 25, .inr (.inl f31))), (am23, .inl (g.2.1 2, 5, .inr (.inl f32))), (am24, .inl (g.2.1 2, 24, .inr (.inl f24))), (am25, .inl (g.2.1 0, 25, .inl f25))]) (wr := []) hP hD hS hA [0, 1, 2, 3, 4, 5] [] rfl rfl rfl (by decide) (va_runV (As := []) (rest := [.long y21]) F (x_MS_next l g _ T (am25 :: (am24 :: (am23 :: (am22 :: (am21 :: (r21 :: xs)))))) pl hO hU  r21 am21 am22 am23 am24 am25 136 ps22 (nI 31) f30 f31 f32 f24 f25 (by omega) (by omega)) (cwV 0 hts (wg_app (wg_c kw_1728 (wg_c kw_1642 (wg_c kw_1643 (wg_c kw_10 wg_n)))) kw_1644) rfl rfl rfl (by decide +kernel) ⟨by decide, by decide⟩) (pp_V (en_ok g) (q0 := 0) hK hP hD hS hA hE [0, 1, 2, 3, 4, 5] rfl rfl rfl rfl) rfl rfl hl.1 rfl (lv_room (Nat.le_of_ble_eq_true rfl)) dMH_ball_44 ⟨by omega, by omega⟩) (fun r41 u33 H locs hu27 hP hD hS => ?_)
      obtain ⟨u34, pl⟩ := u33
      obtain ⟨hq27, hO⟩ := hu27
      obtain ⟨ps28, f48, f49, f50⟩ := u34
      have hP : va_P g.1 vcl ([(r21, .inr (9, [.ref am21, .ref am22, .ref am23, .ref am24, .ref am25, .int (nI 136), .int (nI ps28), .int (nI 31)])), (am21, .inl (g.2.1 2, 25, .inr (.inl f48))), (am22, .inl (g.2.1 2, 25, .inr (.inl f49))), (am23, .inl (g.2.1 2, 5, .inr (.inl f50))), (am24, .inl (g.2.1 2, 24, .inr (.inl f24))), (am25, .inl (g.2.1 0, 25, .inl f25))] ++ pl) _ := hP
      have hD : va_D _ ([(r21, .inr (9, [.ref am21, .ref am22, .ref am23, .ref am24, .ref am25, .int (nI 136), .int (nI ps28), .int (nI 31)])), (am21, .inl (g.2.1 2, 25, .inr (.inl f48))), (am22, .inl (g.2.1 2, 25, .inr (.inl f49))), (am23, .inl (g.2.1 2, 5, .inr (.inl f50))), (am24, .inl (g.2.1 2, 24, .inr (.inl f24))), (am25, .inl (g.2.1 0, 25, .inl f25))] ++ pl) := hD
      obtain ⟨hn24, hl24, z33, hz24, rfl, h0z24⟩ := hq27
      have hl24 : ps28 ≤ 136 := hl24
      have hs := str_next (by decide) hs hn24
      refine W.widen (k := 0) (n := 0) (by omega) (by omega) ?_
      refine lv_i2l hx hb dMH_ball_47 rfl ?_
      refine ml_any (fun y25 => ?_)
      refine lv_bipush (v := nI 8) hx hb dMH_ball_48 (by decide) ?_
      refine lv_iload hx hb dMH_ball_50 (lv_at hl 0 rfl) ?_
      refine mi_imul hx hb dMH_ball_52 ?_
      refine lv_lshl hx hb dMH_ball_53 rfl ?_
      refine ml_any (fun y26 => ?_)
      refine lv_lor hx hb dMH_ball_54 ?_
      refine lv_lstore_n (lv' := [(2, .long ((y21 ||| y26))), (4, .int (nI i21)), (0, .ref h0)]) hx hb dMH_ball_55 rfl hl (by decide) rfl (fun ls hl => ?_)
      refine mi_iinc (k := 1) (x := i21) (d := 1) (y := i21 + 1) (lv' := [(4, .int (nI (i21 + 1))), (2, .long ((y21 ||| y26))), (0, .ref h0)]) hx hb dMH_ball_56 hl rfl (by decide) rfl (by decide) rfl (fun ls hl => ?_)
      refine lv_goto (tgt := 32) hx hb dMH_ball_59 (by decide) ?_
      exact ih21 (i21 + 1) ((y21 ||| y26)) ps28 f48 f49 f50 pl ls H locs (by omega) (by omega) ⟨_, hs⟩ (lv_sub hl [0, 1, 2] rfl) hO hP hD hS
  exact lp21 8 0 0 0 f26 f27 f28 pl ls _ _ (by omega) (by omega) ⟨_, hs⟩ (lv_sub hl [0, 1, 2] rfl) hO hP hD hS
