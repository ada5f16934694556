abbrev c_MR_init : ByteArray := prog_14_method_1_code
abbrev y_MR_init : MethodName := ⟨"LatticeKeysModel$Ring", "<init>", "(III)V"⟩
abbrev w_MR_init : List Cond := Cond.code y_MR_init c_MR_init 7 none :: WG
theorem dMR_init_0 : decode c_MR_init 0 = .ok (.aload_n 0, 1) := by decide +kernel
theorem dMR_init_1 : decode c_MR_init 1 = .ok (.invokespecial 1, 3) := by decide +kernel
theorem dMR_init_4 : decode c_MR_init 4 = .ok (.aload_n 0, 1) := by decide +kernel
theorem dMR_init_5 : decode c_MR_init 5 = .ok (.lconst 1, 1) := by decide +kernel
theorem dMR_init_6 : decode c_MR_init 6 = .ok (.putfield 7, 3) := by decide +kernel
theorem dMR_init_9 : decode c_MR_init 9 = .ok (.aload_n 0, 1) := by decide +kernel
theorem dMR_init_10 : decode c_MR_init 10 = .ok (.iload_n 1, 1) := by decide +kernel
theorem dMR_init_11 : decode c_MR_init 11 = .ok (.putfield 13, 3) := by decide +kernel
theorem dMR_init_14 : decode c_MR_init 14 = .ok (.aload_n 0, 1) := by decide +kernel
theorem dMR_init_15 : decode c_MR_init 15 = .ok (.iload_n 3, 1) := by decide +kernel
theorem dMR_init_16 : decode c_MR_init 16 = .ok (.putfield 17, 3) := by decide +kernel
theorem dMR_init_19 : decode c_MR_init 19 = .ok (.aload_n 0, 1) := by decide +kernel
theorem dMR_init_20 : decode c_MR_init 20 = .ok (.iconst 2, 1) := by decide +kernel
theorem dMR_init_21 : decode c_MR_init 21 = .ok (.iload_n 3, 1) := by decide +kernel
theorem dMR_init_22 : decode c_MR_init 22 = .ok (.imul, 1) := by decide +kernel
theorem dMR_init_23 : decode c_MR_init 23 = .ok (.newarray .long, 2) := by decide +kernel
theorem dMR_init_25 : decode c_MR_init 25 = .ok (.putfield 20, 3) := by decide +kernel
theorem dMR_init_28 : decode c_MR_init 28 = .ok (.aload_n 0, 1) := by decide +kernel
theorem dMR_init_29 : decode c_MR_init 29 = .ok (.iload_n 3, 1) := by decide +kernel
theorem dMR_init_30 : decode c_MR_init 30 = .ok (.newarray .int, 2) := by decide +kernel
theorem dMR_init_32 : decode c_MR_init 32 = .ok (.putfield 24, 3) := by decide +kernel
theorem dMR_init_35 : decode c_MR_init 35 = .ok (.aload_n 0, 1) := by decide +kernel
theorem dMR_init_36 : decode c_MR_init 36 = .ok (.getfield 20, 3) := by decide +kernel
theorem dMR_init_39 : decode c_MR_init 39 = .ok (.iconst 0, 1) := by decide +kernel
theorem dMR_init_40 : decode c_MR_init 40 = .ok (.lconst 1, 1) := by decide +kernel
theorem dMR_init_41 : decode c_MR_init 41 = .ok (.lastore, 1) := by decide +kernel
theorem dMR_init_42 : decode c_MR_init 42 = .ok (.iconst 1, 1) := by decide +kernel
theorem dMR_init_43 : decode c_MR_init 43 = .ok (.istore 4, 2) := by decide +kernel
theorem dMR_init_45 : decode c_MR_init 45 = .ok (.iload 4, 2) := by decide +kernel
theorem dMR_init_47 : decode c_MR_init 47 = .ok (.iconst 2, 1) := by decide +kernel
theorem dMR_init_48 : decode c_MR_init 48 = .ok (.iload_n 3, 1) := by decide +kernel
theorem dMR_init_49 : decode c_MR_init 49 = .ok (.imul, 1) := by decide +kernel
theorem dMR_init_50 : decode c_MR_init 50 = .ok (.if_icmp .ge 31, 3) := by decide +kernel
theorem dMR_init_53 : decode c_MR_init 53 = .ok (.aload_n 0, 1) := by decide +kernel
theorem dMR_init_54 : decode c_MR_init 54 = .ok (.getfield 20, 3) := by decide +kernel
theorem dMR_init_57 : decode c_MR_init 57 = .ok (.iload 4, 2) := by decide +kernel
theorem dMR_init_59 : decode c_MR_init 59 = .ok (.aload_n 0, 1) := by decide +kernel
theorem dMR_init_60 : decode c_MR_init 60 = .ok (.getfield 20, 3) := by decide +kernel
theorem dMR_init_63 : decode c_MR_init 63 = .ok (.iload 4, 2) := by decide +kernel
theorem dMR_init_65 : decode c_MR_init 65 = .ok (.iconst 1, 1) := by decide +kernel
theorem dMR_init_66 : decode c_MR_init 66 = .ok (.isub, 1) := by decide +kernel
theorem dMR_init_67 : decode c_MR_init 67 = .ok (.laload, 1) := by decide +kernel
theorem dMR_init_68 : decode c_MR_init 68 = .ok (.iload_n 2, 1) := by decide +kernel
theorem dMR_init_69 : decode c_MR_init 69 = .ok (.i2l, 1) := by decide +kernel
theorem dMR_init_70 : decode c_MR_init 70 = .ok (.lmul, 1) := by decide +kernel
theorem dMR_init_71 : decode c_MR_init 71 = .ok (.iload_n 1, 1) := by decide +kernel
theorem dMR_init_72 : decode c_MR_init 72 = .ok (.i2l, 1) := by decide +kernel
theorem dMR_init_73 : decode c_MR_init 73 = .ok (.lrem, 1) := by decide +kernel
theorem dMR_init_74 : decode c_MR_init 74 = .ok (.lastore, 1) := by decide +kernel
theorem dMR_init_75 : decode c_MR_init 75 = .ok (.iinc 4 1, 3) := by decide +kernel
theorem dMR_init_78 : decode c_MR_init 78 = .ok (.goto (-33), 3) := by decide +kernel
theorem dMR_init_81 : decode c_MR_init 81 = .ok (.iconst 1, 1) := by decide +kernel
theorem dMR_init_82 : decode c_MR_init 82 = .ok (.istore 4, 2) := by decide +kernel
theorem dMR_init_84 : decode c_MR_init 84 = .ok (.iload 4, 2) := by decide +kernel
theorem dMR_init_86 : decode c_MR_init 86 = .ok (.iload_n 3, 1) := by decide +kernel
theorem dMR_init_87 : decode c_MR_init 87 = .ok (.if_icmp .ge 30, 3) := by decide +kernel
theorem dMR_init_90 : decode c_MR_init 90 = .ok (.aload_n 0, 1) := by decide +kernel
theorem dMR_init_91 : decode c_MR_init 91 = .ok (.aload_n 0, 1) := by decide +kernel
theorem dMR_init_92 : decode c_MR_init 92 = .ok (.getfield 7, 3) := by decide +kernel
theorem dMR_init_95 : decode c_MR_init 95 = .ok (.iload_n 1, 1) := by decide +kernel
theorem dMR_init_96 : decode c_MR_init 96 = .ok (.iconst 1, 1) := by decide +kernel
theorem dMR_init_97 : decode c_MR_init 97 = .ok (.iadd, 1) := by decide +kernel
theorem dMR_init_98 : decode c_MR_init 98 = .ok (.iconst 2, 1) := by decide +kernel
theorem dMR_init_99 : decode c_MR_init 99 = .ok (.idiv, 1) := by decide +kernel
theorem dMR_init_100 : decode c_MR_init 100 = .ok (.i2l, 1) := by decide +kernel
theorem dMR_init_101 : decode c_MR_init 101 = .ok (.lmul, 1) := by decide +kernel
theorem dMR_init_102 : decode c_MR_init 102 = .ok (.iload_n 1, 1) := by decide +kernel
theorem dMR_init_103 : decode c_MR_init 103 = .ok (.i2l, 1) := by decide +kernel
theorem dMR_init_104 : decode c_MR_init 104 = .ok (.lrem, 1) := by decide +kernel
theorem dMR_init_105 : decode c_MR_init 105 = .ok (.putfield 7, 3) := by decide +kernel
theorem dMR_init_108 : decode c_MR_init 108 = .ok (.iload 4, 2) := by decide +kernel
theorem dMR_init_110 : decode c_MR_init 110 = .ok (.iconst 2, 1) := by decide +kernel
theorem dMR_init_111 : decode c_MR_init 111 = .ok (.imul, 1) := by decide +kernel
theorem dMR_init_112 : decode c_MR_init 112 = .ok (.istore 4, 2) := by decide +kernel
theorem dMR_init_114 : decode c_MR_init 114 = .ok (.goto (-30), 3) := by decide +kernel
theorem dMR_init_117 : decode c_MR_init 117 = .ok (.iconst 0, 1) := by decide +kernel
theorem dMR_init_118 : decode c_MR_init 118 = .ok (.istore 4, 2) := by decide +kernel
theorem dMR_init_120 : decode c_MR_init 120 = .ok (.iload 4, 2) := by decide +kernel
theorem dMR_init_122 : decode c_MR_init 122 = .ok (.iload_n 3, 1) := by decide +kernel
theorem dMR_init_123 : decode c_MR_init 123 = .ok (.if_icmp .ge 57, 3) := by decide +kernel
theorem dMR_init_126 : decode c_MR_init 126 = .ok (.iconst 0, 1) := by decide +kernel
theorem dMR_init_127 : decode c_MR_init 127 = .ok (.istore 5, 2) := by decide +kernel
theorem dMR_init_129 : decode c_MR_init 129 = .ok (.iconst 1, 1) := by decide +kernel
theorem dMR_init_130 : decode c_MR_init 130 = .ok (.istore 6, 2) := by decide +kernel
theorem dMR_init_132 : decode c_MR_init 132 = .ok (.iload 6, 2) := by decide +kernel
theorem dMR_init_134 : decode c_MR_init 134 = .ok (.iload_n 3, 1) := by decide +kernel
theorem dMR_init_135 : decode c_MR_init 135 = .ok (.if_icmp .ge 26, 3) := by decide +kernel
theorem dMR_init_138 : decode c_MR_init 138 = .ok (.iconst 2, 1) := by decide +kernel
theorem dMR_init_139 : decode c_MR_init 139 = .ok (.iload 5, 2) := by decide +kernel
theorem dMR_init_141 : decode c_MR_init 141 = .ok (.imul, 1) := by decide +kernel
theorem dMR_init_142 : decode c_MR_init 142 = .ok (.iload 4, 2) := by decide +kernel
theorem dMR_init_144 : decode c_MR_init 144 = .ok (.iload 6, 2) := by decide +kernel
theorem dMR_init_146 : decode c_MR_init 146 = .ok (.idiv, 1) := by decide +kernel
theorem dMR_init_147 : decode c_MR_init 147 = .ok (.iconst 1, 1) := by decide +kernel
theorem dMR_init_148 : decode c_MR_init 148 = .ok (.iand, 1) := by decide +kernel
theorem dMR_init_149 : decode c_MR_init 149 = .ok (.iadd, 1) := by decide +kernel
theorem dMR_init_150 : decode c_MR_init 150 = .ok (.istore 5, 2) := by decide +kernel
theorem dMR_init_152 : decode c_MR_init 152 = .ok (.iload 6, 2) := by decide +kernel
theorem dMR_init_154 : decode c_MR_init 154 = .ok (.iconst 2, 1) := by decide +kernel
theorem dMR_init_155 : decode c_MR_init 155 = .ok (.imul, 1) := by decide +kernel
theorem dMR_init_156 : decode c_MR_init 156 = .ok (.istore 6, 2) := by decide +kernel
theorem dMR_init_158 : decode c_MR_init 158 = .ok (.goto (-26), 3) := by decide +kernel
theorem dMR_init_161 : decode c_MR_init 161 = .ok (.aload_n 0, 1) := by decide +kernel
theorem dMR_init_162 : decode c_MR_init 162 = .ok (.getfield 24, 3) := by decide +kernel
theorem dMR_init_165 : decode c_MR_init 165 = .ok (.iload 4, 2) := by decide +kernel
theorem dMR_init_167 : decode c_MR_init 167 = .ok (.iconst 2, 1) := by decide +kernel
theorem dMR_init_168 : decode c_MR_init 168 = .ok (.iload 5, 2) := by decide +kernel
theorem dMR_init_170 : decode c_MR_init 170 = .ok (.imul, 1) := by decide +kernel
theorem dMR_init_171 : decode c_MR_init 171 = .ok (.iconst 1, 1) := by decide +kernel
theorem dMR_init_172 : decode c_MR_init 172 = .ok (.iadd, 1) := by decide +kernel
theorem dMR_init_173 : decode c_MR_init 173 = .ok (.iastore, 1) := by decide +kernel
theorem dMR_init_174 : decode c_MR_init 174 = .ok (.iinc 4 1, 3) := by decide +kernel
theorem dMR_init_177 : decode c_MR_init 177 = .ok (.goto (-57), 3) := by decide +kernel
theorem dMR_init_180 : decode c_MR_init 180 = .ok (.return_, 1) := by decide +kernel
abbrev c_ME_init : ByteArray := prog_15_method_1_code
abbrev y_ME_init : MethodName := ⟨"LatticeKeysModel$Secrets", "<init>", "(LLatticeKeysModel$Sponge;)V"⟩
abbrev w_ME_init : List Cond := Cond.code y_ME_init c_ME_init 2 none :: WG
theorem dME_init_0 : decode c_ME_init 0 = .ok (.aload_n 0, 1) := by decide +kernel
theorem dME_init_1 : decode c_ME_init 1 = .ok (.invokespecial 1, 3) := by decide +kernel
theorem dME_init_4 : decode c_ME_init 4 = .ok (.aload_n 0, 1) := by decide +kernel
theorem dME_init_5 : decode c_ME_init 5 = .ok (.new 7, 3) := by decide +kernel
theorem dME_init_8 : decode c_ME_init 8 = .ok (.dup, 1) := by decide +kernel
theorem dME_init_9 : decode c_ME_init 9 = .ok (.sipush 3329, 3) := by decide +kernel
theorem dME_init_12 : decode c_ME_init 12 = .ok (.bipush 17, 2) := by decide +kernel
theorem dME_init_14 : decode c_ME_init 14 = .ok (.sipush 128, 3) := by decide +kernel
theorem dME_init_17 : decode c_ME_init 17 = .ok (.invokespecial 11, 3) := by decide +kernel
theorem dME_init_20 : decode c_ME_init 20 = .ok (.putfield 14, 3) := by decide +kernel
theorem dME_init_23 : decode c_ME_init 23 = .ok (.aload_n 0, 1) := by decide +kernel
theorem dME_init_24 : decode c_ME_init 24 = .ok (.bipush 16, 2) := by decide +kernel
theorem dME_init_26 : decode c_ME_init 26 = .ok (.sipush 256, 3) := by decide +kernel
theorem dME_init_29 : decode c_ME_init 29 = .ok (.multianewarray 18 2, 4) := by decide +kernel
theorem dME_init_33 : decode c_ME_init 33 = .ok (.putfield 20, 3) := by decide +kernel
theorem dME_init_36 : decode c_ME_init 36 = .ok (.aload_n 0, 1) := by decide +kernel
theorem dME_init_37 : decode c_ME_init 37 = .ok (.iconst 4, 1) := by decide +kernel
theorem dME_init_38 : decode c_ME_init 38 = .ok (.sipush 256, 3) := by decide +kernel
theorem dME_init_41 : decode c_ME_init 41 = .ok (.multianewarray 18 2, 4) := by decide +kernel
theorem dME_init_45 : decode c_ME_init 45 = .ok (.putfield 23, 3) := by decide +kernel
theorem dME_init_48 : decode c_ME_init 48 = .ok (.aload_n 0, 1) := by decide +kernel
theorem dME_init_49 : decode c_ME_init 49 = .ok (.iconst 4, 1) := by decide +kernel
theorem dME_init_50 : decode c_ME_init 50 = .ok (.sipush 256, 3) := by decide +kernel
theorem dME_init_53 : decode c_ME_init 53 = .ok (.multianewarray 18 2, 4) := by decide +kernel
theorem dME_init_57 : decode c_ME_init 57 = .ok (.putfield 26, 3) := by decide +kernel
theorem dME_init_60 : decode c_ME_init 60 = .ok (.aload_n 0, 1) := by decide +kernel
theorem dME_init_61 : decode c_ME_init 61 = .ok (.iconst 4, 1) := by decide +kernel
theorem dME_init_62 : decode c_ME_init 62 = .ok (.sipush 256, 3) := by decide +kernel
theorem dME_init_65 : decode c_ME_init 65 = .ok (.multianewarray 18 2, 4) := by decide +kernel
theorem dME_init_69 : decode c_ME_init 69 = .ok (.putfield 29, 3) := by decide +kernel
theorem dME_init_72 : decode c_ME_init 72 = .ok (.aload_n 0, 1) := by decide +kernel
theorem dME_init_73 : decode c_ME_init 73 = .ok (.sipush 256, 3) := by decide +kernel
theorem dME_init_76 : decode c_ME_init 76 = .ok (.newarray .int, 2) := by decide +kernel
theorem dME_init_78 : decode c_ME_init 78 = .ok (.putfield 32, 3) := by decide +kernel
theorem dME_init_81 : decode c_ME_init 81 = .ok (.aload_n 0, 1) := by decide +kernel
theorem dME_init_82 : decode c_ME_init 82 = .ok (.sipush 256, 3) := by decide +kernel
theorem dME_init_85 : decode c_ME_init 85 = .ok (.newarray .int, 2) := by decide +kernel
theorem dME_init_87 : decode c_ME_init 87 = .ok (.putfield 36, 3) := by decide +kernel
theorem dME_init_90 : decode c_ME_init 90 = .ok (.aload_n 0, 1) := by decide +kernel
theorem dME_init_91 : decode c_ME_init 91 = .ok (.sipush 256, 3) := by decide +kernel
theorem dME_init_94 : decode c_ME_init 94 = .ok (.newarray .int, 2) := by decide +kernel
theorem dME_init_96 : decode c_ME_init 96 = .ok (.putfield 39, 3) := by decide +kernel
theorem dME_init_99 : decode c_ME_init 99 = .ok (.aload_n 0, 1) := by decide +kernel
theorem dME_init_100 : decode c_ME_init 100 = .ok (.bipush 64, 2) := by decide +kernel
theorem dME_init_102 : decode c_ME_init 102 = .ok (.newarray .byte, 2) := by decide +kernel
theorem dME_init_104 : decode c_ME_init 104 = .ok (.putfield 42, 3) := by decide +kernel
theorem dME_init_107 : decode c_ME_init 107 = .ok (.aload_n 0, 1) := by decide +kernel
theorem dME_init_108 : decode c_ME_init 108 = .ok (.sipush 192, 3) := by decide +kernel
theorem dME_init_111 : decode c_ME_init 111 = .ok (.newarray .byte, 2) := by decide +kernel
theorem dME_init_113 : decode c_ME_init 113 = .ok (.putfield 46, 3) := by decide +kernel
theorem dME_init_116 : decode c_ME_init 116 = .ok (.aload_n 0, 1) := by decide +kernel
theorem dME_init_117 : decode c_ME_init 117 = .ok (.bipush 32, 2) := by decide +kernel
theorem dME_init_119 : decode c_ME_init 119 = .ok (.newarray .byte, 2) := by decide +kernel
theorem dME_init_121 : decode c_ME_init 121 = .ok (.putfield 49, 3) := by decide +kernel
theorem dME_init_124 : decode c_ME_init 124 = .ok (.aload_n 0, 1) := by decide +kernel
theorem dME_init_125 : decode c_ME_init 125 = .ok (.bipush 32, 2) := by decide +kernel
theorem dME_init_127 : decode c_ME_init 127 = .ok (.newarray .byte, 2) := by decide +kernel
theorem dME_init_129 : decode c_ME_init 129 = .ok (.putfield 52, 3) := by decide +kernel
theorem dME_init_132 : decode c_ME_init 132 = .ok (.aload_n 0, 1) := by decide +kernel
theorem dME_init_133 : decode c_ME_init 133 = .ok (.sipush 1568, 3) := by decide +kernel
theorem dME_init_136 : decode c_ME_init 136 = .ok (.newarray .byte, 2) := by decide +kernel
theorem dME_init_138 : decode c_ME_init 138 = .ok (.putfield 55, 3) := by decide +kernel
theorem dME_init_141 : decode c_ME_init 141 = .ok (.aload_n 0, 1) := by decide +kernel
theorem dME_init_142 : decode c_ME_init 142 = .ok (.aload_n 1, 1) := by decide +kernel
theorem dME_init_143 : decode c_ME_init 143 = .ok (.putfield 58, 3) := by decide +kernel
theorem dME_init_146 : decode c_ME_init 146 = .ok (.return_, 1) := by decide +kernel
abbrev c_MH_init : ByteArray := prog_13_method_1_code
abbrev y_MH_init : MethodName := ⟨"LatticeKeysModel$Hands", "<init>", "(LLatticeKeysModel$Sponge;)V"⟩
abbrev w_MH_init : List Cond := Cond.code y_MH_init c_MH_init 2 none :: WG
theorem dMH_init_0 : decode c_MH_init 0 = .ok (.aload_n 0, 1) := by decide +kernel
theorem dMH_init_1 : decode c_MH_init 1 = .ok (.invokespecial 1, 3) := by decide +kernel
theorem dMH_init_4 : decode c_MH_init 4 = .ok (.aload_n 0, 1) := by decide +kernel
theorem dMH_init_5 : decode c_MH_init 5 = .ok (.new 7, 3) := by decide +kernel
theorem dMH_init_8 : decode c_MH_init 8 = .ok (.dup, 1) := by decide +kernel
theorem dMH_init_9 : decode c_MH_init 9 = .ok (.ldc 11, 2) := by decide +kernel
theorem dMH_init_11 : decode c_MH_init 11 = .ok (.sipush 1753, 3) := by decide +kernel
theorem dMH_init_14 : decode c_MH_init 14 = .ok (.sipush 256, 3) := by decide +kernel
theorem dMH_init_17 : decode c_MH_init 17 = .ok (.invokespecial 12, 3) := by decide +kernel
theorem dMH_init_20 : decode c_MH_init 20 = .ok (.putfield 15, 3) := by decide +kernel
theorem dMH_init_23 : decode c_MH_init 23 = .ok (.aload_n 0, 1) := by decide +kernel
theorem dMH_init_24 : decode c_MH_init 24 = .ok (.bipush 64, 2) := by decide +kernel
theorem dMH_init_26 : decode c_MH_init 26 = .ok (.sipush 256, 3) := by decide +kernel
theorem dMH_init_29 : decode c_MH_init 29 = .ok (.multianewarray 19 2, 4) := by decide +kernel
theorem dMH_init_33 : decode c_MH_init 33 = .ok (.putfield 21, 3) := by decide +kernel
theorem dMH_init_36 : decode c_MH_init 36 = .ok (.aload_n 0, 1) := by decide +kernel
theorem dMH_init_37 : decode c_MH_init 37 = .ok (.bipush 7, 2) := by decide +kernel
theorem dMH_init_39 : decode c_MH_init 39 = .ok (.sipush 256, 3) := by decide +kernel
theorem dMH_init_42 : decode c_MH_init 42 = .ok (.multianewarray 19 2, 4) := by decide +kernel
theorem dMH_init_46 : decode c_MH_init 46 = .ok (.putfield 24, 3) := by decide +kernel
theorem dMH_init_49 : decode c_MH_init 49 = .ok (.aload_n 0, 1) := by decide +kernel
theorem dMH_init_50 : decode c_MH_init 50 = .ok (.bipush 8, 2) := by decide +kernel
theorem dMH_init_52 : decode c_MH_init 52 = .ok (.sipush 256, 3) := by decide +kernel
theorem dMH_init_55 : decode c_MH_init 55 = .ok (.multianewarray 19 2, 4) := by decide +kernel
theorem dMH_init_59 : decode c_MH_init 59 = .ok (.putfield 27, 3) := by decide +kernel
theorem dMH_init_62 : decode c_MH_init 62 = .ok (.aload_n 0, 1) := by decide +kernel
theorem dMH_init_63 : decode c_MH_init 63 = .ok (.bipush 8, 2) := by decide +kernel
theorem dMH_init_65 : decode c_MH_init 65 = .ok (.sipush 256, 3) := by decide +kernel
theorem dMH_init_68 : decode c_MH_init 68 = .ok (.multianewarray 19 2, 4) := by decide +kernel
theorem dMH_init_72 : decode c_MH_init 72 = .ok (.putfield 30, 3) := by decide +kernel
theorem dMH_init_75 : decode c_MH_init 75 = .ok (.aload_n 0, 1) := by decide +kernel
theorem dMH_init_76 : decode c_MH_init 76 = .ok (.bipush 8, 2) := by decide +kernel
theorem dMH_init_78 : decode c_MH_init 78 = .ok (.sipush 256, 3) := by decide +kernel
theorem dMH_init_81 : decode c_MH_init 81 = .ok (.multianewarray 19 2, 4) := by decide +kernel
theorem dMH_init_85 : decode c_MH_init 85 = .ok (.putfield 33, 3) := by decide +kernel
theorem dMH_init_88 : decode c_MH_init 88 = .ok (.aload_n 0, 1) := by decide +kernel
theorem dMH_init_89 : decode c_MH_init 89 = .ok (.bipush 7, 2) := by decide +kernel
theorem dMH_init_91 : decode c_MH_init 91 = .ok (.sipush 256, 3) := by decide +kernel
theorem dMH_init_94 : decode c_MH_init 94 = .ok (.multianewarray 19 2, 4) := by decide +kernel
theorem dMH_init_98 : decode c_MH_init 98 = .ok (.putfield 36, 3) := by decide +kernel
theorem dMH_init_101 : decode c_MH_init 101 = .ok (.aload_n 0, 1) := by decide +kernel
theorem dMH_init_102 : decode c_MH_init 102 = .ok (.bipush 7, 2) := by decide +kernel
theorem dMH_init_104 : decode c_MH_init 104 = .ok (.sipush 256, 3) := by decide +kernel
theorem dMH_init_107 : decode c_MH_init 107 = .ok (.multianewarray 19 2, 4) := by decide +kernel
theorem dMH_init_111 : decode c_MH_init 111 = .ok (.putfield 39, 3) := by decide +kernel
theorem dMH_init_114 : decode c_MH_init 114 = .ok (.aload_n 0, 1) := by decide +kernel
theorem dMH_init_115 : decode c_MH_init 115 = .ok (.bipush 7, 2) := by decide +kernel
theorem dMH_init_117 : decode c_MH_init 117 = .ok (.sipush 256, 3) := by decide +kernel
theorem dMH_init_120 : decode c_MH_init 120 = .ok (.multianewarray 19 2, 4) := by decide +kernel
theorem dMH_init_124 : decode c_MH_init 124 = .ok (.putfield 42, 3) := by decide +kernel
theorem dMH_init_127 : decode c_MH_init 127 = .ok (.aload_n 0, 1) := by decide +kernel
theorem dMH_init_128 : decode c_MH_init 128 = .ok (.bipush 8, 2) := by decide +kernel
theorem dMH_init_130 : decode c_MH_init 130 = .ok (.sipush 256, 3) := by decide +kernel
theorem dMH_init_133 : decode c_MH_init 133 = .ok (.multianewarray 19 2, 4) := by decide +kernel
theorem dMH_init_137 : decode c_MH_init 137 = .ok (.putfield 45, 3) := by decide +kernel
theorem dMH_init_140 : decode c_MH_init 140 = .ok (.aload_n 0, 1) := by decide +kernel
theorem dMH_init_141 : decode c_MH_init 141 = .ok (.bipush 8, 2) := by decide +kernel
theorem dMH_init_143 : decode c_MH_init 143 = .ok (.sipush 256, 3) := by decide +kernel
theorem dMH_init_146 : decode c_MH_init 146 = .ok (.multianewarray 19 2, 4) := by decide +kernel
theorem dMH_init_150 : decode c_MH_init 150 = .ok (.putfield 48, 3) := by decide +kernel
theorem dMH_init_153 : decode c_MH_init 153 = .ok (.aload_n 0, 1) := by decide +kernel
theorem dMH_init_154 : decode c_MH_init 154 = .ok (.sipush 256, 3) := by decide +kernel
theorem dMH_init_157 : decode c_MH_init 157 = .ok (.newarray .int, 2) := by decide +kernel
theorem dMH_init_159 : decode c_MH_init 159 = .ok (.putfield 51, 3) := by decide +kernel
theorem dMH_init_162 : decode c_MH_init 162 = .ok (.aload_n 0, 1) := by decide +kernel
theorem dMH_init_163 : decode c_MH_init 163 = .ok (.sipush 256, 3) := by decide +kernel
theorem dMH_init_166 : decode c_MH_init 166 = .ok (.newarray .int, 2) := by decide +kernel
theorem dMH_init_168 : decode c_MH_init 168 = .ok (.putfield 55, 3) := by decide +kernel
theorem dMH_init_171 : decode c_MH_init 171 = .ok (.aload_n 0, 1) := by decide +kernel
theorem dMH_init_172 : decode c_MH_init 172 = .ok (.sipush 256, 3) := by decide +kernel
theorem dMH_init_175 : decode c_MH_init 175 = .ok (.newarray .int, 2) := by decide +kernel
theorem dMH_init_177 : decode c_MH_init 177 = .ok (.putfield 58, 3) := by decide +kernel
theorem dMH_init_180 : decode c_MH_init 180 = .ok (.aload_n 0, 1) := by decide +kernel
theorem dMH_init_181 : decode c_MH_init 181 = .ok (.sipush 256, 3) := by decide +kernel
theorem dMH_init_184 : decode c_MH_init 184 = .ok (.newarray .long, 2) := by decide +kernel
theorem dMH_init_186 : decode c_MH_init 186 = .ok (.putfield 61, 3) := by decide +kernel
theorem dMH_init_189 : decode c_MH_init 189 = .ok (.aload_n 0, 1) := by decide +kernel
theorem dMH_init_190 : decode c_MH_init 190 = .ok (.sipush 128, 3) := by decide +kernel
theorem dMH_init_193 : decode c_MH_init 193 = .ok (.newarray .byte, 2) := by decide +kernel
theorem dMH_init_195 : decode c_MH_init 195 = .ok (.putfield 65, 3) := by decide +kernel
theorem dMH_init_198 : decode c_MH_init 198 = .ok (.aload_n 0, 1) := by decide +kernel
theorem dMH_init_199 : decode c_MH_init 199 = .ok (.bipush 64, 2) := by decide +kernel
theorem dMH_init_201 : decode c_MH_init 201 = .ok (.newarray .byte, 2) := by decide +kernel
theorem dMH_init_203 : decode c_MH_init 203 = .ok (.putfield 69, 3) := by decide +kernel
theorem dMH_init_206 : decode c_MH_init 206 = .ok (.aload_n 0, 1) := by decide +kernel
theorem dMH_init_207 : decode c_MH_init 207 = .ok (.bipush 64, 2) := by decide +kernel
theorem dMH_init_209 : decode c_MH_init 209 = .ok (.newarray .byte, 2) := by decide +kernel
theorem dMH_init_211 : decode c_MH_init 211 = .ok (.putfield 72, 3) := by decide +kernel
theorem dMH_init_214 : decode c_MH_init 214 = .ok (.aload_n 0, 1) := by decide +kernel
theorem dMH_init_215 : decode c_MH_init 215 = .ok (.sipush 640, 3) := by decide +kernel
theorem dMH_init_218 : decode c_MH_init 218 = .ok (.newarray .byte, 2) := by decide +kernel
theorem dMH_init_220 : decode c_MH_init 220 = .ok (.putfield 75, 3) := by decide +kernel
theorem dMH_init_223 : decode c_MH_init 223 = .ok (.aload_n 0, 1) := by decide +kernel
theorem dMH_init_224 : decode c_MH_init 224 = .ok (.bipush 64, 2) := by decide +kernel
theorem dMH_init_226 : decode c_MH_init 226 = .ok (.newarray .byte, 2) := by decide +kernel
theorem dMH_init_228 : decode c_MH_init 228 = .ok (.putfield 78, 3) := by decide +kernel
theorem dMH_init_231 : decode c_MH_init 231 = .ok (.aload_n 0, 1) := by decide +kernel
theorem dMH_init_232 : decode c_MH_init 232 = .ok (.bipush 64, 2) := by decide +kernel
theorem dMH_init_234 : decode c_MH_init 234 = .ok (.newarray .byte, 2) := by decide +kernel
theorem dMH_init_236 : decode c_MH_init 236 = .ok (.putfield 81, 3) := by decide +kernel
theorem dMH_init_239 : decode c_MH_init 239 = .ok (.aload_n 0, 1) := by decide +kernel
theorem dMH_init_240 : decode c_MH_init 240 = .ok (.bipush 64, 2) := by decide +kernel
theorem dMH_init_242 : decode c_MH_init 242 = .ok (.newarray .byte, 2) := by decide +kernel
theorem dMH_init_244 : decode c_MH_init 244 = .ok (.putfield 84, 3) := by decide +kernel
theorem dMH_init_247 : decode c_MH_init 247 = .ok (.aload_n 0, 1) := by decide +kernel
theorem dMH_init_248 : decode c_MH_init 248 = .ok (.aload_n 1, 1) := by decide +kernel
theorem dMH_init_249 : decode c_MH_init 249 = .ok (.putfield 87, 3) := by decide +kernel
theorem dMH_init_252 : decode c_MH_init 252 = .ok (.return_, 1) := by decide +kernel
abbrev c_M_init : ByteArray := prog_12_method_3_code
abbrev y_M_init : MethodName := ⟨"LatticeKeysModel", "<init>", "()V"⟩
abbrev w_M_init : List Cond := Cond.code y_M_init c_M_init 1 none :: WG
theorem dM_init_0 : decode c_M_init 0 = .ok (.aload_n 0, 1) := by decide +kernel
theorem dM_init_1 : decode c_M_init 1 = .ok (.invokespecial 1, 3) := by decide +kernel
theorem dM_init_4 : decode c_M_init 4 = .ok (.aload_n 0, 1) := by decide +kernel
theorem dM_init_5 : decode c_M_init 5 = .ok (.sipush 16384, 3) := by decide +kernel
theorem dM_init_8 : decode c_M_init 8 = .ok (.newarray .byte, 2) := by decide +kernel
theorem dM_init_10 : decode c_M_init 10 = .ok (.putfield 7, 3) := by decide +kernel
theorem dM_init_13 : decode c_M_init 13 = .ok (.aload_n 0, 1) := by decide +kernel
theorem dM_init_14 : decode c_M_init 14 = .ok (.sipush 8192, 3) := by decide +kernel
theorem dM_init_17 : decode c_M_init 17 = .ok (.newarray .byte, 2) := by decide +kernel
theorem dM_init_19 : decode c_M_init 19 = .ok (.putfield 13, 3) := by decide +kernel
theorem dM_init_22 : decode c_M_init 22 = .ok (.aload_n 0, 1) := by decide +kernel
theorem dM_init_23 : decode c_M_init 23 = .ok (.sipush 8192, 3) := by decide +kernel
theorem dM_init_26 : decode c_M_init 26 = .ok (.newarray .byte, 2) := by decide +kernel
theorem dM_init_28 : decode c_M_init 28 = .ok (.putfield 16, 3) := by decide +kernel
theorem dM_init_31 : decode c_M_init 31 = .ok (.aload_n 0, 1) := by decide +kernel
theorem dM_init_32 : decode c_M_init 32 = .ok (.bipush 8, 2) := by decide +kernel
theorem dM_init_34 : decode c_M_init 34 = .ok (.sipush 2592, 3) := by decide +kernel
theorem dM_init_37 : decode c_M_init 37 = .ok (.multianewarray 19 2, 4) := by decide +kernel
theorem dM_init_41 : decode c_M_init 41 = .ok (.putfield 21, 3) := by decide +kernel
theorem dM_init_44 : decode c_M_init 44 = .ok (.aload_n 0, 1) := by decide +kernel
theorem dM_init_45 : decode c_M_init 45 = .ok (.bipush 8, 2) := by decide +kernel
theorem dM_init_47 : decode c_M_init 47 = .ok (.sipush 4896, 3) := by decide +kernel
theorem dM_init_50 : decode c_M_init 50 = .ok (.multianewarray 19 2, 4) := by decide +kernel
theorem dM_init_54 : decode c_M_init 54 = .ok (.putfield 24, 3) := by decide +kernel
theorem dM_init_57 : decode c_M_init 57 = .ok (.aload_n 0, 1) := by decide +kernel
theorem dM_init_58 : decode c_M_init 58 = .ok (.bipush 8, 2) := by decide +kernel
theorem dM_init_60 : decode c_M_init 60 = .ok (.newarray .int, 2) := by decide +kernel
theorem dM_init_62 : decode c_M_init 62 = .ok (.putfield 27, 3) := by decide +kernel
theorem dM_init_65 : decode c_M_init 65 = .ok (.aload_n 0, 1) := by decide +kernel
theorem dM_init_66 : decode c_M_init 66 = .ok (.bipush 8, 2) := by decide +kernel
theorem dM_init_68 : decode c_M_init 68 = .ok (.newarray .int, 2) := by decide +kernel
theorem dM_init_70 : decode c_M_init 70 = .ok (.putfield 31, 3) := by decide +kernel
theorem dM_init_73 : decode c_M_init 73 = .ok (.aload_n 0, 1) := by decide +kernel
theorem dM_init_74 : decode c_M_init 74 = .ok (.new 34, 3) := by decide +kernel
theorem dM_init_77 : decode c_M_init 77 = .ok (.dup, 1) := by decide +kernel
theorem dM_init_78 : decode c_M_init 78 = .ok (.invokespecial 36, 3) := by decide +kernel
theorem dM_init_81 : decode c_M_init 81 = .ok (.putfield 37, 3) := by decide +kernel
theorem dM_init_84 : decode c_M_init 84 = .ok (.aload_n 0, 1) := by decide +kernel
theorem dM_init_85 : decode c_M_init 85 = .ok (.new 41, 3) := by decide +kernel
theorem dM_init_88 : decode c_M_init 88 = .ok (.dup, 1) := by decide +kernel
theorem dM_init_89 : decode c_M_init 89 = .ok (.aload_n 0, 1) := by decide +kernel
theorem dM_init_90 : decode c_M_init 90 = .ok (.getfield 37, 3) := by decide +kernel
theorem dM_init_93 : decode c_M_init 93 = .ok (.invokespecial 43, 3) := by decide +kernel
theorem dM_init_96 : decode c_M_init 96 = .ok (.putfield 46, 3) := by decide +kernel
theorem dM_init_99 : decode c_M_init 99 = .ok (.aload_n 0, 1) := by decide +kernel
theorem dM_init_100 : decode c_M_init 100 = .ok (.new 50, 3) := by decide +kernel
theorem dM_init_103 : decode c_M_init 103 = .ok (.dup, 1) := by decide +kernel
theorem dM_init_104 : decode c_M_init 104 = .ok (.aload_n 0, 1) := by decide +kernel
theorem dM_init_105 : decode c_M_init 105 = .ok (.getfield 37, 3) := by decide +kernel
theorem dM_init_108 : decode c_M_init 108 = .ok (.invokespecial 52, 3) := by decide +kernel
theorem dM_init_111 : decode c_M_init 111 = .ok (.putfield 53, 3) := by decide +kernel
theorem dM_init_114 : decode c_M_init 114 = .ok (.return_, 1) := by decide +kernel
set_option maxHeartbeats 4000000 in
set_option maxRecDepth 100000 in
theorem t_MR_init_21 (l : Launch) (g : Gd) (sz : Nat) (T0 : Ty) (pl : va_W) (hO : okx g T0 [] pl) (hU : uni T0) (h0 : Nat)  : Met l y_MR_init w_MR_init ({ frames := 1, cells := 2, slots := 384, locals := 40 } : Room) (va_Pc [.ref h0, .int (nI 3329), .int (nI 17), .int (nI 128)] (pr (en g) g.1 vcl sz ([(h0, .inr (10, [.int 0, .int 0, .null, .null, .long 0]))] ++ pl))) (va_Qv (fun (u : (Ty) × va_W) => (ext T0 u.1 ∧ uni u.1 ∧ u.1 h0 = some (21, 0) ∧ pass T0 u.1 []) ∧ okx g u.1 [] u.2) (po g.1 vcl (va_A ([(h0, .inr (10, [.int 0, .int 0, .null, .null, .long 0]))] ++ pl) sz) (fun (u : (Ty) × va_W) => [] ++ u.2)) (va_A ([(h0, .inr (10, [.int 0, .int 0, .null, .null, .long 0]))] ++ pl) sz)) 2 384 (va_A ([(h0, .inr (10, [.int 0, .int 0, .null, .null, .long 0]))] ++ pl) sz) := by
  refine mc_entry (cc := c_MR_init) (maxL := 7) (ret := none) (by decide) rfl (Nat.le_of_ble_eq_true rfl) ?_
  intro p e s m args below meth c ls F hr hlk hnm hsz hP hD hE hA hl
  obtain ⟨hx, hb, hml, hown, hts⟩ := id F
  have hK := hE.1
  generalize va_A ([(h0, .inr (10, [.int 0, .int 0, .null, .null, .long 0]))] ++ pl) sz = A at hD hE hA ⊢
  obtain ⟨T, hXT, hPS, hO, hU⟩ : ∃ T, ext T0 T ∧ pass T0 T [] ∧ okx g T [] pl ∧ uni T := ⟨T0, ext_rf, pass_rf, hO, hU⟩
  have hS : va_S A s.heap s.heap [] := va_S.rf
  have hl : lv_has ls 7 [(0, .ref h0), (1, .int (nI 3329)), (2, .int (nI 17)), (3, .int (nI 128))] := hl
  refine lv_aload_n hx hb dMR_init_0 rfl (lv_at hl 0 rfl) ?_
  refine W.objInit hx hb hown (hts _ (wg_t kw_1361)) (hts _ (wg_t kw_41)) (hts _ (wg_t kobj)) rfl (by rw [hml]; exact hl.1) rfl dMR_init_1 (Nat.le_of_ble_eq_true rfl) (Nat.le_of_ble_eq_true rfl) ?_
  refine W.eq (g2 := F0 m 4 ls []) rfl ?_
  refine lv_aload_n hx hb dMR_init_4 rfl (lv_at hl 0 rfl) ?_
  refine lv_lconst (v := 1) hx hb dMR_init_5 (by decide) ?_
  refine va_put (D := g.1) (ci := 10) (v := .long 1) (ty := .long) (C := "LatticeKeysModel$Ring") (T := T_MR) (N := 5) hx hb hts (wg_ft i_MR) ty_MR k_MR n_MR hown hK hP hD hS 0 rfl rfl 4 (by decide) (hts _ (wg_t kw_1366)) (fun _ h9 => h9) rfl (by decide +kernel) rfl rfl (Nat.le_of_ble_eq_true rfl) dMR_init_6 (fun H locs hP hD hS => ?_)
  have hP : va_P g.1 vcl ([(h0, .inr (10, [.int 0, .int 0, .null, .null, .long 1]))] ++ pl) _ := hP
  have hD : va_D _ ([(h0, .inr (10, [.int 0, .int 0, .null, .null, .long 1]))] ++ pl) := hD
  refine lv_aload_n hx hb dMR_init_9 rfl (lv_at hl 0 rfl) ?_
  refine lv_iload_n hx hb dMR_init_10 rfl (lv_at hl 1 rfl) ?_
  refine va_putF (D := g.1) (ci := 10) (v := .int (nI 3329)) (ty := .int) (C := "LatticeKeysModel$Ring") (T := T_MR) (N := 5) hx hb hts (wg_ft i_MR) ty_MR k_MR n_MR hown hK hP hD hS 0 rfl rfl 0 (by decide) (hts _ (wg_t kw_1362)) (fun _ h9 => h9) rfl hnm rfl (by decide +kernel) rfl rfl (Nat.le_of_ble_eq_true rfl) dMR_init_11 (fun H locs hP hD hS => ?_)
  have hP : va_P g.1 vcl ([(h0, .inr (10, [.int (nI 3329), .int 0, .null, .null, .long 1]))] ++ pl) _ := hP
  have hD : va_D _ ([(h0, .inr (10, [.int (nI 3329), .int 0, .null, .null, .long 1]))] ++ pl) := hD
  refine lv_aload_n hx hb dMR_init_14 rfl (lv_at hl 0 rfl) ?_
  refine lv_iload_n hx hb dMR_init_15 rfl (lv_at hl 3 rfl) ?_
  refine va_putF (D := g.1) (ci := 10) (v := .int (nI 128)) (ty := .int) (C := "LatticeKeysModel$Ring") (T := T_MR) (N := 5) hx hb hts (wg_ft i_MR) ty_MR k_MR n_MR hown hK hP hD hS 0 rfl rfl 1 (by decide) (hts _ (wg_t kw_1363)) (fun _ h9 => h9) rfl hnm rfl (by decide +kernel) rfl rfl (Nat.le_of_ble_eq_true rfl) dMR_init_16 (fun H locs hP hD hS => ?_)
  have hP : va_P g.1 vcl ([(h0, .inr (10, [.int (nI 3329), .int (nI 128), .null, .null, .long 1]))] ++ pl) _ := hP
  have hD : va_D _ ([(h0, .inr (10, [.int (nI 3329), .int (nI 128), .null, .null, .long 1]))] ++ pl) := hD
  refine lv_aload_n hx hb dMR_init_19 rfl (lv_at hl 0 rfl) ?_
  refine lv_iconst (v := nI 2) hx hb dMR_init_20 (by decide) ?_
  refine lv_iload_n hx hb dMR_init_21 rfl (lv_at hl 3 rfl) ?_
  refine mi_imul hx hb dMR_init_22 ?_
  refine mi_as (show nI (2 * 128) = nI 256 from rfl) ?_
  refine ma_newa (ws := [(h0, .inr (10, [.int (nI 3329), .int (nI 128), .null, .null, .long 1]))] ++ pl) (atype := .long) hx hb (hts _ (wg_t kw_73)) rfl hK hP hD hS hA 2 rfl (N' := 256) (a0 := (256, .inr (.inl (fun _ => 0)))) (fun _ => rfl) (nI_pos (by omega)) (nI_clamp (by omega)) (by show (256) * 8 ≤ 536870912; omega) (Nat.le_of_ble_eq_true rfl) (Nat.le_of_ble_eq_true rfl) dMR_init_23 (fun q21 H hP hD hS => ?_)
  refine W.widen (k := 1) (n := 256) (by omega) (by omega) ?_
  obtain ⟨T, pl, hxt21, hU, kr21, hO, hP, hD, hnk21⟩ := absorb (X := [(h0, .inr (10, [.int (nI 3329), .int (nI 128), .null, .null, .long 1]))]) (2, 256) hP hD hO hU (Or.inl rfl) (fun _ _ _ => ⟨_, rfl⟩)
  have hXT := ext_tr hXT hxt21
  have hP : va_P g.1 vcl ([(h0, .inr (10, [.int (nI 3329), .int (nI 128), .null, .null, .long 1]))] ++ pl) _ := hP
  have hD : va_D _ ([(h0, .inr (10, [.int (nI 3329), .int (nI 128), .null, .null, .long 1]))] ++ pl) := hD
  have hPS := pass_one hPS hnk21 (Or.inl rfl)
  refine va_putF (D := g.1) (ci := 10) (v := .ref q21) (ty := .array .long) (C := "LatticeKeysModel$Ring") (T := T_MR) (N := 5) hx hb hts (wg_ft i_MR) ty_MR k_MR n_MR hown hK hP hD hS 0 rfl rfl 2 (by decide) (hts _ (wg_t kw_1364)) (fun _ h9 => h9) rfl hnm rfl (by decide +kernel) rfl rfl (Nat.le_of_ble_eq_true rfl) dMR_init_25 (fun H locs hP hD hS => ?_)
  have hP : va_P g.1 vcl ([(h0, .inr (10, [.int (nI 3329), .int (nI 128), .ref q21, .null, .long 1]))] ++ pl) _ := hP
  have hD : va_D _ ([(h0, .inr (10, [.int (nI 3329), .int (nI 128), .ref q21, .null, .long 1]))] ++ pl) := hD
  refine lv_aload_n hx hb dMR_init_28 rfl (lv_at hl 0 rfl) ?_
  refine lv_iload_n hx hb dMR_init_29 rfl (lv_at hl 3 rfl) ?_
  refine ma_newa (ws := [(h0, .inr (10, [.int (nI 3329), .int (nI 128), .ref q21, .null, .long 1]))] ++ pl) (atype := .int) hx hb (hts _ (wg_t kw_104)) rfl hK hP hD hS hA 0 rfl (N' := 128) (a0 := (128, .inl (fun _ => 0))) (fun _ => rfl) (nI_pos (by omega)) (nI_clamp (by omega)) (by show (128) * 4 ≤ 536870912; omega) (Nat.le_of_ble_eq_true rfl) (Nat.le_of_ble_eq_true rfl) dMR_init_30 (fun q22 H hP hD hS => ?_)
  refine W.widen (k := 2) (n := 384) (by omega) (by omega) ?_
  obtain ⟨T, pl, hxt22, hU, kr22, hO, hP, hD, hnk22⟩ := absorb (X := [(h0, .inr (10, [.int (nI 3329), .int (nI 128), .ref q21, .null, .long 1]))]) (9, 128) hP hD hO hU (Or.inl rfl) (fun _ _ _ => ⟨_, rfl, fun j hj => ⟨0, by omega, rfl⟩⟩)
  have kr21 := hxt22 _ _ kr21
  have hXT := ext_tr hXT hxt22
  have hP : va_P g.1 vcl ([(h0, .inr (10, [.int (nI 3329), .int (nI 128), .ref q21, .null, .long 1]))] ++ pl) _ := hP
  have hD : va_D _ ([(h0, .inr (10, [.int (nI 3329), .int (nI 128), .ref q21, .null, .long 1]))] ++ pl) := hD
  have hPS := pass_one hPS hnk22 (Or.inl rfl)
  refine va_putF (D := g.1) (ci := 10) (v := .ref q22) (ty := .array .int) (C := "LatticeKeysModel$Ring") (T := T_MR) (N := 5) hx hb hts (wg_ft i_MR) ty_MR k_MR n_MR hown hK hP hD hS 0 rfl rfl 3 (by decide) (hts _ (wg_t kw_1365)) (fun _ h9 => h9) rfl hnm rfl (by decide +kernel) rfl rfl (Nat.le_of_ble_eq_true rfl) dMR_init_32 (fun H locs hP hD hS => ?_)
  have hP : va_P g.1 vcl ([(h0, .inr (10, [.int (nI 3329), .int (nI 128), .ref q21, .ref q22, .long 1]))] ++ pl) _ := hP
  have hD : va_D _ ([(h0, .inr (10, [.int (nI 3329), .int (nI 128), .ref q21, .ref q22, .long 1]))] ++ pl) := hD
  refine lv_aload_n hx hb dMR_init_35 rfl (lv_at hl 0 rfl) ?_
  refine va_get (D := g.1) (ci := 10) (C := "LatticeKeysModel$Ring") (T := T_MR) (N := 5) hx hb hts (wg_ft i_MR) hown hK hP 0 rfl rfl 2 (by decide) (hts _ (wg_t kw_1364)) (fun _ h9 => h9) rfl dMR_init_36 ?_
  refine lv_iconst (v := nI 0) hx hb dMR_init_39 (by decide) ?_
  refine lv_lconst (v := 1) hx hb dMR_init_40 (by decide) ?_
  refine ty_last hx hb hK hO kr21 (nxg clo_nil kr21 rfl) hP hD hS (vp_in_nI (by omega) (by decide)) dMR_init_41 (fun pl H locs hO hP hD hS => ?_)
  refine lv_iconst (v := nI 1) hx hb dMR_init_42 (by decide) ?_
  refine lv_istore (lv' := [(4, .int (nI 1)), (0, .ref h0), (1, .int (nI 3329)), (2, .int (nI 17)), (3, .int (nI 128))]) hx hb dMR_init_43 hl (by decide) rfl (fun ls hl => ?_)
  have lp21 : ∀ (n21 : Nat) (i21 : Nat) (pl : va_W) (ls : Array Slot) (H : Heap) (locs : List Loc), n21 + i21 = 256 → (1 ≤ i21) → lv_has ls 7 [(4, .int (nI i21)), (0, .ref h0), (1, .int (nI 3329)), (2, .int (nI 17)), (3, .int (nI 128))] → okx g T [] pl → va_P g.1 vcl ([(h0, .inr (10, [.int (nI 3329), .int (nI 128), .ref q21, .ref q22, .long 1]))] ++ pl) H → va_D A ([(h0, .inr (10, [.int (nI 3329), .int (nI 128), .ref q21, .ref q22, .long 1]))] ++ pl) → va_S A s.heap H locs → W p l e ({ frames := 1, cells := 2, slots := 384, locals := 40 } : Room) s m args below meth c H locs 2 384 (MQ below (va_Qv (fun (u : (Ty) × va_W) => (ext T0 u.1 ∧ uni u.1 ∧ u.1 h0 = some (21, 0) ∧ pass T0 u.1 []) ∧ okx g u.1 [] u.2) (po g.1 vcl A (fun (u : (Ty) × va_W) => [] ++ u.2)) A) args s 2 384 A) (F0 m 45 ls []) := by
    intro n21
    induction n21 with
    | zero =>
      intro i21 pl ls H locs hm21 hi21 hl hO hP hD hS
      refine lv_iload hx hb dMR_init_45 (lv_at hl 0 rfl) ?_
      refine lv_iconst (v := nI 2) hx hb dMR_init_47 (by decide) ?_
      refine lv_iload_n hx hb dMR_init_48 rfl (lv_at hl 4 rfl) ?_
      refine mi_imul hx hb dMR_init_49 ?_
      refine mi_as (show nI (2 * 128) = nI 256 from rfl) ?_
      refine mi_ge (tgt := 81) hx hb dMR_init_50 (by decide) (by omega) (by omega) (fun h21 => ?_) (fun h21 => absurd h21 (by omega))
      refine lv_iconst (v := nI 1) hx hb dMR_init_81 (by decide) ?_
      refine lv_istore (lv' := [(4, .int (nI 1)), (0, .ref h0), (1, .int (nI 3329)), (2, .int (nI 17)), (3, .int (nI 128))]) hx hb dMR_init_82 hl (by decide) rfl (fun ls hl => ?_)
      refine lv_iload hx hb dMR_init_84 (lv_at hl 0 rfl) ?_
      refine lv_iload_n hx hb dMR_init_86 rfl (lv_at hl 4 rfl) ?_
      refine mi_ge (tgt := 117) hx hb dMR_init_87 (by decide) (by omega) (by omega) (fun h22 => absurd h22 (by omega)) (fun h22 => ?_)
      refine lv_aload_n hx hb dMR_init_90 rfl (lv_at hl 1 rfl) ?_
      refine lv_aload_n hx hb dMR_init_91 rfl (lv_at hl 1 rfl) ?_
      refine va_get (D := g.1) (ci := 10) (C := "LatticeKeysModel$Ring") (T := T_MR) (N := 5) hx hb hts (wg_ft i_MR) hown hK hP 0 rfl rfl 4 (by decide) (hts _ (wg_t kw_1366)) (fun _ h9 => h9) rfl dMR_init_92 ?_
      refine lv_iload_n hx hb dMR_init_95 rfl (lv_at hl 2 rfl) ?_
      refine lv_iconst (v := nI 1) hx hb dMR_init_96 (by decide) ?_
      refine mi_iadd hx hb dMR_init_97 ?_
      refine mi_as (show nI (3329 + 1) = nI 3330 from rfl) ?_
      refine lv_iconst (v := nI 2) hx hb dMR_init_98 (by decide) ?_
      refine mi_idiv hx hb dMR_init_99 (by omega) (by omega) (by omega) ?_
      refine mi_as (show nI (3330 / 2) = nI 1665 from rfl) ?_
      refine lv_i2l (v := 1665) hx hb dMR_init_100 (by decide) ?_
      refine lv_lmul hx hb dMR_init_101 ?_
      refine ml_any (fun y21 => ?_)
      refine lv_iload_n hx hb dMR_init_102 rfl (lv_at hl 2 rfl) ?_
      refine lv_i2l (v := 3329) hx hb dMR_init_103 (by decide) ?_
      refine lv_lrem hx hb dMR_init_104 (by decide) ?_
      refine ml_any (fun y22 => ?_)
      refine va_put (D := g.1) (ci := 10) (v := .long y22) (ty := .long) (C := "LatticeKeysModel$Ring") (T := T_MR) (N := 5) hx hb hts (wg_ft i_MR) ty_MR k_MR n_MR hown hK hP hD hS 0 rfl rfl 4 (by decide) (hts _ (wg_t kw_1366)) (fun _ h9 => h9) rfl (by decide +kernel) rfl rfl (Nat.le_of_ble_eq_true rfl) dMR_init_105 (fun H locs hP hD hS => ?_)
      have hP : va_P g.1 vcl ([(h0, .inr (10, [.int (nI 3329), .int (nI 128), .ref q21, .ref q22, .long y22]))] ++ pl) _ := hP
      have hD : va_D _ ([(h0, .inr (10, [.int (nI 3329), .int (nI 128), .ref q21, .ref q22, .long y22]))] ++ pl) := hD
      refine lv_iload hx hb dMR_init_108 (lv_at hl 0 rfl) ?_
      refine lv_iconst (v := nI 2) hx hb dMR_init_110 (by decide) ?_
      refine mi_imul hx hb dMR_init_111 ?_
      refine mi_as (show nI (1 * 2) = nI 2 from rfl) ?_
      refine lv_istore (lv' := [(4, .int (nI 2)), (0, .ref h0), (1, .int (nI 3329)), (2, .int (nI 17)), (3, .int (nI 128))]) hx hb dMR_init_112 hl (by decide) rfl (fun ls hl => ?_)
      refine lv_goto (tgt := 84) hx hb dMR_init_114 (by decide) ?_
      refine lv_iload hx hb dMR_init_84 (lv_at hl 0 rfl) ?_
      refine lv_iload_n hx hb dMR_init_86 rfl (lv_at hl 4 rfl) ?_
      refine mi_ge (tgt := 117) hx hb dMR_init_87 (by decide) (by omega) (by omega) (fun h23 => absurd h23 (by omega)) (fun h23 => ?_)
      refine lv_aload_n hx hb dMR_init_90 rfl (lv_at hl 1 rfl) ?_
      refine lv_aload_n hx hb dMR_init_91 rfl (lv_at hl 1 rfl) ?_
      refine va_get (D := g.1) (ci := 10) (C := "LatticeKeysModel$Ring") (T := T_MR) (N := 5) hx hb hts (wg_ft i_MR) hown hK hP 0 rfl rfl 4 (by decide) (hts _ (wg_t kw_1366)) (fun _ h9 => h9) rfl dMR_init_92 ?_
      refine lv_iload_n hx hb dMR_init_95 rfl (lv_at hl 2 rfl) ?_
      refine lv_iconst (v := nI 1) hx hb dMR_init_96 (by decide) ?_
      refine mi_iadd hx hb dMR_init_97 ?_
      refine mi_as (show nI (3329 + 1) = nI 3330 from rfl) ?_
      refine lv_iconst (v := nI 2) hx hb dMR_init_98 (by decide) ?_
      refine mi_idiv hx hb dMR_init_99 (by omega) (by omega) (by omega) ?_
      refine mi_as (show nI (3330 / 2) = nI 1665 from rfl) ?_
      refine lv_i2l (v := 1665) hx hb dMR_init_100 (by decide) ?_
      refine lv_lmul hx hb dMR_init_101 ?_
      refine ml_any (fun y23 => ?_)
      refine lv_iload_n hx hb dMR_init_102 rfl (lv_at hl 2 rfl) ?_
      refine lv_i2l (v := 3329) hx hb dMR_init_103 (by decide) ?_
      refine lv_lrem hx hb dMR_init_104 (by decide) ?_
      refine ml_any (fun y24 => ?_)
      refine va_put (D := g.1) (ci := 10) (v := .long y24) (ty := .long) (C := "LatticeKeysModel$Ring") (T := T_MR) (N := 5) hx hb hts (wg_ft i_MR) ty_MR k_MR n_MR hown hK hP hD hS 0 rfl rfl 4 (by decide) (hts _ (wg_t kw_1366)) (fun _ h9 => h9) rfl (by decide +kernel) rfl rfl (Nat.le_of_ble_eq_true rfl) dMR_init_105 (fun H locs hP hD hS => ?_)
      have hP : va_P g.1 vcl ([(h0, .inr (10, [.int (nI 3329), .int (nI 128), .ref q21, .ref q22, .long y24]))] ++ pl) _ := hP
      have hD : va_D _ ([(h0, .inr (10, [.int (nI 3329), .int (nI 128), .ref q21, .ref q22, .long y24]))] ++ pl) := hD
      refine lv_iload hx hb dMR_init_108 (lv_at hl 0 rfl) ?_
      refine lv_iconst (v := nI 2) hx hb dMR_init_110 (by decide) ?_
      refine mi_imul hx hb dMR_init_111 ?_
      refine mi_as (show nI (2 * 2) = nI 4 from rfl) ?_
      refine lv_istore (lv' := [(4, .int (nI 4)), (0, .ref h0), (1, .int (nI 3329)), (2, .int (nI 17)), (3, .int (nI 128))]) hx hb dMR_init_112 hl (by decide) rfl (fun ls hl => ?_)
      refine lv_goto (tgt := 84) hx hb dMR_init_114 (by decide) ?_
      refine lv_iload hx hb dMR_init_84 (lv_at hl 0 rfl) ?_
      refine lv_iload_n hx hb dMR_init_86 rfl (lv_at hl 4 rfl) ?_
      refine mi_ge (tgt := 117) hx hb dMR_init_87 (by decide) (by omega) (by omega) (fun h24 => absurd h24 (by omega)) (fun h24 => ?_)
      refine lv_aload_n hx hb dMR_init_90 rfl (lv_at hl 1 rfl) ?_
      refine lv_aload_n hx hb dMR_init_91 rfl (lv_at hl 1 rfl) ?_
      refine va_get (D := g.1) (ci := 10) (C := "LatticeKeysModel$Ring") (T := T_MR) (N := 5) hx hb hts (wg_ft i_MR) hown hK hP 0 rfl rfl 4 (by decide) (hts _ (wg_t kw_1366)) (fun _ h9 => h9) rfl dMR_init_92 ?_
      refine lv_iload_n hx hb dMR_init_95 rfl (lv_at hl 2 rfl) ?_
      refine lv_iconst (v := nI 1) hx hb dMR_init_96 (by decide) ?_
      refine mi_iadd hx hb dMR_init_97 ?_
      refine mi_as (show nI (3329 + 1) = nI 3330 from rfl) ?_
      refine lv_iconst (v := nI 2) hx hb dMR_init_98 (by decide) ?_
      refine mi_idiv hx hb dMR_init_99 (by omega) (by omega) (by omega) ?_
      refine mi_as (show nI (3330 / 2) = nI 1665 from rfl) ?_
      refine lv_i2l (v := 1665) hx hb dMR_init_100 (by decide) ?_
      refine lv_lmul hx hb dMR_init_101 ?_
      refine ml_any (fun y25 => ?_)
      refine lv_iload_n hx hb dMR_init_102 rfl (lv_at hl 2 rfl) ?_
      refine lv_i2l (v := 3329) hx hb dMR_init_103 (by decide) ?_
      refine lv_lrem hx hb dMR_init_104 (by decide) ?_
      refine ml_any (fun y26 => ?_)
      refine va_put (D := g.1) (ci := 10) (v := .long y26) (ty := .long) (C := "LatticeKeysModel$Ring") (T := T_MR) (N := 5) hx hb hts (wg_ft i_MR) ty_MR k_MR n_MR hown hK hP hD hS 0 rfl rfl 4 (by decide) (hts _ (wg_t kw_1366)) (fun _ h9 => h9) rfl (by decide +kernel) rfl rfl (Nat.le_of_ble_eq_true rfl) dMR_init_105 (fun H locs hP hD hS => ?_)
      have hP : va_P g.1 vcl ([(h0, .inr (10, [.int (nI 3329), .int (nI 128), .ref q21, .ref q22, .long y26]))] ++ pl) _ := hP
      have hD : va_D _ ([(h0, .inr (10, [.int (nI 3329), .int (nI 128), .ref q21, .ref q22, .long y26]))] ++ pl) := hD
      refine lv_iload hx hb dMR_init_108 (lv_at hl 0 rfl) ?_
      refine lv_iconst (v := nI 2) hx hb dMR_init_110 (by decide) ?_
      refine mi_imul hx hb dMR_init_111 ?_
      refine mi_as (show nI (4 * 2) = nI 8 from rfl) ?_
      refine lv_istore (lv' := [(4, .int (nI 8)), (0, .ref h0), (1, .int (nI 3329)), (2, .int (nI 17)), (3, .int (nI 128))]) hx hb dMR_init_112 hl (by decide) rfl (fun ls hl => ?_)
      refine lv_goto (tgt := 84) hx hb dMR_init_114 (by decide) ?_
      refine lv_iload hx hb dMR_init_84 (lv_at hl 0 rfl) ?_
      refine lv_iload_n hx hb dMR_init_86 rfl (lv_at hl 4 rfl) ?_
      refine mi_ge (tgt := 117) hx hb dMR_init_87 (by decide) (by omega) (by omega) (fun h25 => absurd h25 (by omega)) (fun h25 => ?_)
      refine lv_aload_n hx hb dMR_init_90 rfl (lv_at hl 1 rfl) ?_
      refine lv_aload_n hx hb dMR_init_91 rfl (lv_at hl 1 rfl) ?_
      refine va_get (D := g.1) (ci := 10) (C := "LatticeKeysModel$Ring") (T := T_MR) (N := 5) hx hb hts (wg_ft i_MR) hown hK hP 0 rfl rfl 4 (by decide) (hts _ (wg_t kw_1366)) (fun _ h9 => h9) rfl dMR_init_92 ?_
      refine lv_iload_n hx hb dMR_init_95 rfl (lv_at hl 2 rfl) ?_
      refine lv_iconst (v := nI 1) hx hb dMR_init_96 (by decide) ?_
      refine mi_iadd hx hb dMR_init_97 ?_
      refine mi_as (show nI (3329 + 1) = nI 3330 from rfl) ?_
      refine lv_iconst (v := nI 2) hx hb dMR_init_98 (by decide) ?_
      refine mi_idiv hx hb dMR_init_99 (by omega) (by omega) (by omega) ?_
      refine mi_as (show nI (3330 / 2) = nI 1665 from rfl) ?_
      refine lv_i2l (v := 1665) hx hb dMR_init_100 (by decide) ?_
      refine lv_lmul hx hb dMR_init_101 ?_
      refine ml_any (fun y27 => ?_)
      refine lv_iload_n hx hb dMR_init_102 rfl (lv_at hl 2 rfl) ?_
      refine lv_i2l (v := 3329) hx hb dMR_init_103 (by decide) ?_
      refine lv_lrem hx hb dMR_init_104 (by decide) ?_
      refine ml_any (fun y28 => ?_)
      refine va_put (D := g.1) (ci := 10) (v := .long y28) (ty := .long) (C := "LatticeKeysModel$Ring") (T := T_MR) (N := 5) hx hb hts (wg_ft i_MR) ty_MR k_MR n_MR hown hK hP hD hS 0 rfl rfl 4 (by decide) (hts _ (wg_t kw_1366)) (fun _ h9 => h9) rfl (by decide +kernel) rfl rfl (Nat.le_of_ble_eq_true rfl) dMR_init_105 (fun H locs hP hD hS => ?_)
      have hP : va_P g.1 vcl ([(h0, .inr (10, [.int (nI 3329), .int (nI 128), .ref q21, .ref q22, .long y28]))] ++ pl) _ := hP
      have hD : va_D _ ([(h0, .inr (10, [.int (nI 3329), .int (nI 128), .ref q21, .ref q22, .long y28]))] ++ pl) := hD
      refine lv_iload hx hb dMR_init_108 (lv_at hl 0 rfl) ?_
      refine lv_iconst (v := nI 2) hx hb dMR_init_110 (by decide) ?_
      refine mi_imul hx hb dMR_init_111 ?_
      refine mi_as (show nI (8 * 2) = nI 16 from rfl) ?_
      refine lv_istore (lv' := [(4, .int (nI 16)), (0, .ref h0), (1, .int (nI 3329)), (2, .int (nI 17)), (3, .int (nI 128))]) hx hb dMR_init_112 hl (by decide) rfl (fun ls hl => ?_)
      refine lv_goto (tgt := 84) hx hb dMR_init_114 (by decide) ?_
      refine lv_iload hx hb dMR_init_84 (lv_at hl 0 rfl) ?_
      refine lv_iload_n hx hb dMR_init_86 rfl (lv_at hl 4 rfl) ?_
      refine mi_ge (tgt := 117) hx hb dMR_init_87 (by decide) (by omega) (by omega) (fun h26 => absurd h26 (by omega)) (fun h26 => ?_)
      refine lv_aload_n hx hb dMR_init_90 rfl (lv_at hl 1 rfl) ?_
      refine lv_aload_n hx hb dMR_init_91 rfl (lv_at hl 1 rfl) ?_
      refine va_get (D := g.1) (ci := 10) (C := "LatticeKeysModel$Ring") (T := T_MR) (N := 5) hx hb hts (wg_ft i_MR) hown hK hP 0 rfl rfl 4 (by decide) (hts _ (wg_t kw_1366)) (fun _ h9 => h9) rfl dMR_init_92 ?_
      refine lv_iload_n hx hb dMR_init_95 rfl (lv_at hl 2 rfl) ?_
      refine lv_iconst (v := nI 1) hx hb dMR_init_96 (by decide) ?_
      refine mi_iadd hx hb dMR_init_97 ?_
      refine mi_as (show nI (3329 + 1) = nI 3330 from rfl) ?_
      refine lv_iconst (v := nI 2) hx hb dMR_init_98 (by decide) ?_
      refine mi_idiv hx hb dMR_init_99 (by omega) (by omega) (by omega) ?_
      refine mi_as (show nI (3330 / 2) = nI 1665 from rfl) ?_
      refine lv_i2l (v := 1665) hx hb dMR_init_100 (by decide) ?_
      refine lv_lmul hx hb dMR_init_101 ?_
      refine ml_any (fun y29 => ?_)
      refine lv_iload_n hx hb dMR_init_102 rfl (lv_at hl 2 rfl) ?_
      refine lv_i2l (v := 3329) hx hb dMR_init_103 (by decide) ?_
      refine lv_lrem hx hb dMR_init_104 (by decide) ?_
      refine ml_any (fun y30 => ?_)
      refine va_put (D := g.1) (ci := 10) (v := .long y30) (ty := .long) (C := "LatticeKeysModel$Ring") (T := T_MR) (N := 5) hx hb hts (wg_ft i_MR) ty_MR k_MR n_MR hown hK hP hD hS 0 rfl rfl 4 (by decide) (hts _ (wg_t kw_1366)) (fun _ h9 => h9) rfl (by decide +kernel) rfl rfl (Nat.le_of_ble_eq_true rfl) dMR_init_105 (fun H locs hP hD hS => ?_)
      have hP : va_P g.1 vcl ([(h0, .inr (10, [.int (nI 3329), .int (nI 128), .ref q21, .ref q22, .long y30]))] ++ pl) _ := hP
      have hD : va_D _ ([(h0, .inr (10, [.int (nI 3329), .int (nI 128), .ref q21, .ref q22, .long y30]))] ++ pl) := hD
      refine lv_iload hx hb dMR_init_108 (lv_at hl 0 rfl) ?_
      refine lv_iconst (v := nI 2) hx hb dMR_init_110 (by decide) ?_
      refine mi_imul hx hb dMR_init_111 ?_
      refine mi_as (show nI (16 * 2) = nI 32 from rfl) ?_
      refine lv_istore (lv' := [(4, .int (nI 32)), (0, .ref h0), (1, .int (nI 3329)), (2, .int (nI 17)), (3, .int (nI 128))]) hx hb dMR_init_112 hl (by decide) rfl (fun ls hl => ?_)
      refine lv_goto (tgt := 84) hx hb dMR_init_114 (by decide) ?_
      refine lv_iload hx hb dMR_init_84 (lv_at hl 0 rfl) ?_
      refine lv_iload_n hx hb dMR_init_86 rfl (lv_at hl 4 rfl) ?_
      refine mi_ge (tgt := 117) hx hb dMR_init_87 (by decide) (by omega) (by omega) (fun h27 => absurd h27 (by omega)) (fun h27 => ?_)
      refine lv_aload_n hx hb dMR_init_90 rfl (lv_at hl 1 rfl) ?_
      refine lv_aload_n hx hb dMR_init_91 rfl (lv_at hl 1 rfl) ?_
      refine va_get (D := g.1) (ci := 10) (C := "LatticeKeysModel$Ring") (T := T_MR) (N := 5) hx hb hts (wg_ft i_MR) hown hK hP 0 rfl rfl 4 (by decide) (hts _ (wg_t kw_1366)) (fun _ h9 => h9) rfl dMR_init_92 ?_
      refine lv_iload_n hx hb dMR_init_95 rfl (lv_at hl 2 rfl) ?_
      refine lv_iconst (v := nI 1) hx hb dMR_init_96 (by decide) ?_
      refine mi_iadd hx hb dMR_init_97 ?_
      refine mi_as (show nI (3329 + 1) = nI 3330 from rfl) ?_
      refine lv_iconst (v := nI 2) hx hb dMR_init_98 (by decide) ?_
      refine mi_idiv hx hb dMR_init_99 (by omega) (by omega) (by omega) ?_
      refine mi_as (show nI (3330 / 2) = nI 1665 from rfl) ?_
      refine lv_i2l (v := 1665) hx hb dMR_init_100 (by decide) ?_
      refine lv_lmul hx hb dMR_init_101 ?_
      refine ml_any (fun y31 => ?_)
      refine lv_iload_n hx hb dMR_init_102 rfl (lv_at hl 2 rfl) ?_
      refine lv_i2l (v := 3329) hx hb dMR_init_103 (by decide) ?_
      refine lv_lrem hx hb dMR_init_104 (by decide) ?_
      refine ml_any (fun y32 => ?_)
      refine va_put (D := g.1) (ci := 10) (v := .long y32) (ty := .long) (C := "LatticeKeysModel$Ring") (T := T_MR) (N := 5) hx hb hts (wg_ft i_MR) ty_MR k_MR n_MR hown hK hP hD hS 0 rfl rfl 4 (by decide) (hts _ (wg_t kw_1366)) (fun _ h9 => h9) rfl (by decide +kernel) rfl rfl (Nat.le_of_ble_eq_true rfl) dMR_init_105 (fun H locs hP hD hS => ?_)
      have hP : va_P g.1 vcl ([(h0, .inr (10, [.int (nI 3329), .int (nI 128), .ref q21, .ref q22, .long y32]))] ++ pl) _ := hP
      have hD : va_D _ ([(h0, .inr (10, [.int (nI 3329), .int (nI 128), .ref q21, .ref q22, .long y32]))] ++ pl) := hD
      refine lv_iload hx hb dMR_init_108 (lv_at hl 0 rfl) ?_
      refine lv_iconst (v := nI 2) hx hb dMR_init_110 (by decide) ?_
      refine mi_imul hx hb dMR_init_111 ?_
      refine mi_as (show nI (32 * 2) = nI 64 from rfl) ?_
      refine lv_istore (lv' := [(4, .int (nI 64)), (0, .ref h0), (1, .int (nI 3329)), (2, .int (nI 17)), (3, .int (nI 128))]) hx hb dMR_init_112 hl (by decide) rfl (fun ls hl => ?_)
      refine lv_goto (tgt := 84) hx hb dMR_init_114 (by decide) ?_
      refine lv_iload hx hb dMR_init_84 (lv_at hl 0 rfl) ?_
      refine lv_iload_n hx hb dMR_init_86 rfl (lv_at hl 4 rfl) ?_
      refine mi_ge (tgt := 117) hx hb dMR_init_87 (by decide) (by omega) (by omega) (fun h28 => absurd h28 (by omega)) (fun h28 => ?_)
      refine lv_aload_n hx hb dMR_init_90 rfl (lv_at hl 1 rfl) ?_
      refine lv_aload_n hx hb dMR_init_91 rfl (lv_at hl 1 rfl) ?_
      refine va_get (D := g.1) (ci := 10) (C := "LatticeKeysModel$Ring") (T := T_MR) (N := 5) hx hb hts (wg_ft i_MR) hown hK hP 0 rfl rfl 4 (by decide) (hts _ (wg_t kw_1366)) (fun _ h9 => h9) rfl dMR_init_92 ?_
      refine lv_iload_n hx hb dMR_init_95 rfl (lv_at hl 2 rfl) ?_
      refine lv_iconst (v := nI 1) hx hb dMR_init_96 (by decide) ?_
      refine mi_iadd hx hb dMR_init_97 ?_
      refine mi_as (show nI (3329 + 1) = nI 3330 from rfl) ?_
      refine lv_iconst (v := nI 2) hx hb dMR_init_98 (by decide) ?_
      refine mi_idiv hx hb dMR_init_99 (by omega) (by omega) (by omega) ?_
      refine mi_as (show nI (3330 / 2) = nI 1665 from rfl) ?_
      refine lv_i2l (v := 1665) hx hb dMR_init_100 (by decide) ?_
      refine lv_lmul hx hb dMR_init_101 ?_
      refine ml_any (fun y33 => ?_)
      refine lv_iload_n hx hb dMR_init_102 rfl (lv_at hl 2 rfl) ?_
      refine lv_i2l (v := 3329) hx hb dMR_init_103 (by decide) ?_
      refine lv_lrem hx hb dMR_init_104 (by decide) ?_
      refine ml_any (fun y34 => ?_)
      refine va_put (D := g.1) (ci := 10) (v := .long y34) (ty := .long) (C := "LatticeKeysModel$Ring") (T := T_MR) (N := 5) hx hb hts (wg_ft i_MR) ty_MR k_MR n_MR hown hK hP hD hS 0 rfl rfl 4 (by decide) (hts _ (wg_t kw_1366)) (fun _ h9 => h9) rfl (by decide +kernel) rfl rfl (Nat.le_of_ble_eq_true rfl) dMR_init_105 (fun H locs hP hD hS => ?_)
      have hP : va_P g.1 vcl ([(h0, .inr (10, [.int (nI 3329), .int (nI 128), .ref q21, .ref q22, .long y34]))] ++ pl) _ := hP
      have hD : va_D _ ([(h0, .inr (10, [.int (nI 3329), .int (nI 128), .ref q21, .ref q22, .long y34]))] ++ pl) := hD
      refine lv_iload hx hb dMR_init_108 (lv_at hl 0 rfl) ?_
      refine lv_iconst (v := nI 2) hx hb dMR_init_110 (by decide) ?_
      refine mi_imul hx hb dMR_init_111 ?_
      refine mi_as (show nI (64 * 2) = nI 128 from rfl) ?_
      refine lv_istore (lv' := [(4, .int (nI 128)), (0, .ref h0), (1, .int (nI 3329)), (2, .int (nI 17)), (3, .int (nI 128))]) hx hb dMR_init_112 hl (by decide) rfl (fun ls hl => ?_)
      refine lv_goto (tgt := 84) hx hb dMR_init_114 (by decide) ?_
      refine lv_iload hx hb dMR_init_84 (lv_at hl 0 rfl) ?_
      refine lv_iload_n hx hb dMR_init_86 rfl (lv_at hl 4 rfl) ?_
      refine mi_ge (tgt := 117) hx hb dMR_init_87 (by decide) (by omega) (by omega) (fun h29 => ?_) (fun h29 => absurd h29 (by omega))
      refine lv_iconst (v := nI 0) hx hb dMR_init_117 (by decide) ?_
      refine lv_istore (lv' := [(4, .int (nI 0)), (0, .ref h0), (1, .int (nI 3329)), (2, .int (nI 17)), (3, .int (nI 128))]) hx hb dMR_init_118 hl (by decide) rfl (fun ls hl => ?_)
      have lp22 : ∀ (n22 : Nat) (i22 : Nat) (pl : va_W) (ls : Array Slot) (H : Heap) (locs : List Loc), n22 + i22 = 128 → lv_has ls 7 [(4, .int (nI i22)), (0, .ref h0), (3, .int (nI 128))] → okx g T [] pl → va_P g.1 vcl ([(h0, .inr (10, [.int (nI 3329), .int (nI 128), .ref q21, .ref q22, .long y34]))] ++ pl) H → va_D A ([(h0, .inr (10, [.int (nI 3329), .int (nI 128), .ref q21, .ref q22, .long y34]))] ++ pl) → va_S A s.heap H locs → W p l e ({ frames := 1, cells := 2, slots := 384, locals := 40 } : Room) s m args below meth c H locs 2 384 (MQ below (va_Qv (fun (u : (Ty) × va_W) => (ext T0 u.1 ∧ uni u.1 ∧ u.1 h0 = some (21, 0) ∧ pass T0 u.1 []) ∧ okx g u.1 [] u.2) (po g.1 vcl A (fun (u : (Ty) × va_W) => [] ++ u.2)) A) args s 2 384 A) (F0 m 120 ls []) := by
        intro n22
        induction n22 with
        | zero =>
          intro i22 pl ls H locs hm22  hl hO hP hD hS
          refine lv_iload hx hb dMR_init_120 (lv_at hl 0 rfl) ?_
          refine lv_iload_n hx hb dMR_init_122 rfl (lv_at hl 2 rfl) ?_
          refine mi_ge (tgt := 180) hx hb dMR_init_123 (by decide) (by omega) (by omega) (fun h30 => ?_) (fun h30 => absurd h30 (by omega))
          obtain ⟨hP, hD⟩ := mv_last (X := []) (c := (h0, .inr (10, [.int (nI 3329), .int (nI 128), .ref q21, .ref q22, .long y34]))) hP hD
          obtain ⟨T, pl, hxt23, hU, kr23, hO, hP, hD, hnk23⟩ := absorb (X := []) (21, 0) hP hD hO hU (Or.inl rfl) (fun T9 h9 _ => ⟨_, rfl, rfl, rfl, ⟨_, rfl, h9 _ _ kr21⟩, ⟨_, rfl, h9 _ _ kr22⟩, ⟨_, rfl⟩, trivial⟩)
          have kr21 := hxt23 _ _ kr21
          have kr22 := hxt23 _ _ kr22
          have hXT := ext_tr hXT hxt23
          have hP : va_P g.1 vcl ([] ++ pl) _ := hP
          have hD : va_D _ ([] ++ pl) := hD
          have hPS := pass_one hPS hnk23 (Or.inl rfl)
          exact mp_vret hx hb hr hlk hP hD hS (T, pl) ⟨⟨hXT, hU, kr23, hPS⟩, hO⟩ [] rfl rfl rfl (by omega) (by omega) dMR_init_180
        | succ n22 ih22 =>
          intro i22 pl ls H locs hm22  hl hO hP hD hS
          refine lv_iload hx hb dMR_init_120 (lv_at hl 0 rfl) ?_
          refine lv_iload_n hx hb dMR_init_122 rfl (lv_at hl 2 rfl) ?_
          refine mi_ge (tgt := 180) hx hb dMR_init_123 (by decide) (by omega) (by omega) (fun h31 => absurd h31 (by omega)) (fun h31 => ?_)
          refine lv_iconst (v := nI 0) hx hb dMR_init_126 (by decide) ?_
          refine lv_istore (lv' := [(5, .int (nI 0)), (4, .int (nI i22)), (0, .ref h0), (3, .int (nI 128))]) hx hb dMR_init_127 hl (by decide) rfl (fun ls hl => ?_)
          refine lv_iconst (v := nI 1) hx hb dMR_init_129 (by decide) ?_
          refine lv_istore (lv' := [(6, .int (nI 1)), (5, .int (nI 0)), (4, .int (nI i22)), (0, .ref h0), (3, .int (nI 128))]) hx hb dMR_init_130 hl (by decide) rfl (fun ls hl => ?_)
          refine lv_iload hx hb dMR_init_132 (lv_at hl 0 rfl) ?_
          refine lv_iload_n hx hb dMR_init_134 rfl (lv_at hl 4 rfl) ?_
          refine mi_ge (tgt := 161) hx hb dMR_init_135 (by decide) (by omega) (by omega) (fun h32 => absurd h32 (by omega)) (fun h32 => ?_)
          refine lv_iconst (v := nI 2) hx hb dMR_init_138 (by decide) ?_
          refine lv_iload hx hb dMR_init_139 (lv_at hl 1 rfl) ?_
          refine mi_imul hx hb dMR_init_141 ?_
          refine mi_as (show nI (2 * 0) = nI 0 from rfl) ?_
          refine lv_iload hx hb dMR_init_142 (lv_at hl 2 rfl) ?_
          refine lv_iload hx hb dMR_init_144 (lv_at hl 0 rfl) ?_
          refine mi_idiv hx hb dMR_init_146 (by omega) (by omega) (by omega) ?_
          refine lv_iconst (v := nI 1) hx hb dMR_init_147 (by decide) ?_
          refine mi_iand hx hb 1 dMR_init_148 (by decide) (fun z21 hz21 => ?_)
          have hz21 : z21 < 2 := hz21
          refine mi_iadd hx hb dMR_init_149 ?_
          refine lv_istore (lv' := [(5, .int (nI (0 + z21))), (6, .int (nI 1)), (4, .int (nI i22)), (0, .ref h0), (3, .int (nI 128))]) hx hb dMR_init_150 hl (by decide) rfl (fun ls hl => ?_)
          refine lv_iload hx hb dMR_init_152 (lv_at hl 1 rfl) ?_
          refine lv_iconst (v := nI 2) hx hb dMR_init_154 (by decide) ?_
          refine mi_imul hx hb dMR_init_155 ?_
          refine mi_as (show nI (1 * 2) = nI 2 from rfl) ?_
          refine lv_istore (lv' := [(6, .int (nI 2)), (5, .int (nI (0 + z21))), (4, .int (nI i22)), (0, .ref h0), (3, .int (nI 128))]) hx hb dMR_init_156 hl (by decide) rfl (fun ls hl => ?_)
          refine lv_goto (tgt := 132) hx hb dMR_init_158 (by decide) ?_
          refine lv_iload hx hb dMR_init_132 (lv_at hl 0 rfl) ?_
          refine lv_iload_n hx hb dMR_init_134 rfl (lv_at hl 4 rfl) ?_
          refine mi_ge (tgt := 161) hx hb dMR_init_135 (by decide) (by omega) (by omega) (fun h33 => absurd h33 (by omega)) (fun h33 => ?_)
          refine lv_iconst (v := nI 2) hx hb dMR_init_138 (by decide) ?_
          refine lv_iload hx hb dMR_init_139 (lv_at hl 1 rfl) ?_
          refine mi_imul hx hb dMR_init_141 ?_
          refine lv_iload hx hb dMR_init_142 (lv_at hl 2 rfl) ?_
          refine lv_iload hx hb dMR_init_144 (lv_at hl 0 rfl) ?_
          refine mi_idiv hx hb dMR_init_146 (by omega) (by omega) (by omega) ?_
          refine lv_iconst (v := nI 1) hx hb dMR_init_147 (by decide) ?_
          refine mi_iand hx hb 1 dMR_init_148 (by decide) (fun z22 hz22 => ?_)
          have hz22 : z22 < 2 := hz22
          refine mi_iadd hx hb dMR_init_149 ?_
          refine lv_istore (lv' := [(5, .int (nI ((2 * (0 + z21)) + z22))), (6, .int (nI 2)), (4, .int (nI i22)), (0, .ref h0), (3, .int (nI 128))]) hx hb dMR_init_150 hl (by decide) rfl (fun ls hl => ?_)
          refine lv_iload hx hb dMR_init_152 (lv_at hl 1 rfl) ?_
          refine lv_iconst (v := nI 2) hx hb dMR_init_154 (by decide) ?_
          refine mi_imul hx hb dMR_init_155 ?_
          refine mi_as (show nI (2 * 2) = nI 4 from rfl) ?_
          refine lv_istore (lv' := [(6, .int (nI 4)), (5, .int (nI ((2 * (0 + z21)) + z22))), (4, .int (nI i22)), (0, .ref h0), (3, .int (nI 128))]) hx hb dMR_init_156 hl (by decide) rfl (fun ls hl => ?_)
          refine lv_goto (tgt := 132) hx hb dMR_init_158 (by decide) ?_
          refine lv_iload hx hb dMR_init_132 (lv_at hl 0 rfl) ?_
          refine lv_iload_n hx hb dMR_init_134 rfl (lv_at hl 4 rfl) ?_
          refine mi_ge (tgt := 161) hx hb dMR_init_135 (by decide) (by omega) (by omega) (fun h34 => absurd h34 (by omega)) (fun h34 => ?_)
          refine lv_iconst (v := nI 2) hx hb dMR_init_138 (by decide) ?_
          refine lv_iload hx hb dMR_init_139 (lv_at hl 1 rfl) ?_
          refine mi_imul hx hb dMR_init_141 ?_
          refine lv_iload hx hb dMR_init_142 (lv_at hl 2 rfl) ?_
          refine lv_iload hx hb dMR_init_144 (lv_at hl 0 rfl) ?_
          refine mi_idiv hx hb dMR_init_146 (by omega) (by omega) (by omega) ?_
          refine lv_iconst (v := nI 1) hx hb dMR_init_147 (by decide) ?_
          refine mi_iand hx hb 1 dMR_init_148 (by decide) (fun z23 hz23 => ?_)
          have hz23 : z23 < 2 := hz23
          refine mi_iadd hx hb dMR_init_149 ?_
          refine lv_istore (lv' := [(5, .int (nI ((2 * ((2 * (0 + z21)) + z22)) + z23))), (6, .int (nI 4)), (4, .int (nI i22)), (0, .ref h0), (3, .int (nI 128))]) hx hb dMR_init_150 hl (by decide) rfl (fun ls hl => ?_)
          refine lv_iload hx hb dMR_init_152 (lv_at hl 1 rfl) ?_
          refine lv_iconst (v := nI 2) hx hb dMR_init_154 (by decide) ?_
          refine mi_imul hx hb dMR_init_155 ?_
          refine mi_as (show nI (4 * 2) = nI 8 from rfl) ?_
          refine lv_istore (lv' := [(6, .int (nI 8)), (5, .int (nI ((2 * ((2 * (0 + z21)) + z22)) + z23))), (4, .int (nI i22)), (0, .ref h0), (3, .int (nI 128))]) hx hb dMR_init_156 hl (by decide) rfl (fun ls hl => ?_)
          refine lv_goto (tgt := 132) hx hb dMR_init_158 (by decide) ?_
          refine lv_iload hx hb dMR_init_132 (lv_at hl 0 rfl) ?_
          refine lv_iload_n hx hb dMR_init_134 rfl (lv_at hl 4 rfl) ?_
          refine mi_ge (tgt := 161) hx hb dMR_init_135 (by decide) (by omega) (by omega) (fun h35 => absurd h35 (by omega)) (fun h35 => ?_)
          refine lv_iconst (v := nI 2) hx hb dMR_init_138 (by decide) ?_
          refine lv_iload hx hb dMR_init_139 (lv_at hl 1 rfl) ?_
          refine mi_imul hx hb dMR_init_141 ?_
          refine lv_iload hx hb dMR_init_142 (lv_at hl 2 rfl) ?_
          refine lv_iload hx hb dMR_init_144 (lv_at hl 0 rfl) ?_
          refine mi_idiv hx hb dMR_init_146 (by omega) (by omega) (by omega) ?_
          refine lv_iconst (v := nI 1) hx hb dMR_init_147 (by decide) ?_
          refine mi_iand hx hb 1 dMR_init_148 (by decide) (fun z24 hz24 => ?_)
          have hz24 : z24 < 2 := hz24
          refine mi_iadd hx hb dMR_init_149 ?_
          refine lv_istore (lv' := [(5, .int (nI ((2 * ((2 * ((2 * (0 + z21)) + z22)) + z23)) + z24))), (6, .int (nI 8)), (4, .int (nI i22)), (0, .ref h0), (3, .int (nI 128))]) hx hb dMR_init_150 hl (by decide) rfl (fun ls hl => ?_)
          refine lv_iload hx hb dMR_init_152 (lv_at hl 1 rfl) ?_
          refine lv_iconst (v := nI 2) hx hb dMR_init_154 (by decide) ?_
          refine mi_imul hx hb dMR_init_155 ?_
          refine mi_as (show nI (8 * 2) = nI 16 from rfl) ?_
          refine lv_istore (lv' := [(6, .int (nI 16)), (5, .int (nI ((2 * ((2 * ((2 * (0 + z21)) + z22)) + z23)) + z24))), (4, .int (nI i22)), (0, .ref h0), (3, .int (nI 128))]) hx hb dMR_init_156 hl (by decide) rfl (fun ls hl => ?_)
          refine lv_goto (tgt := 132) hx hb dMR_init_158 (by decide) ?_
          refine lv_iload hx hb dMR_init_132 (lv_at hl 0 rfl) ?_
          refine lv_iload_n hx hb dMR_init_134 rfl (lv_at hl 4 rfl) ?_
          refine mi_ge (tgt := 161) hx hb dMR_init_135 (by decide) (by omega) (by omega) (fun h36 => absurd h36 (by omega)) (fun h36 => ?_)
          refine lv_iconst (v := nI 2) hx hb dMR_init_138 (by decide) ?_
          refine lv_iload hx hb dMR_init_139 (lv_at hl 1 rfl) ?_
          refine mi_imul hx hb dMR_init_141 ?_
          refine lv_iload hx hb dMR_init_142 (lv_at hl 2 rfl) ?_
          refine lv_iload hx hb dMR_init_144 (lv_at hl 0 rfl) ?_
          refine mi_idiv hx hb dMR_init_146 (by omega) (by omega) (by omega) ?_
          refine lv_iconst (v := nI 1) hx hb dMR_init_147 (by decide) ?_
          refine mi_iand hx hb 1 dMR_init_148 (by decide) (fun z25 hz25 => ?_)
          have hz25 : z25 < 2 := hz25
          refine mi_iadd hx hb dMR_init_149 ?_
          refine lv_istore (lv' := [(5, .int (nI ((2 * ((2 * ((2 * ((2 * (0 + z21)) + z22)) + z23)) + z24)) + z25))), (6, .int (nI 16)), (4, .int (nI i22)), (0, .ref h0), (3, .int (nI 128))]) hx hb dMR_init_150 hl (by decide) rfl (fun ls hl => ?_)
          refine lv_iload hx hb dMR_init_152 (lv_at hl 1 rfl) ?_
          refine lv_iconst (v := nI 2) hx hb dMR_init_154 (by decide) ?_
          refine mi_imul hx hb dMR_init_155 ?_
          refine mi_as (show nI (16 * 2) = nI 32 from rfl) ?_
          refine lv_istore (lv' := [(6, .int (nI 32)), (5, .int (nI ((2 * ((2 * ((2 * ((2 * (0 + z21)) + z22)) + z23)) + z24)) + z25))), (4, .int (nI i22)), (0, .ref h0), (3, .int (nI 128))]) hx hb dMR_init_156 hl (by decide) rfl (fun ls hl => ?_)
          refine lv_goto (tgt := 132) hx hb dMR_init_158 (by decide) ?_
          refine lv_iload hx hb dMR_init_132 (lv_at hl 0 rfl) ?_
          refine lv_iload_n hx hb dMR_init_134 rfl (lv_at hl 4 rfl) ?_
          refine mi_ge (tgt := 161) hx hb dMR_init_135 (by decide) (by omega) (by omega) (fun h37 => absurd h37 (by omega)) (fun h37 => ?_)
          refine lv_iconst (v := nI 2) hx hb dMR_init_138 (by decide) ?_
          refine lv_iload hx hb dMR_init_139 (lv_at hl 1 rfl) ?_
          refine mi_imul hx hb dMR_init_141 ?_
          refine lv_iload hx hb dMR_init_142 (lv_at hl 2 rfl) ?_
          refine lv_iload hx hb dMR_init_144 (lv_at hl 0 rfl) ?_
          refine mi_idiv hx hb dMR_init_146 (by omega) (by omega) (by omega) ?_
          refine lv_iconst (v := nI 1) hx hb dMR_init_147 (by decide) ?_
          refine mi_iand hx hb 1 dMR_init_148 (by decide) (fun z26 hz26 => ?_)
          have hz26 : z26 < 2 := hz26
          refine mi_iadd hx hb dMR_init_149 ?_
          refine lv_istore (lv' := [(5, .int (nI ((2 * ((2 * ((2 * ((2 * ((2 * (0 + z21)) + z22)) + z23)) + z24)) + z25)) + z26))), (6, .int (nI 32)), (4, .int (nI i22)), (0, .ref h0), (3, .int (nI 128))]) hx hb dMR_init_150 hl (by decide) rfl (fun ls hl => ?_)
          refine lv_iload hx hb dMR_init_152 (lv_at hl 1 rfl) ?_
          refine lv_iconst (v := nI 2) hx hb dMR_init_154 (by decide) ?_
          refine mi_imul hx hb dMR_init_155 ?_
          refine mi_as (show nI (32 * 2) = nI 64 from rfl) ?_
          refine lv_istore (lv' := [(6, .int (nI 64)), (5, .int (nI ((2 * ((2 * ((2 * ((2 * ((2 * (0 + z21)) + z22)) + z23)) + z24)) + z25)) + z26))), (4, .int (nI i22)), (0, .ref h0), (3, .int (nI 128))]) hx hb dMR_init_156 hl (by decide) rfl (fun ls hl => ?_)
          refine lv_goto (tgt := 132) hx hb dMR_init_158 (by decide) ?_
          refine lv_iload hx hb dMR_init_132 (lv_at hl 0 rfl) ?_
          refine lv_iload_n hx hb dMR_init_134 rfl (lv_at hl 4 rfl) ?_
          refine mi_ge (tgt := 161) hx hb dMR_init_135 (by decide) (by omega) (by omega) (fun h38 => absurd h38 (by omega)) (fun h38 => ?_)
          refine lv_iconst (v := nI 2) hx hb dMR_init_138 (by decide) ?_
          refine lv_iload hx hb dMR_init_139 (lv_at hl 1 rfl) ?_
          refine mi_imul hx hb dMR_init_141 ?_
          refine lv_iload hx hb dMR_init_142 (lv_at hl 2 rfl) ?_
          refine lv_iload hx hb dMR_init_144 (lv_at hl 0 rfl) ?_
          refine mi_idiv hx hb dMR_init_146 (by omega) (by omega) (by omega) ?_
          refine lv_iconst (v := nI 1) hx hb dMR_init_147 (by decide) ?_
          refine mi_iand hx hb 1 dMR_init_148 (by decide) (fun z27 hz27 => ?_)
          have hz27 : z27 < 2 := hz27
          refine mi_iadd hx hb dMR_init_149 ?_
          refine lv_istore (lv' := [(5, .int (nI ((2 * ((2 * ((2 * ((2 * ((2 * ((2 * (0 + z21)) + z22)) + z23)) + z24)) + z25)) + z26)) + z27))), (6, .int (nI 64)), (4, .int (nI i22)), (0, .ref h0), (3, .int (nI 128))]) hx hb dMR_init_150 hl (by decide) rfl (fun ls hl => ?_)
          refine lv_iload hx hb dMR_init_152 (lv_at hl 1 rfl) ?_
          refine lv_iconst (v := nI 2) hx hb dMR_init_154 (by decide) ?_
          refine mi_imul hx hb dMR_init_155 ?_
          refine mi_as (show nI (64 * 2) = nI 128 from rfl) ?_
          refine lv_istore (lv' := [(6, .int (nI 128)), (5, .int (nI ((2 * ((2 * ((2 * ((2 * ((2 * ((2 * (0 + z21)) + z22)) + z23)) + z24)) + z25)) + z26)) + z27))), (4, .int (nI i22)), (0, .ref h0), (3, .int (nI 128))]) hx hb dMR_init_156 hl (by decide) rfl (fun ls hl => ?_)
          refine lv_goto (tgt := 132) hx hb dMR_init_158 (by decide) ?_
          refine lv_iload hx hb dMR_init_132 (lv_at hl 0 rfl) ?_
          refine lv_iload_n hx hb dMR_init_134 rfl (lv_at hl 4 rfl) ?_
          refine mi_ge (tgt := 161) hx hb dMR_init_135 (by decide) (by omega) (by omega) (fun h39 => ?_) (fun h39 => absurd h39 (by omega))
          refine lv_aload_n hx hb dMR_init_161 rfl (lv_at hl 3 rfl) ?_
          refine va_get (D := g.1) (ci := 10) (C := "LatticeKeysModel$Ring") (T := T_MR) (N := 5) hx hb hts (wg_ft i_MR) hown hK hP 0 rfl rfl 3 (by decide) (hts _ (wg_t kw_1365)) (fun _ h9 => h9) rfl dMR_init_162 ?_
          refine lv_iload hx hb dMR_init_165 (lv_at hl 2 rfl) ?_
          refine lv_iconst (v := nI 2) hx hb dMR_init_167 (by decide) ?_
          refine lv_iload hx hb dMR_init_168 (lv_at hl 1 rfl) ?_
          refine mi_imul hx hb dMR_init_170 ?_
          refine lv_iconst (v := nI 1) hx hb dMR_init_171 (by decide) ?_
          refine mi_iadd hx hb dMR_init_172 ?_
          refine ty_iast9 hx hb hK hO kr22 (nxg clo_nil kr22 rfl) hP hD hS (by omega) (by decide) (by omega) dMR_init_173 (fun pl H locs hO hP hD hS => ?_)
          refine mi_iinc (k := 2) (x := i22) (d := 1) (y := i22 + 1) (lv' := [(4, .int (nI (i22 + 1))), (6, .int (nI 128)), (5, .int (nI ((2 * ((2 * ((2 * ((2 * ((2 * ((2 * (0 + z21)) + z22)) + z23)) + z24)) + z25)) + z26)) + z27))), (0, .ref h0), (3, .int (nI 128))]) hx hb dMR_init_174 hl rfl (by decide) rfl (by decide) rfl (fun ls hl => ?_)
          refine lv_goto (tgt := 120) hx hb dMR_init_177 (by decide) ?_
          exact ih22 (i22 + 1) pl ls H locs (by omega) (lv_sub hl [0, 3, 4] rfl) hO hP hD hS
      exact lp22 128 0 pl ls _ _ (by omega) (lv_sub hl [0, 1, 4] rfl) hO hP hD hS
    | succ n21 ih21 =>
      intro i21 pl ls H locs hm21 hi21 hl hO hP hD hS
      refine lv_iload hx hb dMR_init_45 (lv_at hl 0 rfl) ?_
      refine lv_iconst (v := nI 2) hx hb dMR_init_47 (by decide) ?_
      refine lv_iload_n hx hb dMR_init_48 rfl (lv_at hl 4 rfl) ?_
      refine mi_imul hx hb dMR_init_49 ?_
      refine mi_as (show nI (2 * 128) = nI 256 from rfl) ?_
      refine mi_ge (tgt := 81) hx hb dMR_init_50 (by decide) (by omega) (by omega) (fun h40 => absurd h40 (by omega)) (fun h40 => ?_)
      refine lv_aload_n hx hb dMR_init_53 rfl (lv_at hl 1 rfl) ?_
      refine va_get (D := g.1) (ci := 10) (C := "LatticeKeysModel$Ring") (T := T_MR) (N := 5) hx hb hts (wg_ft i_MR) hown hK hP 0 rfl rfl 2 (by decide) (hts _ (wg_t kw_1364)) (fun _ h9 => h9) rfl dMR_init_54 ?_
      refine lv_iload hx hb dMR_init_57 (lv_at hl 0 rfl) ?_
      refine lv_aload_n hx hb dMR_init_59 rfl (lv_at hl 1 rfl) ?_
      refine va_get (D := g.1) (ci := 10) (C := "LatticeKeysModel$Ring") (T := T_MR) (N := 5) hx hb hts (wg_ft i_MR) hown hK hP 0 rfl rfl 2 (by decide) (hts _ (wg_t kw_1364)) (fun _ h9 => h9) rfl dMR_init_60 ?_
      refine lv_iload hx hb dMR_init_63 (lv_at hl 0 rfl) ?_
      refine lv_iconst (v := nI 1) hx hb dMR_init_65 (by decide) ?_
      refine mi_isub hx hb dMR_init_66 (by omega) ?_
      refine ty_lald hx hb hK hO kr21 (nxg clo_nil kr21 rfl) hP (vp_in_nI (by omega) (by decide)) dMR_init_67 (fun y35 => ?_)
      refine lv_iload_n hx hb dMR_init_68 rfl (lv_at hl 3 rfl) ?_
      refine lv_i2l (v := 17) hx hb dMR_init_69 (by decide) ?_
      refine lv_lmul hx hb dMR_init_70 ?_
      refine ml_any (fun y36 => ?_)
      refine lv_iload_n hx hb dMR_init_71 rfl (lv_at hl 2 rfl) ?_
      refine lv_i2l (v := 3329) hx hb dMR_init_72 (by decide) ?_
      refine lv_lrem hx hb dMR_init_73 (by decide) ?_
      refine ml_any (fun y37 => ?_)
      refine ty_last hx hb hK hO kr21 (nxg clo_nil kr21 rfl) hP hD hS (vp_in_nI (by omega) (by decide)) dMR_init_74 (fun pl H locs hO hP hD hS => ?_)
      refine mi_iinc (k := 0) (x := i21) (d := 1) (y := i21 + 1) (lv' := [(4, .int (nI (i21 + 1))), (0, .ref h0), (1, .int (nI 3329)), (2, .int (nI 17)), (3, .int (nI 128))]) hx hb dMR_init_75 hl rfl (by decide) rfl (by decide) rfl (fun ls hl => ?_)
      refine lv_goto (tgt := 45) hx hb dMR_init_78 (by decide) ?_
      exact ih21 (i21 + 1) pl ls H locs (by omega) (by omega) (lv_sub hl [0, 1, 2, 3, 4] rfl) hO hP hD hS
  exact lp21 (256 - 1) 1 pl ls _ _ (by omega) (by omega) (lv_sub hl [0, 1, 2, 3, 4] rfl) hO hP hD hS
set_option maxHeartbeats 4000000 in
set_option maxRecDepth 100000 in
theorem t_MR_init_22 (l : Launch) (g : Gd) (sz : Nat) (T0 : Ty) (pl : va_W) (hO : okx g T0 [] pl) (hU : uni T0) (h0 : Nat)  : Met l y_MR_init w_MR_init ({ frames := 1, cells := 2, slots := 768, locals := 40 } : Room) (va_Pc [.ref h0, .int (nI 8380417), .int (nI 1753), .int (nI 256)] (pr (en g) g.1 vcl sz ([(h0, .inr (10, [.int 0, .int 0, .null, .null, .long 0]))] ++ pl))) (va_Qv (fun (u : (Ty) × va_W) => (ext T0 u.1 ∧ uni u.1 ∧ u.1 h0 = some (22, 0) ∧ pass T0 u.1 []) ∧ okx g u.1 [] u.2) (po g.1 vcl (va_A ([(h0, .inr (10, [.int 0, .int 0, .null, .null, .long 0]))] ++ pl) sz) (fun (u : (Ty) × va_W) => [] ++ u.2)) (va_A ([(h0, .inr (10, [.int 0, .int 0, .null, .null, .long 0]))] ++ pl) sz)) 2 768 (va_A ([(h0, .inr (10, [.int 0, .int 0, .null, .null, .long 0]))] ++ pl) sz) := by
  refine mc_entry (cc := c_MR_init) (maxL := 7) (ret := none) (by decide) rfl (Nat.le_of_ble_eq_true rfl) ?_
  intro p e s m args below meth c ls F hr hlk hnm hsz hP hD hE hA hl
  obtain ⟨hx, hb, hml, hown, hts⟩ := id F
  have hK := hE.1
  generalize va_A ([(h0, .inr (10, [.int 0, .int 0, .null, .null, .long 0]))] ++ pl) sz = A at hD hE hA ⊢
  obtain ⟨T, hXT, hPS, hO, hU⟩ : ∃ T, ext T0 T ∧ pass T0 T [] ∧ okx g T [] pl ∧ uni T := ⟨T0, ext_rf, pass_rf, hO, hU⟩
  have hS : va_S A s.heap s.heap [] := va_S.rf
  have hl : lv_has ls 7 [(0, .ref h0), (1, .int (nI 8380417)), (2, .int (nI 1753)), (3, .int (nI 256))] := hl
  refine lv_aload_n hx hb dMR_init_0 rfl (lv_at hl 0 rfl) ?_
  refine W.objInit hx hb hown (hts _ (wg_t kw_1361)) (hts _ (wg_t kw_41)) (hts _ (wg_t kobj)) rfl (by rw [hml]; exact hl.1) rfl dMR_init_1 (Nat.le_of_ble_eq_true rfl) (Nat.le_of_ble_eq_true rfl) ?_
  refine W.eq (g2 := F0 m 4 ls []) rfl ?_
  refine lv_aload_n hx hb dMR_init_4 rfl (lv_at hl 0 rfl) ?_
  refine lv_lconst (v := 1) hx hb dMR_init_5 (by decide) ?_
  refine va_put (D := g.1) (ci := 10) (v := .long 1) (ty := .long) (C := "LatticeKeysModel$Ring") (T := T_MR) (N := 5) hx hb hts (wg_ft i_MR) ty_MR k_MR n_MR hown hK hP hD hS 0 rfl rfl 4 (by decide) (hts _ (wg_t kw_1366)) (fun _ h9 => h9) rfl (by decide +kernel) rfl rfl (Nat.le_of_ble_eq_true rfl) dMR_init_6 (fun H locs hP hD hS => ?_)
  have hP : va_P g.1 vcl ([(h0, .inr (10, [.int 0, .int 0, .null, .null, .long 1]))] ++ pl) _ := hP
  have hD : va_D _ ([(h0, .inr (10, [.int 0, .int 0, .null, .null, .long 1]))] ++ pl) := hD
  refine lv_aload_n hx hb dMR_init_9 rfl (lv_at hl 0 rfl) ?_
  refine lv_iload_n hx hb dMR_init_10 rfl (lv_at hl 1 rfl) ?_
  refine va_putF (D := g.1) (ci := 10) (v := .int (nI 8380417)) (ty := .int) (C := "LatticeKeysModel$Ring") (T := T_MR) (N := 5) hx hb hts (wg_ft i_MR) ty_MR k_MR n_MR hown hK hP hD hS 0 rfl rfl 0 (by decide) (hts _ (wg_t kw_1362)) (fun _ h9 => h9) rfl hnm rfl (by decide +kernel) rfl rfl (Nat.le_of_ble_eq_true rfl) dMR_init_11 (fun H locs hP hD hS => ?_)
  have hP : va_P g.1 vcl ([(h0, .inr (10, [.int (nI 8380417), .int 0, .null, .null, .long 1]))] ++ pl) _ := hP
  have hD : va_D _ ([(h0, .inr (10, [.int (nI 8380417), .int 0, .null, .null, .long 1]))] ++ pl) := hD
  refine lv_aload_n hx hb dMR_init_14 rfl (lv_at hl 0 rfl) ?_
  refine lv_iload_n hx hb dMR_init_15 rfl (lv_at hl 3 rfl) ?_
  refine va_putF (D := g.1) (ci := 10) (v := .int (nI 256)) (ty := .int) (C := "LatticeKeysModel$Ring") (T := T_MR) (N := 5) hx hb hts (wg_ft i_MR) ty_MR k_MR n_MR hown hK hP hD hS 0 rfl rfl 1 (by decide) (hts _ (wg_t kw_1363)) (fun _ h9 => h9) rfl hnm rfl (by decide +kernel) rfl rfl (Nat.le_of_ble_eq_true rfl) dMR_init_16 (fun H locs hP hD hS => ?_)
  have hP : va_P g.1 vcl ([(h0, .inr (10, [.int (nI 8380417), .int (nI 256), .null, .null, .long 1]))] ++ pl) _ := hP
  have hD : va_D _ ([(h0, .inr (10, [.int (nI 8380417), .int (nI 256), .null, .null, .long 1]))] ++ pl) := hD
  refine lv_aload_n hx hb dMR_init_19 rfl (lv_at hl 0 rfl) ?_
  refine lv_iconst (v := nI 2) hx hb dMR_init_20 (by decide) ?_
  refine lv_iload_n hx hb dMR_init_21 rfl (lv_at hl 3 rfl) ?_
  refine mi_imul hx hb dMR_init_22 ?_
  refine mi_as (show nI (2 * 256) = nI 512 from rfl) ?_
  refine ma_newa (ws := [(h0, .inr (10, [.int (nI 8380417), .int (nI 256), .null, .null, .long 1]))] ++ pl) (atype := .long) hx hb (hts _ (wg_t kw_73)) rfl hK hP hD hS hA 2 rfl (N' := 512) (a0 := (512, .inr (.inl (fun _ => 0)))) (fun _ => rfl) (nI_pos (by omega)) (nI_clamp (by omega)) (by show (512) * 8 ≤ 536870912; omega) (Nat.le_of_ble_eq_true rfl) (Nat.le_of_ble_eq_true rfl) dMR_init_23 (fun q21 H hP hD hS => ?_)
  refine W.widen (k := 1) (n := 512) (by omega) (by omega) ?_
  obtain ⟨T, pl, hxt21, hU, kr21, hO, hP, hD, hnk21⟩ := absorb (X := [(h0, .inr (10, [.int (nI 8380417), .int (nI 256), .null, .null, .long 1]))]) (2, 512) hP hD hO hU (Or.inl rfl) (fun _ _ _ => ⟨_, rfl⟩)
  have hXT := ext_tr hXT hxt21
  have hP : va_P g.1 vcl ([(h0, .inr (10, [.int (nI 8380417), .int (nI 256), .null, .null, .long 1]))] ++ pl) _ := hP
  have hD : va_D _ ([(h0, .inr (10, [.int (nI 8380417), .int (nI 256), .null, .null, .long 1]))] ++ pl) := hD
  have hPS := pass_one hPS hnk21 (Or.inl rfl)
  refine va_putF (D := g.1) (ci := 10) (v := .ref q21) (ty := .array .long) (C := "LatticeKeysModel$Ring") (T := T_MR) (N := 5) hx hb hts (wg_ft i_MR) ty_MR k_MR n_MR hown hK hP hD hS 0 rfl rfl 2 (by decide) (hts _ (wg_t kw_1364)) (fun _ h9 => h9) rfl hnm rfl (by decide +kernel) rfl rfl (Nat.le_of_ble_eq_true rfl) dMR_init_25 (fun H locs hP hD hS => ?_)
  have hP : va_P g.1 vcl ([(h0, .inr (10, [.int (nI 8380417), .int (nI 256), .ref q21, .null, .long 1]))] ++ pl) _ := hP
  have hD : va_D _ ([(h0, .inr (10, [.int (nI 8380417), .int (nI 256), .ref q21, .null, .long 1]))] ++ pl) := hD
  refine lv_aload_n hx hb dMR_init_28 rfl (lv_at hl 0 rfl) ?_
  refine lv_iload_n hx hb dMR_init_29 rfl (lv_at hl 3 rfl) ?_
  refine ma_newa (ws := [(h0, .inr (10, [.int (nI 8380417), .int (nI 256), .ref q21, .null, .long 1]))] ++ pl) (atype := .int) hx hb (hts _ (wg_t kw_104)) rfl hK hP hD hS hA 0 rfl (N' := 256) (a0 := (256, .inl (fun _ => 0))) (fun _ => rfl) (nI_pos (by omega)) (nI_clamp (by omega)) (by show (256) * 4 ≤ 536870912; omega) (Nat.le_of_ble_eq_true rfl) (Nat.le_of_ble_eq_true rfl) dMR_init_30 (fun q22 H hP hD hS => ?_)
  refine W.widen (k := 2) (n := 768) (by omega) (by omega) ?_
  obtain ⟨T, pl, hxt22, hU, kr22, hO, hP, hD, hnk22⟩ := absorb (X := [(h0, .inr (10, [.int (nI 8380417), .int (nI 256), .ref q21, .null, .long 1]))]) (9, 256) hP hD hO hU (Or.inl rfl) (fun _ _ _ => ⟨_, rfl, fun j hj => ⟨0, by omega, rfl⟩⟩)
  have kr21 := hxt22 _ _ kr21
  have hXT := ext_tr hXT hxt22
  have hP : va_P g.1 vcl ([(h0, .inr (10, [.int (nI 8380417), .int (nI 256), .ref q21, .null, .long 1]))] ++ pl) _ := hP
  have hD : va_D _ ([(h0, .inr (10, [.int (nI 8380417), .int (nI 256), .ref q21, .null, .long 1]))] ++ pl) := hD
  have hPS := pass_one hPS hnk22 (Or.inl rfl)
  refine va_putF (D := g.1) (ci := 10) (v := .ref q22) (ty := .array .int) (C := "LatticeKeysModel$Ring") (T := T_MR) (N := 5) hx hb hts (wg_ft i_MR) ty_MR k_MR n_MR hown hK hP hD hS 0 rfl rfl 3 (by decide) (hts _ (wg_t kw_1365)) (fun _ h9 => h9) rfl hnm rfl (by decide +kernel) rfl rfl (Nat.le_of_ble_eq_true rfl) dMR_init_32 (fun H locs hP hD hS => ?_)
  have hP : va_P g.1 vcl ([(h0, .inr (10, [.int (nI 8380417), .int (nI 256), .ref q21, .ref q22, .long 1]))] ++ pl) _ := hP
  have hD : va_D _ ([(h0, .inr (10, [.int (nI 8380417), .int (nI 256), .ref q21, .ref q22, .long 1]))] ++ pl) := hD
  refine lv_aload_n hx hb dMR_init_35 rfl (lv_at hl 0 rfl) ?_
  refine va_get (D := g.1) (ci := 10) (C := "LatticeKeysModel$Ring") (T := T_MR) (N := 5) hx hb hts (wg_ft i_MR) hown hK hP 0 rfl rfl 2 (by decide) (hts _ (wg_t kw_1364)) (fun _ h9 => h9) rfl dMR_init_36 ?_
  refine lv_iconst (v := nI 0) hx hb dMR_init_39 (by decide) ?_
  refine lv_lconst (v := 1) hx hb dMR_init_40 (by decide) ?_
  refine ty_last hx hb hK hO kr21 (nxg clo_nil kr21 rfl) hP hD hS (vp_in_nI (by omega) (by decide)) dMR_init_41 (fun pl H locs hO hP hD hS => ?_)
  refine lv_iconst (v := nI 1) hx hb dMR_init_42 (by decide) ?_
  refine lv_istore (lv' := [(4, .int (nI 1)), (0, .ref h0), (1, .int (nI 8380417)), (2, .int (nI 1753)), (3, .int (nI 256))]) hx hb dMR_init_43 hl (by decide) rfl (fun ls hl => ?_)
  have lp21 : ∀ (n21 : Nat) (i21 : Nat) (pl : va_W) (ls : Array Slot) (H : Heap) (locs : List Loc), n21 + i21 = 512 → (1 ≤ i21) → lv_has ls 7 [(4, .int (nI i21)), (0, .ref h0), (1, .int (nI 8380417)), (2, .int (nI 1753)), (3, .int (nI 256))] → okx g T [] pl → va_P g.1 vcl ([(h0, .inr (10, [.int (nI 8380417), .int (nI 256), .ref q21, .ref q22, .long 1]))] ++ pl) H → va_D A ([(h0, .inr (10, [.int (nI 8380417), .int (nI 256), .ref q21, .ref q22, .long 1]))] ++ pl) → va_S A s.heap H locs → W p l e ({ frames := 1, cells := 2, slots := 768, locals := 40 } : Room) s m args below meth c H locs 2 768 (MQ below (va_Qv (fun (u : (Ty) × va_W) => (ext T0 u.1 ∧ uni u.1 ∧ u.1 h0 = some (22, 0) ∧ pass T0 u.1 []) ∧ okx g u.1 [] u.2) (po g.1 vcl A (fun (u : (Ty) × va_W) => [] ++ u.2)) A) args s 2 768 A) (F0 m 45 ls []) := by
    intro n21
    induction n21 with
    | zero =>
      intro i21 pl ls H locs hm21 hi21 hl hO hP hD hS
      refine lv_iload hx hb dMR_init_45 (lv_at hl 0 rfl) ?_
      refine lv_iconst (v := nI 2) hx hb dMR_init_47 (by decide) ?_
      refine lv_iload_n hx hb dMR_init_48 rfl (lv_at hl 4 rfl) ?_
      refine mi_imul hx hb dMR_init_49 ?_
      refine mi_as (show nI (2 * 256) = nI 512 from rfl) ?_
      refine mi_ge (tgt := 81) hx hb dMR_init_50 (by decide) (by omega) (by omega) (fun h21 => ?_) (fun h21 => absurd h21 (by omega))
      refine lv_iconst (v := nI 1) hx hb dMR_init_81 (by decide) ?_
      refine lv_istore (lv' := [(4, .int (nI 1)), (0, .ref h0), (1, .int (nI 8380417)), (2, .int (nI 1753)), (3, .int (nI 256))]) hx hb dMR_init_82 hl (by decide) rfl (fun ls hl => ?_)
      refine lv_iload hx hb dMR_init_84 (lv_at hl 0 rfl) ?_
      refine lv_iload_n hx hb dMR_init_86 rfl (lv_at hl 4 rfl) ?_
      refine mi_ge (tgt := 117) hx hb dMR_init_87 (by decide) (by omega) (by omega) (fun h22 => absurd h22 (by omega)) (fun h22 => ?_)
      refine lv_aload_n hx hb dMR_init_90 rfl (lv_at hl 1 rfl) ?_
      refine lv_aload_n hx hb dMR_init_91 rfl (lv_at hl 1 rfl) ?_
      refine va_get (D := g.1) (ci := 10) (C := "LatticeKeysModel$Ring") (T := T_MR) (N := 5) hx hb hts (wg_ft i_MR) hown hK hP 0 rfl rfl 4 (by decide) (hts _ (wg_t kw_1366)) (fun _ h9 => h9) rfl dMR_init_92 ?_
      refine lv_iload_n hx hb dMR_init_95 rfl (lv_at hl 2 rfl) ?_
      refine lv_iconst (v := nI 1) hx hb dMR_init_96 (by decide) ?_
      refine mi_iadd hx hb dMR_init_97 ?_
      refine mi_as (show nI (8380417 + 1) = nI 8380418 from rfl) ?_
      refine lv_iconst (v := nI 2) hx hb dMR_init_98 (by decide) ?_
      refine mi_idiv hx hb dMR_init_99 (by omega) (by omega) (by omega) ?_
      refine mi_as (show nI (8380418 / 2) = nI 4190209 from rfl) ?_
      refine lv_i2l (v := 4190209) hx hb dMR_init_100 (by decide) ?_
      refine lv_lmul hx hb dMR_init_101 ?_
      refine ml_any (fun y21 => ?_)
      refine lv_iload_n hx hb dMR_init_102 rfl (lv_at hl 2 rfl) ?_
      refine lv_i2l (v := 8380417) hx hb dMR_init_103 (by decide) ?_
      refine lv_lrem hx hb dMR_init_104 (by decide) ?_
      refine ml_any (fun y22 => ?_)
      refine va_put (D := g.1) (ci := 10) (v := .long y22) (ty := .long) (C := "LatticeKeysModel$Ring") (T := T_MR) (N := 5) hx hb hts (wg_ft i_MR) ty_MR k_MR n_MR hown hK hP hD hS 0 rfl rfl 4 (by decide) (hts _ (wg_t kw_1366)) (fun _ h9 => h9) rfl (by decide +kernel) rfl rfl (Nat.le_of_ble_eq_true rfl) dMR_init_105 (fun H locs hP hD hS => ?_)
      have hP : va_P g.1 vcl ([(h0, .inr (10, [.int (nI 8380417), .int (nI 256), .ref q21, .ref q22, .long y22]))] ++ pl) _ := hP
      have hD : va_D _ ([(h0, .inr (10, [.int (nI 8380417), .int (nI 256), .ref q21, .ref q22, .long y22]))] ++ pl) := hD
      refine lv_iload hx hb dMR_init_108 (lv_at hl 0 rfl) ?_
      refine lv_iconst (v := nI 2) hx hb dMR_init_110 (by decide) ?_
      refine mi_imul hx hb dMR_init_111 ?_
      refine mi_as (show nI (1 * 2) = nI 2 from rfl) ?_
      refine lv_istore (lv' := [(4, .int (nI 2)), (0, .ref h0), (1, .int (nI 8380417)), (2, .int (nI 1753)), (3, .int (nI 256))]) hx hb dMR_init_112 hl (by decide) rfl (fun ls hl => ?_)
      refine lv_goto (tgt := 84) hx hb dMR_init_114 (by decide) ?_
      refine lv_iload hx hb dMR_init_84 (lv_at hl 0 rfl) ?_
      refine lv_iload_n hx hb dMR_init_86 rfl (lv_at hl 4 rfl) ?_
      refine mi_ge (tgt := 117) hx hb dMR_init_87 (by decide) (by omega) (by omega) (fun h23 => absurd h23 (by omega)) (fun h23 => ?_)
      refine lv_aload_n hx hb dMR_init_90 rfl (lv_at hl 1 rfl) ?_
      refine lv_aload_n hx hb dMR_init_91 rfl (lv_at hl 1 rfl) ?_
      refine va_get (D := g.1) (ci := 10) (C := "LatticeKeysModel$Ring") (T := T_MR) (N := 5) hx hb hts (wg_ft i_MR) hown hK hP 0 rfl rfl 4 (by decide) (hts _ (wg_t kw_1366)) (fun _ h9 => h9) rfl dMR_init_92 ?_
      refine lv_iload_n hx hb dMR_init_95 rfl (lv_at hl 2 rfl) ?_
      refine lv_iconst (v := nI 1) hx hb dMR_init_96 (by decide) ?_
      refine mi_iadd hx hb dMR_init_97 ?_
      refine mi_as (show nI (8380417 + 1) = nI 8380418 from rfl) ?_
      refine lv_iconst (v := nI 2) hx hb dMR_init_98 (by decide) ?_
      refine mi_idiv hx hb dMR_init_99 (by omega) (by omega) (by omega) ?_
      refine mi_as (show nI (8380418 / 2) = nI 4190209 from rfl) ?_
      refine lv_i2l (v := 4190209) hx hb dMR_init_100 (by decide) ?_
      refine lv_lmul hx hb dMR_init_101 ?_
      refine ml_any (fun y23 => ?_)
      refine lv_iload_n hx hb dMR_init_102 rfl (lv_at hl 2 rfl) ?_
      refine lv_i2l (v := 8380417) hx hb dMR_init_103 (by decide) ?_
      refine lv_lrem hx hb dMR_init_104 (by decide) ?_
      refine ml_any (fun y24 => ?_)
      refine va_put (D := g.1) (ci := 10) (v := .long y24) (ty := .long) (C := "LatticeKeysModel$Ring") (T := T_MR) (N := 5) hx hb hts (wg_ft i_MR) ty_MR k_MR n_MR hown hK hP hD hS 0 rfl rfl 4 (by decide) (hts _ (wg_t kw_1366)) (fun _ h9 => h9) rfl (by decide +kernel) rfl rfl (Nat.le_of_ble_eq_true rfl) dMR_init_105 (fun H locs hP hD hS => ?_)
      have hP : va_P g.1 vcl ([(h0, .inr (10, [.int (nI 8380417), .int (nI 256), .ref q21, .ref q22, .long y24]))] ++ pl) _ := hP
      have hD : va_D _ ([(h0, .inr (10, [.int (nI 8380417), .int (nI 256), .ref q21, .ref q22, .long y24]))] ++ pl) := hD
      refine lv_iload hx hb dMR_init_108 (lv_at hl 0 rfl) ?_
      refine lv_iconst (v := nI 2) hx hb dMR_init_110 (by decide) ?_
      refine mi_imul hx hb dMR_init_111 ?_
      refine mi_as (show nI (2 * 2) = nI 4 from rfl) ?_
      refine lv_istore (lv' := [(4, .int (nI 4)), (0, .ref h0), (1, .int (nI 8380417)), (2, .int (nI 1753)), (3, .int (nI 256))]) hx hb dMR_init_112 hl (by decide) rfl (fun ls hl => ?_)
      refine lv_goto (tgt := 84) hx hb dMR_init_114 (by decide) ?_
      refine lv_iload hx hb dMR_init_84 (lv_at hl 0 rfl) ?_
      refine lv_iload_n hx hb dMR_init_86 rfl (lv_at hl 4 rfl) ?_
      refine mi_ge (tgt := 117) hx hb dMR_init_87 (by decide) (by omega) (by omega) (fun h24 => absurd h24 (by omega)) (fun h24 => ?_)
      refine lv_aload_n hx hb dMR_init_90 rfl (lv_at hl 1 rfl) ?_
      refine lv_aload_n hx hb dMR_init_91 rfl (lv_at hl 1 rfl) ?_
      refine va_get (D := g.1) (ci := 10) (C := "LatticeKeysModel$Ring") (T := T_MR) (N := 5) hx hb hts (wg_ft i_MR) hown hK hP 0 rfl rfl 4 (by decide) (hts _ (wg_t kw_1366)) (fun _ h9 => h9) rfl dMR_init_92 ?_
      refine lv_iload_n hx hb dMR_init_95 rfl (lv_at hl 2 rfl) ?_
      refine lv_iconst (v := nI 1) hx hb dMR_init_96 (by decide) ?_
      refine mi_iadd hx hb dMR_init_97 ?_
      refine mi_as (show nI (8380417 + 1) = nI 8380418 from rfl) ?_
      refine lv_iconst (v := nI 2) hx hb dMR_init_98 (by decide) ?_
      refine mi_idiv hx hb dMR_init_99 (by omega) (by omega) (by omega) ?_
      refine mi_as (show nI (8380418 / 2) = nI 4190209 from rfl) ?_
      refine lv_i2l (v := 4190209) hx hb dMR_init_100 (by decide) ?_
      refine lv_lmul hx hb dMR_init_101 ?_
      refine ml_any (fun y25 => ?_)
      refine lv_iload_n hx hb dMR_init_102 rfl (lv_at hl 2 rfl) ?_
      refine lv_i2l (v := 8380417) hx hb dMR_init_103 (by decide) ?_
      refine lv_lrem hx hb dMR_init_104 (by decide) ?_
      refine ml_any (fun y26 => ?_)
      refine va_put (D := g.1) (ci := 10) (v := .long y26) (ty := .long) (C := "LatticeKeysModel$Ring") (T := T_MR) (N := 5) hx hb hts (wg_ft i_MR) ty_MR k_MR n_MR hown hK hP hD hS 0 rfl rfl 4 (by decide) (hts _ (wg_t kw_1366)) (fun _ h9 => h9) rfl (by decide +kernel) rfl rfl (Nat.le_of_ble_eq_true rfl) dMR_init_105 (fun H locs hP hD hS => ?_)
      have hP : va_P g.1 vcl ([(h0, .inr (10, [.int (nI 8380417), .int (nI 256), .ref q21, .ref q22, .long y26]))] ++ pl) _ := hP
      have hD : va_D _ ([(h0, .inr (10, [.int (nI 8380417), .int (nI 256), .ref q21, .ref q22, .long y26]))] ++ pl) := hD
      refine lv_iload hx hb dMR_init_108 (lv_at hl 0 rfl) ?_
      refine lv_iconst (v := nI 2) hx hb dMR_init_110 (by decide) ?_
      refine mi_imul hx hb dMR_init_111 ?_
      refine mi_as (show nI (4 * 2) = nI 8 from rfl) ?_
      refine lv_istore (lv' := [(4, .int (nI 8)), (0, .ref h0), (1, .int (nI 8380417)), (2, .int (nI 1753)), (3, .int (nI 256))]) hx hb dMR_init_112 hl (by decide) rfl (fun ls hl => ?_)
      refine lv_goto (tgt := 84) hx hb dMR_init_114 (by decide) ?_
      refine lv_iload hx hb dMR_init_84 (lv_at hl 0 rfl) ?_
      refine lv_iload_n hx hb dMR_init_86 rfl (lv_at hl 4 rfl) ?_
      refine mi_ge (tgt := 117) hx hb dMR_init_87 (by decide) (by omega) (by omega) (fun h25 => absurd h25 (by omega)) (fun h25 => ?_)
      refine lv_aload_n hx hb dMR_init_90 rfl (lv_at hl 1 rfl) ?_
      refine lv_aload_n hx hb dMR_init_91 rfl (lv_at hl 1 rfl) ?_
      refine va_get (D := g.1) (ci := 10) (C := "LatticeKeysModel$Ring") (T := T_MR) (N := 5) hx hb hts (wg_ft i_MR) hown hK hP 0 rfl rfl 4 (by decide) (hts _ (wg_t kw_1366)) (fun _ h9 => h9) rfl dMR_init_92 ?_
      refine lv_iload_n hx hb dMR_init_95 rfl (lv_at hl 2 rfl) ?_
      refine lv_iconst (v := nI 1) hx hb dMR_init_96 (by decide) ?_
      refine mi_iadd hx hb dMR_init_97 ?_
      refine mi_as (show nI (8380417 + 1) = nI 8380418 from rfl) ?_
      refine lv_iconst (v := nI 2) hx hb dMR_init_98 (by decide) ?_
      refine mi_idiv hx hb dMR_init_99 (by omega) (by omega) (by omega) ?_
      refine mi_as (show nI (8380418 / 2) = nI 4190209 from rfl) ?_
      refine lv_i2l (v := 4190209) hx hb dMR_init_100 (by decide) ?_
      refine lv_lmul hx hb dMR_init_101 ?_
      refine ml_any (fun y27 => ?_)
      refine lv_iload_n hx hb dMR_init_102 rfl (lv_at hl 2 rfl) ?_
      refine lv_i2l (v := 8380417) hx hb dMR_init_103 (by decide) ?_
      refine lv_lrem hx hb dMR_init_104 (by decide) ?_
      refine ml_any (fun y28 => ?_)
      refine va_put (D := g.1) (ci := 10) (v := .long y28) (ty := .long) (C := "LatticeKeysModel$Ring") (T := T_MR) (N := 5) hx hb hts (wg_ft i_MR) ty_MR k_MR n_MR hown hK hP hD hS 0 rfl rfl 4 (by decide) (hts _ (wg_t kw_1366)) (fun _ h9 => h9) rfl (by decide +kernel) rfl rfl (Nat.le_of_ble_eq_true rfl) dMR_init_105 (fun H locs hP hD hS => ?_)
      have hP : va_P g.1 vcl ([(h0, .inr (10, [.int (nI 8380417), .int (nI 256), .ref q21, .ref q22, .long y28]))] ++ pl) _ := hP
      have hD : va_D _ ([(h0, .inr (10, [.int (nI 8380417), .int (nI 256), .ref q21, .ref q22, .long y28]))] ++ pl) := hD
      refine lv_iload hx hb dMR_init_108 (lv_at hl 0 rfl) ?_
      refine lv_iconst (v := nI 2) hx hb dMR_init_110 (by decide) ?_
      refine mi_imul hx hb dMR_init_111 ?_
      refine mi_as (show nI (8 * 2) = nI 16 from rfl) ?_
      refine lv_istore (lv' := [(4, .int (nI 16)), (0, .ref h0), (1, .int (nI 8380417)), (2, .int (nI 1753)), (3, .int (nI 256))]) hx hb dMR_init_112 hl (by decide) rfl (fun ls hl => ?_)
      refine lv_goto (tgt := 84) hx hb dMR_init_114 (by decide) ?_
      refine lv_iload hx hb dMR_init_84 (lv_at hl 0 rfl) ?_
      refine lv_iload_n hx hb dMR_init_86 rfl (lv_at hl 4 rfl) ?_
      refine mi_ge (tgt := 117) hx hb dMR_init_87 (by decide) (by omega) (by omega) (fun h26 => absurd h26 (by omega)) (fun h26 => ?_)
      refine lv_aload_n hx hb dMR_init_90 rfl (lv_at hl 1 rfl) ?_
      refine lv_aload_n hx hb dMR_init_91 rfl (lv_at hl 1 rfl) ?_
      refine va_get (D := g.1) (ci := 10) (C := "LatticeKeysModel$Ring") (T := T_MR) (N := 5) hx hb hts (wg_ft i_MR) hown hK hP 0 rfl rfl 4 (by decide) (hts _ (wg_t kw_1366)) (fun _ h9 => h9) rfl dMR_init_92 ?_
      refine lv_iload_n hx hb dMR_init_95 rfl (lv_at hl 2 rfl) ?_
      refine lv_iconst (v := nI 1) hx hb dMR_init_96 (by decide) ?_
      refine mi_iadd hx hb dMR_init_97 ?_
      refine mi_as (show nI (8380417 + 1) = nI 8380418 from rfl) ?_
      refine lv_iconst (v := nI 2) hx hb dMR_init_98 (by decide) ?_
      refine mi_idiv hx hb dMR_init_99 (by omega) (by omega) (by omega) ?_
      refine mi_as (show nI (8380418 / 2) = nI 4190209 from rfl) ?_
      refine lv_i2l (v := 4190209) hx hb dMR_init_100 (by decide) ?_
      refine lv_lmul hx hb dMR_init_101 ?_
      refine ml_any (fun y29 => ?_)
      refine lv_iload_n hx hb dMR_init_102 rfl (lv_at hl 2 rfl) ?_
      refine lv_i2l (v := 8380417) hx hb dMR_init_103 (by decide) ?_
      refine lv_lrem hx hb dMR_init_104 (by decide) ?_
      refine ml_any (fun y30 => ?_)
      refine va_put (D := g.1) (ci := 10) (v := .long y30) (ty := .long) (C := "LatticeKeysModel$Ring") (T := T_MR) (N := 5) hx hb hts (wg_ft i_MR) ty_MR k_MR n_MR hown hK hP hD hS 0 rfl rfl 4 (by decide) (hts _ (wg_t kw_1366)) (fun _ h9 => h9) rfl (by decide +kernel) rfl rfl (Nat.le_of_ble_eq_true rfl) dMR_init_105 (fun H locs hP hD hS => ?_)
      have hP : va_P g.1 vcl ([(h0, .inr (10, [.int (nI 8380417), .int (nI 256), .ref q21, .ref q22, .long y30]))] ++ pl) _ := hP
      have hD : va_D _ ([(h0, .inr (10, [.int (nI 8380417), .int (nI 256), .ref q21, .ref q22, .long y30]))] ++ pl) := hD
      refine lv_iload hx hb dMR_init_108 (lv_at hl 0 rfl) ?_
      refine lv_iconst (v := nI 2) hx hb dMR_init_110 (by decide) ?_
      refine mi_imul hx hb dMR_init_111 ?_
      refine mi_as (show nI (16 * 2) = nI 32 from rfl) ?_
      refine lv_istore (lv' := [(4, .int (nI 32)), (0, .ref h0), (1, .int (nI 8380417)), (2, .int (nI 1753)), (3, .int (nI 256))]) hx hb dMR_init_112 hl (by decide) rfl (fun ls hl => ?_)
      refine lv_goto (tgt := 84) hx hb dMR_init_114 (by decide) ?_
      refine lv_iload hx hb dMR_init_84 (lv_at hl 0 rfl) ?_
      refine lv_iload_n hx hb dMR_init_86 rfl (lv_at hl 4 rfl) ?_
      refine mi_ge (tgt := 117) hx hb dMR_init_87 (by decide) (by omega) (by omega) (fun h27 => absurd h27 (by omega)) (fun h27 => ?_)
      refine lv_aload_n hx hb dMR_init_90 rfl (lv_at hl 1 rfl) ?_
      refine lv_aload_n hx hb dMR_init_91 rfl (lv_at hl 1 rfl) ?_
      refine va_get (D := g.1) (ci := 10) (C := "LatticeKeysModel$Ring") (T := T_MR) (N := 5) hx hb hts (wg_ft i_MR) hown hK hP 0 rfl rfl 4 (by decide) (hts _ (wg_t kw_1366)) (fun _ h9 => h9) rfl dMR_init_92 ?_
      refine lv_iload_n hx hb dMR_init_95 rfl (lv_at hl 2 rfl) ?_
      refine lv_iconst (v := nI 1) hx hb dMR_init_96 (by decide) ?_
      refine mi_iadd hx hb dMR_init_97 ?_
      refine mi_as (show nI (8380417 + 1) = nI 8380418 from rfl) ?_
      refine lv_iconst (v := nI 2) hx hb dMR_init_98 (by decide) ?_
      refine mi_idiv hx hb dMR_init_99 (by omega) (by omega) (by omega) ?_
      refine mi_as (show nI (8380418 / 2) = nI 4190209 from rfl) ?_
      refine lv_i2l (v := 4190209) hx hb dMR_init_100 (by decide) ?_
      refine lv_lmul hx hb dMR_init_101 ?_
      refine ml_any (fun y31 => ?_)
      refine lv_iload_n hx hb dMR_init_102 rfl (lv_at hl 2 rfl) ?_
      refine lv_i2l (v := 8380417) hx hb dMR_init_103 (by decide) ?_
      refine lv_lrem hx hb dMR_init_104 (by decide) ?_
      refine ml_any (fun y32 => ?_)
      refine va_put (D := g.1) (ci := 10) (v := .long y32) (ty := .long) (C := "LatticeKeysModel$Ring") (T := T_MR) (N := 5) hx hb hts (wg_ft i_MR) ty_MR k_MR n_MR hown hK hP hD hS 0 rfl rfl 4 (by decide) (hts _ (wg_t kw_1366)) (fun _ h9 => h9) rfl (by decide +kernel) rfl rfl (Nat.le_of_ble_eq_true rfl) dMR_init_105 (fun H locs hP hD hS => ?_)
      have hP : va_P g.1 vcl ([(h0, .inr (10, [.int (nI 8380417), .int (nI 256), .ref q21, .ref q22, .long y32]))] ++ pl) _ := hP
      have hD : va_D _ ([(h0, .inr (10, [.int (nI 8380417), .int (nI 256), .ref q21, .ref q22, .long y32]))] ++ pl) := hD
      refine lv_iload hx hb dMR_init_108 (lv_at hl 0 rfl) ?_
      refine lv_iconst (v := nI 2) hx hb dMR_init_110 (by decide) ?_
      refine mi_imul hx hb dMR_init_111 ?_
      refine mi_as (show nI (32 * 2) = nI 64 from rfl) ?_
      refine lv_istore (lv' := [(4, .int (nI 64)), (0, .ref h0), (1, .int (nI 8380417)), (2, .int (nI 1753)), (3, .int (nI 256))]) hx hb dMR_init_112 hl (by decide) rfl (fun ls hl => ?_)
      refine lv_goto (tgt := 84) hx hb dMR_init_114 (by decide) ?_
      refine lv_iload hx hb dMR_init_84 (lv_at hl 0 rfl) ?_
      refine lv_iload_n hx hb dMR_init_86 rfl (lv_at hl 4 rfl) ?_
      refine mi_ge (tgt := 117) hx hb dMR_init_87 (by decide) (by omega) (by omega) (fun h28 => absurd h28 (by omega)) (fun h28 => ?_)
      refine lv_aload_n hx hb dMR_init_90 rfl (lv_at hl 1 rfl) ?_
      refine lv_aload_n hx hb dMR_init_91 rfl (lv_at hl 1 rfl) ?_
      refine va_get (D := g.1) (ci := 10) (C := "LatticeKeysModel$Ring") (T := T_MR) (N := 5) hx hb hts (wg_ft i_MR) hown hK hP 0 rfl rfl 4 (by decide) (hts _ (wg_t kw_1366)) (fun _ h9 => h9) rfl dMR_init_92 ?_
      refine lv_iload_n hx hb dMR_init_95 rfl (lv_at hl 2 rfl) ?_
      refine lv_iconst (v := nI 1) hx hb dMR_init_96 (by decide) ?_
      refine mi_iadd hx hb dMR_init_97 ?_
      refine mi_as (show nI (8380417 + 1) = nI 8380418 from rfl) ?_
      refine lv_iconst (v := nI 2) hx hb dMR_init_98 (by decide) ?_
      refine mi_idiv hx hb dMR_init_99 (by omega) (by omega) (by omega) ?_
      refine mi_as (show nI (8380418 / 2) = nI 4190209 from rfl) ?_
      refine lv_i2l (v := 4190209) hx hb dMR_init_100 (by decide) ?_
      refine lv_lmul hx hb dMR_init_101 ?_
      refine ml_any (fun y33 => ?_)
      refine lv_iload_n hx hb dMR_init_102 rfl (lv_at hl 2 rfl) ?_
      refine lv_i2l (v := 8380417) hx hb dMR_init_103 (by decide) ?_
      refine lv_lrem hx hb dMR_init_104 (by decide) ?_
      refine ml_any (fun y34 => ?_)
      refine va_put (D := g.1) (ci := 10) (v := .long y34) (ty := .long) (C := "LatticeKeysModel$Ring") (T := T_MR) (N := 5) hx hb hts (wg_ft i_MR) ty_MR k_MR n_MR hown hK hP hD hS 0 rfl rfl 4 (by decide) (hts _ (wg_t kw_1366)) (fun _ h9 => h9) rfl (by decide +kernel) rfl rfl (Nat.le_of_ble_eq_true rfl) dMR_init_105 (fun H locs hP hD hS => ?_)
      have hP : va_P g.1 vcl ([(h0, .inr (10, [.int (nI 8380417), .int (nI 256), .ref q21, .ref q22, .long y34]))] ++ pl) _ := hP
      have hD : va_D _ ([(h0, .inr (10, [.int (nI 8380417), .int (nI 256), .ref q21, .ref q22, .long y34]))] ++ pl) := hD
      refine lv_iload hx hb dMR_init_108 (lv_at hl 0 rfl) ?_
      refine lv_iconst (v := nI 2) hx hb dMR_init_110 (by decide) ?_
      refine mi_imul hx hb dMR_init_111 ?_
      refine mi_as (show nI (64 * 2) = nI 128 from rfl) ?_
      refine lv_istore (lv' := [(4, .int (nI 128)), (0, .ref h0), (1, .int (nI 8380417)), (2, .int (nI 1753)), (3, .int (nI 256))]) hx hb dMR_init_112 hl (by decide) rfl (fun ls hl => ?_)
      refine lv_goto (tgt := 84) hx hb dMR_init_114 (by decide) ?_
      refine lv_iload hx hb dMR_init_84 (lv_at hl 0 rfl) ?_
      refine lv_iload_n hx hb dMR_init_86 rfl (lv_at hl 4 rfl) ?_
      refine mi_ge (tgt := 117) hx hb dMR_init_87 (by decide) (by omega) (by omega) (fun h29 => absurd h29 (by omega)) (fun h29 => ?_)
      refine lv_aload_n hx hb dMR_init_90 rfl (lv_at hl 1 rfl) ?_
      refine lv_aload_n hx hb dMR_init_91 rfl (lv_at hl 1 rfl) ?_
      refine va_get (D := g.1) (ci := 10) (C := "LatticeKeysModel$Ring") (T := T_MR) (N := 5) hx hb hts (wg_ft i_MR) hown hK hP 0 rfl rfl 4 (by decide) (hts _ (wg_t kw_1366)) (fun _ h9 => h9) rfl dMR_init_92 ?_
      refine lv_iload_n hx hb dMR_init_95 rfl (lv_at hl 2 rfl) ?_
      refine lv_iconst (v := nI 1) hx hb dMR_init_96 (by decide) ?_
      refine mi_iadd hx hb dMR_init_97 ?_
      refine mi_as (show nI (8380417 + 1) = nI 8380418 from rfl) ?_
      refine lv_iconst (v := nI 2) hx hb dMR_init_98 (by decide) ?_
      refine mi_idiv hx hb dMR_init_99 (by omega) (by omega) (by omega) ?_
      refine mi_as (show nI (8380418 / 2) = nI 4190209 from rfl) ?_
      refine lv_i2l (v := 4190209) hx hb dMR_init_100 (by decide) ?_
      refine lv_lmul hx hb dMR_init_101 ?_
      refine ml_any (fun y35 => ?_)
      refine lv_iload_n hx hb dMR_init_102 rfl (lv_at hl 2 rfl) ?_
      refine lv_i2l (v := 8380417) hx hb dMR_init_103 (by decide) ?_
      refine lv_lrem hx hb dMR_init_104 (by decide) ?_
      refine ml_any (fun y36 => ?_)
      refine va_put (D := g.1) (ci := 10) (v := .long y36) (ty := .long) (C := "LatticeKeysModel$Ring") (T := T_MR) (N := 5) hx hb hts (wg_ft i_MR) ty_MR k_MR n_MR hown hK hP hD hS 0 rfl rfl 4 (by decide) (hts _ (wg_t kw_1366)) (fun _ h9 => h9) rfl (by decide +kernel) rfl rfl (Nat.le_of_ble_eq_true rfl) dMR_init_105 (fun H locs hP hD hS => ?_)
      have hP : va_P g.1 vcl ([(h0, .inr (10, [.int (nI 8380417), .int (nI 256), .ref q21, .ref q22, .long y36]))] ++ pl) _ := hP
      have hD : va_D _ ([(h0, .inr (10, [.int (nI 8380417), .int (nI 256), .ref q21, .ref q22, .long y36]))] ++ pl) := hD
      refine lv_iload hx hb dMR_init_108 (lv_at hl 0 rfl) ?_
      refine lv_iconst (v := nI 2) hx hb dMR_init_110 (by decide) ?_
      refine mi_imul hx hb dMR_init_111 ?_
      refine mi_as (show nI (128 * 2) = nI 256 from rfl) ?_
      refine lv_istore (lv' := [(4, .int (nI 256)), (0, .ref h0), (1, .int (nI 8380417)), (2, .int (nI 1753)), (3, .int (nI 256))]) hx hb dMR_init_112 hl (by decide) rfl (fun ls hl => ?_)
      refine lv_goto (tgt := 84) hx hb dMR_init_114 (by decide) ?_
      refine lv_iload hx hb dMR_init_84 (lv_at hl 0 rfl) ?_
      refine lv_iload_n hx hb dMR_init_86 rfl (lv_at hl 4 rfl) ?_
      refine mi_ge (tgt := 117) hx hb dMR_init_87 (by decide) (by omega) (by omega) (fun h30 => ?_) (fun h30 => absurd h30 (by omega))
      refine lv_iconst (v := nI 0) hx hb dMR_init_117 (by decide) ?_
      refine lv_istore (lv' := [(4, .int (nI 0)), (0, .ref h0), (1, .int (nI 8380417)), (2, .int (nI 1753)), (3, .int (nI 256))]) hx hb dMR_init_118 hl (by decide) rfl (fun ls hl => ?_)
      have lp22 : ∀ (n22 : Nat) (i22 : Nat) (pl : va_W) (ls : Array Slot) (H : Heap) (locs : List Loc), n22 + i22 = 256 → lv_has ls 7 [(4, .int (nI i22)), (0, .ref h0), (3, .int (nI 256))] → okx g T [] pl → va_P g.1 vcl ([(h0, .inr (10, [.int (nI 8380417), .int (nI 256), .ref q21, .ref q22, .long y36]))] ++ pl) H → va_D A ([(h0, .inr (10, [.int (nI 8380417), .int (nI 256), .ref q21, .ref q22, .long y36]))] ++ pl) → va_S A s.heap H locs → W p l e ({ frames := 1, cells := 2, slots := 768, locals := 40 } : Room) s m args below meth c H locs 2 768 (MQ below (va_Qv (fun (u : (Ty) × va_W) => (ext T0 u.1 ∧ uni u.1 ∧ u.1 h0 = some (22, 0) ∧ pass T0 u.1 []) ∧ okx g u.1 [] u.2) (po g.1 vcl A (fun (u : (Ty) × va_W) => [] ++ u.2)) A) args s 2 768 A) (F0 m 120 ls []) := by
        intro n22
        induction n22 with
        | zero =>
          intro i22 pl ls H locs hm22  hl hO hP hD hS
          refine lv_iload hx hb dMR_init_120 (lv_at hl 0 rfl) ?_
          refine lv_iload_n hx hb dMR_init_122 rfl (lv_at hl 2 rfl) ?_
          refine mi_ge (tgt := 180) hx hb dMR_init_123 (by decide) (by omega) (by omega) (fun h31 => ?_) (fun h31 => absurd h31 (by omega))
          obtain ⟨hP, hD⟩ := mv_last (X := []) (c := (h0, .inr (10, [.int (nI 8380417), .int (nI 256), .ref q21, .ref q22, .long y36]))) hP hD
          obtain ⟨T, pl, hxt23, hU, kr23, hO, hP, hD, hnk23⟩ := absorb (X := []) (22, 0) hP hD hO hU (Or.inl rfl) (fun T9 h9 _ => ⟨_, rfl, rfl, rfl, ⟨_, rfl, h9 _ _ kr21⟩, ⟨_, rfl, h9 _ _ kr22⟩, ⟨_, rfl⟩, trivial⟩)
          have kr21 := hxt23 _ _ kr21
          have kr22 := hxt23 _ _ kr22
          have hXT := ext_tr hXT hxt23
          have hP : va_P g.1 vcl ([] ++ pl) _ := hP
          have hD : va_D _ ([] ++ pl) := hD
          have hPS := pass_one hPS hnk23 (Or.inl rfl)
          exact mp_vret hx hb hr hlk hP hD hS (T, pl) ⟨⟨hXT, hU, kr23, hPS⟩, hO⟩ [] rfl rfl rfl (by omega) (by omega) dMR_init_180
        | succ n22 ih22 =>
          intro i22 pl ls H locs hm22  hl hO hP hD hS
          refine lv_iload hx hb dMR_init_120 (lv_at hl 0 rfl) ?_
          refine lv_iload_n hx hb dMR_init_122 rfl (lv_at hl 2 rfl) ?_
          refine mi_ge (tgt := 180) hx hb dMR_init_123 (by decide) (by omega) (by omega) (fun h32 => absurd h32 (by omega)) (fun h32 => ?_)
          refine lv_iconst (v := nI 0) hx hb dMR_init_126 (by decide) ?_
          refine lv_istore (lv' := [(5, .int (nI 0)), (4, .int (nI i22)), (0, .ref h0), (3, .int (nI 256))]) hx hb dMR_init_127 hl (by decide) rfl (fun ls hl => ?_)
          refine lv_iconst (v := nI 1) hx hb dMR_init_129 (by decide) ?_
          refine lv_istore (lv' := [(6, .int (nI 1)), (5, .int (nI 0)), (4, .int (nI i22)), (0, .ref h0), (3, .int (nI 256))]) hx hb dMR_init_130 hl (by decide) rfl (fun ls hl => ?_)
          refine lv_iload hx hb dMR_init_132 (lv_at hl 0 rfl) ?_
          refine lv_iload_n hx hb dMR_init_134 rfl (lv_at hl 4 rfl) ?_
          refine mi_ge (tgt := 161) hx hb dMR_init_135 (by decide) (by omega) (by omega) (fun h33 => absurd h33 (by omega)) (fun h33 => ?_)
          refine lv_iconst (v := nI 2) hx hb dMR_init_138 (by decide) ?_
          refine lv_iload hx hb dMR_init_139 (lv_at hl 1 rfl) ?_
          refine mi_imul hx hb dMR_init_141 ?_
          refine mi_as (show nI (2 * 0) = nI 0 from rfl) ?_
          refine lv_iload hx hb dMR_init_142 (lv_at hl 2 rfl) ?_
          refine lv_iload hx hb dMR_init_144 (lv_at hl 0 rfl) ?_
          refine mi_idiv hx hb dMR_init_146 (by omega) (by omega) (by omega) ?_
          refine lv_iconst (v := nI 1) hx hb dMR_init_147 (by decide) ?_
          refine mi_iand hx hb 1 dMR_init_148 (by decide) (fun z21 hz21 => ?_)
          have hz21 : z21 < 2 := hz21
          refine mi_iadd hx hb dMR_init_149 ?_
          refine lv_istore (lv' := [(5, .int (nI (0 + z21))), (6, .int (nI 1)), (4, .int (nI i22)), (0, .ref h0), (3, .int (nI 256))]) hx hb dMR_init_150 hl (by decide) rfl (fun ls hl => ?_)
          refine lv_iload hx hb dMR_init_152 (lv_at hl 1 rfl) ?_
          refine lv_iconst (v := nI 2) hx hb dMR_init_154 (by decide) ?_
          refine mi_imul hx hb dMR_init_155 ?_
          refine mi_as (show nI (1 * 2) = nI 2 from rfl) ?_
          refine lv_istore (lv' := [(6, .int (nI 2)), (5, .int (nI (0 + z21))), (4, .int (nI i22)), (0, .ref h0), (3, .int (nI 256))]) hx hb dMR_init_156 hl (by decide) rfl (fun ls hl => ?_)
          refine lv_goto (tgt := 132) hx hb dMR_init_158 (by decide) ?_
          refine lv_iload hx hb dMR_init_132 (lv_at hl 0 rfl) ?_
          refine lv_iload_n hx hb dMR_init_134 rfl (lv_at hl 4 rfl) ?_
          refine mi_ge (tgt := 161) hx hb dMR_init_135 (by decide) (by omega) (by omega) (fun h34 => absurd h34 (by omega)) (fun h34 => ?_)
          refine lv_iconst (v := nI 2) hx hb dMR_init_138 (by decide) ?_
          refine lv_iload hx hb dMR_init_139 (lv_at hl 1 rfl) ?_
          refine mi_imul hx hb dMR_init_141 ?_
          refine lv_iload hx hb dMR_init_142 (lv_at hl 2 rfl) ?_
          refine lv_iload hx hb dMR_init_144 (lv_at hl 0 rfl) ?_
          refine mi_idiv hx hb dMR_init_146 (by omega) (by omega) (by omega) ?_
          refine lv_iconst (v := nI 1) hx hb dMR_init_147 (by decide) ?_
          refine mi_iand hx hb 1 dMR_init_148 (by decide) (fun z22 hz22 => ?_)
          have hz22 : z22 < 2 := hz22
          refine mi_iadd hx hb dMR_init_149 ?_
          refine lv_istore (lv' := [(5, .int (nI ((2 * (0 + z21)) + z22))), (6, .int (nI 2)), (4, .int (nI i22)), (0, .ref h0), (3, .int (nI 256))]) hx hb dMR_init_150 hl (by decide) rfl (fun ls hl => ?_)
          refine lv_iload hx hb dMR_init_152 (lv_at hl 1 rfl) ?_
          refine lv_iconst (v := nI 2) hx hb dMR_init_154 (by decide) ?_
          refine mi_imul hx hb dMR_init_155 ?_
          refine mi_as (show nI (2 * 2) = nI 4 from rfl) ?_
          refine lv_istore (lv' := [(6, .int (nI 4)), (5, .int (nI ((2 * (0 + z21)) + z22))), (4, .int (nI i22)), (0, .ref h0), (3, .int (nI 256))]) hx hb dMR_init_156 hl (by decide) rfl (fun ls hl => ?_)
          refine lv_goto (tgt := 132) hx hb dMR_init_158 (by decide) ?_
          refine lv_iload hx hb dMR_init_132 (lv_at hl 0 rfl) ?_
          refine lv_iload_n hx hb dMR_init_134 rfl (lv_at hl 4 rfl) ?_
          refine mi_ge (tgt := 161) hx hb dMR_init_135 (by decide) (by omega) (by omega) (fun h35 => absurd h35 (by omega)) (fun h35 => ?_)
          refine lv_iconst (v := nI 2) hx hb dMR_init_138 (by decide) ?_
          refine lv_iload hx hb dMR_init_139 (lv_at hl 1 rfl) ?_
          refine mi_imul hx hb dMR_init_141 ?_
          refine lv_iload hx hb dMR_init_142 (lv_at hl 2 rfl) ?_
          refine lv_iload hx hb dMR_init_144 (lv_at hl 0 rfl) ?_
          refine mi_idiv hx hb dMR_init_146 (by omega) (by omega) (by omega) ?_
          refine lv_iconst (v := nI 1) hx hb dMR_init_147 (by decide) ?_
          refine mi_iand hx hb 1 dMR_init_148 (by decide) (fun z23 hz23 => ?_)
          have hz23 : z23 < 2 := hz23
          refine mi_iadd hx hb dMR_init_149 ?_
          refine lv_istore (lv' := [(5, .int (nI ((2 * ((2 * (0 + z21)) + z22)) + z23))), (6, .int (nI 4)), (4, .int (nI i22)), (0, .ref h0), (3, .int (nI 256))]) hx hb dMR_init_150 hl (by decide) rfl (fun ls hl => ?_)
          refine lv_iload hx hb dMR_init_152 (lv_at hl 1 rfl) ?_
          refine lv_iconst (v := nI 2) hx hb dMR_init_154 (by decide) ?_
          refine mi_imul hx hb dMR_init_155 ?_
          refine mi_as (show nI (4 * 2) = nI 8 from rfl) ?_
          refine lv_istore (lv' := [(6, .int (nI 8)), (5, .int (nI ((2 * ((2 * (0 + z21)) + z22)) + z23))), (4, .int (nI i22)), (0, .ref h0), (3, .int (nI 256))]) hx hb dMR_init_156 hl (by decide) rfl (fun ls hl => ?_)
          refine lv_goto (tgt := 132) hx hb dMR_init_158 (by decide) ?_
          refine lv_iload hx hb dMR_init_132 (lv_at hl 0 rfl) ?_
          refine lv_iload_n hx hb dMR_init_134 rfl (lv_at hl 4 rfl) ?_
          refine mi_ge (tgt := 161) hx hb dMR_init_135 (by decide) (by omega) (by omega) (fun h36 => absurd h36 (by omega)) (fun h36 => ?_)
          refine lv_iconst (v := nI 2) hx hb dMR_init_138 (by decide) ?_
          refine lv_iload hx hb dMR_init_139 (lv_at hl 1 rfl) ?_
          refine mi_imul hx hb dMR_init_141 ?_
          refine lv_iload hx hb dMR_init_142 (lv_at hl 2 rfl) ?_
          refine lv_iload hx hb dMR_init_144 (lv_at hl 0 rfl) ?_
          refine mi_idiv hx hb dMR_init_146 (by omega) (by omega) (by omega) ?_
          refine lv_iconst (v := nI 1) hx hb dMR_init_147 (by decide) ?_
          refine mi_iand hx hb 1 dMR_init_148 (by decide) (fun z24 hz24 => ?_)
          have hz24 : z24 < 2 := hz24
          refine mi_iadd hx hb dMR_init_149 ?_
          refine lv_istore (lv' := [(5, .int (nI ((2 * ((2 * ((2 * (0 + z21)) + z22)) + z23)) + z24))), (6, .int (nI 8)), (4, .int (nI i22)), (0, .ref h0), (3, .int (nI 256))]) hx hb dMR_init_150 hl (by decide) rfl (fun ls hl => ?_)
          refine lv_iload hx hb dMR_init_152 (lv_at hl 1 rfl) ?_
          refine lv_iconst (v := nI 2) hx hb dMR_init_154 (by decide) ?_
          refine mi_imul hx hb dMR_init_155 ?_
          refine mi_as (show nI (8 * 2) = nI 16 from rfl) ?_
          refine lv_istore (lv' := [(6, .int (nI 16)), (5, .int (nI ((2 * ((2 * ((2 * (0 + z21)) + z22)) + z23)) + z24))), (4, .int (nI i22)), (0, .ref h0), (3, .int (nI 256))]) hx hb dMR_init_156 hl (by decide) rfl (fun ls hl => ?_)
          refine lv_goto (tgt := 132) hx hb dMR_init_158 (by decide) ?_
          refine lv_iload hx hb dMR_init_132 (lv_at hl 0 rfl) ?_
          refine lv_iload_n hx hb dMR_init_134 rfl (lv_at hl 4 rfl) ?_
          refine mi_ge (tgt := 161) hx hb dMR_init_135 (by decide) (by omega) (by omega) (fun h37 => absurd h37 (by omega)) (fun h37 => ?_)
          refine lv_iconst (v := nI 2) hx hb dMR_init_138 (by decide) ?_
          refine lv_iload hx hb dMR_init_139 (lv_at hl 1 rfl) ?_
          refine mi_imul hx hb dMR_init_141 ?_
          refine lv_iload hx hb dMR_init_142 (lv_at hl 2 rfl) ?_
          refine lv_iload hx hb dMR_init_144 (lv_at hl 0 rfl) ?_
          refine mi_idiv hx hb dMR_init_146 (by omega) (by omega) (by omega) ?_
          refine lv_iconst (v := nI 1) hx hb dMR_init_147 (by decide) ?_
          refine mi_iand hx hb 1 dMR_init_148 (by decide) (fun z25 hz25 => ?_)
          have hz25 : z25 < 2 := hz25
          refine mi_iadd hx hb dMR_init_149 ?_
          refine lv_istore (lv' := [(5, .int (nI ((2 * ((2 * ((2 * ((2 * (0 + z21)) + z22)) + z23)) + z24)) + z25))), (6, .int (nI 16)), (4, .int (nI i22)), (0, .ref h0), (3, .int (nI 256))]) hx hb dMR_init_150 hl (by decide) rfl (fun ls hl => ?_)
          refine lv_iload hx hb dMR_init_152 (lv_at hl 1 rfl) ?_
          refine lv_iconst (v := nI 2) hx hb dMR_init_154 (by decide) ?_
          refine mi_imul hx hb dMR_init_155 ?_
          refine mi_as (show nI (16 * 2) = nI 32 from rfl) ?_
          refine lv_istore (lv' := [(6, .int (nI 32)), (5, .int (nI ((2 * ((2 * ((2 * ((2 * (0 + z21)) + z22)) + z23)) + z24)) + z25))), (4, .int (nI i22)), (0, .ref h0), (3, .int (nI 256))]) hx hb dMR_init_156 hl (by decide) rfl (fun ls hl => ?_)
          refine lv_goto (tgt := 132) hx hb dMR_init_158 (by decide) ?_
          refine lv_iload hx hb dMR_init_132 (lv_at hl 0 rfl) ?_
          refine lv_iload_n hx hb dMR_init_134 rfl (lv_at hl 4 rfl) ?_
          refine mi_ge (tgt := 161) hx hb dMR_init_135 (by decide) (by omega) (by omega) (fun h38 => absurd h38 (by omega)) (fun h38 => ?_)
          refine lv_iconst (v := nI 2) hx hb dMR_init_138 (by decide) ?_
          refine lv_iload hx hb dMR_init_139 (lv_at hl 1 rfl) ?_
          refine mi_imul hx hb dMR_init_141 ?_
          refine lv_iload hx hb dMR_init_142 (lv_at hl 2 rfl) ?_
          refine lv_iload hx hb dMR_init_144 (lv_at hl 0 rfl) ?_
          refine mi_idiv hx hb dMR_init_146 (by omega) (by omega) (by omega) ?_
          refine lv_iconst (v := nI 1) hx hb dMR_init_147 (by decide) ?_
          refine mi_iand hx hb 1 dMR_init_148 (by decide) (fun z26 hz26 => ?_)
          have hz26 : z26 < 2 := hz26
          refine mi_iadd hx hb dMR_init_149 ?_
          refine lv_istore (lv' := [(5, .int (nI ((2 * ((2 * ((2 * ((2 * ((2 * (0 + z21)) + z22)) + z23)) + z24)) + z25)) + z26))), (6, .int (nI 32)), (4, .int (nI i22)), (0, .ref h0), (3, .int (nI 256))]) hx hb dMR_init_150 hl (by decide) rfl (fun ls hl => ?_)
          refine lv_iload hx hb dMR_init_152 (lv_at hl 1 rfl) ?_
          refine lv_iconst (v := nI 2) hx hb dMR_init_154 (by decide) ?_
          refine mi_imul hx hb dMR_init_155 ?_
          refine mi_as (show nI (32 * 2) = nI 64 from rfl) ?_
          refine lv_istore (lv' := [(6, .int (nI 64)), (5, .int (nI ((2 * ((2 * ((2 * ((2 * ((2 * (0 + z21)) + z22)) + z23)) + z24)) + z25)) + z26))), (4, .int (nI i22)), (0, .ref h0), (3, .int (nI 256))]) hx hb dMR_init_156 hl (by decide) rfl (fun ls hl => ?_)
          refine lv_goto (tgt := 132) hx hb dMR_init_158 (by decide) ?_
          refine lv_iload hx hb dMR_init_132 (lv_at hl 0 rfl) ?_
          refine lv_iload_n hx hb dMR_init_134 rfl (lv_at hl 4 rfl) ?_
          refine mi_ge (tgt := 161) hx hb dMR_init_135 (by decide) (by omega) (by omega) (fun h39 => absurd h39 (by omega)) (fun h39 => ?_)
          refine lv_iconst (v := nI 2) hx hb dMR_init_138 (by decide) ?_
          refine lv_iload hx hb dMR_init_139 (lv_at hl 1 rfl) ?_
          refine mi_imul hx hb dMR_init_141 ?_
          refine lv_iload hx hb dMR_init_142 (lv_at hl 2 rfl) ?_
          refine lv_iload hx hb dMR_init_144 (lv_at hl 0 rfl) ?_
          refine mi_idiv hx hb dMR_init_146 (by omega) (by omega) (by omega) ?_
          refine lv_iconst (v := nI 1) hx hb dMR_init_147 (by decide) ?_
          refine mi_iand hx hb 1 dMR_init_148 (by decide) (fun z27 hz27 => ?_)
          have hz27 : z27 < 2 := hz27
          refine mi_iadd hx hb dMR_init_149 ?_
          refine lv_istore (lv' := [(5, .int (nI ((2 * ((2 * ((2 * ((2 * ((2 * ((2 * (0 + z21)) + z22)) + z23)) + z24)) + z25)) + z26)) + z27))), (6, .int (nI 64)), (4, .int (nI i22)), (0, .ref h0), (3, .int (nI 256))]) hx hb dMR_init_150 hl (by decide) rfl (fun ls hl => ?_)
          refine lv_iload hx hb dMR_init_152 (lv_at hl 1 rfl) ?_
          refine lv_iconst (v := nI 2) hx hb dMR_init_154 (by decide) ?_
          refine mi_imul hx hb dMR_init_155 ?_
          refine mi_as (show nI (64 * 2) = nI 128 from rfl) ?_
          refine lv_istore (lv' := [(6, .int (nI 128)), (5, .int (nI ((2 * ((2 * ((2 * ((2 * ((2 * ((2 * (0 + z21)) + z22)) + z23)) + z24)) + z25)) + z26)) + z27))), (4, .int (nI i22)), (0, .ref h0), (3, .int (nI 256))]) hx hb dMR_init_156 hl (by decide) rfl (fun ls hl => ?_)
          refine lv_goto (tgt := 132) hx hb dMR_init_158 (by decide) ?_
          refine lv_iload hx hb dMR_init_132 (lv_at hl 0 rfl) ?_
          refine lv_iload_n hx hb dMR_init_134 rfl (lv_at hl 4 rfl) ?_
          refine mi_ge (tgt := 161) hx hb dMR_init_135 (by decide) (by omega) (by omega) (fun h40 => absurd h40 (by omega)) (fun h40 => ?_)
          refine lv_iconst (v := nI 2) hx hb dMR_init_138 (by decide) ?_
          refine lv_iload hx hb dMR_init_139 (lv_at hl 1 rfl) ?_
          refine mi_imul hx hb dMR_init_141 ?_
          refine lv_iload hx hb dMR_init_142 (lv_at hl 2 rfl) ?_
          refine lv_iload hx hb dMR_init_144 (lv_at hl 0 rfl) ?_
          refine mi_idiv hx hb dMR_init_146 (by omega) (by omega) (by omega) ?_
          refine lv_iconst (v := nI 1) hx hb dMR_init_147 (by decide) ?_
          refine mi_iand hx hb 1 dMR_init_148 (by decide) (fun z28 hz28 => ?_)
          have hz28 : z28 < 2 := hz28
          refine mi_iadd hx hb dMR_init_149 ?_
          refine lv_istore (lv' := [(5, .int (nI ((2 * ((2 * ((2 * ((2 * ((2 * ((2 * ((2 * (0 + z21)) + z22)) + z23)) + z24)) + z25)) + z26)) + z27)) + z28))), (6, .int (nI 128)), (4, .int (nI i22)), (0, .ref h0), (3, .int (nI 256))]) hx hb dMR_init_150 hl (by decide) rfl (fun ls hl => ?_)
          refine lv_iload hx hb dMR_init_152 (lv_at hl 1 rfl) ?_
          refine lv_iconst (v := nI 2) hx hb dMR_init_154 (by decide) ?_
          refine mi_imul hx hb dMR_init_155 ?_
          refine mi_as (show nI (128 * 2) = nI 256 from rfl) ?_
          refine lv_istore (lv' := [(6, .int (nI 256)), (5, .int (nI ((2 * ((2 * ((2 * ((2 * ((2 * ((2 * ((2 * (0 + z21)) + z22)) + z23)) + z24)) + z25)) + z26)) + z27)) + z28))), (4, .int (nI i22)), (0, .ref h0), (3, .int (nI 256))]) hx hb dMR_init_156 hl (by decide) rfl (fun ls hl => ?_)
          refine lv_goto (tgt := 132) hx hb dMR_init_158 (by decide) ?_
          refine lv_iload hx hb dMR_init_132 (lv_at hl 0 rfl) ?_
          refine lv_iload_n hx hb dMR_init_134 rfl (lv_at hl 4 rfl) ?_
          refine mi_ge (tgt := 161) hx hb dMR_init_135 (by decide) (by omega) (by omega) (fun h41 => ?_) (fun h41 => absurd h41 (by omega))
          refine lv_aload_n hx hb dMR_init_161 rfl (lv_at hl 3 rfl) ?_
          refine va_get (D := g.1) (ci := 10) (C := "LatticeKeysModel$Ring") (T := T_MR) (N := 5) hx hb hts (wg_ft i_MR) hown hK hP 0 rfl rfl 3 (by decide) (hts _ (wg_t kw_1365)) (fun _ h9 => h9) rfl dMR_init_162 ?_
          refine lv_iload hx hb dMR_init_165 (lv_at hl 2 rfl) ?_
          refine lv_iconst (v := nI 2) hx hb dMR_init_167 (by decide) ?_
          refine lv_iload hx hb dMR_init_168 (lv_at hl 1 rfl) ?_
          refine mi_imul hx hb dMR_init_170 ?_
          refine lv_iconst (v := nI 1) hx hb dMR_init_171 (by decide) ?_
          refine mi_iadd hx hb dMR_init_172 ?_
          refine ty_iast9 hx hb hK hO kr22 (nxg clo_nil kr22 rfl) hP hD hS (by omega) (by decide) (by omega) dMR_init_173 (fun pl H locs hO hP hD hS => ?_)
          refine mi_iinc (k := 2) (x := i22) (d := 1) (y := i22 + 1) (lv' := [(4, .int (nI (i22 + 1))), (6, .int (nI 256)), (5, .int (nI ((2 * ((2 * ((2 * ((2 * ((2 * ((2 * ((2 * (0 + z21)) + z22)) + z23)) + z24)) + z25)) + z26)) + z27)) + z28))), (0, .ref h0), (3, .int (nI 256))]) hx hb dMR_init_174 hl rfl (by decide) rfl (by decide) rfl (fun ls hl => ?_)
          refine lv_goto (tgt := 120) hx hb dMR_init_177 (by decide) ?_
          exact ih22 (i22 + 1) pl ls H locs (by omega) (lv_sub hl [0, 3, 4] rfl) hO hP hD hS
      exact lp22 256 0 pl ls _ _ (by omega) (lv_sub hl [0, 1, 4] rfl) hO hP hD hS
    | succ n21 ih21 =>
      intro i21 pl ls H locs hm21 hi21 hl hO hP hD hS
      refine lv_iload hx hb dMR_init_45 (lv_at hl 0 rfl) ?_
      refine lv_iconst (v := nI 2) hx hb dMR_init_47 (by decide) ?_
      refine lv_iload_n hx hb dMR_init_48 rfl (lv_at hl 4 rfl) ?_
      refine mi_imul hx hb dMR_init_49 ?_
      refine mi_as (show nI (2 * 256) = nI 512 from rfl) ?_
      refine mi_ge (tgt := 81) hx hb dMR_init_50 (by decide) (by omega) (by omega) (fun h42 => absurd h42 (by omega)) (fun h42 => ?_)
      refine lv_aload_n hx hb dMR_init_53 rfl (lv_at hl 1 rfl) ?_
      refine va_get (D := g.1) (ci := 10) (C := "LatticeKeysModel$Ring") (T := T_MR) (N := 5) hx hb hts (wg_ft i_MR) hown hK hP 0 rfl rfl 2 (by decide) (hts _ (wg_t kw_1364)) (fun _ h9 => h9) rfl dMR_init_54 ?_
      refine lv_iload hx hb dMR_init_57 (lv_at hl 0 rfl) ?_
      refine lv_aload_n hx hb dMR_init_59 rfl (lv_at hl 1 rfl) ?_
      refine va_get (D := g.1) (ci := 10) (C := "LatticeKeysModel$Ring") (T := T_MR) (N := 5) hx hb hts (wg_ft i_MR) hown hK hP 0 rfl rfl 2 (by decide) (hts _ (wg_t kw_1364)) (fun _ h9 => h9) rfl dMR_init_60 ?_
      refine lv_iload hx hb dMR_init_63 (lv_at hl 0 rfl) ?_
      refine lv_iconst (v := nI 1) hx hb dMR_init_65 (by decide) ?_
      refine mi_isub hx hb dMR_init_66 (by omega) ?_
      refine ty_lald hx hb hK hO kr21 (nxg clo_nil kr21 rfl) hP (vp_in_nI (by omega) (by decide)) dMR_init_67 (fun y37 => ?_)
      refine lv_iload_n hx hb dMR_init_68 rfl (lv_at hl 3 rfl) ?_
      refine lv_i2l (v := 1753) hx hb dMR_init_69 (by decide) ?_
      refine lv_lmul hx hb dMR_init_70 ?_
      refine ml_any (fun y38 => ?_)
      refine lv_iload_n hx hb dMR_init_71 rfl (lv_at hl 2 rfl) ?_
      refine lv_i2l (v := 8380417) hx hb dMR_init_72 (by decide) ?_
      refine lv_lrem hx hb dMR_init_73 (by decide) ?_
      refine ml_any (fun y39 => ?_)
      refine ty_last hx hb hK hO kr21 (nxg clo_nil kr21 rfl) hP hD hS (vp_in_nI (by omega) (by decide)) dMR_init_74 (fun pl H locs hO hP hD hS => ?_)
      refine mi_iinc (k := 0) (x := i21) (d := 1) (y := i21 + 1) (lv' := [(4, .int (nI (i21 + 1))), (0, .ref h0), (1, .int (nI 8380417)), (2, .int (nI 1753)), (3, .int (nI 256))]) hx hb dMR_init_75 hl rfl (by decide) rfl (by decide) rfl (fun ls hl => ?_)
      refine lv_goto (tgt := 45) hx hb dMR_init_78 (by decide) ?_
      exact ih21 (i21 + 1) pl ls H locs (by omega) (by omega) (lv_sub hl [0, 1, 2, 3, 4] rfl) hO hP hD hS
  exact lp21 (512 - 1) 1 pl ls _ _ (by omega) (by omega) (lv_sub hl [0, 1, 2, 3, 4] rfl) hO hP hD hS
set_option maxHeartbeats 4000000 in
set_option maxRecDepth 100000 in
theorem t_ME_init (l : Launch) (g : Gd) (sz : Nat) (T0 : Ty) (pl : va_W) (hO : okx g T0 [] pl) (hU : uni T0) (sp : Nat) (h0 : Nat) (k_sp : T0 sp = some (20, 0))  : Met l y_ME_init w_ME_init ({ frames := 2, cells := 43, slots := 10241, locals := 66 } : Room) (va_Pc [.ref h0, .ref sp] (pr (en g) g.1 vcl sz ([(h0, .inr (11, [.null, .null, .null, .null, .null, .null, .null, .null, .null, .null, .null, .null, .null, .null]))] ++ pl))) (va_Qv (fun (u : (Ty) × va_W) => (ext T0 u.1 ∧ uni u.1 ∧ u.1 h0 = some (23, 0) ∧ pass T0 u.1 []) ∧ okx g u.1 [] u.2) (po g.1 vcl (va_A ([(h0, .inr (11, [.null, .null, .null, .null, .null, .null, .null, .null, .null, .null, .null, .null, .null, .null]))] ++ pl) sz) (fun (u : (Ty) × va_W) => [] ++ u.2)) (va_A ([(h0, .inr (11, [.null, .null, .null, .null, .null, .null, .null, .null, .null, .null, .null, .null, .null, .null]))] ++ pl) sz)) 43 10241 (va_A ([(h0, .inr (11, [.null, .null, .null, .null, .null, .null, .null, .null, .null, .null, .null, .null, .null, .null]))] ++ pl) sz) := by
  refine mc_entry (cc := c_ME_init) (maxL := 2) (ret := none) (by decide) rfl (Nat.le_of_ble_eq_true rfl) ?_
  intro p e s m args below meth c ls F hr hlk hnm hsz hP hD hE hA hl
  obtain ⟨hx, hb, hml, hown, hts⟩ := id F
  have hK := hE.1
  generalize va_A ([(h0, .inr (11, [.null, .null, .null, .null, .null, .null, .null, .null, .null, .null, .null, .null, .null, .null]))] ++ pl) sz = A at hD hE hA ⊢
  obtain ⟨T, hXT, hPS, hO, hU, k_sp⟩ : ∃ T, ext T0 T ∧ pass T0 T [] ∧ okx g T [] pl ∧ uni T ∧ T sp = some (20, 0) := ⟨T0, ext_rf, pass_rf, hO, hU, k_sp⟩
  have hS : va_S A s.heap s.heap [] := va_S.rf
  have hl : lv_has ls 2 [(0, .ref h0), (1, .ref sp)] := hl
  refine lv_aload_n hx hb dME_init_0 rfl (lv_at hl 0 rfl) ?_
  refine W.objInit hx hb hown (hts _ (wg_t kw_1355)) (hts _ (wg_t kw_41)) (hts _ (wg_t kobj)) rfl (by rw [hml]; exact hl.1) rfl dME_init_1 (Nat.le_of_ble_eq_true rfl) (Nat.le_of_ble_eq_true rfl) ?_
  refine W.eq (g2 := F0 m 4 ls []) rfl ?_
  refine lv_aload_n hx hb dME_init_4 rfl (lv_at hl 0 rfl) ?_
  refine va_new (ws := [(h0, .inr (11, [.null, .null, .null, .null, .null, .null, .null, .null, .null, .null, .null, .null, .null, .null]))] ++ pl) (ci := 10) (fs := [.int 0, .int 0, .null, .null, .long 0]) (C := "LatticeKeysModel$Ring") (T := T_MR) (N := 5) hx hb hts (wg_ft i_MR) ty_MR k_MR hown (hts _ (wg_t kw_1356)) (hts _ (wg_t kw_1357)) (hts _ (wg_t kw_12)) hK hP hD hS hA rfl z_MR (Nat.le_of_ble_eq_true rfl) (Nat.le_of_ble_eq_true rfl) dME_init_5 (fun q21 H hP hD hS => ?_)
  obtain ⟨hP, hD⟩ := mv_first hP hD
  have hP : va_P g.1 vcl ([(h0, .inr (11, [.null, .null, .null, .null, .null, .null, .null, .null, .null, .null, .null, .null, .null, .null])), (q21, .inr (10, [.int 0, .int 0, .null, .null, .long 0]))] ++ pl) _ := hP
  have hD : va_D _ ([(h0, .inr (11, [.null, .null, .null, .null, .null, .null, .null, .null, .null, .null, .null, .null, .null, .null])), (q21, .inr (10, [.int 0, .int 0, .null, .null, .long 0]))] ++ pl) := hD
  refine W.widen (k := 1) (n := 5) (by omega) (by omega) ?_
  refine lv_dup hx hb dME_init_8 rfl ?_
  refine lv_sipush (v := nI 3329) hx hb dME_init_9 (by decide) ?_
  refine lv_bipush (v := nI 17) hx hb dME_init_12 (by decide) ?_
  refine lv_sipush (v := nI 128) hx hb dME_init_14 (by decide) ?_
  refine mp_v (cx := [(q21, .inr (10, [.int 0, .int 0, .null, .null, .long 0]))]) (wr := [(h0, .inr (11, [.null, .null, .null, .null, .null, .null, .null, .null, .null, .null, .null, .null, .null, .null]))]) hP hD hS hA [1] [0] rfl rfl rfl (by decide) (va_runI (As := [.int (nI 3329), .int (nI 17), .int (nI 128)]) (rest := [.ref q21, .ref h0]) F (t_MR_init_21 l g _ T  pl hO hU  q21) (cwI 3 hts (wg_in kw_1360) rfl rfl rfl (hts _ (wg_t kw_12)) (hts _ (wg_t kw_1358)) (hts _ (wg_t kw_1359)) rfl (by decide +kernel) ⟨by decide, by decide⟩) (pp_S (en_ok g) hP hD hS hA hE [1] rfl rfl) rfl rfl hl.1 rfl (lv_room (Nat.le_of_ble_eq_true rfl)) dME_init_17 ⟨Nat.le_of_ble_eq_true rfl, Nat.le_of_ble_eq_true rfl⟩) (fun  u21 H locs hu21 hP hD hS => ?_)
  obtain ⟨T, pl⟩ := u21
  obtain ⟨hq21, hO⟩ := hu21
  have hP : va_P g.1 vcl ([(h0, .inr (11, [.null, .null, .null, .null, .null, .null, .null, .null, .null, .null, .null, .null, .null, .null]))] ++ pl) _ := hP
  have hD : va_D _ ([(h0, .inr (11, [.null, .null, .null, .null, .null, .null, .null, .null, .null, .null, .null, .null, .null, .null]))] ++ pl) := hD
  obtain ⟨hxt21, hU, kr21, hps21⟩ := hq21
  have k_sp := hxt21 _ _ k_sp
  have hXT := ext_tr hXT hxt21
  have hPS := pass_tr hPS hps21 (by decide)
  refine W.widen (k := 3) (n := 389) (by omega) (by omega) ?_
  refine va_putF (D := g.1) (ci := 11) (v := .ref q21) (ty := .object "LatticeKeysModel$Ring") (C := "LatticeKeysModel$Secrets") (T := T_ME) (N := 14) hx hb hts (wg_ft i_ME) ty_ME k_ME n_ME hown hK hP hD hS 0 rfl rfl 1 (by decide) (hts _ (wg_t kw_1380)) (fun _ h9 => h9) rfl hnm rfl (by decide +kernel) rfl rfl (Nat.le_of_ble_eq_true rfl) dME_init_20 (fun H locs hP hD hS => ?_)
  have hP : va_P g.1 vcl ([(h0, .inr (11, [.null, .ref q21, .null, .null, .null, .null, .null, .null, .null, .null, .null, .null, .null, .null]))] ++ pl) _ := hP
  have hD : va_D _ ([(h0, .inr (11, [.null, .ref q21, .null, .null, .null, .null, .null, .null, .null, .null, .null, .null, .null, .null]))] ++ pl) := hD
  refine lv_aload_n hx hb dME_init_23 rfl (lv_at hl 0 rfl) ?_
  refine lv_bipush (v := nI 16) hx hb dME_init_24 (by decide) ?_
  refine lv_sipush (v := nI 256) hx hb dME_init_26 (by decide) ?_
  refine ty_mnai (X := [(h0, .inr (11, [.null, .ref q21, .null, .null, .null, .null, .null, .null, .null, .null, .null, .null, .null, .null]))]) hx hb hown (hts _ (wg_t kw_1378)) hE.2.2.2.2.2.1 (hts _ (wg_t kw_104)) hK hP hD hS hA hO hU (by decide) (Nat.le_of_ble_eq_true rfl) (Nat.le_of_ble_eq_true rfl) dME_init_29 (fun q22 T pl H hxt22 hU kr22 hO hP hD hS hnk21 => ?_)
  have k_sp := hxt22 _ _ k_sp
  have kr21 := hxt22 _ _ kr21
  have hXT := ext_tr hXT hxt22
  have hPS := pass_many hPS hnk21
  have hP : va_P g.1 vcl ([(h0, .inr (11, [.null, .ref q21, .null, .null, .null, .null, .null, .null, .null, .null, .null, .null, .null, .null]))] ++ pl) _ := hP
  have hD : va_D _ ([(h0, .inr (11, [.null, .ref q21, .null, .null, .null, .null, .null, .null, .null, .null, .null, .null, .null, .null]))] ++ pl) := hD
  refine W.widen (k := 20) (n := 4501) (by omega) (by omega) ?_
  refine va_putF (D := g.1) (ci := 11) (v := .ref q22) (ty := .array (.array .int)) (C := "LatticeKeysModel$Secrets") (T := T_ME) (N := 14) hx hb hts (wg_ft i_ME) ty_ME k_ME n_ME hown hK hP hD hS 0 rfl rfl 2 (by decide) (hts _ (wg_t kw_1381)) (fun _ h9 => h9) rfl hnm rfl (by decide +kernel) rfl rfl (Nat.le_of_ble_eq_true rfl) dME_init_33 (fun H locs hP hD hS => ?_)
  have hP : va_P g.1 vcl ([(h0, .inr (11, [.null, .ref q21, .ref q22, .null, .null, .null, .null, .null, .null, .null, .null, .null, .null, .null]))] ++ pl) _ := hP
  have hD : va_D _ ([(h0, .inr (11, [.null, .ref q21, .ref q22, .null, .null, .null, .null, .null, .null, .null, .null, .null, .null, .null]))] ++ pl) := hD
  refine lv_aload_n hx hb dME_init_36 rfl (lv_at hl 0 rfl) ?_
  refine lv_iconst (v := nI 4) hx hb dME_init_37 (by decide) ?_
  refine lv_sipush (v := nI 256) hx hb dME_init_38 (by decide) ?_
  refine ty_mnai (X := [(h0, .inr (11, [.null, .ref q21, .ref q22, .null, .null, .null, .null, .null, .null, .null, .null, .null, .null, .null]))]) hx hb hown (hts _ (wg_t kw_1378)) hE.2.2.2.2.2.1 (hts _ (wg_t kw_104)) hK hP hD hS hA hO hU (by decide) (Nat.le_of_ble_eq_true rfl) (Nat.le_of_ble_eq_true rfl) dME_init_41 (fun q23 T pl H hxt23 hU kr23 hO hP hD hS hnk22 => ?_)
  have k_sp := hxt23 _ _ k_sp
  have kr21 := hxt23 _ _ kr21
  have kr22 := hxt23 _ _ kr22
  have hXT := ext_tr hXT hxt23
  have hPS := pass_many hPS hnk22
  have hP : va_P g.1 vcl ([(h0, .inr (11, [.null, .ref q21, .ref q22, .null, .null, .null, .null, .null, .null, .null, .null, .null, .null, .null]))] ++ pl) _ := hP
  have hD : va_D _ ([(h0, .inr (11, [.null, .ref q21, .ref q22, .null, .null, .null, .null, .null, .null, .null, .null, .null, .null, .null]))] ++ pl) := hD
  refine W.widen (k := 25) (n := 5529) (by omega) (by omega) ?_
  refine va_putF (D := g.1) (ci := 11) (v := .ref q23) (ty := .array (.array .int)) (C := "LatticeKeysModel$Secrets") (T := T_ME) (N := 14) hx hb hts (wg_ft i_ME) ty_ME k_ME n_ME hown hK hP hD hS 0 rfl rfl 3 (by decide) (hts _ (wg_t kw_1382)) (fun _ h9 => h9) rfl hnm rfl (by decide +kernel) rfl rfl (Nat.le_of_ble_eq_true rfl) dME_init_45 (fun H locs hP hD hS => ?_)
  have hP : va_P g.1 vcl ([(h0, .inr (11, [.null, .ref q21, .ref q22, .ref q23, .null, .null, .null, .null, .null, .null, .null, .null, .null, .null]))] ++ pl) _ := hP
  have hD : va_D _ ([(h0, .inr (11, [.null, .ref q21, .ref q22, .ref q23, .null, .null, .null, .null, .null, .null, .null, .null, .null, .null]))] ++ pl) := hD
  refine lv_aload_n hx hb dME_init_48 rfl (lv_at hl 0 rfl) ?_
  refine lv_iconst (v := nI 4) hx hb dME_init_49 (by decide) ?_
  refine lv_sipush (v := nI 256) hx hb dME_init_50 (by decide) ?_
  refine ty_mnai (X := [(h0, .inr (11, [.null, .ref q21, .ref q22, .ref q23, .null, .null, .null, .null, .null, .null, .null, .null, .null, .null]))]) hx hb hown (hts _ (wg_t kw_1378)) hE.2.2.2.2.2.1 (hts _ (wg_t kw_104)) hK hP hD hS hA hO hU (by decide) (Nat.le_of_ble_eq_true rfl) (Nat.le_of_ble_eq_true rfl) dME_init_53 (fun q24 T pl H hxt24 hU kr24 hO hP hD hS hnk23 => ?_)
  have k_sp := hxt24 _ _ k_sp
  have kr21 := hxt24 _ _ kr21
  have kr22 := hxt24 _ _ kr22
  have kr23 := hxt24 _ _ kr23
  have hXT := ext_tr hXT hxt24
  have hPS := pass_many hPS hnk23
  have hP : va_P g.1 vcl ([(h0, .inr (11, [.null, .ref q21, .ref q22, .ref q23, .null, .null, .null, .null, .null, .null, .null, .null, .null, .null]))] ++ pl) _ := hP
  have hD : va_D _ ([(h0, .inr (11, [.null, .ref q21, .ref q22, .ref q23, .null, .null, .null, .null, .null, .null, .null, .null, .null, .null]))] ++ pl) := hD
  refine W.widen (k := 30) (n := 6557) (by omega) (by omega) ?_
  refine va_putF (D := g.1) (ci := 11) (v := .ref q24) (ty := .array (.array .int)) (C := "LatticeKeysModel$Secrets") (T := T_ME) (N := 14) hx hb hts (wg_ft i_ME) ty_ME k_ME n_ME hown hK hP hD hS 0 rfl rfl 4 (by decide) (hts _ (wg_t kw_1383)) (fun _ h9 => h9) rfl hnm rfl (by decide +kernel) rfl rfl (Nat.le_of_ble_eq_true rfl) dME_init_57 (fun H locs hP hD hS => ?_)
  have hP : va_P g.1 vcl ([(h0, .inr (11, [.null, .ref q21, .ref q22, .ref q23, .ref q24, .null, .null, .null, .null, .null, .null, .null, .null, .null]))] ++ pl) _ := hP
  have hD : va_D _ ([(h0, .inr (11, [.null, .ref q21, .ref q22, .ref q23, .ref q24, .null, .null, .null, .null, .null, .null, .null, .null, .null]))] ++ pl) := hD
  refine lv_aload_n hx hb dME_init_60 rfl (lv_at hl 0 rfl) ?_
  refine lv_iconst (v := nI 4) hx hb dME_init_61 (by decide) ?_
  refine lv_sipush (v := nI 256) hx hb dME_init_62 (by decide) ?_
  refine ty_mnai (X := [(h0, .inr (11, [.null, .ref q21, .ref q22, .ref q23, .ref q24, .null, .null, .null, .null, .null, .null, .null, .null, .null]))]) hx hb hown (hts _ (wg_t kw_1378)) hE.2.2.2.2.2.1 (hts _ (wg_t kw_104)) hK hP hD hS hA hO hU (by decide) (Nat.le_of_ble_eq_true rfl) (Nat.le_of_ble_eq_true rfl) dME_init_65 (fun q25 T pl H hxt25 hU kr25 hO hP hD hS hnk24 => ?_)
  have k_sp := hxt25 _ _ k_sp
  have kr21 := hxt25 _ _ kr21
  have kr22 := hxt25 _ _ kr22
  have kr23 := hxt25 _ _ kr23
  have kr24 := hxt25 _ _ kr24
  have hXT := ext_tr hXT hxt25
  have hPS := pass_many hPS hnk24
  have hP : va_P g.1 vcl ([(h0, .inr (11, [.null, .ref q21, .ref q22, .ref q23, .ref q24, .null, .null, .null, .null, .null, .null, .null, .null, .null]))] ++ pl) _ := hP
  have hD : va_D _ ([(h0, .inr (11, [.null, .ref q21, .ref q22, .ref q23, .ref q24, .null, .null, .null, .null, .null, .null, .null, .null, .null]))] ++ pl) := hD
  refine W.widen (k := 35) (n := 7585) (by omega) (by omega) ?_
  refine va_putF (D := g.1) (ci := 11) (v := .ref q25) (ty := .array (.array .int)) (C := "LatticeKeysModel$Secrets") (T := T_ME) (N := 14) hx hb hts (wg_ft i_ME) ty_ME k_ME n_ME hown hK hP hD hS 0 rfl rfl 5 (by decide) (hts _ (wg_t kw_1384)) (fun _ h9 => h9) rfl hnm rfl (by decide +kernel) rfl rfl (Nat.le_of_ble_eq_true rfl) dME_init_69 (fun H locs hP hD hS => ?_)
  have hP : va_P g.1 vcl ([(h0, .inr (11, [.null, .ref q21, .ref q22, .ref q23, .ref q24, .ref q25, .null, .null, .null, .null, .null, .null, .null, .null]))] ++ pl) _ := hP
  have hD : va_D _ ([(h0, .inr (11, [.null, .ref q21, .ref q22, .ref q23, .ref q24, .ref q25, .null, .null, .null, .null, .null, .null, .null, .null]))] ++ pl) := hD
  refine lv_aload_n hx hb dME_init_72 rfl (lv_at hl 0 rfl) ?_
  refine lv_sipush (v := nI 256) hx hb dME_init_73 (by decide) ?_
  refine ma_newa (ws := [(h0, .inr (11, [.null, .ref q21, .ref q22, .ref q23, .ref q24, .ref q25, .null, .null, .null, .null, .null, .null, .null, .null]))] ++ pl) (atype := .int) hx hb (hts _ (wg_t kw_104)) rfl hK hP hD hS hA 0 rfl (N' := 256) (a0 := (256, .inl (fun _ => 0))) (fun _ => rfl) (nI_pos (by omega)) (nI_clamp (by omega)) (by show (256) * 4 ≤ 536870912; omega) (Nat.le_of_ble_eq_true rfl) (Nat.le_of_ble_eq_true rfl) dME_init_76 (fun q26 H hP hD hS => ?_)
  refine W.widen (k := 36) (n := 7841) (by omega) (by omega) ?_
  obtain ⟨T, pl, hxt26, hU, kr26, hO, hP, hD, hnk25⟩ := absorb (X := [(h0, .inr (11, [.null, .ref q21, .ref q22, .ref q23, .ref q24, .ref q25, .null, .null, .null, .null, .null, .null, .null, .null]))]) (0, 256) hP hD hO hU (Or.inl rfl) (fun _ _ _ => ⟨_, rfl⟩)
  have k_sp := hxt26 _ _ k_sp
  have kr21 := hxt26 _ _ kr21
  have kr22 := hxt26 _ _ kr22
  have kr23 := hxt26 _ _ kr23
  have kr24 := hxt26 _ _ kr24
  have kr25 := hxt26 _ _ kr25
  have hXT := ext_tr hXT hxt26
  have hP : va_P g.1 vcl ([(h0, .inr (11, [.null, .ref q21, .ref q22, .ref q23, .ref q24, .ref q25, .null, .null, .null, .null, .null, .null, .null, .null]))] ++ pl) _ := hP
  have hD : va_D _ ([(h0, .inr (11, [.null, .ref q21, .ref q22, .ref q23, .ref q24, .ref q25, .null, .null, .null, .null, .null, .null, .null, .null]))] ++ pl) := hD
  have hPS := pass_one hPS hnk25 (Or.inl rfl)
  refine va_putF (D := g.1) (ci := 11) (v := .ref q26) (ty := .array .int) (C := "LatticeKeysModel$Secrets") (T := T_ME) (N := 14) hx hb hts (wg_ft i_ME) ty_ME k_ME n_ME hown hK hP hD hS 0 rfl rfl 6 (by decide) (hts _ (wg_t kw_1385)) (fun _ h9 => h9) rfl hnm rfl (by decide +kernel) rfl rfl (Nat.le_of_ble_eq_true rfl) dME_init_78 (fun H locs hP hD hS => ?_)
  have hP : va_P g.1 vcl ([(h0, .inr (11, [.null, .ref q21, .ref q22, .ref q23, .ref q24, .ref q25, .ref q26, .null, .null, .null, .null, .null, .null, .null]))] ++ pl) _ := hP
  have hD : va_D _ ([(h0, .inr (11, [.null, .ref q21, .ref q22, .ref q23, .ref q24, .ref q25, .ref q26, .null, .null, .null, .null, .null, .null, .null]))] ++ pl) := hD
  refine lv_aload_n hx hb dME_init_81 rfl (lv_at hl 0 rfl) ?_
  refine lv_sipush (v := nI 256) hx hb dME_init_82 (by decide) ?_
  refine ma_newa (ws := [(h0, .inr (11, [.null, .ref q21, .ref q22, .ref q23, .ref q24, .ref q25, .ref q26, .null, .null, .null, .null, .null, .null, .null]))] ++ pl) (atype := .int) hx hb (hts _ (wg_t kw_104)) rfl hK hP hD hS hA 0 rfl (N' := 256) (a0 := (256, .inl (fun _ => 0))) (fun _ => rfl) (nI_pos (by omega)) (nI_clamp (by omega)) (by show (256) * 4 ≤ 536870912; omega) (Nat.le_of_ble_eq_true rfl) (Nat.le_of_ble_eq_true rfl) dME_init_85 (fun q27 H hP hD hS => ?_)
  refine W.widen (k := 37) (n := 8097) (by omega) (by omega) ?_
  obtain ⟨T, pl, hxt27, hU, kr27, hO, hP, hD, hnk26⟩ := absorb (X := [(h0, .inr (11, [.null, .ref q21, .ref q22, .ref q23, .ref q24, .ref q25, .ref q26, .null, .null, .null, .null, .null, .null, .null]))]) (0, 256) hP hD hO hU (Or.inl rfl) (fun _ _ _ => ⟨_, rfl⟩)
  have k_sp := hxt27 _ _ k_sp
  have kr21 := hxt27 _ _ kr21
  have kr22 := hxt27 _ _ kr22
  have kr23 := hxt27 _ _ kr23
  have kr24 := hxt27 _ _ kr24
  have kr25 := hxt27 _ _ kr25
  have kr26 := hxt27 _ _ kr26
  have hXT := ext_tr hXT hxt27
  have hP : va_P g.1 vcl ([(h0, .inr (11, [.null, .ref q21, .ref q22, .ref q23, .ref q24, .ref q25, .ref q26, .null, .null, .null, .null, .null, .null, .null]))] ++ pl) _ := hP
  have hD : va_D _ ([(h0, .inr (11, [.null, .ref q21, .ref q22, .ref q23, .ref q24, .ref q25, .ref q26, .null, .null, .null, .null, .null, .null, .null]))] ++ pl) := hD
  have hPS := pass_one hPS hnk26 (Or.inl rfl)
  refine va_putF (D := g.1) (ci := 11) (v := .ref q27) (ty := .array .int) (C := "LatticeKeysModel$Secrets") (T := T_ME) (N := 14) hx hb hts (wg_ft i_ME) ty_ME k_ME n_ME hown hK hP hD hS 0 rfl rfl 7 (by decide) (hts _ (wg_t kw_1386)) (fun _ h9 => h9) rfl hnm rfl (by decide +kernel) rfl rfl (Nat.le_of_ble_eq_true rfl) dME_init_87 (fun H locs hP hD hS => ?_)
  have hP : va_P g.1 vcl ([(h0, .inr (11, [.null, .ref q21, .ref q22, .ref q23, .ref q24, .ref q25, .ref q26, .ref q27, .null, .null, .null, .null, .null, .null]))] ++ pl) _ := hP
  have hD : va_D _ ([(h0, .inr (11, [.null, .ref q21, .ref q22, .ref q23, .ref q24, .ref q25, .ref q26, .ref q27, .null, .null, .null, .null, .null, .null]))] ++ pl) := hD
  refine lv_aload_n hx hb dME_init_90 rfl (lv_at hl 0 rfl) ?_
  refine lv_sipush (v := nI 256) hx hb dME_init_91 (by decide) ?_
  refine ma_newa (ws := [(h0, .inr (11, [.null, .ref q21, .ref q22, .ref q23, .ref q24, .ref q25, .ref q26, .ref q27, .null, .null, .null, .null, .null, .null]))] ++ pl) (atype := .int) hx hb (hts _ (wg_t kw_104)) rfl hK hP hD hS hA 0 rfl (N' := 256) (a0 := (256, .inl (fun _ => 0))) (fun _ => rfl) (nI_pos (by omega)) (nI_clamp (by omega)) (by show (256) * 4 ≤ 536870912; omega) (Nat.le_of_ble_eq_true rfl) (Nat.le_of_ble_eq_true rfl) dME_init_94 (fun q28 H hP hD hS => ?_)
  refine W.widen (k := 38) (n := 8353) (by omega) (by omega) ?_
  obtain ⟨T, pl, hxt28, hU, kr28, hO, hP, hD, hnk27⟩ := absorb (X := [(h0, .inr (11, [.null, .ref q21, .ref q22, .ref q23, .ref q24, .ref q25, .ref q26, .ref q27, .null, .null, .null, .null, .null, .null]))]) (0, 256) hP hD hO hU (Or.inl rfl) (fun _ _ _ => ⟨_, rfl⟩)
  have k_sp := hxt28 _ _ k_sp
  have kr21 := hxt28 _ _ kr21
  have kr22 := hxt28 _ _ kr22
  have kr23 := hxt28 _ _ kr23
  have kr24 := hxt28 _ _ kr24
  have kr25 := hxt28 _ _ kr25
  have kr26 := hxt28 _ _ kr26
  have kr27 := hxt28 _ _ kr27
  have hXT := ext_tr hXT hxt28
  have hP : va_P g.1 vcl ([(h0, .inr (11, [.null, .ref q21, .ref q22, .ref q23, .ref q24, .ref q25, .ref q26, .ref q27, .null, .null, .null, .null, .null, .null]))] ++ pl) _ := hP
  have hD : va_D _ ([(h0, .inr (11, [.null, .ref q21, .ref q22, .ref q23, .ref q24, .ref q25, .ref q26, .ref q27, .null, .null, .null, .null, .null, .null]))] ++ pl) := hD
  have hPS := pass_one hPS hnk27 (Or.inl rfl)
  refine va_putF (D := g.1) (ci := 11) (v := .ref q28) (ty := .array .int) (C := "LatticeKeysModel$Secrets") (T := T_ME) (N := 14) hx hb hts (wg_ft i_ME) ty_ME k_ME n_ME hown hK hP hD hS 0 rfl rfl 8 (by decide) (hts _ (wg_t kw_1387)) (fun _ h9 => h9) rfl hnm rfl (by decide +kernel) rfl rfl (Nat.le_of_ble_eq_true rfl) dME_init_96 (fun H locs hP hD hS => ?_)
  have hP : va_P g.1 vcl ([(h0, .inr (11, [.null, .ref q21, .ref q22, .ref q23, .ref q24, .ref q25, .ref q26, .ref q27, .ref q28, .null, .null, .null, .null, .null]))] ++ pl) _ := hP
  have hD : va_D _ ([(h0, .inr (11, [.null, .ref q21, .ref q22, .ref q23, .ref q24, .ref q25, .ref q26, .ref q27, .ref q28, .null, .null, .null, .null, .null]))] ++ pl) := hD
  refine lv_aload_n hx hb dME_init_99 rfl (lv_at hl 0 rfl) ?_
  refine lv_bipush (v := nI 64) hx hb dME_init_100 (by decide) ?_
  refine ma_newa (ws := [(h0, .inr (11, [.null, .ref q21, .ref q22, .ref q23, .ref q24, .ref q25, .ref q26, .ref q27, .ref q28, .null, .null, .null, .null, .null]))] ++ pl) (atype := .byte) hx hb (hts _ (wg_t kw_72)) rfl hK hP hD hS hA 1 rfl (N' := 64) (a0 := (64, .inl (fun _ => 0))) (fun _ => rfl) (nI_pos (by omega)) (nI_clamp (by omega)) (by show (64) * 1 ≤ 536870912; omega) (Nat.le_of_ble_eq_true rfl) (Nat.le_of_ble_eq_true rfl) dME_init_102 (fun q29 H hP hD hS => ?_)
  refine W.widen (k := 39) (n := 8417) (by omega) (by omega) ?_
  obtain ⟨T, pl, hxt29, hU, kr29, hO, hP, hD, hnk28⟩ := absorb (X := [(h0, .inr (11, [.null, .ref q21, .ref q22, .ref q23, .ref q24, .ref q25, .ref q26, .ref q27, .ref q28, .null, .null, .null, .null, .null]))]) (1, 64) hP hD hO hU (Or.inl rfl) (fun _ _ _ => ⟨_, rfl, byt_0⟩)
  have k_sp := hxt29 _ _ k_sp
  have kr21 := hxt29 _ _ kr21
  have kr22 := hxt29 _ _ kr22
  have kr23 := hxt29 _ _ kr23
  have kr24 := hxt29 _ _ kr24
  have kr25 := hxt29 _ _ kr25
  have kr26 := hxt29 _ _ kr26
  have kr27 := hxt29 _ _ kr27
  have kr28 := hxt29 _ _ kr28
  have hXT := ext_tr hXT hxt29
  have hP : va_P g.1 vcl ([(h0, .inr (11, [.null, .ref q21, .ref q22, .ref q23, .ref q24, .ref q25, .ref q26, .ref q27, .ref q28, .null, .null, .null, .null, .null]))] ++ pl) _ := hP
  have hD : va_D _ ([(h0, .inr (11, [.null, .ref q21, .ref q22, .ref q23, .ref q24, .ref q25, .ref q26, .ref q27, .ref q28, .null, .null, .null, .null, .null]))] ++ pl) := hD
  have hPS := pass_one hPS hnk28 (Or.inl rfl)
  refine va_putF (D := g.1) (ci := 11) (v := .ref q29) (ty := .array .byte) (C := "LatticeKeysModel$Secrets") (T := T_ME) (N := 14) hx hb hts (wg_ft i_ME) ty_ME k_ME n_ME hown hK hP hD hS 0 rfl rfl 9 (by decide) (hts _ (wg_t kw_1388)) (fun _ h9 => h9) rfl hnm rfl (by decide +kernel) rfl rfl (Nat.le_of_ble_eq_true rfl) dME_init_104 (fun H locs hP hD hS => ?_)
  have hP : va_P g.1 vcl ([(h0, .inr (11, [.null, .ref q21, .ref q22, .ref q23, .ref q24, .ref q25, .ref q26, .ref q27, .ref q28, .ref q29, .null, .null, .null, .null]))] ++ pl) _ := hP
  have hD : va_D _ ([(h0, .inr (11, [.null, .ref q21, .ref q22, .ref q23, .ref q24, .ref q25, .ref q26, .ref q27, .ref q28, .ref q29, .null, .null, .null, .null]))] ++ pl) := hD
  refine lv_aload_n hx hb dME_init_107 rfl (lv_at hl 0 rfl) ?_
  refine lv_sipush (v := nI 192) hx hb dME_init_108 (by decide) ?_
  refine ma_newa (ws := [(h0, .inr (11, [.null, .ref q21, .ref q22, .ref q23, .ref q24, .ref q25, .ref q26, .ref q27, .ref q28, .ref q29, .null, .null, .null, .null]))] ++ pl) (atype := .byte) hx hb (hts _ (wg_t kw_72)) rfl hK hP hD hS hA 1 rfl (N' := 192) (a0 := (192, .inl (fun _ => 0))) (fun _ => rfl) (nI_pos (by omega)) (nI_clamp (by omega)) (by show (192) * 1 ≤ 536870912; omega) (Nat.le_of_ble_eq_true rfl) (Nat.le_of_ble_eq_true rfl) dME_init_111 (fun q30 H hP hD hS => ?_)
  refine W.widen (k := 40) (n := 8609) (by omega) (by omega) ?_
  obtain ⟨T, pl, hxt30, hU, kr30, hO, hP, hD, hnk29⟩ := absorb (X := [(h0, .inr (11, [.null, .ref q21, .ref q22, .ref q23, .ref q24, .ref q25, .ref q26, .ref q27, .ref q28, .ref q29, .null, .null, .null, .null]))]) (1, 192) hP hD hO hU (Or.inl rfl) (fun _ _ _ => ⟨_, rfl, byt_0⟩)
  have k_sp := hxt30 _ _ k_sp
  have kr21 := hxt30 _ _ kr21
  have kr22 := hxt30 _ _ kr22
  have kr23 := hxt30 _ _ kr23
  have kr24 := hxt30 _ _ kr24
  have kr25 := hxt30 _ _ kr25
  have kr26 := hxt30 _ _ kr26
  have kr27 := hxt30 _ _ kr27
  have kr28 := hxt30 _ _ kr28
  have kr29 := hxt30 _ _ kr29
  have hXT := ext_tr hXT hxt30
  have hP : va_P g.1 vcl ([(h0, .inr (11, [.null, .ref q21, .ref q22, .ref q23, .ref q24, .ref q25, .ref q26, .ref q27, .ref q28, .ref q29, .null, .null, .null, .null]))] ++ pl) _ := hP
  have hD : va_D _ ([(h0, .inr (11, [.null, .ref q21, .ref q22, .ref q23, .ref q24, .ref q25, .ref q26, .ref q27, .ref q28, .ref q29, .null, .null, .null, .null]))] ++ pl) := hD
  have hPS := pass_one hPS hnk29 (Or.inl rfl)
  refine va_putF (D := g.1) (ci := 11) (v := .ref q30) (ty := .array .byte) (C := "LatticeKeysModel$Secrets") (T := T_ME) (N := 14) hx hb hts (wg_ft i_ME) ty_ME k_ME n_ME hown hK hP hD hS 0 rfl rfl 10 (by decide) (hts _ (wg_t kw_1389)) (fun _ h9 => h9) rfl hnm rfl (by decide +kernel) rfl rfl (Nat.le_of_ble_eq_true rfl) dME_init_113 (fun H locs hP hD hS => ?_)
  have hP : va_P g.1 vcl ([(h0, .inr (11, [.null, .ref q21, .ref q22, .ref q23, .ref q24, .ref q25, .ref q26, .ref q27, .ref q28, .ref q29, .ref q30, .null, .null, .null]))] ++ pl) _ := hP
  have hD : va_D _ ([(h0, .inr (11, [.null, .ref q21, .ref q22, .ref q23, .ref q24, .ref q25, .ref q26, .ref q27, .ref q28, .ref q29, .ref q30, .null, .null, .null]))] ++ pl) := hD
  refine lv_aload_n hx hb dME_init_116 rfl (lv_at hl 0 rfl) ?_
  refine lv_bipush (v := nI 32) hx hb dME_init_117 (by decide) ?_
  refine ma_newa (ws := [(h0, .inr (11, [.null, .ref q21, .ref q22, .ref q23, .ref q24, .ref q25, .ref q26, .ref q27, .ref q28, .ref q29, .ref q30, .null, .null, .null]))] ++ pl) (atype := .byte) hx hb (hts _ (wg_t kw_72)) rfl hK hP hD hS hA 1 rfl (N' := 32) (a0 := (32, .inl (fun _ => 0))) (fun _ => rfl) (nI_pos (by omega)) (nI_clamp (by omega)) (by show (32) * 1 ≤ 536870912; omega) (Nat.le_of_ble_eq_true rfl) (Nat.le_of_ble_eq_true rfl) dME_init_119 (fun q31 H hP hD hS => ?_)
  refine W.widen (k := 41) (n := 8641) (by omega) (by omega) ?_
  obtain ⟨T, pl, hxt31, hU, kr31, hO, hP, hD, hnk30⟩ := absorb (X := [(h0, .inr (11, [.null, .ref q21, .ref q22, .ref q23, .ref q24, .ref q25, .ref q26, .ref q27, .ref q28, .ref q29, .ref q30, .null, .null, .null]))]) (1, 32) hP hD hO hU (Or.inl rfl) (fun _ _ _ => ⟨_, rfl, byt_0⟩)
  have k_sp := hxt31 _ _ k_sp
  have kr21 := hxt31 _ _ kr21
  have kr22 := hxt31 _ _ kr22
  have kr23 := hxt31 _ _ kr23
  have kr24 := hxt31 _ _ kr24
  have kr25 := hxt31 _ _ kr25
  have kr26 := hxt31 _ _ kr26
  have kr27 := hxt31 _ _ kr27
  have kr28 := hxt31 _ _ kr28
  have kr29 := hxt31 _ _ kr29
  have kr30 := hxt31 _ _ kr30
  have hXT := ext_tr hXT hxt31
  have hP : va_P g.1 vcl ([(h0, .inr (11, [.null, .ref q21, .ref q22, .ref q23, .ref q24, .ref q25, .ref q26, .ref q27, .ref q28, .ref q29, .ref q30, .null, .null, .null]))] ++ pl) _ := hP
  have hD : va_D _ ([(h0, .inr (11, [.null, .ref q21, .ref q22, .ref q23, .ref q24, .ref q25, .ref q26, .ref q27, .ref q28, .ref q29, .ref q30, .null, .null, .null]))] ++ pl) := hD
  have hPS := pass_one hPS hnk30 (Or.inl rfl)
  refine va_putF (D := g.1) (ci := 11) (v := .ref q31) (ty := .array .byte) (C := "LatticeKeysModel$Secrets") (T := T_ME) (N := 14) hx hb hts (wg_ft i_ME) ty_ME k_ME n_ME hown hK hP hD hS 0 rfl rfl 11 (by decide) (hts _ (wg_t kw_1390)) (fun _ h9 => h9) rfl hnm rfl (by decide +kernel) rfl rfl (Nat.le_of_ble_eq_true rfl) dME_init_121 (fun H locs hP hD hS => ?_)
  have hP : va_P g.1 vcl ([(h0, .inr (11, [.null, .ref q21, .ref q22, .ref q23, .ref q24, .ref q25, .ref q26, .ref q27, .ref q28, .ref q29, .ref q30, .ref q31, .null, .null]))] ++ pl) _ := hP
  have hD : va_D _ ([(h0, .inr (11, [.null, .ref q21, .ref q22, .ref q23, .ref q24, .ref q25, .ref q26, .ref q27, .ref q28, .ref q29, .ref q30, .ref q31, .null, .null]))] ++ pl) := hD
  refine lv_aload_n hx hb dME_init_124 rfl (lv_at hl 0 rfl) ?_
  refine lv_bipush (v := nI 32) hx hb dME_init_125 (by decide) ?_
  refine ma_newa (ws := [(h0, .inr (11, [.null, .ref q21, .ref q22, .ref q23, .ref q24, .ref q25, .ref q26, .ref q27, .ref q28, .ref q29, .ref q30, .ref q31, .null, .null]))] ++ pl) (atype := .byte) hx hb (hts _ (wg_t kw_72)) rfl hK hP hD hS hA 1 rfl (N' := 32) (a0 := (32, .inl (fun _ => 0))) (fun _ => rfl) (nI_pos (by omega)) (nI_clamp (by omega)) (by show (32) * 1 ≤ 536870912; omega) (Nat.le_of_ble_eq_true rfl) (Nat.le_of_ble_eq_true rfl) dME_init_127 (fun q32 H hP hD hS => ?_)
  refine W.widen (k := 42) (n := 8673) (by omega) (by omega) ?_
  obtain ⟨T, pl, hxt32, hU, kr32, hO, hP, hD, hnk31⟩ := absorb (X := [(h0, .inr (11, [.null, .ref q21, .ref q22, .ref q23, .ref q24, .ref q25, .ref q26, .ref q27, .ref q28, .ref q29, .ref q30, .ref q31, .null, .null]))]) (1, 32) hP hD hO hU (Or.inl rfl) (fun _ _ _ => ⟨_, rfl, byt_0⟩)
  have k_sp := hxt32 _ _ k_sp
  have kr21 := hxt32 _ _ kr21
  have kr22 := hxt32 _ _ kr22
  have kr23 := hxt32 _ _ kr23
  have kr24 := hxt32 _ _ kr24
  have kr25 := hxt32 _ _ kr25
  have kr26 := hxt32 _ _ kr26
  have kr27 := hxt32 _ _ kr27
  have kr28 := hxt32 _ _ kr28
  have kr29 := hxt32 _ _ kr29
  have kr30 := hxt32 _ _ kr30
  have kr31 := hxt32 _ _ kr31
  have hXT := ext_tr hXT hxt32
  have hP : va_P g.1 vcl ([(h0, .inr (11, [.null, .ref q21, .ref q22, .ref q23, .ref q24, .ref q25, .ref q26, .ref q27, .ref q28, .ref q29, .ref q30, .ref q31, .null, .null]))] ++ pl) _ := hP
  have hD : va_D _ ([(h0, .inr (11, [.null, .ref q21, .ref q22, .ref q23, .ref q24, .ref q25, .ref q26, .ref q27, .ref q28, .ref q29, .ref q30, .ref q31, .null, .null]))] ++ pl) := hD
  have hPS := pass_one hPS hnk31 (Or.inl rfl)
  refine va_putF (D := g.1) (ci := 11) (v := .ref q32) (ty := .array .byte) (C := "LatticeKeysModel$Secrets") (T := T_ME) (N := 14) hx hb hts (wg_ft i_ME) ty_ME k_ME n_ME hown hK hP hD hS 0 rfl rfl 12 (by decide) (hts _ (wg_t kw_1391)) (fun _ h9 => h9) rfl hnm rfl (by decide +kernel) rfl rfl (Nat.le_of_ble_eq_true rfl) dME_init_129 (fun H locs hP hD hS => ?_)
  have hP : va_P g.1 vcl ([(h0, .inr (11, [.null, .ref q21, .ref q22, .ref q23, .ref q24, .ref q25, .ref q26, .ref q27, .ref q28, .ref q29, .ref q30, .ref q31, .ref q32, .null]))] ++ pl) _ := hP
  have hD : va_D _ ([(h0, .inr (11, [.null, .ref q21, .ref q22, .ref q23, .ref q24, .ref q25, .ref q26, .ref q27, .ref q28, .ref q29, .ref q30, .ref q31, .ref q32, .null]))] ++ pl) := hD
  refine lv_aload_n hx hb dME_init_132 rfl (lv_at hl 0 rfl) ?_
  refine lv_sipush (v := nI 1568) hx hb dME_init_133 (by decide) ?_
  refine ma_newa (ws := [(h0, .inr (11, [.null, .ref q21, .ref q22, .ref q23, .ref q24, .ref q25, .ref q26, .ref q27, .ref q28, .ref q29, .ref q30, .ref q31, .ref q32, .null]))] ++ pl) (atype := .byte) hx hb (hts _ (wg_t kw_72)) rfl hK hP hD hS hA 1 rfl (N' := 1568) (a0 := (1568, .inl (fun _ => 0))) (fun _ => rfl) (nI_pos (by omega)) (nI_clamp (by omega)) (by show (1568) * 1 ≤ 536870912; omega) (Nat.le_of_ble_eq_true rfl) (Nat.le_of_ble_eq_true rfl) dME_init_136 (fun q33 H hP hD hS => ?_)
  refine W.widen (k := 43) (n := 10241) (by omega) (by omega) ?_
  obtain ⟨T, pl, hxt33, hU, kr33, hO, hP, hD, hnk32⟩ := absorb (X := [(h0, .inr (11, [.null, .ref q21, .ref q22, .ref q23, .ref q24, .ref q25, .ref q26, .ref q27, .ref q28, .ref q29, .ref q30, .ref q31, .ref q32, .null]))]) (1, 1568) hP hD hO hU (Or.inl rfl) (fun _ _ _ => ⟨_, rfl, byt_0⟩)
  have k_sp := hxt33 _ _ k_sp
  have kr21 := hxt33 _ _ kr21
  have kr22 := hxt33 _ _ kr22
  have kr23 := hxt33 _ _ kr23
  have kr24 := hxt33 _ _ kr24
  have kr25 := hxt33 _ _ kr25
  have kr26 := hxt33 _ _ kr26
  have kr27 := hxt33 _ _ kr27
  have kr28 := hxt33 _ _ kr28
  have kr29 := hxt33 _ _ kr29
  have kr30 := hxt33 _ _ kr30
  have kr31 := hxt33 _ _ kr31
  have kr32 := hxt33 _ _ kr32
  have hXT := ext_tr hXT hxt33
  have hP : va_P g.1 vcl ([(h0, .inr (11, [.null, .ref q21, .ref q22, .ref q23, .ref q24, .ref q25, .ref q26, .ref q27, .ref q28, .ref q29, .ref q30, .ref q31, .ref q32, .null]))] ++ pl) _ := hP
  have hD : va_D _ ([(h0, .inr (11, [.null, .ref q21, .ref q22, .ref q23, .ref q24, .ref q25, .ref q26, .ref q27, .ref q28, .ref q29, .ref q30, .ref q31, .ref q32, .null]))] ++ pl) := hD
  have hPS := pass_one hPS hnk32 (Or.inl rfl)
  refine va_putF (D := g.1) (ci := 11) (v := .ref q33) (ty := .array .byte) (C := "LatticeKeysModel$Secrets") (T := T_ME) (N := 14) hx hb hts (wg_ft i_ME) ty_ME k_ME n_ME hown hK hP hD hS 0 rfl rfl 13 (by decide) (hts _ (wg_t kw_1392)) (fun _ h9 => h9) rfl hnm rfl (by decide +kernel) rfl rfl (Nat.le_of_ble_eq_true rfl) dME_init_138 (fun H locs hP hD hS => ?_)
  have hP : va_P g.1 vcl ([(h0, .inr (11, [.null, .ref q21, .ref q22, .ref q23, .ref q24, .ref q25, .ref q26, .ref q27, .ref q28, .ref q29, .ref q30, .ref q31, .ref q32, .ref q33]))] ++ pl) _ := hP
  have hD : va_D _ ([(h0, .inr (11, [.null, .ref q21, .ref q22, .ref q23, .ref q24, .ref q25, .ref q26, .ref q27, .ref q28, .ref q29, .ref q30, .ref q31, .ref q32, .ref q33]))] ++ pl) := hD
  refine lv_aload_n hx hb dME_init_141 rfl (lv_at hl 0 rfl) ?_
  refine lv_aload_n hx hb dME_init_142 rfl (lv_at hl 1 rfl) ?_
  refine va_putF (D := g.1) (ci := 11) (v := .ref sp) (ty := .object "LatticeKeysModel$Sponge") (C := "LatticeKeysModel$Secrets") (T := T_ME) (N := 14) hx hb hts (wg_ft i_ME) ty_ME k_ME n_ME hown hK hP hD hS 0 rfl rfl 0 (by decide) (hts _ (wg_t kw_1379)) (fun _ h9 => h9) rfl hnm rfl (by decide +kernel) rfl rfl (Nat.le_of_ble_eq_true rfl) dME_init_143 (fun H locs hP hD hS => ?_)
  have hP : va_P g.1 vcl ([(h0, .inr (11, [.ref sp, .ref q21, .ref q22, .ref q23, .ref q24, .ref q25, .ref q26, .ref q27, .ref q28, .ref q29, .ref q30, .ref q31, .ref q32, .ref q33]))] ++ pl) _ := hP
  have hD : va_D _ ([(h0, .inr (11, [.ref sp, .ref q21, .ref q22, .ref q23, .ref q24, .ref q25, .ref q26, .ref q27, .ref q28, .ref q29, .ref q30, .ref q31, .ref q32, .ref q33]))] ++ pl) := hD
  obtain ⟨hP, hD⟩ := mv_last (X := []) (c := (h0, .inr (11, [.ref sp, .ref q21, .ref q22, .ref q23, .ref q24, .ref q25, .ref q26, .ref q27, .ref q28, .ref q29, .ref q30, .ref q31, .ref q32, .ref q33]))) hP hD
  obtain ⟨T, pl, hxt34, hU, kr34, hO, hP, hD, hnk33⟩ := absorb (X := []) (23, 0) hP hD hO hU (Or.inl rfl) (fun T9 h9 _ => ⟨_, rfl, ⟨_, rfl, h9 _ _ k_sp⟩, ⟨_, rfl, h9 _ _ kr21⟩, ⟨_, rfl, h9 _ _ kr22⟩, ⟨_, rfl, h9 _ _ kr23⟩, ⟨_, rfl, h9 _ _ kr24⟩, ⟨_, rfl, h9 _ _ kr25⟩, ⟨_, rfl, h9 _ _ kr26⟩, ⟨_, rfl, h9 _ _ kr27⟩, ⟨_, rfl, h9 _ _ kr28⟩, ⟨_, rfl, h9 _ _ kr29⟩, ⟨_, rfl, h9 _ _ kr30⟩, ⟨_, rfl, h9 _ _ kr31⟩, ⟨_, rfl, h9 _ _ kr32⟩, ⟨_, rfl, h9 _ _ kr33⟩, trivial⟩)
  have k_sp := hxt34 _ _ k_sp
  have kr21 := hxt34 _ _ kr21
  have kr22 := hxt34 _ _ kr22
  have kr23 := hxt34 _ _ kr23
  have kr24 := hxt34 _ _ kr24
  have kr25 := hxt34 _ _ kr25
  have kr26 := hxt34 _ _ kr26
  have kr27 := hxt34 _ _ kr27
  have kr28 := hxt34 _ _ kr28
  have kr29 := hxt34 _ _ kr29
  have kr30 := hxt34 _ _ kr30
  have kr31 := hxt34 _ _ kr31
  have kr32 := hxt34 _ _ kr32
  have kr33 := hxt34 _ _ kr33
  have hXT := ext_tr hXT hxt34
  have hP : va_P g.1 vcl ([] ++ pl) _ := hP
  have hD : va_D _ ([] ++ pl) := hD
  have hPS := pass_one hPS hnk33 (Or.inl rfl)
  exact mp_vret hx hb hr hlk hP hD hS (T, pl) ⟨⟨hXT, hU, kr34, hPS⟩, hO⟩ [] rfl rfl rfl (by omega) (by omega) dME_init_146
set_option maxHeartbeats 4000000 in
set_option maxRecDepth 100000 in
theorem t_MH_init (l : Launch) (g : Gd) (sz : Nat) (T0 : Ty) (pl : va_W) (hO : okx g T0 [] pl) (hU : uni T0) (sp : Nat) (h0 : Nat) (k_sp : T0 sp = some (20, 0)) (n_49_0 : nk T0 (49, 0))  : Met l y_MH_init w_MH_init ({ frames := 2, cells := 156, slots := 36809, locals := 66 } : Room) (va_Pc [.ref h0, .ref sp] (pr (en g) g.1 vcl sz ([(h0, .inr (12, [.null, .null, .null, .null, .null, .null, .null, .null, .null, .null, .null, .null, .null, .null, .null, .null, .null, .null, .null, .null, .null, .null, .null, .int 0, .int 0, .int 0, .int 0, .int 0, .int 0, .int 0, .int 0]))] ++ pl))) (va_Qv (fun (u : (Ty) × va_W) => (ext T0 u.1 ∧ uni u.1 ∧ u.1 h0 = some (49, 0) ∧ pass T0 u.1 [(49, 0)]) ∧ okx g u.1 [] u.2) (po g.1 vcl (va_A ([(h0, .inr (12, [.null, .null, .null, .null, .null, .null, .null, .null, .null, .null, .null, .null, .null, .null, .null, .null, .null, .null, .null, .null, .null, .null, .null, .int 0, .int 0, .int 0, .int 0, .int 0, .int 0, .int 0, .int 0]))] ++ pl) sz) (fun (u : (Ty) × va_W) => [] ++ u.2)) (va_A ([(h0, .inr (12, [.null, .null, .null, .null, .null, .null, .null, .null, .null, .null, .null, .null, .null, .null, .null, .null, .null, .null, .null, .null, .null, .null, .null, .int 0, .int 0, .int 0, .int 0, .int 0, .int 0, .int 0, .int 0]))] ++ pl) sz)) 156 36809 (va_A ([(h0, .inr (12, [.null, .null, .null, .null, .null, .null, .null, .null, .null, .null, .null, .null, .null, .null, .null, .null, .null, .null, .null, .null, .null, .null, .null, .int 0, .int 0, .int 0, .int 0, .int 0, .int 0, .int 0, .int 0]))] ++ pl) sz) := by
  refine mc_entry (cc := c_MH_init) (maxL := 2) (ret := none) (by decide) rfl (Nat.le_of_ble_eq_true rfl) ?_
  intro p e s m args below meth c ls F hr hlk hnm hsz hP hD hE hA hl
  obtain ⟨hx, hb, hml, hown, hts⟩ := id F
  have hK := hE.1
  generalize va_A ([(h0, .inr (12, [.null, .null, .null, .null, .null, .null, .null, .null, .null, .null, .null, .null, .null, .null, .null, .null, .null, .null, .null, .null, .null, .null, .null, .int 0, .int 0, .int 0, .int 0, .int 0, .int 0, .int 0, .int 0]))] ++ pl) sz = A at hD hE hA ⊢
  obtain ⟨T, hXT, hPS, hO, hU, n_49_0, k_sp⟩ : ∃ T, ext T0 T ∧ pass T0 T [(49, 0)] ∧ okx g T [] pl ∧ uni T ∧ nk T (49, 0) ∧ T sp = some (20, 0) := ⟨T0, ext_rf, pass_rf, hO, hU, n_49_0, k_sp⟩
  have hS : va_S A s.heap s.heap [] := va_S.rf
  have hl : lv_has ls 2 [(0, .ref h0), (1, .ref sp)] := hl
  refine lv_aload_n hx hb dMH_init_0 rfl (lv_at hl 0 rfl) ?_
  refine W.objInit hx hb hown (hts _ (wg_t kw_1427)) (hts _ (wg_t kw_41)) (hts _ (wg_t kobj)) rfl (by rw [hml]; exact hl.1) rfl dMH_init_1 (Nat.le_of_ble_eq_true rfl) (Nat.le_of_ble_eq_true rfl) ?_
  refine W.eq (g2 := F0 m 4 ls []) rfl ?_
  refine lv_aload_n hx hb dMH_init_4 rfl (lv_at hl 0 rfl) ?_
  refine va_new (ws := [(h0, .inr (12, [.null, .null, .null, .null, .null, .null, .null, .null, .null, .null, .null, .null, .null, .null, .null, .null, .null, .null, .null, .null, .null, .null, .null, .int 0, .int 0, .int 0, .int 0, .int 0, .int 0, .int 0, .int 0]))] ++ pl) (ci := 10) (fs := [.int 0, .int 0, .null, .null, .long 0]) (C := "LatticeKeysModel$Ring") (T := T_MR) (N := 5) hx hb hts (wg_ft i_MR) ty_MR k_MR hown (hts _ (wg_t kw_1428)) (hts _ (wg_t kw_1357)) (hts _ (wg_t kw_12)) hK hP hD hS hA rfl z_MR (Nat.le_of_ble_eq_true rfl) (Nat.le_of_ble_eq_true rfl) dMH_init_5 (fun q21 H hP hD hS => ?_)
  obtain ⟨hP, hD⟩ := mv_first hP hD
  have hP : va_P g.1 vcl ([(h0, .inr (12, [.null, .null, .null, .null, .null, .null, .null, .null, .null, .null, .null, .null, .null, .null, .null, .null, .null, .null, .null, .null, .null, .null, .null, .int 0, .int 0, .int 0, .int 0, .int 0, .int 0, .int 0, .int 0])), (q21, .inr (10, [.int 0, .int 0, .null, .null, .long 0]))] ++ pl) _ := hP
  have hD : va_D _ ([(h0, .inr (12, [.null, .null, .null, .null, .null, .null, .null, .null, .null, .null, .null, .null, .null, .null, .null, .null, .null, .null, .null, .null, .null, .null, .null, .int 0, .int 0, .int 0, .int 0, .int 0, .int 0, .int 0, .int 0])), (q21, .inr (10, [.int 0, .int 0, .null, .null, .long 0]))] ++ pl) := hD
  refine W.widen (k := 1) (n := 5) (by omega) (by omega) ?_
  refine lv_dup hx hb dMH_init_8 rfl ?_
  refine lv_ldc (v := 8380417) hx hb hown (hts _ (wg_t kw_1429)) dMH_init_9 ?_
  refine mi_as (show (8380417 : Int32) = nI 8380417 by decide) ?_
  refine lv_sipush (v := nI 1753) hx hb dMH_init_11 (by decide) ?_
  refine lv_sipush (v := nI 256) hx hb dMH_init_14 (by decide) ?_
  refine mp_v (cx := [(q21, .inr (10, [.int 0, .int 0, .null, .null, .long 0]))]) (wr := [(h0, .inr (12, [.null, .null, .null, .null, .null, .null, .null, .null, .null, .null, .null, .null, .null, .null, .null, .null, .null, .null, .null, .null, .null, .null, .null, .int 0, .int 0, .int 0, .int 0, .int 0, .int 0, .int 0, .int 0]))]) hP hD hS hA [1] [0] rfl rfl rfl (by decide) (va_runI (As := [.int (nI 8380417), .int (nI 1753), .int (nI 256)]) (rest := [.ref q21, .ref h0]) F (t_MR_init_22 l g _ T  pl hO hU  q21) (cwI 3 hts (wg_in kw_1360) rfl rfl rfl (hts _ (wg_t kw_12)) (hts _ (wg_t kw_1430)) (hts _ (wg_t kw_1359)) rfl (by decide +kernel) ⟨by decide, by decide⟩) (pp_S (en_ok g) hP hD hS hA hE [1] rfl rfl) rfl rfl hl.1 rfl (lv_room (Nat.le_of_ble_eq_true rfl)) dMH_init_17 ⟨Nat.le_of_ble_eq_true rfl, Nat.le_of_ble_eq_true rfl⟩) (fun  u21 H locs hu21 hP hD hS => ?_)
  obtain ⟨T, pl⟩ := u21
  obtain ⟨hq21, hO⟩ := hu21
  have hP : va_P g.1 vcl ([(h0, .inr (12, [.null, .null, .null, .null, .null, .null, .null, .null, .null, .null, .null, .null, .null, .null, .null, .null, .null, .null, .null, .null, .null, .null, .null, .int 0, .int 0, .int 0, .int 0, .int 0, .int 0, .int 0, .int 0]))] ++ pl) _ := hP
  have hD : va_D _ ([(h0, .inr (12, [.null, .null, .null, .null, .null, .null, .null, .null, .null, .null, .null, .null, .null, .null, .null, .null, .null, .null, .null, .null, .null, .null, .null, .int 0, .int 0, .int 0, .int 0, .int 0, .int 0, .int 0, .int 0]))] ++ pl) := hD
  obtain ⟨hxt21, hU, kr21, hps21⟩ := hq21
  have k_sp := hxt21 _ _ k_sp
  have hXT := ext_tr hXT hxt21
  have n_49_0 := hps21 _ (by decide) n_49_0
  have hPS := pass_tr hPS hps21 (by decide)
  refine W.widen (k := 3) (n := 773) (by omega) (by omega) ?_
  refine va_putF (D := g.1) (ci := 12) (v := .ref q21) (ty := .object "LatticeKeysModel$Ring") (C := "LatticeKeysModel$Hands") (T := T_MH) (N := 31) hx hb hts (wg_ft i_MH) ty_MH k_MH n_MH hown hK hP hD hS 0 rfl rfl 1 (by decide) (hts _ (wg_t kw_1433)) (fun _ h9 => h9) rfl hnm rfl (by decide +kernel) rfl rfl (Nat.le_of_ble_eq_true rfl) dMH_init_20 (fun H locs hP hD hS => ?_)
  have hP : va_P g.1 vcl ([(h0, .inr (12, [.null, .ref q21, .null, .null, .null, .null, .null, .null, .null, .null, .null, .null, .null, .null, .null, .null, .null, .null, .null, .null, .null, .null, .null, .int 0, .int 0, .int 0, .int 0, .int 0, .int 0, .int 0, .int 0]))] ++ pl) _ := hP
  have hD : va_D _ ([(h0, .inr (12, [.null, .ref q21, .null, .null, .null, .null, .null, .null, .null, .null, .null, .null, .null, .null, .null, .null, .null, .null, .null, .null, .null, .null, .null, .int 0, .int 0, .int 0, .int 0, .int 0, .int 0, .int 0, .int 0]))] ++ pl) := hD
  refine lv_aload_n hx hb dMH_init_23 rfl (lv_at hl 0 rfl) ?_
  refine lv_bipush (v := nI 64) hx hb dMH_init_24 (by decide) ?_
  refine lv_sipush (v := nI 256) hx hb dMH_init_26 (by decide) ?_
  refine ty_mnai (X := [(h0, .inr (12, [.null, .ref q21, .null, .null, .null, .null, .null, .null, .null, .null, .null, .null, .null, .null, .null, .null, .null, .null, .null, .null, .null, .null, .null, .int 0, .int 0, .int 0, .int 0, .int 0, .int 0, .int 0, .int 0]))]) hx hb hown (hts _ (wg_t kw_1431)) hE.2.2.2.2.2.1 (hts _ (wg_t kw_104)) hK hP hD hS hA hO hU (by decide) (Nat.le_of_ble_eq_true rfl) (Nat.le_of_ble_eq_true rfl) dMH_init_29 (fun q22 T pl H hxt22 hU kr22 hO hP hD hS hnk21 => ?_)
  have k_sp := hxt22 _ _ k_sp
  have kr21 := hxt22 _ _ kr21
  have hXT := ext_tr hXT hxt22
  have n_49_0 := hnk21 _ (by decide) n_49_0
  have hPS := pass_many hPS hnk21
  have hP : va_P g.1 vcl ([(h0, .inr (12, [.null, .ref q21, .null, .null, .null, .null, .null, .null, .null, .null, .null, .null, .null, .null, .null, .null, .null, .null, .null, .null, .null, .null, .null, .int 0, .int 0, .int 0, .int 0, .int 0, .int 0, .int 0, .int 0]))] ++ pl) _ := hP
  have hD : va_D _ ([(h0, .inr (12, [.null, .ref q21, .null, .null, .null, .null, .null, .null, .null, .null, .null, .null, .null, .null, .null, .null, .null, .null, .null, .null, .null, .null, .null, .int 0, .int 0, .int 0, .int 0, .int 0, .int 0, .int 0, .int 0]))] ++ pl) := hD
  refine W.widen (k := 68) (n := 17221) (by omega) (by omega) ?_
  refine va_putF (D := g.1) (ci := 12) (v := .ref q22) (ty := .array (.array .int)) (C := "LatticeKeysModel$Hands") (T := T_MH) (N := 31) hx hb hts (wg_ft i_MH) ty_MH k_MH n_MH hown hK hP hD hS 0 rfl rfl 2 (by decide) (hts _ (wg_t kw_1434)) (fun _ h9 => h9) rfl hnm rfl (by decide +kernel) rfl rfl (Nat.le_of_ble_eq_true rfl) dMH_init_33 (fun H locs hP hD hS => ?_)
  have hP : va_P g.1 vcl ([(h0, .inr (12, [.null, .ref q21, .ref q22, .null, .null, .null, .null, .null, .null, .null, .null, .null, .null, .null, .null, .null, .null, .null, .null, .null, .null, .null, .null, .int 0, .int 0, .int 0, .int 0, .int 0, .int 0, .int 0, .int 0]))] ++ pl) _ := hP
  have hD : va_D _ ([(h0, .inr (12, [.null, .ref q21, .ref q22, .null, .null, .null, .null, .null, .null, .null, .null, .null, .null, .null, .null, .null, .null, .null, .null, .null, .null, .null, .null, .int 0, .int 0, .int 0, .int 0, .int 0, .int 0, .int 0, .int 0]))] ++ pl) := hD
  refine lv_aload_n hx hb dMH_init_36 rfl (lv_at hl 0 rfl) ?_
  refine lv_bipush (v := nI 7) hx hb dMH_init_37 (by decide) ?_
  refine lv_sipush (v := nI 256) hx hb dMH_init_39 (by decide) ?_
  refine ty_mnai (X := [(h0, .inr (12, [.null, .ref q21, .ref q22, .null, .null, .null, .null, .null, .null, .null, .null, .null, .null, .null, .null, .null, .null, .null, .null, .null, .null, .null, .null, .int 0, .int 0, .int 0, .int 0, .int 0, .int 0, .int 0, .int 0]))]) hx hb hown (hts _ (wg_t kw_1431)) hE.2.2.2.2.2.1 (hts _ (wg_t kw_104)) hK hP hD hS hA hO hU (by decide) (Nat.le_of_ble_eq_true rfl) (Nat.le_of_ble_eq_true rfl) dMH_init_42 (fun q23 T pl H hxt23 hU kr23 hO hP hD hS hnk22 => ?_)
  have k_sp := hxt23 _ _ k_sp
  have kr21 := hxt23 _ _ kr21
  have kr22 := hxt23 _ _ kr22
  have hXT := ext_tr hXT hxt23
  have n_49_0 := hnk22 _ (by decide) n_49_0
  have hPS := pass_many hPS hnk22
  have hP : va_P g.1 vcl ([(h0, .inr (12, [.null, .ref q21, .ref q22, .null, .null, .null, .null, .null, .null, .null, .null, .null, .null, .null, .null, .null, .null, .null, .null, .null, .null, .null, .null, .int 0, .int 0, .int 0, .int 0, .int 0, .int 0, .int 0, .int 0]))] ++ pl) _ := hP
  have hD : va_D _ ([(h0, .inr (12, [.null, .ref q21, .ref q22, .null, .null, .null, .null, .null, .null, .null, .null, .null, .null, .null, .null, .null, .null, .null, .null, .null, .null, .null, .null, .int 0, .int 0, .int 0, .int 0, .int 0, .int 0, .int 0, .int 0]))] ++ pl) := hD
  refine W.widen (k := 76) (n := 19020) (by omega) (by omega) ?_
  refine va_putF (D := g.1) (ci := 12) (v := .ref q23) (ty := .array (.array .int)) (C := "LatticeKeysModel$Hands") (T := T_MH) (N := 31) hx hb hts (wg_ft i_MH) ty_MH k_MH n_MH hown hK hP hD hS 0 rfl rfl 3 (by decide) (hts _ (wg_t kw_1435)) (fun _ h9 => h9) rfl hnm rfl (by decide +kernel) rfl rfl (Nat.le_of_ble_eq_true rfl) dMH_init_46 (fun H locs hP hD hS => ?_)
  have hP : va_P g.1 vcl ([(h0, .inr (12, [.null, .ref q21, .ref q22, .ref q23, .null, .null, .null, .null, .null, .null, .null, .null, .null, .null, .null, .null, .null, .null, .null, .null, .null, .null, .null, .int 0, .int 0, .int 0, .int 0, .int 0, .int 0, .int 0, .int 0]))] ++ pl) _ := hP
  have hD : va_D _ ([(h0, .inr (12, [.null, .ref q21, .ref q22, .ref q23, .null, .null, .null, .null, .null, .null, .null, .null, .null, .null, .null, .null, .null, .null, .null, .null, .null, .null, .null, .int 0, .int 0, .int 0, .int 0, .int 0, .int 0, .int 0, .int 0]))] ++ pl) := hD
  refine lv_aload_n hx hb dMH_init_49 rfl (lv_at hl 0 rfl) ?_
  refine lv_bipush (v := nI 8) hx hb dMH_init_50 (by decide) ?_
  refine lv_sipush (v := nI 256) hx hb dMH_init_52 (by decide) ?_
  refine ty_mnai (X := [(h0, .inr (12, [.null, .ref q21, .ref q22, .ref q23, .null, .null, .null, .null, .null, .null, .null, .null, .null, .null, .null, .null, .null, .null, .null, .null, .null, .null, .null, .int 0, .int 0, .int 0, .int 0, .int 0, .int 0, .int 0, .int 0]))]) hx hb hown (hts _ (wg_t kw_1431)) hE.2.2.2.2.2.1 (hts _ (wg_t kw_104)) hK hP hD hS hA hO hU (by decide) (Nat.le_of_ble_eq_true rfl) (Nat.le_of_ble_eq_true rfl) dMH_init_55 (fun q24 T pl H hxt24 hU kr24 hO hP hD hS hnk23 => ?_)
  have k_sp := hxt24 _ _ k_sp
  have kr21 := hxt24 _ _ kr21
  have kr22 := hxt24 _ _ kr22
  have kr23 := hxt24 _ _ kr23
  have hXT := ext_tr hXT hxt24
  have n_49_0 := hnk23 _ (by decide) n_49_0
  have hPS := pass_many hPS hnk23
  have hP : va_P g.1 vcl ([(h0, .inr (12, [.null, .ref q21, .ref q22, .ref q23, .null, .null, .null, .null, .null, .null, .null, .null, .null, .null, .null, .null, .null, .null, .null, .null, .null, .null, .null, .int 0, .int 0, .int 0, .int 0, .int 0, .int 0, .int 0, .int 0]))] ++ pl) _ := hP
  have hD : va_D _ ([(h0, .inr (12, [.null, .ref q21, .ref q22, .ref q23, .null, .null, .null, .null, .null, .null, .null, .null, .null, .null, .null, .null, .null, .null, .null, .null, .null, .null, .null, .int 0, .int 0, .int 0, .int 0, .int 0, .int 0, .int 0, .int 0]))] ++ pl) := hD
  refine W.widen (k := 85) (n := 21076) (by omega) (by omega) ?_
  refine va_putF (D := g.1) (ci := 12) (v := .ref q24) (ty := .array (.array .int)) (C := "LatticeKeysModel$Hands") (T := T_MH) (N := 31) hx hb hts (wg_ft i_MH) ty_MH k_MH n_MH hown hK hP hD hS 0 rfl rfl 4 (by decide) (hts _ (wg_t kw_1436)) (fun _ h9 => h9) rfl hnm rfl (by decide +kernel) rfl rfl (Nat.le_of_ble_eq_true rfl) dMH_init_59 (fun H locs hP hD hS => ?_)
  have hP : va_P g.1 vcl ([(h0, .inr (12, [.null, .ref q21, .ref q22, .ref q23, .ref q24, .null, .null, .null, .null, .null, .null, .null, .null, .null, .null, .null, .null, .null, .null, .null, .null, .null, .null, .int 0, .int 0, .int 0, .int 0, .int 0, .int 0, .int 0, .int 0]))] ++ pl) _ := hP
  have hD : va_D _ ([(h0, .inr (12, [.null, .ref q21, .ref q22, .ref q23, .ref q24, .null, .null, .null, .null, .null, .null, .null, .null, .null, .null, .null, .null, .null, .null, .null, .null, .null, .null, .int 0, .int 0, .int 0, .int 0, .int 0, .int 0, .int 0, .int 0]))] ++ pl) := hD
  refine lv_aload_n hx hb dMH_init_62 rfl (lv_at hl 0 rfl) ?_
  refine lv_bipush (v := nI 8) hx hb dMH_init_63 (by decide) ?_
  refine lv_sipush (v := nI 256) hx hb dMH_init_65 (by decide) ?_
  refine ty_mnai (X := [(h0, .inr (12, [.null, .ref q21, .ref q22, .ref q23, .ref q24, .null, .null, .null, .null, .null, .null, .null, .null, .null, .null, .null, .null, .null, .null, .null, .null, .null, .null, .int 0, .int 0, .int 0, .int 0, .int 0, .int 0, .int 0, .int 0]))]) hx hb hown (hts _ (wg_t kw_1431)) hE.2.2.2.2.2.1 (hts _ (wg_t kw_104)) hK hP hD hS hA hO hU (by decide) (Nat.le_of_ble_eq_true rfl) (Nat.le_of_ble_eq_true rfl) dMH_init_68 (fun q25 T pl H hxt25 hU kr25 hO hP hD hS hnk24 => ?_)
  have k_sp := hxt25 _ _ k_sp
  have kr21 := hxt25 _ _ kr21
  have kr22 := hxt25 _ _ kr22
  have kr23 := hxt25 _ _ kr23
  have kr24 := hxt25 _ _ kr24
  have hXT := ext_tr hXT hxt25
  have n_49_0 := hnk24 _ (by decide) n_49_0
  have hPS := pass_many hPS hnk24
  have hP : va_P g.1 vcl ([(h0, .inr (12, [.null, .ref q21, .ref q22, .ref q23, .ref q24, .null, .null, .null, .null, .null, .null, .null, .null, .null, .null, .null, .null, .null, .null, .null, .null, .null, .null, .int 0, .int 0, .int 0, .int 0, .int 0, .int 0, .int 0, .int 0]))] ++ pl) _ := hP
  have hD : va_D _ ([(h0, .inr (12, [.null, .ref q21, .ref q22, .ref q23, .ref q24, .null, .null, .null, .null, .null, .null, .null, .null, .null, .null, .null, .null, .null, .null, .null, .null, .null, .null, .int 0, .int 0, .int 0, .int 0, .int 0, .int 0, .int 0, .int 0]))] ++ pl) := hD
  refine W.widen (k := 94) (n := 23132) (by omega) (by omega) ?_
  refine va_putF (D := g.1) (ci := 12) (v := .ref q25) (ty := .array (.array .int)) (C := "LatticeKeysModel$Hands") (T := T_MH) (N := 31) hx hb hts (wg_ft i_MH) ty_MH k_MH n_MH hown hK hP hD hS 0 rfl rfl 5 (by decide) (hts _ (wg_t kw_1437)) (fun _ h9 => h9) rfl hnm rfl (by decide +kernel) rfl rfl (Nat.le_of_ble_eq_true rfl) dMH_init_72 (fun H locs hP hD hS => ?_)
  have hP : va_P g.1 vcl ([(h0, .inr (12, [.null, .ref q21, .ref q22, .ref q23, .ref q24, .ref q25, .null, .null, .null, .null, .null, .null, .null, .null, .null, .null, .null, .null, .null, .null, .null, .null, .null, .int 0, .int 0, .int 0, .int 0, .int 0, .int 0, .int 0, .int 0]))] ++ pl) _ := hP
  have hD : va_D _ ([(h0, .inr (12, [.null, .ref q21, .ref q22, .ref q23, .ref q24, .ref q25, .null, .null, .null, .null, .null, .null, .null, .null, .null, .null, .null, .null, .null, .null, .null, .null, .null, .int 0, .int 0, .int 0, .int 0, .int 0, .int 0, .int 0, .int 0]))] ++ pl) := hD
  refine lv_aload_n hx hb dMH_init_75 rfl (lv_at hl 0 rfl) ?_
  refine lv_bipush (v := nI 8) hx hb dMH_init_76 (by decide) ?_
  refine lv_sipush (v := nI 256) hx hb dMH_init_78 (by decide) ?_
  refine ty_mnai (X := [(h0, .inr (12, [.null, .ref q21, .ref q22, .ref q23, .ref q24, .ref q25, .null, .null, .null, .null, .null, .null, .null, .null, .null, .null, .null, .null, .null, .null, .null, .null, .null, .int 0, .int 0, .int 0, .int 0, .int 0, .int 0, .int 0, .int 0]))]) hx hb hown (hts _ (wg_t kw_1431)) hE.2.2.2.2.2.1 (hts _ (wg_t kw_104)) hK hP hD hS hA hO hU (by decide) (Nat.le_of_ble_eq_true rfl) (Nat.le_of_ble_eq_true rfl) dMH_init_81 (fun q26 T pl H hxt26 hU kr26 hO hP hD hS hnk25 => ?_)
  have k_sp := hxt26 _ _ k_sp
  have kr21 := hxt26 _ _ kr21
  have kr22 := hxt26 _ _ kr22
  have kr23 := hxt26 _ _ kr23
  have kr24 := hxt26 _ _ kr24
  have kr25 := hxt26 _ _ kr25
  have hXT := ext_tr hXT hxt26
  have n_49_0 := hnk25 _ (by decide) n_49_0
  have hPS := pass_many hPS hnk25
  have hP : va_P g.1 vcl ([(h0, .inr (12, [.null, .ref q21, .ref q22, .ref q23, .ref q24, .ref q25, .null, .null, .null, .null, .null, .null, .null, .null, .null, .null, .null, .null, .null, .null, .null, .null, .null, .int 0, .int 0, .int 0, .int 0, .int 0, .int 0, .int 0, .int 0]))] ++ pl) _ := hP
  have hD : va_D _ ([(h0, .inr (12, [.null, .ref q21, .ref q22, .ref q23, .ref q24, .ref q25, .null, .null, .null, .null, .null, .null, .null, .null, .null, .null, .null, .null, .null, .null, .null, .null, .null, .int 0, .int 0, .int 0, .int 0, .int 0, .int 0, .int 0, .int 0]))] ++ pl) := hD
  refine W.widen (k := 103) (n := 25188) (by omega) (by omega) ?_
  refine va_putF (D := g.1) (ci := 12) (v := .ref q26) (ty := .array (.array .int)) (C := "LatticeKeysModel$Hands") (T := T_MH) (N := 31) hx hb hts (wg_ft i_MH) ty_MH k_MH n_MH hown hK hP hD hS 0 rfl rfl 6 (by decide) (hts _ (wg_t kw_1438)) (fun _ h9 => h9) rfl hnm rfl (by decide +kernel) rfl rfl (Nat.le_of_ble_eq_true rfl) dMH_init_85 (fun H locs hP hD hS => ?_)
  have hP : va_P g.1 vcl ([(h0, .inr (12, [.null, .ref q21, .ref q22, .ref q23, .ref q24, .ref q25, .ref q26, .null, .null, .null, .null, .null, .null, .null, .null, .null, .null, .null, .null, .null, .null, .null, .null, .int 0, .int 0, .int 0, .int 0, .int 0, .int 0, .int 0, .int 0]))] ++ pl) _ := hP
  have hD : va_D _ ([(h0, .inr (12, [.null, .ref q21, .ref q22, .ref q23, .ref q24, .ref q25, .ref q26, .null, .null, .null, .null, .null, .null, .null, .null, .null, .null, .null, .null, .null, .null, .null, .null, .int 0, .int 0, .int 0, .int 0, .int 0, .int 0, .int 0, .int 0]))] ++ pl) := hD
  refine lv_aload_n hx hb dMH_init_88 rfl (lv_at hl 0 rfl) ?_
  refine lv_bipush (v := nI 7) hx hb dMH_init_89 (by decide) ?_
  refine lv_sipush (v := nI 256) hx hb dMH_init_91 (by decide) ?_
  refine ty_mnai (X := [(h0, .inr (12, [.null, .ref q21, .ref q22, .ref q23, .ref q24, .ref q25, .ref q26, .null, .null, .null, .null, .null, .null, .null, .null, .null, .null, .null, .null, .null, .null, .null, .null, .int 0, .int 0, .int 0, .int 0, .int 0, .int 0, .int 0, .int 0]))]) hx hb hown (hts _ (wg_t kw_1431)) hE.2.2.2.2.2.1 (hts _ (wg_t kw_104)) hK hP hD hS hA hO hU (by decide) (Nat.le_of_ble_eq_true rfl) (Nat.le_of_ble_eq_true rfl) dMH_init_94 (fun q27 T pl H hxt27 hU kr27 hO hP hD hS hnk26 => ?_)
  have k_sp := hxt27 _ _ k_sp
  have kr21 := hxt27 _ _ kr21
  have kr22 := hxt27 _ _ kr22
  have kr23 := hxt27 _ _ kr23
  have kr24 := hxt27 _ _ kr24
  have kr25 := hxt27 _ _ kr25
  have kr26 := hxt27 _ _ kr26
  have hXT := ext_tr hXT hxt27
  have n_49_0 := hnk26 _ (by decide) n_49_0
  have hPS := pass_many hPS hnk26
  have hP : va_P g.1 vcl ([(h0, .inr (12, [.null, .ref q21, .ref q22, .ref q23, .ref q24, .ref q25, .ref q26, .null, .null, .null, .null, .null, .null, .null, .null, .null, .null, .null, .null, .null, .null, .null, .null, .int 0, .int 0, .int 0, .int 0, .int 0, .int 0, .int 0, .int 0]))] ++ pl) _ := hP
  have hD : va_D _ ([(h0, .inr (12, [.null, .ref q21, .ref q22, .ref q23, .ref q24, .ref q25, .ref q26, .null, .null, .null, .null, .null, .null, .null, .null, .null, .null, .null, .null, .null, .null, .null, .null, .int 0, .int 0, .int 0, .int 0, .int 0, .int 0, .int 0, .int 0]))] ++ pl) := hD
  refine W.widen (k := 111) (n := 26987) (by omega) (by omega) ?_
  refine va_putF (D := g.1) (ci := 12) (v := .ref q27) (ty := .array (.array .int)) (C := "LatticeKeysModel$Hands") (T := T_MH) (N := 31) hx hb hts (wg_ft i_MH) ty_MH k_MH n_MH hown hK hP hD hS 0 rfl rfl 7 (by decide) (hts _ (wg_t kw_1439)) (fun _ h9 => h9) rfl hnm rfl (by decide +kernel) rfl rfl (Nat.le_of_ble_eq_true rfl) dMH_init_98 (fun H locs hP hD hS => ?_)
  have hP : va_P g.1 vcl ([(h0, .inr (12, [.null, .ref q21, .ref q22, .ref q23, .ref q24, .ref q25, .ref q26, .ref q27, .null, .null, .null, .null, .null, .null, .null, .null, .null, .null, .null, .null, .null, .null, .null, .int 0, .int 0, .int 0, .int 0, .int 0, .int 0, .int 0, .int 0]))] ++ pl) _ := hP
  have hD : va_D _ ([(h0, .inr (12, [.null, .ref q21, .ref q22, .ref q23, .ref q24, .ref q25, .ref q26, .ref q27, .null, .null, .null, .null, .null, .null, .null, .null, .null, .null, .null, .null, .null, .null, .null, .int 0, .int 0, .int 0, .int 0, .int 0, .int 0, .int 0, .int 0]))] ++ pl) := hD
  refine lv_aload_n hx hb dMH_init_101 rfl (lv_at hl 0 rfl) ?_
  refine lv_bipush (v := nI 7) hx hb dMH_init_102 (by decide) ?_
  refine lv_sipush (v := nI 256) hx hb dMH_init_104 (by decide) ?_
  refine ty_mnai (X := [(h0, .inr (12, [.null, .ref q21, .ref q22, .ref q23, .ref q24, .ref q25, .ref q26, .ref q27, .null, .null, .null, .null, .null, .null, .null, .null, .null, .null, .null, .null, .null, .null, .null, .int 0, .int 0, .int 0, .int 0, .int 0, .int 0, .int 0, .int 0]))]) hx hb hown (hts _ (wg_t kw_1431)) hE.2.2.2.2.2.1 (hts _ (wg_t kw_104)) hK hP hD hS hA hO hU (by decide) (Nat.le_of_ble_eq_true rfl) (Nat.le_of_ble_eq_true rfl) dMH_init_107 (fun q28 T pl H hxt28 hU kr28 hO hP hD hS hnk27 => ?_)
  have k_sp := hxt28 _ _ k_sp
  have kr21 := hxt28 _ _ kr21
  have kr22 := hxt28 _ _ kr22
  have kr23 := hxt28 _ _ kr23
  have kr24 := hxt28 _ _ kr24
  have kr25 := hxt28 _ _ kr25
  have kr26 := hxt28 _ _ kr26
  have kr27 := hxt28 _ _ kr27
  have hXT := ext_tr hXT hxt28
  have n_49_0 := hnk27 _ (by decide) n_49_0
  have hPS := pass_many hPS hnk27
  have hP : va_P g.1 vcl ([(h0, .inr (12, [.null, .ref q21, .ref q22, .ref q23, .ref q24, .ref q25, .ref q26, .ref q27, .null, .null, .null, .null, .null, .null, .null, .null, .null, .null, .null, .null, .null, .null, .null, .int 0, .int 0, .int 0, .int 0, .int 0, .int 0, .int 0, .int 0]))] ++ pl) _ := hP
  have hD : va_D _ ([(h0, .inr (12, [.null, .ref q21, .ref q22, .ref q23, .ref q24, .ref q25, .ref q26, .ref q27, .null, .null, .null, .null, .null, .null, .null, .null, .null, .null, .null, .null, .null, .null, .null, .int 0, .int 0, .int 0, .int 0, .int 0, .int 0, .int 0, .int 0]))] ++ pl) := hD
  refine W.widen (k := 119) (n := 28786) (by omega) (by omega) ?_
  refine va_putF (D := g.1) (ci := 12) (v := .ref q28) (ty := .array (.array .int)) (C := "LatticeKeysModel$Hands") (T := T_MH) (N := 31) hx hb hts (wg_ft i_MH) ty_MH k_MH n_MH hown hK hP hD hS 0 rfl rfl 8 (by decide) (hts _ (wg_t kw_1440)) (fun _ h9 => h9) rfl hnm rfl (by decide +kernel) rfl rfl (Nat.le_of_ble_eq_true rfl) dMH_init_111 (fun H locs hP hD hS => ?_)
  have hP : va_P g.1 vcl ([(h0, .inr (12, [.null, .ref q21, .ref q22, .ref q23, .ref q24, .ref q25, .ref q26, .ref q27, .ref q28, .null, .null, .null, .null, .null, .null, .null, .null, .null, .null, .null, .null, .null, .null, .int 0, .int 0, .int 0, .int 0, .int 0, .int 0, .int 0, .int 0]))] ++ pl) _ := hP
  have hD : va_D _ ([(h0, .inr (12, [.null, .ref q21, .ref q22, .ref q23, .ref q24, .ref q25, .ref q26, .ref q27, .ref q28, .null, .null, .null, .null, .null, .null, .null, .null, .null, .null, .null, .null, .null, .null, .int 0, .int 0, .int 0, .int 0, .int 0, .int 0, .int 0, .int 0]))] ++ pl) := hD
  refine lv_aload_n hx hb dMH_init_114 rfl (lv_at hl 0 rfl) ?_
  refine lv_bipush (v := nI 7) hx hb dMH_init_115 (by decide) ?_
  refine lv_sipush (v := nI 256) hx hb dMH_init_117 (by decide) ?_
  refine ty_mnai (X := [(h0, .inr (12, [.null, .ref q21, .ref q22, .ref q23, .ref q24, .ref q25, .ref q26, .ref q27, .ref q28, .null, .null, .null, .null, .null, .null, .null, .null, .null, .null, .null, .null, .null, .null, .int 0, .int 0, .int 0, .int 0, .int 0, .int 0, .int 0, .int 0]))]) hx hb hown (hts _ (wg_t kw_1431)) hE.2.2.2.2.2.1 (hts _ (wg_t kw_104)) hK hP hD hS hA hO hU (by decide) (Nat.le_of_ble_eq_true rfl) (Nat.le_of_ble_eq_true rfl) dMH_init_120 (fun q29 T pl H hxt29 hU kr29 hO hP hD hS hnk28 => ?_)
  have k_sp := hxt29 _ _ k_sp
  have kr21 := hxt29 _ _ kr21
  have kr22 := hxt29 _ _ kr22
  have kr23 := hxt29 _ _ kr23
  have kr24 := hxt29 _ _ kr24
  have kr25 := hxt29 _ _ kr25
  have kr26 := hxt29 _ _ kr26
  have kr27 := hxt29 _ _ kr27
  have kr28 := hxt29 _ _ kr28
  have hXT := ext_tr hXT hxt29
  have n_49_0 := hnk28 _ (by decide) n_49_0
  have hPS := pass_many hPS hnk28
  have hP : va_P g.1 vcl ([(h0, .inr (12, [.null, .ref q21, .ref q22, .ref q23, .ref q24, .ref q25, .ref q26, .ref q27, .ref q28, .null, .null, .null, .null, .null, .null, .null, .null, .null, .null, .null, .null, .null, .null, .int 0, .int 0, .int 0, .int 0, .int 0, .int 0, .int 0, .int 0]))] ++ pl) _ := hP
  have hD : va_D _ ([(h0, .inr (12, [.null, .ref q21, .ref q22, .ref q23, .ref q24, .ref q25, .ref q26, .ref q27, .ref q28, .null, .null, .null, .null, .null, .null, .null, .null, .null, .null, .null, .null, .null, .null, .int 0, .int 0, .int 0, .int 0, .int 0, .int 0, .int 0, .int 0]))] ++ pl) := hD
  refine W.widen (k := 127) (n := 30585) (by omega) (by omega) ?_
  refine va_putF (D := g.1) (ci := 12) (v := .ref q29) (ty := .array (.array .int)) (C := "LatticeKeysModel$Hands") (T := T_MH) (N := 31) hx hb hts (wg_ft i_MH) ty_MH k_MH n_MH hown hK hP hD hS 0 rfl rfl 9 (by decide) (hts _ (wg_t kw_1441)) (fun _ h9 => h9) rfl hnm rfl (by decide +kernel) rfl rfl (Nat.le_of_ble_eq_true rfl) dMH_init_124 (fun H locs hP hD hS => ?_)
  have hP : va_P g.1 vcl ([(h0, .inr (12, [.null, .ref q21, .ref q22, .ref q23, .ref q24, .ref q25, .ref q26, .ref q27, .ref q28, .ref q29, .null, .null, .null, .null, .null, .null, .null, .null, .null, .null, .null, .null, .null, .int 0, .int 0, .int 0, .int 0, .int 0, .int 0, .int 0, .int 0]))] ++ pl) _ := hP
  have hD : va_D _ ([(h0, .inr (12, [.null, .ref q21, .ref q22, .ref q23, .ref q24, .ref q25, .ref q26, .ref q27, .ref q28, .ref q29, .null, .null, .null, .null, .null, .null, .null, .null, .null, .null, .null, .null, .null, .int 0, .int 0, .int 0, .int 0, .int 0, .int 0, .int 0, .int 0]))] ++ pl) := hD
  refine lv_aload_n hx hb dMH_init_127 rfl (lv_at hl 0 rfl) ?_
  refine lv_bipush (v := nI 8) hx hb dMH_init_128 (by decide) ?_
  refine lv_sipush (v := nI 256) hx hb dMH_init_130 (by decide) ?_
  refine ty_mnai (X := [(h0, .inr (12, [.null, .ref q21, .ref q22, .ref q23, .ref q24, .ref q25, .ref q26, .ref q27, .ref q28, .ref q29, .null, .null, .null, .null, .null, .null, .null, .null, .null, .null, .null, .null, .null, .int 0, .int 0, .int 0, .int 0, .int 0, .int 0, .int 0, .int 0]))]) hx hb hown (hts _ (wg_t kw_1431)) hE.2.2.2.2.2.1 (hts _ (wg_t kw_104)) hK hP hD hS hA hO hU (by decide) (Nat.le_of_ble_eq_true rfl) (Nat.le_of_ble_eq_true rfl) dMH_init_133 (fun q30 T pl H hxt30 hU kr30 hO hP hD hS hnk29 => ?_)
  have k_sp := hxt30 _ _ k_sp
  have kr21 := hxt30 _ _ kr21
  have kr22 := hxt30 _ _ kr22
  have kr23 := hxt30 _ _ kr23
  have kr24 := hxt30 _ _ kr24
  have kr25 := hxt30 _ _ kr25
  have kr26 := hxt30 _ _ kr26
  have kr27 := hxt30 _ _ kr27
  have kr28 := hxt30 _ _ kr28
  have kr29 := hxt30 _ _ kr29
  have hXT := ext_tr hXT hxt30
  have n_49_0 := hnk29 _ (by decide) n_49_0
  have hPS := pass_many hPS hnk29
  have hP : va_P g.1 vcl ([(h0, .inr (12, [.null, .ref q21, .ref q22, .ref q23, .ref q24, .ref q25, .ref q26, .ref q27, .ref q28, .ref q29, .null, .null, .null, .null, .null, .null, .null, .null, .null, .null, .null, .null, .null, .int 0, .int 0, .int 0, .int 0, .int 0, .int 0, .int 0, .int 0]))] ++ pl) _ := hP
  have hD : va_D _ ([(h0, .inr (12, [.null, .ref q21, .ref q22, .ref q23, .ref q24, .ref q25, .ref q26, .ref q27, .ref q28, .ref q29, .null, .null, .null, .null, .null, .null, .null, .null, .null, .null, .null, .null, .null, .int 0, .int 0, .int 0, .int 0, .int 0, .int 0, .int 0, .int 0]))] ++ pl) := hD
  refine W.widen (k := 136) (n := 32641) (by omega) (by omega) ?_
  refine va_putF (D := g.1) (ci := 12) (v := .ref q30) (ty := .array (.array .int)) (C := "LatticeKeysModel$Hands") (T := T_MH) (N := 31) hx hb hts (wg_ft i_MH) ty_MH k_MH n_MH hown hK hP hD hS 0 rfl rfl 10 (by decide) (hts _ (wg_t kw_1442)) (fun _ h9 => h9) rfl hnm rfl (by decide +kernel) rfl rfl (Nat.le_of_ble_eq_true rfl) dMH_init_137 (fun H locs hP hD hS => ?_)
  have hP : va_P g.1 vcl ([(h0, .inr (12, [.null, .ref q21, .ref q22, .ref q23, .ref q24, .ref q25, .ref q26, .ref q27, .ref q28, .ref q29, .ref q30, .null, .null, .null, .null, .null, .null, .null, .null, .null, .null, .null, .null, .int 0, .int 0, .int 0, .int 0, .int 0, .int 0, .int 0, .int 0]))] ++ pl) _ := hP
  have hD : va_D _ ([(h0, .inr (12, [.null, .ref q21, .ref q22, .ref q23, .ref q24, .ref q25, .ref q26, .ref q27, .ref q28, .ref q29, .ref q30, .null, .null, .null, .null, .null, .null, .null, .null, .null, .null, .null, .null, .int 0, .int 0, .int 0, .int 0, .int 0, .int 0, .int 0, .int 0]))] ++ pl) := hD
  refine lv_aload_n hx hb dMH_init_140 rfl (lv_at hl 0 rfl) ?_
  refine lv_bipush (v := nI 8) hx hb dMH_init_141 (by decide) ?_
  refine lv_sipush (v := nI 256) hx hb dMH_init_143 (by decide) ?_
  refine ty_mnai (X := [(h0, .inr (12, [.null, .ref q21, .ref q22, .ref q23, .ref q24, .ref q25, .ref q26, .ref q27, .ref q28, .ref q29, .ref q30, .null, .null, .null, .null, .null, .null, .null, .null, .null, .null, .null, .null, .int 0, .int 0, .int 0, .int 0, .int 0, .int 0, .int 0, .int 0]))]) hx hb hown (hts _ (wg_t kw_1431)) hE.2.2.2.2.2.1 (hts _ (wg_t kw_104)) hK hP hD hS hA hO hU (by decide) (Nat.le_of_ble_eq_true rfl) (Nat.le_of_ble_eq_true rfl) dMH_init_146 (fun q31 T pl H hxt31 hU kr31 hO hP hD hS hnk30 => ?_)
  have k_sp := hxt31 _ _ k_sp
  have kr21 := hxt31 _ _ kr21
  have kr22 := hxt31 _ _ kr22
  have kr23 := hxt31 _ _ kr23
  have kr24 := hxt31 _ _ kr24
  have kr25 := hxt31 _ _ kr25
  have kr26 := hxt31 _ _ kr26
  have kr27 := hxt31 _ _ kr27
  have kr28 := hxt31 _ _ kr28
  have kr29 := hxt31 _ _ kr29
  have kr30 := hxt31 _ _ kr30
  have hXT := ext_tr hXT hxt31
  have n_49_0 := hnk30 _ (by decide) n_49_0
  have hPS := pass_many hPS hnk30
  have hP : va_P g.1 vcl ([(h0, .inr (12, [.null, .ref q21, .ref q22, .ref q23, .ref q24, .ref q25, .ref q26, .ref q27, .ref q28, .ref q29, .ref q30, .null, .null, .null, .null, .null, .null, .null, .null, .null, .null, .null, .null, .int 0, .int 0, .int 0, .int 0, .int 0, .int 0, .int 0, .int 0]))] ++ pl) _ := hP
  have hD : va_D _ ([(h0, .inr (12, [.null, .ref q21, .ref q22, .ref q23, .ref q24, .ref q25, .ref q26, .ref q27, .ref q28, .ref q29, .ref q30, .null, .null, .null, .null, .null, .null, .null, .null, .null, .null, .null, .null, .int 0, .int 0, .int 0, .int 0, .int 0, .int 0, .int 0, .int 0]))] ++ pl) := hD
  refine W.widen (k := 145) (n := 34697) (by omega) (by omega) ?_
  refine va_putF (D := g.1) (ci := 12) (v := .ref q31) (ty := .array (.array .int)) (C := "LatticeKeysModel$Hands") (T := T_MH) (N := 31) hx hb hts (wg_ft i_MH) ty_MH k_MH n_MH hown hK hP hD hS 0 rfl rfl 11 (by decide) (hts _ (wg_t kw_1443)) (fun _ h9 => h9) rfl hnm rfl (by decide +kernel) rfl rfl (Nat.le_of_ble_eq_true rfl) dMH_init_150 (fun H locs hP hD hS => ?_)
  have hP : va_P g.1 vcl ([(h0, .inr (12, [.null, .ref q21, .ref q22, .ref q23, .ref q24, .ref q25, .ref q26, .ref q27, .ref q28, .ref q29, .ref q30, .ref q31, .null, .null, .null, .null, .null, .null, .null, .null, .null, .null, .null, .int 0, .int 0, .int 0, .int 0, .int 0, .int 0, .int 0, .int 0]))] ++ pl) _ := hP
  have hD : va_D _ ([(h0, .inr (12, [.null, .ref q21, .ref q22, .ref q23, .ref q24, .ref q25, .ref q26, .ref q27, .ref q28, .ref q29, .ref q30, .ref q31, .null, .null, .null, .null, .null, .null, .null, .null, .null, .null, .null, .int 0, .int 0, .int 0, .int 0, .int 0, .int 0, .int 0, .int 0]))] ++ pl) := hD
  refine lv_aload_n hx hb dMH_init_153 rfl (lv_at hl 0 rfl) ?_
  refine lv_sipush (v := nI 256) hx hb dMH_init_154 (by decide) ?_
  refine ma_newa (ws := [(h0, .inr (12, [.null, .ref q21, .ref q22, .ref q23, .ref q24, .ref q25, .ref q26, .ref q27, .ref q28, .ref q29, .ref q30, .ref q31, .null, .null, .null, .null, .null, .null, .null, .null, .null, .null, .null, .int 0, .int 0, .int 0, .int 0, .int 0, .int 0, .int 0, .int 0]))] ++ pl) (atype := .int) hx hb (hts _ (wg_t kw_104)) rfl hK hP hD hS hA 0 rfl (N' := 256) (a0 := (256, .inl (fun _ => 0))) (fun _ => rfl) (nI_pos (by omega)) (nI_clamp (by omega)) (by show (256) * 4 ≤ 536870912; omega) (Nat.le_of_ble_eq_true rfl) (Nat.le_of_ble_eq_true rfl) dMH_init_157 (fun q32 H hP hD hS => ?_)
  refine W.widen (k := 146) (n := 34953) (by omega) (by omega) ?_
  obtain ⟨T, pl, hxt32, hU, kr32, hO, hP, hD, hnk31⟩ := absorb (X := [(h0, .inr (12, [.null, .ref q21, .ref q22, .ref q23, .ref q24, .ref q25, .ref q26, .ref q27, .ref q28, .ref q29, .ref q30, .ref q31, .null, .null, .null, .null, .null, .null, .null, .null, .null, .null, .null, .int 0, .int 0, .int 0, .int 0, .int 0, .int 0, .int 0, .int 0]))]) (0, 256) hP hD hO hU (Or.inl rfl) (fun _ _ _ => ⟨_, rfl⟩)
  have k_sp := hxt32 _ _ k_sp
  have kr21 := hxt32 _ _ kr21
  have kr22 := hxt32 _ _ kr22
  have kr23 := hxt32 _ _ kr23
  have kr24 := hxt32 _ _ kr24
  have kr25 := hxt32 _ _ kr25
  have kr26 := hxt32 _ _ kr26
  have kr27 := hxt32 _ _ kr27
  have kr28 := hxt32 _ _ kr28
  have kr29 := hxt32 _ _ kr29
  have kr30 := hxt32 _ _ kr30
  have kr31 := hxt32 _ _ kr31
  have hXT := ext_tr hXT hxt32
  have n_49_0 := hnk31 _ (by decide) n_49_0
  have hP : va_P g.1 vcl ([(h0, .inr (12, [.null, .ref q21, .ref q22, .ref q23, .ref q24, .ref q25, .ref q26, .ref q27, .ref q28, .ref q29, .ref q30, .ref q31, .null, .null, .null, .null, .null, .null, .null, .null, .null, .null, .null, .int 0, .int 0, .int 0, .int 0, .int 0, .int 0, .int 0, .int 0]))] ++ pl) _ := hP
  have hD : va_D _ ([(h0, .inr (12, [.null, .ref q21, .ref q22, .ref q23, .ref q24, .ref q25, .ref q26, .ref q27, .ref q28, .ref q29, .ref q30, .ref q31, .null, .null, .null, .null, .null, .null, .null, .null, .null, .null, .null, .int 0, .int 0, .int 0, .int 0, .int 0, .int 0, .int 0, .int 0]))] ++ pl) := hD
  have hPS := pass_one hPS hnk31 (Or.inl rfl)
  refine va_putF (D := g.1) (ci := 12) (v := .ref q32) (ty := .array .int) (C := "LatticeKeysModel$Hands") (T := T_MH) (N := 31) hx hb hts (wg_ft i_MH) ty_MH k_MH n_MH hown hK hP hD hS 0 rfl rfl 12 (by decide) (hts _ (wg_t kw_1444)) (fun _ h9 => h9) rfl hnm rfl (by decide +kernel) rfl rfl (Nat.le_of_ble_eq_true rfl) dMH_init_159 (fun H locs hP hD hS => ?_)
  have hP : va_P g.1 vcl ([(h0, .inr (12, [.null, .ref q21, .ref q22, .ref q23, .ref q24, .ref q25, .ref q26, .ref q27, .ref q28, .ref q29, .ref q30, .ref q31, .ref q32, .null, .null, .null, .null, .null, .null, .null, .null, .null, .null, .int 0, .int 0, .int 0, .int 0, .int 0, .int 0, .int 0, .int 0]))] ++ pl) _ := hP
  have hD : va_D _ ([(h0, .inr (12, [.null, .ref q21, .ref q22, .ref q23, .ref q24, .ref q25, .ref q26, .ref q27, .ref q28, .ref q29, .ref q30, .ref q31, .ref q32, .null, .null, .null, .null, .null, .null, .null, .null, .null, .null, .int 0, .int 0, .int 0, .int 0, .int 0, .int 0, .int 0, .int 0]))] ++ pl) := hD
  refine lv_aload_n hx hb dMH_init_162 rfl (lv_at hl 0 rfl) ?_
  refine lv_sipush (v := nI 256) hx hb dMH_init_163 (by decide) ?_
  refine ma_newa (ws := [(h0, .inr (12, [.null, .ref q21, .ref q22, .ref q23, .ref q24, .ref q25, .ref q26, .ref q27, .ref q28, .ref q29, .ref q30, .ref q31, .ref q32, .null, .null, .null, .null, .null, .null, .null, .null, .null, .null, .int 0, .int 0, .int 0, .int 0, .int 0, .int 0, .int 0, .int 0]))] ++ pl) (atype := .int) hx hb (hts _ (wg_t kw_104)) rfl hK hP hD hS hA 0 rfl (N' := 256) (a0 := (256, .inl (fun _ => 0))) (fun _ => rfl) (nI_pos (by omega)) (nI_clamp (by omega)) (by show (256) * 4 ≤ 536870912; omega) (Nat.le_of_ble_eq_true rfl) (Nat.le_of_ble_eq_true rfl) dMH_init_166 (fun q33 H hP hD hS => ?_)
  refine W.widen (k := 147) (n := 35209) (by omega) (by omega) ?_
  obtain ⟨T, pl, hxt33, hU, kr33, hO, hP, hD, hnk32⟩ := absorb (X := [(h0, .inr (12, [.null, .ref q21, .ref q22, .ref q23, .ref q24, .ref q25, .ref q26, .ref q27, .ref q28, .ref q29, .ref q30, .ref q31, .ref q32, .null, .null, .null, .null, .null, .null, .null, .null, .null, .null, .int 0, .int 0, .int 0, .int 0, .int 0, .int 0, .int 0, .int 0]))]) (0, 256) hP hD hO hU (Or.inl rfl) (fun _ _ _ => ⟨_, rfl⟩)
  have k_sp := hxt33 _ _ k_sp
  have kr21 := hxt33 _ _ kr21
  have kr22 := hxt33 _ _ kr22
  have kr23 := hxt33 _ _ kr23
  have kr24 := hxt33 _ _ kr24
  have kr25 := hxt33 _ _ kr25
  have kr26 := hxt33 _ _ kr26
  have kr27 := hxt33 _ _ kr27
  have kr28 := hxt33 _ _ kr28
  have kr29 := hxt33 _ _ kr29
  have kr30 := hxt33 _ _ kr30
  have kr31 := hxt33 _ _ kr31
  have kr32 := hxt33 _ _ kr32
  have hXT := ext_tr hXT hxt33
  have n_49_0 := hnk32 _ (by decide) n_49_0
  have hP : va_P g.1 vcl ([(h0, .inr (12, [.null, .ref q21, .ref q22, .ref q23, .ref q24, .ref q25, .ref q26, .ref q27, .ref q28, .ref q29, .ref q30, .ref q31, .ref q32, .null, .null, .null, .null, .null, .null, .null, .null, .null, .null, .int 0, .int 0, .int 0, .int 0, .int 0, .int 0, .int 0, .int 0]))] ++ pl) _ := hP
  have hD : va_D _ ([(h0, .inr (12, [.null, .ref q21, .ref q22, .ref q23, .ref q24, .ref q25, .ref q26, .ref q27, .ref q28, .ref q29, .ref q30, .ref q31, .ref q32, .null, .null, .null, .null, .null, .null, .null, .null, .null, .null, .int 0, .int 0, .int 0, .int 0, .int 0, .int 0, .int 0, .int 0]))] ++ pl) := hD
  have hPS := pass_one hPS hnk32 (Or.inl rfl)
  refine va_putF (D := g.1) (ci := 12) (v := .ref q33) (ty := .array .int) (C := "LatticeKeysModel$Hands") (T := T_MH) (N := 31) hx hb hts (wg_ft i_MH) ty_MH k_MH n_MH hown hK hP hD hS 0 rfl rfl 13 (by decide) (hts _ (wg_t kw_1445)) (fun _ h9 => h9) rfl hnm rfl (by decide +kernel) rfl rfl (Nat.le_of_ble_eq_true rfl) dMH_init_168 (fun H locs hP hD hS => ?_)
  have hP : va_P g.1 vcl ([(h0, .inr (12, [.null, .ref q21, .ref q22, .ref q23, .ref q24, .ref q25, .ref q26, .ref q27, .ref q28, .ref q29, .ref q30, .ref q31, .ref q32, .ref q33, .null, .null, .null, .null, .null, .null, .null, .null, .null, .int 0, .int 0, .int 0, .int 0, .int 0, .int 0, .int 0, .int 0]))] ++ pl) _ := hP
  have hD : va_D _ ([(h0, .inr (12, [.null, .ref q21, .ref q22, .ref q23, .ref q24, .ref q25, .ref q26, .ref q27, .ref q28, .ref q29, .ref q30, .ref q31, .ref q32, .ref q33, .null, .null, .null, .null, .null, .null, .null, .null, .null, .int 0, .int 0, .int 0, .int 0, .int 0, .int 0, .int 0, .int 0]))] ++ pl) := hD
  refine lv_aload_n hx hb dMH_init_171 rfl (lv_at hl 0 rfl) ?_
  refine lv_sipush (v := nI 256) hx hb dMH_init_172 (by decide) ?_
  refine ma_newa (ws := [(h0, .inr (12, [.null, .ref q21, .ref q22, .ref q23, .ref q24, .ref q25, .ref q26, .ref q27, .ref q28, .ref q29, .ref q30, .ref q31, .ref q32, .ref q33, .null, .null, .null, .null, .null, .null, .null, .null, .null, .int 0, .int 0, .int 0, .int 0, .int 0, .int 0, .int 0, .int 0]))] ++ pl) (atype := .int) hx hb (hts _ (wg_t kw_104)) rfl hK hP hD hS hA 0 rfl (N' := 256) (a0 := (256, .inl (fun _ => 0))) (fun _ => rfl) (nI_pos (by omega)) (nI_clamp (by omega)) (by show (256) * 4 ≤ 536870912; omega) (Nat.le_of_ble_eq_true rfl) (Nat.le_of_ble_eq_true rfl) dMH_init_175 (fun q34 H hP hD hS => ?_)
  refine W.widen (k := 148) (n := 35465) (by omega) (by omega) ?_
  obtain ⟨T, pl, hxt34, hU, kr34, hO, hP, hD, hnk33⟩ := absorb (X := [(h0, .inr (12, [.null, .ref q21, .ref q22, .ref q23, .ref q24, .ref q25, .ref q26, .ref q27, .ref q28, .ref q29, .ref q30, .ref q31, .ref q32, .ref q33, .null, .null, .null, .null, .null, .null, .null, .null, .null, .int 0, .int 0, .int 0, .int 0, .int 0, .int 0, .int 0, .int 0]))]) (0, 256) hP hD hO hU (Or.inl rfl) (fun _ _ _ => ⟨_, rfl⟩)
  have k_sp := hxt34 _ _ k_sp
  have kr21 := hxt34 _ _ kr21
  have kr22 := hxt34 _ _ kr22
  have kr23 := hxt34 _ _ kr23
  have kr24 := hxt34 _ _ kr24
  have kr25 := hxt34 _ _ kr25
  have kr26 := hxt34 _ _ kr26
  have kr27 := hxt34 _ _ kr27
  have kr28 := hxt34 _ _ kr28
  have kr29 := hxt34 _ _ kr29
  have kr30 := hxt34 _ _ kr30
  have kr31 := hxt34 _ _ kr31
  have kr32 := hxt34 _ _ kr32
  have kr33 := hxt34 _ _ kr33
  have hXT := ext_tr hXT hxt34
  have n_49_0 := hnk33 _ (by decide) n_49_0
  have hP : va_P g.1 vcl ([(h0, .inr (12, [.null, .ref q21, .ref q22, .ref q23, .ref q24, .ref q25, .ref q26, .ref q27, .ref q28, .ref q29, .ref q30, .ref q31, .ref q32, .ref q33, .null, .null, .null, .null, .null, .null, .null, .null, .null, .int 0, .int 0, .int 0, .int 0, .int 0, .int 0, .int 0, .int 0]))] ++ pl) _ := hP
  have hD : va_D _ ([(h0, .inr (12, [.null, .ref q21, .ref q22, .ref q23, .ref q24, .ref q25, .ref q26, .ref q27, .ref q28, .ref q29, .ref q30, .ref q31, .ref q32, .ref q33, .null, .null, .null, .null, .null, .null, .null, .null, .null, .int 0, .int 0, .int 0, .int 0, .int 0, .int 0, .int 0, .int 0]))] ++ pl) := hD
  have hPS := pass_one hPS hnk33 (Or.inl rfl)
  refine va_putF (D := g.1) (ci := 12) (v := .ref q34) (ty := .array .int) (C := "LatticeKeysModel$Hands") (T := T_MH) (N := 31) hx hb hts (wg_ft i_MH) ty_MH k_MH n_MH hown hK hP hD hS 0 rfl rfl 14 (by decide) (hts _ (wg_t kw_1446)) (fun _ h9 => h9) rfl hnm rfl (by decide +kernel) rfl rfl (Nat.le_of_ble_eq_true rfl) dMH_init_177 (fun H locs hP hD hS => ?_)
  have hP : va_P g.1 vcl ([(h0, .inr (12, [.null, .ref q21, .ref q22, .ref q23, .ref q24, .ref q25, .ref q26, .ref q27, .ref q28, .ref q29, .ref q30, .ref q31, .ref q32, .ref q33, .ref q34, .null, .null, .null, .null, .null, .null, .null, .null, .int 0, .int 0, .int 0, .int 0, .int 0, .int 0, .int 0, .int 0]))] ++ pl) _ := hP
  have hD : va_D _ ([(h0, .inr (12, [.null, .ref q21, .ref q22, .ref q23, .ref q24, .ref q25, .ref q26, .ref q27, .ref q28, .ref q29, .ref q30, .ref q31, .ref q32, .ref q33, .ref q34, .null, .null, .null, .null, .null, .null, .null, .null, .int 0, .int 0, .int 0, .int 0, .int 0, .int 0, .int 0, .int 0]))] ++ pl) := hD
  refine lv_aload_n hx hb dMH_init_180 rfl (lv_at hl 0 rfl) ?_
  refine lv_sipush (v := nI 256) hx hb dMH_init_181 (by decide) ?_
  refine ma_newa (ws := [(h0, .inr (12, [.null, .ref q21, .ref q22, .ref q23, .ref q24, .ref q25, .ref q26, .ref q27, .ref q28, .ref q29, .ref q30, .ref q31, .ref q32, .ref q33, .ref q34, .null, .null, .null, .null, .null, .null, .null, .null, .int 0, .int 0, .int 0, .int 0, .int 0, .int 0, .int 0, .int 0]))] ++ pl) (atype := .long) hx hb (hts _ (wg_t kw_73)) rfl hK hP hD hS hA 2 rfl (N' := 256) (a0 := (256, .inr (.inl (fun _ => 0)))) (fun _ => rfl) (nI_pos (by omega)) (nI_clamp (by omega)) (by show (256) * 8 ≤ 536870912; omega) (Nat.le_of_ble_eq_true rfl) (Nat.le_of_ble_eq_true rfl) dMH_init_184 (fun q35 H hP hD hS => ?_)
  refine W.widen (k := 149) (n := 35721) (by omega) (by omega) ?_
  obtain ⟨T, pl, hxt35, hU, kr35, hO, hP, hD, hnk34⟩ := absorb (X := [(h0, .inr (12, [.null, .ref q21, .ref q22, .ref q23, .ref q24, .ref q25, .ref q26, .ref q27, .ref q28, .ref q29, .ref q30, .ref q31, .ref q32, .ref q33, .ref q34, .null, .null, .null, .null, .null, .null, .null, .null, .int 0, .int 0, .int 0, .int 0, .int 0, .int 0, .int 0, .int 0]))]) (2, 256) hP hD hO hU (Or.inl rfl) (fun _ _ _ => ⟨_, rfl⟩)
  have k_sp := hxt35 _ _ k_sp
  have kr21 := hxt35 _ _ kr21
  have kr22 := hxt35 _ _ kr22
  have kr23 := hxt35 _ _ kr23
  have kr24 := hxt35 _ _ kr24
  have kr25 := hxt35 _ _ kr25
  have kr26 := hxt35 _ _ kr26
  have kr27 := hxt35 _ _ kr27
  have kr28 := hxt35 _ _ kr28
  have kr29 := hxt35 _ _ kr29
  have kr30 := hxt35 _ _ kr30
  have kr31 := hxt35 _ _ kr31
  have kr32 := hxt35 _ _ kr32
  have kr33 := hxt35 _ _ kr33
  have kr34 := hxt35 _ _ kr34
  have hXT := ext_tr hXT hxt35
  have n_49_0 := hnk34 _ (by decide) n_49_0
  have hP : va_P g.1 vcl ([(h0, .inr (12, [.null, .ref q21, .ref q22, .ref q23, .ref q24, .ref q25, .ref q26, .ref q27, .ref q28, .ref q29, .ref q30, .ref q31, .ref q32, .ref q33, .ref q34, .null, .null, .null, .null, .null, .null, .null, .null, .int 0, .int 0, .int 0, .int 0, .int 0, .int 0, .int 0, .int 0]))] ++ pl) _ := hP
  have hD : va_D _ ([(h0, .inr (12, [.null, .ref q21, .ref q22, .ref q23, .ref q24, .ref q25, .ref q26, .ref q27, .ref q28, .ref q29, .ref q30, .ref q31, .ref q32, .ref q33, .ref q34, .null, .null, .null, .null, .null, .null, .null, .null, .int 0, .int 0, .int 0, .int 0, .int 0, .int 0, .int 0, .int 0]))] ++ pl) := hD
  have hPS := pass_one hPS hnk34 (Or.inl rfl)
  refine va_putF (D := g.1) (ci := 12) (v := .ref q35) (ty := .array .long) (C := "LatticeKeysModel$Hands") (T := T_MH) (N := 31) hx hb hts (wg_ft i_MH) ty_MH k_MH n_MH hown hK hP hD hS 0 rfl rfl 15 (by decide) (hts _ (wg_t kw_1447)) (fun _ h9 => h9) rfl hnm rfl (by decide +kernel) rfl rfl (Nat.le_of_ble_eq_true rfl) dMH_init_186 (fun H locs hP hD hS => ?_)
  have hP : va_P g.1 vcl ([(h0, .inr (12, [.null, .ref q21, .ref q22, .ref q23, .ref q24, .ref q25, .ref q26, .ref q27, .ref q28, .ref q29, .ref q30, .ref q31, .ref q32, .ref q33, .ref q34, .ref q35, .null, .null, .null, .null, .null, .null, .null, .int 0, .int 0, .int 0, .int 0, .int 0, .int 0, .int 0, .int 0]))] ++ pl) _ := hP
  have hD : va_D _ ([(h0, .inr (12, [.null, .ref q21, .ref q22, .ref q23, .ref q24, .ref q25, .ref q26, .ref q27, .ref q28, .ref q29, .ref q30, .ref q31, .ref q32, .ref q33, .ref q34, .ref q35, .null, .null, .null, .null, .null, .null, .null, .int 0, .int 0, .int 0, .int 0, .int 0, .int 0, .int 0, .int 0]))] ++ pl) := hD
  refine lv_aload_n hx hb dMH_init_189 rfl (lv_at hl 0 rfl) ?_
  refine lv_sipush (v := nI 128) hx hb dMH_init_190 (by decide) ?_
  refine ma_newa (ws := [(h0, .inr (12, [.null, .ref q21, .ref q22, .ref q23, .ref q24, .ref q25, .ref q26, .ref q27, .ref q28, .ref q29, .ref q30, .ref q31, .ref q32, .ref q33, .ref q34, .ref q35, .null, .null, .null, .null, .null, .null, .null, .int 0, .int 0, .int 0, .int 0, .int 0, .int 0, .int 0, .int 0]))] ++ pl) (atype := .byte) hx hb (hts _ (wg_t kw_72)) rfl hK hP hD hS hA 1 rfl (N' := 128) (a0 := (128, .inl (fun _ => 0))) (fun _ => rfl) (nI_pos (by omega)) (nI_clamp (by omega)) (by show (128) * 1 ≤ 536870912; omega) (Nat.le_of_ble_eq_true rfl) (Nat.le_of_ble_eq_true rfl) dMH_init_193 (fun q36 H hP hD hS => ?_)
  refine W.widen (k := 150) (n := 35849) (by omega) (by omega) ?_
  obtain ⟨T, pl, hxt36, hU, kr36, hO, hP, hD, hnk35⟩ := absorb (X := [(h0, .inr (12, [.null, .ref q21, .ref q22, .ref q23, .ref q24, .ref q25, .ref q26, .ref q27, .ref q28, .ref q29, .ref q30, .ref q31, .ref q32, .ref q33, .ref q34, .ref q35, .null, .null, .null, .null, .null, .null, .null, .int 0, .int 0, .int 0, .int 0, .int 0, .int 0, .int 0, .int 0]))]) (1, 128) hP hD hO hU (Or.inl rfl) (fun _ _ _ => ⟨_, rfl, byt_0⟩)
  have k_sp := hxt36 _ _ k_sp
  have kr21 := hxt36 _ _ kr21
  have kr22 := hxt36 _ _ kr22
  have kr23 := hxt36 _ _ kr23
  have kr24 := hxt36 _ _ kr24
  have kr25 := hxt36 _ _ kr25
  have kr26 := hxt36 _ _ kr26
  have kr27 := hxt36 _ _ kr27
  have kr28 := hxt36 _ _ kr28
  have kr29 := hxt36 _ _ kr29
  have kr30 := hxt36 _ _ kr30
  have kr31 := hxt36 _ _ kr31
  have kr32 := hxt36 _ _ kr32
  have kr33 := hxt36 _ _ kr33
  have kr34 := hxt36 _ _ kr34
  have kr35 := hxt36 _ _ kr35
  have hXT := ext_tr hXT hxt36
  have n_49_0 := hnk35 _ (by decide) n_49_0
  have hP : va_P g.1 vcl ([(h0, .inr (12, [.null, .ref q21, .ref q22, .ref q23, .ref q24, .ref q25, .ref q26, .ref q27, .ref q28, .ref q29, .ref q30, .ref q31, .ref q32, .ref q33, .ref q34, .ref q35, .null, .null, .null, .null, .null, .null, .null, .int 0, .int 0, .int 0, .int 0, .int 0, .int 0, .int 0, .int 0]))] ++ pl) _ := hP
  have hD : va_D _ ([(h0, .inr (12, [.null, .ref q21, .ref q22, .ref q23, .ref q24, .ref q25, .ref q26, .ref q27, .ref q28, .ref q29, .ref q30, .ref q31, .ref q32, .ref q33, .ref q34, .ref q35, .null, .null, .null, .null, .null, .null, .null, .int 0, .int 0, .int 0, .int 0, .int 0, .int 0, .int 0, .int 0]))] ++ pl) := hD
  have hPS := pass_one hPS hnk35 (Or.inl rfl)
  refine va_putF (D := g.1) (ci := 12) (v := .ref q36) (ty := .array .byte) (C := "LatticeKeysModel$Hands") (T := T_MH) (N := 31) hx hb hts (wg_ft i_MH) ty_MH k_MH n_MH hown hK hP hD hS 0 rfl rfl 16 (by decide) (hts _ (wg_t kw_1448)) (fun _ h9 => h9) rfl hnm rfl (by decide +kernel) rfl rfl (Nat.le_of_ble_eq_true rfl) dMH_init_195 (fun H locs hP hD hS => ?_)
  have hP : va_P g.1 vcl ([(h0, .inr (12, [.null, .ref q21, .ref q22, .ref q23, .ref q24, .ref q25, .ref q26, .ref q27, .ref q28, .ref q29, .ref q30, .ref q31, .ref q32, .ref q33, .ref q34, .ref q35, .ref q36, .null, .null, .null, .null, .null, .null, .int 0, .int 0, .int 0, .int 0, .int 0, .int 0, .int 0, .int 0]))] ++ pl) _ := hP
  have hD : va_D _ ([(h0, .inr (12, [.null, .ref q21, .ref q22, .ref q23, .ref q24, .ref q25, .ref q26, .ref q27, .ref q28, .ref q29, .ref q30, .ref q31, .ref q32, .ref q33, .ref q34, .ref q35, .ref q36, .null, .null, .null, .null, .null, .null, .int 0, .int 0, .int 0, .int 0, .int 0, .int 0, .int 0, .int 0]))] ++ pl) := hD
  refine lv_aload_n hx hb dMH_init_198 rfl (lv_at hl 0 rfl) ?_
  refine lv_bipush (v := nI 64) hx hb dMH_init_199 (by decide) ?_
  refine ma_newa (ws := [(h0, .inr (12, [.null, .ref q21, .ref q22, .ref q23, .ref q24, .ref q25, .ref q26, .ref q27, .ref q28, .ref q29, .ref q30, .ref q31, .ref q32, .ref q33, .ref q34, .ref q35, .ref q36, .null, .null, .null, .null, .null, .null, .int 0, .int 0, .int 0, .int 0, .int 0, .int 0, .int 0, .int 0]))] ++ pl) (atype := .byte) hx hb (hts _ (wg_t kw_72)) rfl hK hP hD hS hA 1 rfl (N' := 64) (a0 := (64, .inl (fun _ => 0))) (fun _ => rfl) (nI_pos (by omega)) (nI_clamp (by omega)) (by show (64) * 1 ≤ 536870912; omega) (Nat.le_of_ble_eq_true rfl) (Nat.le_of_ble_eq_true rfl) dMH_init_201 (fun q37 H hP hD hS => ?_)
  refine W.widen (k := 151) (n := 35913) (by omega) (by omega) ?_
  obtain ⟨T, pl, hxt37, hU, kr37, hO, hP, hD, hnk36⟩ := absorb (X := [(h0, .inr (12, [.null, .ref q21, .ref q22, .ref q23, .ref q24, .ref q25, .ref q26, .ref q27, .ref q28, .ref q29, .ref q30, .ref q31, .ref q32, .ref q33, .ref q34, .ref q35, .ref q36, .null, .null, .null, .null, .null, .null, .int 0, .int 0, .int 0, .int 0, .int 0, .int 0, .int 0, .int 0]))]) (1, 64) hP hD hO hU (Or.inl rfl) (fun _ _ _ => ⟨_, rfl, byt_0⟩)
  have k_sp := hxt37 _ _ k_sp
  have kr21 := hxt37 _ _ kr21
  have kr22 := hxt37 _ _ kr22
  have kr23 := hxt37 _ _ kr23
  have kr24 := hxt37 _ _ kr24
  have kr25 := hxt37 _ _ kr25
  have kr26 := hxt37 _ _ kr26
  have kr27 := hxt37 _ _ kr27
  have kr28 := hxt37 _ _ kr28
  have kr29 := hxt37 _ _ kr29
  have kr30 := hxt37 _ _ kr30
  have kr31 := hxt37 _ _ kr31
  have kr32 := hxt37 _ _ kr32
  have kr33 := hxt37 _ _ kr33
  have kr34 := hxt37 _ _ kr34
  have kr35 := hxt37 _ _ kr35
  have kr36 := hxt37 _ _ kr36
  have hXT := ext_tr hXT hxt37
  have n_49_0 := hnk36 _ (by decide) n_49_0
  have hP : va_P g.1 vcl ([(h0, .inr (12, [.null, .ref q21, .ref q22, .ref q23, .ref q24, .ref q25, .ref q26, .ref q27, .ref q28, .ref q29, .ref q30, .ref q31, .ref q32, .ref q33, .ref q34, .ref q35, .ref q36, .null, .null, .null, .null, .null, .null, .int 0, .int 0, .int 0, .int 0, .int 0, .int 0, .int 0, .int 0]))] ++ pl) _ := hP
  have hD : va_D _ ([(h0, .inr (12, [.null, .ref q21, .ref q22, .ref q23, .ref q24, .ref q25, .ref q26, .ref q27, .ref q28, .ref q29, .ref q30, .ref q31, .ref q32, .ref q33, .ref q34, .ref q35, .ref q36, .null, .null, .null, .null, .null, .null, .int 0, .int 0, .int 0, .int 0, .int 0, .int 0, .int 0, .int 0]))] ++ pl) := hD
  have hPS := pass_one hPS hnk36 (Or.inl rfl)
  refine va_putF (D := g.1) (ci := 12) (v := .ref q37) (ty := .array .byte) (C := "LatticeKeysModel$Hands") (T := T_MH) (N := 31) hx hb hts (wg_ft i_MH) ty_MH k_MH n_MH hown hK hP hD hS 0 rfl rfl 17 (by decide) (hts _ (wg_t kw_1449)) (fun _ h9 => h9) rfl hnm rfl (by decide +kernel) rfl rfl (Nat.le_of_ble_eq_true rfl) dMH_init_203 (fun H locs hP hD hS => ?_)
  have hP : va_P g.1 vcl ([(h0, .inr (12, [.null, .ref q21, .ref q22, .ref q23, .ref q24, .ref q25, .ref q26, .ref q27, .ref q28, .ref q29, .ref q30, .ref q31, .ref q32, .ref q33, .ref q34, .ref q35, .ref q36, .ref q37, .null, .null, .null, .null, .null, .int 0, .int 0, .int 0, .int 0, .int 0, .int 0, .int 0, .int 0]))] ++ pl) _ := hP
  have hD : va_D _ ([(h0, .inr (12, [.null, .ref q21, .ref q22, .ref q23, .ref q24, .ref q25, .ref q26, .ref q27, .ref q28, .ref q29, .ref q30, .ref q31, .ref q32, .ref q33, .ref q34, .ref q35, .ref q36, .ref q37, .null, .null, .null, .null, .null, .int 0, .int 0, .int 0, .int 0, .int 0, .int 0, .int 0, .int 0]))] ++ pl) := hD
  refine lv_aload_n hx hb dMH_init_206 rfl (lv_at hl 0 rfl) ?_
  refine lv_bipush (v := nI 64) hx hb dMH_init_207 (by decide) ?_
  refine ma_newa (ws := [(h0, .inr (12, [.null, .ref q21, .ref q22, .ref q23, .ref q24, .ref q25, .ref q26, .ref q27, .ref q28, .ref q29, .ref q30, .ref q31, .ref q32, .ref q33, .ref q34, .ref q35, .ref q36, .ref q37, .null, .null, .null, .null, .null, .int 0, .int 0, .int 0, .int 0, .int 0, .int 0, .int 0, .int 0]))] ++ pl) (atype := .byte) hx hb (hts _ (wg_t kw_72)) rfl hK hP hD hS hA 1 rfl (N' := 64) (a0 := (64, .inl (fun _ => 0))) (fun _ => rfl) (nI_pos (by omega)) (nI_clamp (by omega)) (by show (64) * 1 ≤ 536870912; omega) (Nat.le_of_ble_eq_true rfl) (Nat.le_of_ble_eq_true rfl) dMH_init_209 (fun q38 H hP hD hS => ?_)
  refine W.widen (k := 152) (n := 35977) (by omega) (by omega) ?_
  obtain ⟨T, pl, hxt38, hU, kr38, hO, hP, hD, hnk37⟩ := absorb (X := [(h0, .inr (12, [.null, .ref q21, .ref q22, .ref q23, .ref q24, .ref q25, .ref q26, .ref q27, .ref q28, .ref q29, .ref q30, .ref q31, .ref q32, .ref q33, .ref q34, .ref q35, .ref q36, .ref q37, .null, .null, .null, .null, .null, .int 0, .int 0, .int 0, .int 0, .int 0, .int 0, .int 0, .int 0]))]) (1, 64) hP hD hO hU (Or.inl rfl) (fun _ _ _ => ⟨_, rfl, byt_0⟩)
  have k_sp := hxt38 _ _ k_sp
  have kr21 := hxt38 _ _ kr21
  have kr22 := hxt38 _ _ kr22
  have kr23 := hxt38 _ _ kr23
  have kr24 := hxt38 _ _ kr24
  have kr25 := hxt38 _ _ kr25
  have kr26 := hxt38 _ _ kr26
  have kr27 := hxt38 _ _ kr27
  have kr28 := hxt38 _ _ kr28
  have kr29 := hxt38 _ _ kr29
  have kr30 := hxt38 _ _ kr30
  have kr31 := hxt38 _ _ kr31
  have kr32 := hxt38 _ _ kr32
  have kr33 := hxt38 _ _ kr33
  have kr34 := hxt38 _ _ kr34
  have kr35 := hxt38 _ _ kr35
  have kr36 := hxt38 _ _ kr36
  have kr37 := hxt38 _ _ kr37
  have hXT := ext_tr hXT hxt38
  have n_49_0 := hnk37 _ (by decide) n_49_0
  have hP : va_P g.1 vcl ([(h0, .inr (12, [.null, .ref q21, .ref q22, .ref q23, .ref q24, .ref q25, .ref q26, .ref q27, .ref q28, .ref q29, .ref q30, .ref q31, .ref q32, .ref q33, .ref q34, .ref q35, .ref q36, .ref q37, .null, .null, .null, .null, .null, .int 0, .int 0, .int 0, .int 0, .int 0, .int 0, .int 0, .int 0]))] ++ pl) _ := hP
  have hD : va_D _ ([(h0, .inr (12, [.null, .ref q21, .ref q22, .ref q23, .ref q24, .ref q25, .ref q26, .ref q27, .ref q28, .ref q29, .ref q30, .ref q31, .ref q32, .ref q33, .ref q34, .ref q35, .ref q36, .ref q37, .null, .null, .null, .null, .null, .int 0, .int 0, .int 0, .int 0, .int 0, .int 0, .int 0, .int 0]))] ++ pl) := hD
  have hPS := pass_one hPS hnk37 (Or.inl rfl)
  refine va_putF (D := g.1) (ci := 12) (v := .ref q38) (ty := .array .byte) (C := "LatticeKeysModel$Hands") (T := T_MH) (N := 31) hx hb hts (wg_ft i_MH) ty_MH k_MH n_MH hown hK hP hD hS 0 rfl rfl 18 (by decide) (hts _ (wg_t kw_1450)) (fun _ h9 => h9) rfl hnm rfl (by decide +kernel) rfl rfl (Nat.le_of_ble_eq_true rfl) dMH_init_211 (fun H locs hP hD hS => ?_)
  have hP : va_P g.1 vcl ([(h0, .inr (12, [.null, .ref q21, .ref q22, .ref q23, .ref q24, .ref q25, .ref q26, .ref q27, .ref q28, .ref q29, .ref q30, .ref q31, .ref q32, .ref q33, .ref q34, .ref q35, .ref q36, .ref q37, .ref q38, .null, .null, .null, .null, .int 0, .int 0, .int 0, .int 0, .int 0, .int 0, .int 0, .int 0]))] ++ pl) _ := hP
  have hD : va_D _ ([(h0, .inr (12, [.null, .ref q21, .ref q22, .ref q23, .ref q24, .ref q25, .ref q26, .ref q27, .ref q28, .ref q29, .ref q30, .ref q31, .ref q32, .ref q33, .ref q34, .ref q35, .ref q36, .ref q37, .ref q38, .null, .null, .null, .null, .int 0, .int 0, .int 0, .int 0, .int 0, .int 0, .int 0, .int 0]))] ++ pl) := hD
  refine lv_aload_n hx hb dMH_init_214 rfl (lv_at hl 0 rfl) ?_
  refine lv_sipush (v := nI 640) hx hb dMH_init_215 (by decide) ?_
  refine ma_newa (ws := [(h0, .inr (12, [.null, .ref q21, .ref q22, .ref q23, .ref q24, .ref q25, .ref q26, .ref q27, .ref q28, .ref q29, .ref q30, .ref q31, .ref q32, .ref q33, .ref q34, .ref q35, .ref q36, .ref q37, .ref q38, .null, .null, .null, .null, .int 0, .int 0, .int 0, .int 0, .int 0, .int 0, .int 0, .int 0]))] ++ pl) (atype := .byte) hx hb (hts _ (wg_t kw_72)) rfl hK hP hD hS hA 1 rfl (N' := 640) (a0 := (640, .inl (fun _ => 0))) (fun _ => rfl) (nI_pos (by omega)) (nI_clamp (by omega)) (by show (640) * 1 ≤ 536870912; omega) (Nat.le_of_ble_eq_true rfl) (Nat.le_of_ble_eq_true rfl) dMH_init_218 (fun q39 H hP hD hS => ?_)
  refine W.widen (k := 153) (n := 36617) (by omega) (by omega) ?_
  obtain ⟨T, pl, hxt39, hU, kr39, hO, hP, hD, hnk38⟩ := absorb (X := [(h0, .inr (12, [.null, .ref q21, .ref q22, .ref q23, .ref q24, .ref q25, .ref q26, .ref q27, .ref q28, .ref q29, .ref q30, .ref q31, .ref q32, .ref q33, .ref q34, .ref q35, .ref q36, .ref q37, .ref q38, .null, .null, .null, .null, .int 0, .int 0, .int 0, .int 0, .int 0, .int 0, .int 0, .int 0]))]) (1, 640) hP hD hO hU (Or.inl rfl) (fun _ _ _ => ⟨_, rfl, byt_0⟩)
  have k_sp := hxt39 _ _ k_sp
  have kr21 := hxt39 _ _ kr21
  have kr22 := hxt39 _ _ kr22
  have kr23 := hxt39 _ _ kr23
  have kr24 := hxt39 _ _ kr24
  have kr25 := hxt39 _ _ kr25
  have kr26 := hxt39 _ _ kr26
  have kr27 := hxt39 _ _ kr27
  have kr28 := hxt39 _ _ kr28
  have kr29 := hxt39 _ _ kr29
  have kr30 := hxt39 _ _ kr30
  have kr31 := hxt39 _ _ kr31
  have kr32 := hxt39 _ _ kr32
  have kr33 := hxt39 _ _ kr33
  have kr34 := hxt39 _ _ kr34
  have kr35 := hxt39 _ _ kr35
  have kr36 := hxt39 _ _ kr36
  have kr37 := hxt39 _ _ kr37
  have kr38 := hxt39 _ _ kr38
  have hXT := ext_tr hXT hxt39
  have n_49_0 := hnk38 _ (by decide) n_49_0
  have hP : va_P g.1 vcl ([(h0, .inr (12, [.null, .ref q21, .ref q22, .ref q23, .ref q24, .ref q25, .ref q26, .ref q27, .ref q28, .ref q29, .ref q30, .ref q31, .ref q32, .ref q33, .ref q34, .ref q35, .ref q36, .ref q37, .ref q38, .null, .null, .null, .null, .int 0, .int 0, .int 0, .int 0, .int 0, .int 0, .int 0, .int 0]))] ++ pl) _ := hP
  have hD : va_D _ ([(h0, .inr (12, [.null, .ref q21, .ref q22, .ref q23, .ref q24, .ref q25, .ref q26, .ref q27, .ref q28, .ref q29, .ref q30, .ref q31, .ref q32, .ref q33, .ref q34, .ref q35, .ref q36, .ref q37, .ref q38, .null, .null, .null, .null, .int 0, .int 0, .int 0, .int 0, .int 0, .int 0, .int 0, .int 0]))] ++ pl) := hD
  have hPS := pass_one hPS hnk38 (Or.inl rfl)
  refine va_putF (D := g.1) (ci := 12) (v := .ref q39) (ty := .array .byte) (C := "LatticeKeysModel$Hands") (T := T_MH) (N := 31) hx hb hts (wg_ft i_MH) ty_MH k_MH n_MH hown hK hP hD hS 0 rfl rfl 19 (by decide) (hts _ (wg_t kw_1451)) (fun _ h9 => h9) rfl hnm rfl (by decide +kernel) rfl rfl (Nat.le_of_ble_eq_true rfl) dMH_init_220 (fun H locs hP hD hS => ?_)
  have hP : va_P g.1 vcl ([(h0, .inr (12, [.null, .ref q21, .ref q22, .ref q23, .ref q24, .ref q25, .ref q26, .ref q27, .ref q28, .ref q29, .ref q30, .ref q31, .ref q32, .ref q33, .ref q34, .ref q35, .ref q36, .ref q37, .ref q38, .ref q39, .null, .null, .null, .int 0, .int 0, .int 0, .int 0, .int 0, .int 0, .int 0, .int 0]))] ++ pl) _ := hP
  have hD : va_D _ ([(h0, .inr (12, [.null, .ref q21, .ref q22, .ref q23, .ref q24, .ref q25, .ref q26, .ref q27, .ref q28, .ref q29, .ref q30, .ref q31, .ref q32, .ref q33, .ref q34, .ref q35, .ref q36, .ref q37, .ref q38, .ref q39, .null, .null, .null, .int 0, .int 0, .int 0, .int 0, .int 0, .int 0, .int 0, .int 0]))] ++ pl) := hD
  refine lv_aload_n hx hb dMH_init_223 rfl (lv_at hl 0 rfl) ?_
  refine lv_bipush (v := nI 64) hx hb dMH_init_224 (by decide) ?_
  refine ma_newa (ws := [(h0, .inr (12, [.null, .ref q21, .ref q22, .ref q23, .ref q24, .ref q25, .ref q26, .ref q27, .ref q28, .ref q29, .ref q30, .ref q31, .ref q32, .ref q33, .ref q34, .ref q35, .ref q36, .ref q37, .ref q38, .ref q39, .null, .null, .null, .int 0, .int 0, .int 0, .int 0, .int 0, .int 0, .int 0, .int 0]))] ++ pl) (atype := .byte) hx hb (hts _ (wg_t kw_72)) rfl hK hP hD hS hA 1 rfl (N' := 64) (a0 := (64, .inl (fun _ => 0))) (fun _ => rfl) (nI_pos (by omega)) (nI_clamp (by omega)) (by show (64) * 1 ≤ 536870912; omega) (Nat.le_of_ble_eq_true rfl) (Nat.le_of_ble_eq_true rfl) dMH_init_226 (fun q40 H hP hD hS => ?_)
  refine W.widen (k := 154) (n := 36681) (by omega) (by omega) ?_
  obtain ⟨T, pl, hxt40, hU, kr40, hO, hP, hD, hnk39⟩ := absorb (X := [(h0, .inr (12, [.null, .ref q21, .ref q22, .ref q23, .ref q24, .ref q25, .ref q26, .ref q27, .ref q28, .ref q29, .ref q30, .ref q31, .ref q32, .ref q33, .ref q34, .ref q35, .ref q36, .ref q37, .ref q38, .ref q39, .null, .null, .null, .int 0, .int 0, .int 0, .int 0, .int 0, .int 0, .int 0, .int 0]))]) (1, 64) hP hD hO hU (Or.inl rfl) (fun _ _ _ => ⟨_, rfl, byt_0⟩)
  have k_sp := hxt40 _ _ k_sp
  have kr21 := hxt40 _ _ kr21
  have kr22 := hxt40 _ _ kr22
  have kr23 := hxt40 _ _ kr23
  have kr24 := hxt40 _ _ kr24
  have kr25 := hxt40 _ _ kr25
  have kr26 := hxt40 _ _ kr26
  have kr27 := hxt40 _ _ kr27
  have kr28 := hxt40 _ _ kr28
  have kr29 := hxt40 _ _ kr29
  have kr30 := hxt40 _ _ kr30
  have kr31 := hxt40 _ _ kr31
  have kr32 := hxt40 _ _ kr32
  have kr33 := hxt40 _ _ kr33
  have kr34 := hxt40 _ _ kr34
  have kr35 := hxt40 _ _ kr35
  have kr36 := hxt40 _ _ kr36
  have kr37 := hxt40 _ _ kr37
  have kr38 := hxt40 _ _ kr38
  have kr39 := hxt40 _ _ kr39
  have hXT := ext_tr hXT hxt40
  have n_49_0 := hnk39 _ (by decide) n_49_0
  have hP : va_P g.1 vcl ([(h0, .inr (12, [.null, .ref q21, .ref q22, .ref q23, .ref q24, .ref q25, .ref q26, .ref q27, .ref q28, .ref q29, .ref q30, .ref q31, .ref q32, .ref q33, .ref q34, .ref q35, .ref q36, .ref q37, .ref q38, .ref q39, .null, .null, .null, .int 0, .int 0, .int 0, .int 0, .int 0, .int 0, .int 0, .int 0]))] ++ pl) _ := hP
  have hD : va_D _ ([(h0, .inr (12, [.null, .ref q21, .ref q22, .ref q23, .ref q24, .ref q25, .ref q26, .ref q27, .ref q28, .ref q29, .ref q30, .ref q31, .ref q32, .ref q33, .ref q34, .ref q35, .ref q36, .ref q37, .ref q38, .ref q39, .null, .null, .null, .int 0, .int 0, .int 0, .int 0, .int 0, .int 0, .int 0, .int 0]))] ++ pl) := hD
  have hPS := pass_one hPS hnk39 (Or.inl rfl)
  refine va_putF (D := g.1) (ci := 12) (v := .ref q40) (ty := .array .byte) (C := "LatticeKeysModel$Hands") (T := T_MH) (N := 31) hx hb hts (wg_ft i_MH) ty_MH k_MH n_MH hown hK hP hD hS 0 rfl rfl 20 (by decide) (hts _ (wg_t kw_1452)) (fun _ h9 => h9) rfl hnm rfl (by decide +kernel) rfl rfl (Nat.le_of_ble_eq_true rfl) dMH_init_228 (fun H locs hP hD hS => ?_)
  have hP : va_P g.1 vcl ([(h0, .inr (12, [.null, .ref q21, .ref q22, .ref q23, .ref q24, .ref q25, .ref q26, .ref q27, .ref q28, .ref q29, .ref q30, .ref q31, .ref q32, .ref q33, .ref q34, .ref q35, .ref q36, .ref q37, .ref q38, .ref q39, .ref q40, .null, .null, .int 0, .int 0, .int 0, .int 0, .int 0, .int 0, .int 0, .int 0]))] ++ pl) _ := hP
  have hD : va_D _ ([(h0, .inr (12, [.null, .ref q21, .ref q22, .ref q23, .ref q24, .ref q25, .ref q26, .ref q27, .ref q28, .ref q29, .ref q30, .ref q31, .ref q32, .ref q33, .ref q34, .ref q35, .ref q36, .ref q37, .ref q38, .ref q39, .ref q40, .null, .null, .int 0, .int 0, .int 0, .int 0, .int 0, .int 0, .int 0, .int 0]))] ++ pl) := hD
  refine lv_aload_n hx hb dMH_init_231 rfl (lv_at hl 0 rfl) ?_
  refine lv_bipush (v := nI 64) hx hb dMH_init_232 (by decide) ?_
  refine ma_newa (ws := [(h0, .inr (12, [.null, .ref q21, .ref q22, .ref q23, .ref q24, .ref q25, .ref q26, .ref q27, .ref q28, .ref q29, .ref q30, .ref q31, .ref q32, .ref q33, .ref q34, .ref q35, .ref q36, .ref q37, .ref q38, .ref q39, .ref q40, .null, .null, .int 0, .int 0, .int 0, .int 0, .int 0, .int 0, .int 0, .int 0]))] ++ pl) (atype := .byte) hx hb (hts _ (wg_t kw_72)) rfl hK hP hD hS hA 1 rfl (N' := 64) (a0 := (64, .inl (fun _ => 0))) (fun _ => rfl) (nI_pos (by omega)) (nI_clamp (by omega)) (by show (64) * 1 ≤ 536870912; omega) (Nat.le_of_ble_eq_true rfl) (Nat.le_of_ble_eq_true rfl) dMH_init_234 (fun q41 H hP hD hS => ?_)
  refine W.widen (k := 155) (n := 36745) (by omega) (by omega) ?_
  obtain ⟨T, pl, hxt41, hU, kr41, hO, hP, hD, hnk40⟩ := absorb (X := [(h0, .inr (12, [.null, .ref q21, .ref q22, .ref q23, .ref q24, .ref q25, .ref q26, .ref q27, .ref q28, .ref q29, .ref q30, .ref q31, .ref q32, .ref q33, .ref q34, .ref q35, .ref q36, .ref q37, .ref q38, .ref q39, .ref q40, .null, .null, .int 0, .int 0, .int 0, .int 0, .int 0, .int 0, .int 0, .int 0]))]) (1, 64) hP hD hO hU (Or.inl rfl) (fun _ _ _ => ⟨_, rfl, byt_0⟩)
  have k_sp := hxt41 _ _ k_sp
  have kr21 := hxt41 _ _ kr21
  have kr22 := hxt41 _ _ kr22
  have kr23 := hxt41 _ _ kr23
  have kr24 := hxt41 _ _ kr24
  have kr25 := hxt41 _ _ kr25
  have kr26 := hxt41 _ _ kr26
  have kr27 := hxt41 _ _ kr27
  have kr28 := hxt41 _ _ kr28
  have kr29 := hxt41 _ _ kr29
  have kr30 := hxt41 _ _ kr30
  have kr31 := hxt41 _ _ kr31
  have kr32 := hxt41 _ _ kr32
  have kr33 := hxt41 _ _ kr33
  have kr34 := hxt41 _ _ kr34
  have kr35 := hxt41 _ _ kr35
  have kr36 := hxt41 _ _ kr36
  have kr37 := hxt41 _ _ kr37
  have kr38 := hxt41 _ _ kr38
  have kr39 := hxt41 _ _ kr39
  have kr40 := hxt41 _ _ kr40
  have hXT := ext_tr hXT hxt41
  have n_49_0 := hnk40 _ (by decide) n_49_0
  have hP : va_P g.1 vcl ([(h0, .inr (12, [.null, .ref q21, .ref q22, .ref q23, .ref q24, .ref q25, .ref q26, .ref q27, .ref q28, .ref q29, .ref q30, .ref q31, .ref q32, .ref q33, .ref q34, .ref q35, .ref q36, .ref q37, .ref q38, .ref q39, .ref q40, .null, .null, .int 0, .int 0, .int 0, .int 0, .int 0, .int 0, .int 0, .int 0]))] ++ pl) _ := hP
  have hD : va_D _ ([(h0, .inr (12, [.null, .ref q21, .ref q22, .ref q23, .ref q24, .ref q25, .ref q26, .ref q27, .ref q28, .ref q29, .ref q30, .ref q31, .ref q32, .ref q33, .ref q34, .ref q35, .ref q36, .ref q37, .ref q38, .ref q39, .ref q40, .null, .null, .int 0, .int 0, .int 0, .int 0, .int 0, .int 0, .int 0, .int 0]))] ++ pl) := hD
  have hPS := pass_one hPS hnk40 (Or.inl rfl)
  refine va_putF (D := g.1) (ci := 12) (v := .ref q41) (ty := .array .byte) (C := "LatticeKeysModel$Hands") (T := T_MH) (N := 31) hx hb hts (wg_ft i_MH) ty_MH k_MH n_MH hown hK hP hD hS 0 rfl rfl 21 (by decide) (hts _ (wg_t kw_1453)) (fun _ h9 => h9) rfl hnm rfl (by decide +kernel) rfl rfl (Nat.le_of_ble_eq_true rfl) dMH_init_236 (fun H locs hP hD hS => ?_)
  have hP : va_P g.1 vcl ([(h0, .inr (12, [.null, .ref q21, .ref q22, .ref q23, .ref q24, .ref q25, .ref q26, .ref q27, .ref q28, .ref q29, .ref q30, .ref q31, .ref q32, .ref q33, .ref q34, .ref q35, .ref q36, .ref q37, .ref q38, .ref q39, .ref q40, .ref q41, .null, .int 0, .int 0, .int 0, .int 0, .int 0, .int 0, .int 0, .int 0]))] ++ pl) _ := hP
  have hD : va_D _ ([(h0, .inr (12, [.null, .ref q21, .ref q22, .ref q23, .ref q24, .ref q25, .ref q26, .ref q27, .ref q28, .ref q29, .ref q30, .ref q31, .ref q32, .ref q33, .ref q34, .ref q35, .ref q36, .ref q37, .ref q38, .ref q39, .ref q40, .ref q41, .null, .int 0, .int 0, .int 0, .int 0, .int 0, .int 0, .int 0, .int 0]))] ++ pl) := hD
  refine lv_aload_n hx hb dMH_init_239 rfl (lv_at hl 0 rfl) ?_
  refine lv_bipush (v := nI 64) hx hb dMH_init_240 (by decide) ?_
  refine ma_newa (ws := [(h0, .inr (12, [.null, .ref q21, .ref q22, .ref q23, .ref q24, .ref q25, .ref q26, .ref q27, .ref q28, .ref q29, .ref q30, .ref q31, .ref q32, .ref q33, .ref q34, .ref q35, .ref q36, .ref q37, .ref q38, .ref q39, .ref q40, .ref q41, .null, .int 0, .int 0, .int 0, .int 0, .int 0, .int 0, .int 0, .int 0]))] ++ pl) (atype := .byte) hx hb (hts _ (wg_t kw_72)) rfl hK hP hD hS hA 1 rfl (N' := 64) (a0 := (64, .inl (fun _ => 0))) (fun _ => rfl) (nI_pos (by omega)) (nI_clamp (by omega)) (by show (64) * 1 ≤ 536870912; omega) (Nat.le_of_ble_eq_true rfl) (Nat.le_of_ble_eq_true rfl) dMH_init_242 (fun q42 H hP hD hS => ?_)
  refine W.widen (k := 156) (n := 36809) (by omega) (by omega) ?_
  obtain ⟨T, pl, hxt42, hU, kr42, hO, hP, hD, hnk41⟩ := absorb (X := [(h0, .inr (12, [.null, .ref q21, .ref q22, .ref q23, .ref q24, .ref q25, .ref q26, .ref q27, .ref q28, .ref q29, .ref q30, .ref q31, .ref q32, .ref q33, .ref q34, .ref q35, .ref q36, .ref q37, .ref q38, .ref q39, .ref q40, .ref q41, .null, .int 0, .int 0, .int 0, .int 0, .int 0, .int 0, .int 0, .int 0]))]) (1, 64) hP hD hO hU (Or.inl rfl) (fun _ _ _ => ⟨_, rfl, byt_0⟩)
  have k_sp := hxt42 _ _ k_sp
  have kr21 := hxt42 _ _ kr21
  have kr22 := hxt42 _ _ kr22
  have kr23 := hxt42 _ _ kr23
  have kr24 := hxt42 _ _ kr24
  have kr25 := hxt42 _ _ kr25
  have kr26 := hxt42 _ _ kr26
  have kr27 := hxt42 _ _ kr27
  have kr28 := hxt42 _ _ kr28
  have kr29 := hxt42 _ _ kr29
  have kr30 := hxt42 _ _ kr30
  have kr31 := hxt42 _ _ kr31
  have kr32 := hxt42 _ _ kr32
  have kr33 := hxt42 _ _ kr33
  have kr34 := hxt42 _ _ kr34
  have kr35 := hxt42 _ _ kr35
  have kr36 := hxt42 _ _ kr36
  have kr37 := hxt42 _ _ kr37
  have kr38 := hxt42 _ _ kr38
  have kr39 := hxt42 _ _ kr39
  have kr40 := hxt42 _ _ kr40
  have kr41 := hxt42 _ _ kr41
  have hXT := ext_tr hXT hxt42
  have n_49_0 := hnk41 _ (by decide) n_49_0
  have hP : va_P g.1 vcl ([(h0, .inr (12, [.null, .ref q21, .ref q22, .ref q23, .ref q24, .ref q25, .ref q26, .ref q27, .ref q28, .ref q29, .ref q30, .ref q31, .ref q32, .ref q33, .ref q34, .ref q35, .ref q36, .ref q37, .ref q38, .ref q39, .ref q40, .ref q41, .null, .int 0, .int 0, .int 0, .int 0, .int 0, .int 0, .int 0, .int 0]))] ++ pl) _ := hP
  have hD : va_D _ ([(h0, .inr (12, [.null, .ref q21, .ref q22, .ref q23, .ref q24, .ref q25, .ref q26, .ref q27, .ref q28, .ref q29, .ref q30, .ref q31, .ref q32, .ref q33, .ref q34, .ref q35, .ref q36, .ref q37, .ref q38, .ref q39, .ref q40, .ref q41, .null, .int 0, .int 0, .int 0, .int 0, .int 0, .int 0, .int 0, .int 0]))] ++ pl) := hD
  have hPS := pass_one hPS hnk41 (Or.inl rfl)
  refine va_putF (D := g.1) (ci := 12) (v := .ref q42) (ty := .array .byte) (C := "LatticeKeysModel$Hands") (T := T_MH) (N := 31) hx hb hts (wg_ft i_MH) ty_MH k_MH n_MH hown hK hP hD hS 0 rfl rfl 22 (by decide) (hts _ (wg_t kw_1454)) (fun _ h9 => h9) rfl hnm rfl (by decide +kernel) rfl rfl (Nat.le_of_ble_eq_true rfl) dMH_init_244 (fun H locs hP hD hS => ?_)
  have hP : va_P g.1 vcl ([(h0, .inr (12, [.null, .ref q21, .ref q22, .ref q23, .ref q24, .ref q25, .ref q26, .ref q27, .ref q28, .ref q29, .ref q30, .ref q31, .ref q32, .ref q33, .ref q34, .ref q35, .ref q36, .ref q37, .ref q38, .ref q39, .ref q40, .ref q41, .ref q42, .int 0, .int 0, .int 0, .int 0, .int 0, .int 0, .int 0, .int 0]))] ++ pl) _ := hP
  have hD : va_D _ ([(h0, .inr (12, [.null, .ref q21, .ref q22, .ref q23, .ref q24, .ref q25, .ref q26, .ref q27, .ref q28, .ref q29, .ref q30, .ref q31, .ref q32, .ref q33, .ref q34, .ref q35, .ref q36, .ref q37, .ref q38, .ref q39, .ref q40, .ref q41, .ref q42, .int 0, .int 0, .int 0, .int 0, .int 0, .int 0, .int 0, .int 0]))] ++ pl) := hD
  refine lv_aload_n hx hb dMH_init_247 rfl (lv_at hl 0 rfl) ?_
  refine lv_aload_n hx hb dMH_init_248 rfl (lv_at hl 1 rfl) ?_
  refine va_putF (D := g.1) (ci := 12) (v := .ref sp) (ty := .object "LatticeKeysModel$Sponge") (C := "LatticeKeysModel$Hands") (T := T_MH) (N := 31) hx hb hts (wg_ft i_MH) ty_MH k_MH n_MH hown hK hP hD hS 0 rfl rfl 0 (by decide) (hts _ (wg_t kw_1432)) (fun _ h9 => h9) rfl hnm rfl (by decide +kernel) rfl rfl (Nat.le_of_ble_eq_true rfl) dMH_init_249 (fun H locs hP hD hS => ?_)
  have hP : va_P g.1 vcl ([(h0, .inr (12, [.ref sp, .ref q21, .ref q22, .ref q23, .ref q24, .ref q25, .ref q26, .ref q27, .ref q28, .ref q29, .ref q30, .ref q31, .ref q32, .ref q33, .ref q34, .ref q35, .ref q36, .ref q37, .ref q38, .ref q39, .ref q40, .ref q41, .ref q42, .int 0, .int 0, .int 0, .int 0, .int 0, .int 0, .int 0, .int 0]))] ++ pl) _ := hP
  have hD : va_D _ ([(h0, .inr (12, [.ref sp, .ref q21, .ref q22, .ref q23, .ref q24, .ref q25, .ref q26, .ref q27, .ref q28, .ref q29, .ref q30, .ref q31, .ref q32, .ref q33, .ref q34, .ref q35, .ref q36, .ref q37, .ref q38, .ref q39, .ref q40, .ref q41, .ref q42, .int 0, .int 0, .int 0, .int 0, .int 0, .int 0, .int 0, .int 0]))] ++ pl) := hD
  obtain ⟨hP, hD⟩ := mv_last (X := []) (c := (h0, .inr (12, [.ref sp, .ref q21, .ref q22, .ref q23, .ref q24, .ref q25, .ref q26, .ref q27, .ref q28, .ref q29, .ref q30, .ref q31, .ref q32, .ref q33, .ref q34, .ref q35, .ref q36, .ref q37, .ref q38, .ref q39, .ref q40, .ref q41, .ref q42, .int 0, .int 0, .int 0, .int 0, .int 0, .int 0, .int 0, .int 0]))) hP hD
  obtain ⟨T, pl, hxt43, hU, kr43, hO, hP, hD, hnk42⟩ := absorb (X := []) (49, 0) hP hD hO hU (Or.inr n_49_0) (fun T9 h9 _ => ⟨_, rfl, ⟨_, rfl, h9 _ _ k_sp⟩, ⟨_, rfl, h9 _ _ kr21⟩, ⟨_, rfl, h9 _ _ kr22⟩, ⟨_, rfl, h9 _ _ kr23⟩, ⟨_, rfl, h9 _ _ kr24⟩, ⟨_, rfl, h9 _ _ kr25⟩, ⟨_, rfl, h9 _ _ kr26⟩, ⟨_, rfl, h9 _ _ kr27⟩, ⟨_, rfl, h9 _ _ kr28⟩, ⟨_, rfl, h9 _ _ kr29⟩, ⟨_, rfl, h9 _ _ kr30⟩, ⟨_, rfl, h9 _ _ kr31⟩, ⟨_, rfl, h9 _ _ kr32⟩, ⟨_, rfl, h9 _ _ kr33⟩, ⟨_, rfl, h9 _ _ kr34⟩, ⟨_, rfl, h9 _ _ kr35⟩, ⟨_, rfl, h9 _ _ kr36⟩, ⟨_, rfl, h9 _ _ kr37⟩, ⟨_, rfl, h9 _ _ kr38⟩, ⟨_, rfl, h9 _ _ kr39⟩, ⟨_, rfl, h9 _ _ kr40⟩, ⟨_, rfl, h9 _ _ kr41⟩, ⟨_, rfl, h9 _ _ kr42⟩, ⟨_, rfl⟩, ⟨_, rfl⟩, ⟨_, rfl⟩, ⟨_, rfl⟩, ⟨_, rfl⟩, ⟨_, rfl⟩, ⟨_, rfl⟩, ⟨_, rfl⟩, trivial⟩)
  have k_sp := hxt43 _ _ k_sp
  have kr21 := hxt43 _ _ kr21
  have kr22 := hxt43 _ _ kr22
  have kr23 := hxt43 _ _ kr23
  have kr24 := hxt43 _ _ kr24
  have kr25 := hxt43 _ _ kr25
  have kr26 := hxt43 _ _ kr26
  have kr27 := hxt43 _ _ kr27
  have kr28 := hxt43 _ _ kr28
  have kr29 := hxt43 _ _ kr29
  have kr30 := hxt43 _ _ kr30
  have kr31 := hxt43 _ _ kr31
  have kr32 := hxt43 _ _ kr32
  have kr33 := hxt43 _ _ kr33
  have kr34 := hxt43 _ _ kr34
  have kr35 := hxt43 _ _ kr35
  have kr36 := hxt43 _ _ kr36
  have kr37 := hxt43 _ _ kr37
  have kr38 := hxt43 _ _ kr38
  have kr39 := hxt43 _ _ kr39
  have kr40 := hxt43 _ _ kr40
  have kr41 := hxt43 _ _ kr41
  have kr42 := hxt43 _ _ kr42
  have hXT := ext_tr hXT hxt43
  have hP : va_P g.1 vcl ([] ++ pl) _ := hP
  have hD : va_D _ ([] ++ pl) := hD
  have hPS := pass_one hPS hnk42 (Or.inr (by decide))
  exact mp_vret hx hb hr hlk hP hD hS (T, pl) ⟨⟨hXT, hU, kr43, hPS⟩, hO⟩ [] rfl rfl rfl (by omega) (by omega) dMH_init_252
set_option maxHeartbeats 4000000 in
set_option maxRecDepth 100000 in
theorem t_M_init (l : Launch) (g : Gd) (sz : Nat) (T0 : Ty) (pl : va_W) (hO : okx g T0 [] pl) (hU : uni T0) (h0 : Nat) (n_20_0 : nk T0 (20, 0)) (n_30_25 : nk T0 (30, 25)) (n_31_25 : nk T0 (31, 25)) (n_32_5 : nk T0 (32, 5)) (n_33_24 : nk T0 (33, 24)) (n_34_25 : nk T0 (34, 25)) (n_49_0 : nk T0 (49, 0))  : Met l y_M_init w_M_init ({ frames := 3, cells := 230, slots := 139911, locals := 87 } : Room) (va_Pc [.ref h0] (pr (en g) g.1 vcl sz ([(h0, .inr (8, [.int 0, .int 0, .int 0, .int 0, .null, .null, .null, .null, .null, .null, .null, .null, .null, .null]))] ++ pl))) (va_Qv (fun (u : (Ty × (Nat → Nat)) × va_W) => (ext T0 u.1.1 ∧ uni u.1.1 ∧ pass T0 u.1.1 [(20, 0), (30, 25), (31, 25), (32, 5), (33, 24), (34, 25), (49, 0)] ∧ u.1.1 (u.1.2 0) = some (1, 16384) ∧ u.1.1 (u.1.2 1) = some (1, 8192) ∧ u.1.1 (u.1.2 2) = some (1, 8192) ∧ u.1.1 (u.1.2 3) = some (4, 2592) ∧ u.1.1 (u.1.2 4) = some (4, 4896) ∧ u.1.1 (u.1.2 6) = some (5, 4896) ∧ u.1.1 (u.1.2 7) = some (20, 0) ∧ u.1.1 (u.1.2 8) = some (23, 0) ∧ u.1.1 (u.1.2 9) = some (49, 0)) ∧ okx g u.1.1 [] u.2) (po g.1 vcl (va_A ([(h0, .inr (8, [.int 0, .int 0, .int 0, .int 0, .null, .null, .null, .null, .null, .null, .null, .null, .null, .null]))] ++ pl) sz) (fun (u : (Ty × (Nat → Nat)) × va_W) => [(h0, .inr (8, [.int 0, .int 0, .int 0, .int 0, .ref ((u.1.2 0)), .ref ((u.1.2 1)), .ref ((u.1.2 2)), .ref ((u.1.2 3)), .ref ((u.1.2 4)), .ref ((u.1.2 5)), .ref ((u.1.2 6)), .ref ((u.1.2 7)), .ref ((u.1.2 8)), .ref ((u.1.2 9))])), ((u.1.2 5), .inl (g.2.1 0, 8, .inl ((fun _ => 0))))] ++ u.2)) (va_A ([(h0, .inr (8, [.int 0, .int 0, .int 0, .int 0, .null, .null, .null, .null, .null, .null, .null, .null, .null, .null]))] ++ pl) sz)) 230 139911 (va_A ([(h0, .inr (8, [.int 0, .int 0, .int 0, .int 0, .null, .null, .null, .null, .null, .null, .null, .null, .null, .null]))] ++ pl) sz) := by
  refine mc_entry (cc := c_M_init) (maxL := 1) (ret := none) (by decide) rfl (Nat.le_of_ble_eq_true rfl) ?_
  intro p e s m args below meth c ls F hr hlk hnm hsz hP hD hE hA hl
  obtain ⟨hx, hb, hml, hown, hts⟩ := id F
  have hK := hE.1
  generalize va_A ([(h0, .inr (8, [.int 0, .int 0, .int 0, .int 0, .null, .null, .null, .null, .null, .null, .null, .null, .null, .null]))] ++ pl) sz = A at hD hE hA ⊢
  obtain ⟨T, hXT, hPS, hO, hU, n_20_0, n_30_25, n_31_25, n_32_5, n_33_24, n_34_25, n_49_0⟩ : ∃ T, ext T0 T ∧ pass T0 T [(20, 0), (30, 25), (31, 25), (32, 5), (33, 24), (34, 25), (49, 0)] ∧ okx g T [] pl ∧ uni T ∧ nk T (20, 0) ∧ nk T (30, 25) ∧ nk T (31, 25) ∧ nk T (32, 5) ∧ nk T (33, 24) ∧ nk T (34, 25) ∧ nk T (49, 0) := ⟨T0, ext_rf, pass_rf, hO, hU, n_20_0, n_30_25, n_31_25, n_32_5, n_33_24, n_34_25, n_49_0⟩
  have hS : va_S A s.heap s.heap [] := va_S.rf
  have hl : lv_has ls 1 [(0, .ref h0)] := hl
  refine lv_aload_n hx hb dM_init_0 rfl (lv_at hl 0 rfl) ?_
  refine W.objInit hx hb hown (hts _ (wg_t kw_1316)) (hts _ (wg_t kw_41)) (hts _ (wg_t kobj)) rfl (by rw [hml]; exact hl.1) rfl dM_init_1 (Nat.le_of_ble_eq_true rfl) (Nat.le_of_ble_eq_true rfl) ?_
  refine W.eq (g2 := F0 m 4 ls []) rfl ?_
  refine lv_aload_n hx hb dM_init_4 rfl (lv_at hl 0 rfl) ?_
  refine lv_sipush (v := nI 16384) hx hb dM_init_5 (by decide) ?_
  refine ma_newa (ws := [(h0, .inr (8, [.int 0, .int 0, .int 0, .int 0, .null, .null, .null, .null, .null, .null, .null, .null, .null, .null]))] ++ pl) (atype := .byte) hx hb (hts _ (wg_t kw_72)) rfl hK hP hD hS hA 1 rfl (N' := 16384) (a0 := (16384, .inl (fun _ => 0))) (fun _ => rfl) (nI_pos (by omega)) (nI_clamp (by omega)) (by show (16384) * 1 ≤ 536870912; omega) (Nat.le_of_ble_eq_true rfl) (Nat.le_of_ble_eq_true rfl) dM_init_8 (fun q21 H hP hD hS => ?_)
  refine W.widen (k := 1) (n := 16384) (by omega) (by omega) ?_
  obtain ⟨T, pl, hxt21, hU, kr21, hO, hP, hD, hnk21⟩ := absorb (X := [(h0, .inr (8, [.int 0, .int 0, .int 0, .int 0, .null, .null, .null, .null, .null, .null, .null, .null, .null, .null]))]) (1, 16384) hP hD hO hU (Or.inl rfl) (fun _ _ _ => ⟨_, rfl, byt_0⟩)
  have hXT := ext_tr hXT hxt21
  have n_20_0 := hnk21 _ (by decide) n_20_0
  have n_30_25 := hnk21 _ (by decide) n_30_25
  have n_31_25 := hnk21 _ (by decide) n_31_25
  have n_32_5 := hnk21 _ (by decide) n_32_5
  have n_33_24 := hnk21 _ (by decide) n_33_24
  have n_34_25 := hnk21 _ (by decide) n_34_25
  have n_49_0 := hnk21 _ (by decide) n_49_0
  have hP : va_P g.1 vcl ([(h0, .inr (8, [.int 0, .int 0, .int 0, .int 0, .null, .null, .null, .null, .null, .null, .null, .null, .null, .null]))] ++ pl) _ := hP
  have hD : va_D _ ([(h0, .inr (8, [.int 0, .int 0, .int 0, .int 0, .null, .null, .null, .null, .null, .null, .null, .null, .null, .null]))] ++ pl) := hD
  have hPS := pass_one hPS hnk21 (Or.inl rfl)
  refine va_putF (D := g.1) (ci := 8) (v := .ref q21) (ty := .array .byte) (C := "LatticeKeysModel") (T := T_M) (N := 14) hx hb hts (wg_ft i_M) ty_M k_M n_M hown hK hP hD hS 0 rfl rfl 4 (by decide) (hts _ (wg_t kw_1530)) (fun _ h9 => h9) rfl hnm rfl (by decide +kernel) rfl rfl (Nat.le_of_ble_eq_true rfl) dM_init_10 (fun H locs hP hD hS => ?_)
  have hP : va_P g.1 vcl ([(h0, .inr (8, [.int 0, .int 0, .int 0, .int 0, .ref q21, .null, .null, .null, .null, .null, .null, .null, .null, .null]))] ++ pl) _ := hP
  have hD : va_D _ ([(h0, .inr (8, [.int 0, .int 0, .int 0, .int 0, .ref q21, .null, .null, .null, .null, .null, .null, .null, .null, .null]))] ++ pl) := hD
  refine lv_aload_n hx hb dM_init_13 rfl (lv_at hl 0 rfl) ?_
  refine lv_sipush (v := nI 8192) hx hb dM_init_14 (by decide) ?_
  refine ma_newa (ws := [(h0, .inr (8, [.int 0, .int 0, .int 0, .int 0, .ref q21, .null, .null, .null, .null, .null, .null, .null, .null, .null]))] ++ pl) (atype := .byte) hx hb (hts _ (wg_t kw_72)) rfl hK hP hD hS hA 1 rfl (N' := 8192) (a0 := (8192, .inl (fun _ => 0))) (fun _ => rfl) (nI_pos (by omega)) (nI_clamp (by omega)) (by show (8192) * 1 ≤ 536870912; omega) (Nat.le_of_ble_eq_true rfl) (Nat.le_of_ble_eq_true rfl) dM_init_17 (fun q22 H hP hD hS => ?_)
  refine W.widen (k := 2) (n := 24576) (by omega) (by omega) ?_
  obtain ⟨T, pl, hxt22, hU, kr22, hO, hP, hD, hnk22⟩ := absorb (X := [(h0, .inr (8, [.int 0, .int 0, .int 0, .int 0, .ref q21, .null, .null, .null, .null, .null, .null, .null, .null, .null]))]) (1, 8192) hP hD hO hU (Or.inl rfl) (fun _ _ _ => ⟨_, rfl, byt_0⟩)
  have kr21 := hxt22 _ _ kr21
  have hXT := ext_tr hXT hxt22
  have n_20_0 := hnk22 _ (by decide) n_20_0
  have n_30_25 := hnk22 _ (by decide) n_30_25
  have n_31_25 := hnk22 _ (by decide) n_31_25
  have n_32_5 := hnk22 _ (by decide) n_32_5
  have n_33_24 := hnk22 _ (by decide) n_33_24
  have n_34_25 := hnk22 _ (by decide) n_34_25
  have n_49_0 := hnk22 _ (by decide) n_49_0
  have hP : va_P g.1 vcl ([(h0, .inr (8, [.int 0, .int 0, .int 0, .int 0, .ref q21, .null, .null, .null, .null, .null, .null, .null, .null, .null]))] ++ pl) _ := hP
  have hD : va_D _ ([(h0, .inr (8, [.int 0, .int 0, .int 0, .int 0, .ref q21, .null, .null, .null, .null, .null, .null, .null, .null, .null]))] ++ pl) := hD
  have hPS := pass_one hPS hnk22 (Or.inl rfl)
  refine va_putF (D := g.1) (ci := 8) (v := .ref q22) (ty := .array .byte) (C := "LatticeKeysModel") (T := T_M) (N := 14) hx hb hts (wg_ft i_M) ty_M k_M n_M hown hK hP hD hS 0 rfl rfl 5 (by decide) (hts _ (wg_t kw_1531)) (fun _ h9 => h9) rfl hnm rfl (by decide +kernel) rfl rfl (Nat.le_of_ble_eq_true rfl) dM_init_19 (fun H locs hP hD hS => ?_)
  have hP : va_P g.1 vcl ([(h0, .inr (8, [.int 0, .int 0, .int 0, .int 0, .ref q21, .ref q22, .null, .null, .null, .null, .null, .null, .null, .null]))] ++ pl) _ := hP
  have hD : va_D _ ([(h0, .inr (8, [.int 0, .int 0, .int 0, .int 0, .ref q21, .ref q22, .null, .null, .null, .null, .null, .null, .null, .null]))] ++ pl) := hD
  refine lv_aload_n hx hb dM_init_22 rfl (lv_at hl 0 rfl) ?_
  refine lv_sipush (v := nI 8192) hx hb dM_init_23 (by decide) ?_
  refine ma_newa (ws := [(h0, .inr (8, [.int 0, .int 0, .int 0, .int 0, .ref q21, .ref q22, .null, .null, .null, .null, .null, .null, .null, .null]))] ++ pl) (atype := .byte) hx hb (hts _ (wg_t kw_72)) rfl hK hP hD hS hA 1 rfl (N' := 8192) (a0 := (8192, .inl (fun _ => 0))) (fun _ => rfl) (nI_pos (by omega)) (nI_clamp (by omega)) (by show (8192) * 1 ≤ 536870912; omega) (Nat.le_of_ble_eq_true rfl) (Nat.le_of_ble_eq_true rfl) dM_init_26 (fun q23 H hP hD hS => ?_)
  refine W.widen (k := 3) (n := 32768) (by omega) (by omega) ?_
  obtain ⟨T, pl, hxt23, hU, kr23, hO, hP, hD, hnk23⟩ := absorb (X := [(h0, .inr (8, [.int 0, .int 0, .int 0, .int 0, .ref q21, .ref q22, .null, .null, .null, .null, .null, .null, .null, .null]))]) (1, 8192) hP hD hO hU (Or.inl rfl) (fun _ _ _ => ⟨_, rfl, byt_0⟩)
  have kr21 := hxt23 _ _ kr21
  have kr22 := hxt23 _ _ kr22
  have hXT := ext_tr hXT hxt23
  have n_20_0 := hnk23 _ (by decide) n_20_0
  have n_30_25 := hnk23 _ (by decide) n_30_25
  have n_31_25 := hnk23 _ (by decide) n_31_25
  have n_32_5 := hnk23 _ (by decide) n_32_5
  have n_33_24 := hnk23 _ (by decide) n_33_24
  have n_34_25 := hnk23 _ (by decide) n_34_25
  have n_49_0 := hnk23 _ (by decide) n_49_0
  have hP : va_P g.1 vcl ([(h0, .inr (8, [.int 0, .int 0, .int 0, .int 0, .ref q21, .ref q22, .null, .null, .null, .null, .null, .null, .null, .null]))] ++ pl) _ := hP
  have hD : va_D _ ([(h0, .inr (8, [.int 0, .int 0, .int 0, .int 0, .ref q21, .ref q22, .null, .null, .null, .null, .null, .null, .null, .null]))] ++ pl) := hD
  have hPS := pass_one hPS hnk23 (Or.inl rfl)
  refine va_putF (D := g.1) (ci := 8) (v := .ref q23) (ty := .array .byte) (C := "LatticeKeysModel") (T := T_M) (N := 14) hx hb hts (wg_ft i_M) ty_M k_M n_M hown hK hP hD hS 0 rfl rfl 6 (by decide) (hts _ (wg_t kw_1532)) (fun _ h9 => h9) rfl hnm rfl (by decide +kernel) rfl rfl (Nat.le_of_ble_eq_true rfl) dM_init_28 (fun H locs hP hD hS => ?_)
  have hP : va_P g.1 vcl ([(h0, .inr (8, [.int 0, .int 0, .int 0, .int 0, .ref q21, .ref q22, .ref q23, .null, .null, .null, .null, .null, .null, .null]))] ++ pl) _ := hP
  have hD : va_D _ ([(h0, .inr (8, [.int 0, .int 0, .int 0, .int 0, .ref q21, .ref q22, .ref q23, .null, .null, .null, .null, .null, .null, .null]))] ++ pl) := hD
  refine lv_aload_n hx hb dM_init_31 rfl (lv_at hl 0 rfl) ?_
  refine lv_bipush (v := nI 8) hx hb dM_init_32 (by decide) ?_
  refine lv_sipush (v := nI 2592) hx hb dM_init_34 (by decide) ?_
  refine ty_mnab (X := [(h0, .inr (8, [.int 0, .int 0, .int 0, .int 0, .ref q21, .ref q22, .ref q23, .null, .null, .null, .null, .null, .null, .null]))]) hx hb hown (hts _ (wg_t kw_1317)) hE.2.2.2.2.2.2.1 (hts _ (wg_t kw_72)) hK hP hD hS hA hO hU (by decide) (Nat.le_of_ble_eq_true rfl) (Nat.le_of_ble_eq_true rfl) dM_init_37 (fun q24 T pl H hxt24 hU kr24 hO hP hD hS hnk24 => ?_)
  have kr21 := hxt24 _ _ kr21
  have kr22 := hxt24 _ _ kr22
  have kr23 := hxt24 _ _ kr23
  have hXT := ext_tr hXT hxt24
  have n_20_0 := hnk24 _ (by decide) n_20_0
  have n_30_25 := hnk24 _ (by decide) n_30_25
  have n_31_25 := hnk24 _ (by decide) n_31_25
  have n_32_5 := hnk24 _ (by decide) n_32_5
  have n_33_24 := hnk24 _ (by decide) n_33_24
  have n_34_25 := hnk24 _ (by decide) n_34_25
  have n_49_0 := hnk24 _ (by decide) n_49_0
  have hPS := pass_many hPS hnk24
  have hP : va_P g.1 vcl ([(h0, .inr (8, [.int 0, .int 0, .int 0, .int 0, .ref q21, .ref q22, .ref q23, .null, .null, .null, .null, .null, .null, .null]))] ++ pl) _ := hP
  have hD : va_D _ ([(h0, .inr (8, [.int 0, .int 0, .int 0, .int 0, .ref q21, .ref q22, .ref q23, .null, .null, .null, .null, .null, .null, .null]))] ++ pl) := hD
  refine W.widen (k := 12) (n := 53512) (by omega) (by omega) ?_
  refine va_putF (D := g.1) (ci := 8) (v := .ref q24) (ty := .array (.array .byte)) (C := "LatticeKeysModel") (T := T_M) (N := 14) hx hb hts (wg_ft i_M) ty_M k_M n_M hown hK hP hD hS 0 rfl rfl 7 (by decide) (hts _ (wg_t kw_1533)) (fun _ h9 => h9) rfl hnm rfl (by decide +kernel) rfl rfl (Nat.le_of_ble_eq_true rfl) dM_init_41 (fun H locs hP hD hS => ?_)
  have hP : va_P g.1 vcl ([(h0, .inr (8, [.int 0, .int 0, .int 0, .int 0, .ref q21, .ref q22, .ref q23, .ref q24, .null, .null, .null, .null, .null, .null]))] ++ pl) _ := hP
  have hD : va_D _ ([(h0, .inr (8, [.int 0, .int 0, .int 0, .int 0, .ref q21, .ref q22, .ref q23, .ref q24, .null, .null, .null, .null, .null, .null]))] ++ pl) := hD
  refine lv_aload_n hx hb dM_init_44 rfl (lv_at hl 0 rfl) ?_
  refine lv_bipush (v := nI 8) hx hb dM_init_45 (by decide) ?_
  refine lv_sipush (v := nI 4896) hx hb dM_init_47 (by decide) ?_
  refine ty_mnab (X := [(h0, .inr (8, [.int 0, .int 0, .int 0, .int 0, .ref q21, .ref q22, .ref q23, .ref q24, .null, .null, .null, .null, .null, .null]))]) hx hb hown (hts _ (wg_t kw_1317)) hE.2.2.2.2.2.2.1 (hts _ (wg_t kw_72)) hK hP hD hS hA hO hU (by decide) (Nat.le_of_ble_eq_true rfl) (Nat.le_of_ble_eq_true rfl) dM_init_50 (fun q25 T pl H hxt25 hU kr25 hO hP hD hS hnk25 => ?_)
  have kr21 := hxt25 _ _ kr21
  have kr22 := hxt25 _ _ kr22
  have kr23 := hxt25 _ _ kr23
  have kr24 := hxt25 _ _ kr24
  have hXT := ext_tr hXT hxt25
  have n_20_0 := hnk25 _ (by decide) n_20_0
  have n_30_25 := hnk25 _ (by decide) n_30_25
  have n_31_25 := hnk25 _ (by decide) n_31_25
  have n_32_5 := hnk25 _ (by decide) n_32_5
  have n_33_24 := hnk25 _ (by decide) n_33_24
  have n_34_25 := hnk25 _ (by decide) n_34_25
  have n_49_0 := hnk25 _ (by decide) n_49_0
  have hPS := pass_many hPS hnk25
  have hP : va_P g.1 vcl ([(h0, .inr (8, [.int 0, .int 0, .int 0, .int 0, .ref q21, .ref q22, .ref q23, .ref q24, .null, .null, .null, .null, .null, .null]))] ++ pl) _ := hP
  have hD : va_D _ ([(h0, .inr (8, [.int 0, .int 0, .int 0, .int 0, .ref q21, .ref q22, .ref q23, .ref q24, .null, .null, .null, .null, .null, .null]))] ++ pl) := hD
  refine W.widen (k := 21) (n := 92688) (by omega) (by omega) ?_
  refine va_putF (D := g.1) (ci := 8) (v := .ref q25) (ty := .array (.array .byte)) (C := "LatticeKeysModel") (T := T_M) (N := 14) hx hb hts (wg_ft i_M) ty_M k_M n_M hown hK hP hD hS 0 rfl rfl 8 (by decide) (hts _ (wg_t kw_1534)) (fun _ h9 => h9) rfl hnm rfl (by decide +kernel) rfl rfl (Nat.le_of_ble_eq_true rfl) dM_init_54 (fun H locs hP hD hS => ?_)
  have hP : va_P g.1 vcl ([(h0, .inr (8, [.int 0, .int 0, .int 0, .int 0, .ref q21, .ref q22, .ref q23, .ref q24, .ref q25, .null, .null, .null, .null, .null]))] ++ pl) _ := hP
  have hD : va_D _ ([(h0, .inr (8, [.int 0, .int 0, .int 0, .int 0, .ref q21, .ref q22, .ref q23, .ref q24, .ref q25, .null, .null, .null, .null, .null]))] ++ pl) := hD
  refine lv_aload_n hx hb dM_init_57 rfl (lv_at hl 0 rfl) ?_
  refine lv_bipush (v := nI 8) hx hb dM_init_58 (by decide) ?_
  refine ma_newa (ws := [(h0, .inr (8, [.int 0, .int 0, .int 0, .int 0, .ref q21, .ref q22, .ref q23, .ref q24, .ref q25, .null, .null, .null, .null, .null]))] ++ pl) (atype := .int) hx hb (hts _ (wg_t kw_104)) rfl hK hP hD hS hA 0 rfl (N' := 8) (a0 := (8, .inl (fun _ => 0))) (fun _ => rfl) (by decide) (by decide) (by decide) (Nat.le_of_ble_eq_true rfl) (Nat.le_of_ble_eq_true rfl) dM_init_60 (fun q26 H hP hD hS => ?_)
  refine W.widen (k := 22) (n := 92696) (by omega) (by omega) ?_
  obtain ⟨hP, hD⟩ := mv_first hP hD
  have hP : va_P g.1 vcl ([(h0, .inr (8, [.int 0, .int 0, .int 0, .int 0, .ref q21, .ref q22, .ref q23, .ref q24, .ref q25, .null, .null, .null, .null, .null])), (q26, .inl (g.2.1 0, 8, .inl ((fun _ => 0))))] ++ pl) _ := hP
  have hD : va_D _ ([(h0, .inr (8, [.int 0, .int 0, .int 0, .int 0, .ref q21, .ref q22, .ref q23, .ref q24, .ref q25, .null, .null, .null, .null, .null])), (q26, .inl (g.2.1 0, 8, .inl ((fun _ => 0))))] ++ pl) := hD
  refine va_putF (D := g.1) (ci := 8) (v := .ref q26) (ty := .array .int) (C := "LatticeKeysModel") (T := T_M) (N := 14) hx hb hts (wg_ft i_M) ty_M k_M n_M hown hK hP hD hS 0 rfl rfl 9 (by decide) (hts _ (wg_t kw_1535)) (fun _ h9 => h9) rfl hnm rfl (by decide +kernel) rfl rfl (Nat.le_of_ble_eq_true rfl) dM_init_62 (fun H locs hP hD hS => ?_)
  have hP : va_P g.1 vcl ([(h0, .inr (8, [.int 0, .int 0, .int 0, .int 0, .ref q21, .ref q22, .ref q23, .ref q24, .ref q25, .ref q26, .null, .null, .null, .null])), (q26, .inl (g.2.1 0, 8, .inl ((fun _ => 0))))] ++ pl) _ := hP
  have hD : va_D _ ([(h0, .inr (8, [.int 0, .int 0, .int 0, .int 0, .ref q21, .ref q22, .ref q23, .ref q24, .ref q25, .ref q26, .null, .null, .null, .null])), (q26, .inl (g.2.1 0, 8, .inl ((fun _ => 0))))] ++ pl) := hD
  refine lv_aload_n hx hb dM_init_65 rfl (lv_at hl 0 rfl) ?_
  refine lv_bipush (v := nI 8) hx hb dM_init_66 (by decide) ?_
  refine ma_newa (ws := [(h0, .inr (8, [.int 0, .int 0, .int 0, .int 0, .ref q21, .ref q22, .ref q23, .ref q24, .ref q25, .ref q26, .null, .null, .null, .null])), (q26, .inl (g.2.1 0, 8, .inl ((fun _ => 0))))] ++ pl) (atype := .int) hx hb (hts _ (wg_t kw_104)) rfl hK hP hD hS hA 0 rfl (N' := 8) (a0 := (8, .inl (fun _ => 0))) (fun _ => rfl) (by decide) (by decide) (by decide) (Nat.le_of_ble_eq_true rfl) (Nat.le_of_ble_eq_true rfl) dM_init_68 (fun q27 H hP hD hS => ?_)
  refine W.widen (k := 23) (n := 92704) (by omega) (by omega) ?_
  obtain ⟨T, pl, hxt26, hU, kr26, hO, hP, hD, hnk26⟩ := absorb (X := [(h0, .inr (8, [.int 0, .int 0, .int 0, .int 0, .ref q21, .ref q22, .ref q23, .ref q24, .ref q25, .ref q26, .null, .null, .null, .null])), (q26, .inl (g.2.1 0, 8, .inl ((fun _ => 0))))]) (5, 4896) hP hD hO hU (Or.inl rfl) (fun _ _ _ => ⟨_, rfl, fun j _ => ⟨0, by omega, rfl⟩⟩)
  have kr21 := hxt26 _ _ kr21
  have kr22 := hxt26 _ _ kr22
  have kr23 := hxt26 _ _ kr23
  have kr24 := hxt26 _ _ kr24
  have kr25 := hxt26 _ _ kr25
  have hXT := ext_tr hXT hxt26
  have n_20_0 := hnk26 _ (by decide) n_20_0
  have n_30_25 := hnk26 _ (by decide) n_30_25
  have n_31_25 := hnk26 _ (by decide) n_31_25
  have n_32_5 := hnk26 _ (by decide) n_32_5
  have n_33_24 := hnk26 _ (by decide) n_33_24
  have n_34_25 := hnk26 _ (by decide) n_34_25
  have n_49_0 := hnk26 _ (by decide) n_49_0
  have hP : va_P g.1 vcl ([(h0, .inr (8, [.int 0, .int 0, .int 0, .int 0, .ref q21, .ref q22, .ref q23, .ref q24, .ref q25, .ref q26, .null, .null, .null, .null])), (q26, .inl (g.2.1 0, 8, .inl ((fun _ => 0))))] ++ pl) _ := hP
  have hD : va_D _ ([(h0, .inr (8, [.int 0, .int 0, .int 0, .int 0, .ref q21, .ref q22, .ref q23, .ref q24, .ref q25, .ref q26, .null, .null, .null, .null])), (q26, .inl (g.2.1 0, 8, .inl ((fun _ => 0))))] ++ pl) := hD
  have hPS := pass_one hPS hnk26 (Or.inl rfl)
  refine va_putF (D := g.1) (ci := 8) (v := .ref q27) (ty := .array .int) (C := "LatticeKeysModel") (T := T_M) (N := 14) hx hb hts (wg_ft i_M) ty_M k_M n_M hown hK hP hD hS 0 rfl rfl 10 (by decide) (hts _ (wg_t kw_1536)) (fun _ h9 => h9) rfl hnm rfl (by decide +kernel) rfl rfl (Nat.le_of_ble_eq_true rfl) dM_init_70 (fun H locs hP hD hS => ?_)
  have hP : va_P g.1 vcl ([(h0, .inr (8, [.int 0, .int 0, .int 0, .int 0, .ref q21, .ref q22, .ref q23, .ref q24, .ref q25, .ref q26, .ref q27, .null, .null, .null])), (q26, .inl (g.2.1 0, 8, .inl ((fun _ => 0))))] ++ pl) _ := hP
  have hD : va_D _ ([(h0, .inr (8, [.int 0, .int 0, .int 0, .int 0, .ref q21, .ref q22, .ref q23, .ref q24, .ref q25, .ref q26, .ref q27, .null, .null, .null])), (q26, .inl (g.2.1 0, 8, .inl ((fun _ => 0))))] ++ pl) := hD
  refine lv_aload_n hx hb dM_init_73 rfl (lv_at hl 0 rfl) ?_
  refine va_new (ws := [(h0, .inr (8, [.int 0, .int 0, .int 0, .int 0, .ref q21, .ref q22, .ref q23, .ref q24, .ref q25, .ref q26, .ref q27, .null, .null, .null])), (q26, .inl (g.2.1 0, 8, .inl ((fun _ => 0))))] ++ pl) (ci := 9) (fs := [.null, .null, .null, .null, .null, .int 0, .int 0, .int 0]) (C := "LatticeKeysModel$Sponge") (T := T_MS) (N := 8) hx hb hts (wg_ft i_MS) ty_MS k_MS hown (hts _ (wg_t kw_1319)) (hts _ (wg_t kw_1320)) (hts _ (wg_t kw_10)) hK hP hD hS hA rfl z_MS (Nat.le_of_ble_eq_true rfl) (Nat.le_of_ble_eq_true rfl) dM_init_74 (fun q28 H hP hD hS => ?_)
  obtain ⟨hP, hD⟩ := mv_first hP hD
  have hP : va_P g.1 vcl ([(h0, .inr (8, [.int 0, .int 0, .int 0, .int 0, .ref q21, .ref q22, .ref q23, .ref q24, .ref q25, .ref q26, .ref q27, .null, .null, .null])), (q26, .inl (g.2.1 0, 8, .inl ((fun _ => 0)))), (q28, .inr (9, [.null, .null, .null, .null, .null, .int 0, .int 0, .int 0]))] ++ pl) _ := hP
  have hD : va_D _ ([(h0, .inr (8, [.int 0, .int 0, .int 0, .int 0, .ref q21, .ref q22, .ref q23, .ref q24, .ref q25, .ref q26, .ref q27, .null, .null, .null])), (q26, .inl (g.2.1 0, 8, .inl ((fun _ => 0)))), (q28, .inr (9, [.null, .null, .null, .null, .null, .int 0, .int 0, .int 0]))] ++ pl) := hD
  refine W.widen (k := 24) (n := 92712) (by omega) (by omega) ?_
  refine lv_dup hx hb dM_init_77 rfl ?_
  refine mq_v (cx := [(q28, .inr (9, [.null, .null, .null, .null, .null, .int 0, .int 0, .int 0]))]) (wr := [(h0, .inr (8, [.int 0, .int 0, .int 0, .int 0, .ref q21, .ref q22, .ref q23, .ref q24, .ref q25, .ref q26, .ref q27, .null, .null, .null])), (q26, .inl (g.2.1 0, 8, .inl ((fun _ => 0))))]) hP hD hS hA [2] [0, 1] rfl rfl rfl (by decide) (va_runI (As := []) (rest := [.ref q28, .ref h0]) F (m_MS_init l g _ q28) (cwI 0 hts (wg_in kw_1323) rfl rfl rfl (hts _ (wg_t kw_10)) (hts _ (wg_t kw_1321)) (hts _ (wg_t kw_1322)) rfl (by decide +kernel) ⟨by decide, by decide⟩) (pr_S (en_ok g) (md_P hP) (md_D hD) hS hA hE [2] rfl rfl) rfl rfl hl.1 rfl (lv_room (Nat.le_of_ble_eq_true rfl)) dM_init_78 ⟨Nat.le_of_ble_eq_true rfl, Nat.le_of_ble_eq_true rfl⟩) (fun u21 H locs hu21 hP hD hS => ?_)
  obtain ⟨a21, fa21, fu21⟩ := u21
  have hP : va_P g.1 vcl ([(h0, .inr (8, [.int 0, .int 0, .int 0, .int 0, .ref q21, .ref q22, .ref q23, .ref q24, .ref q25, .ref q26, .ref q27, .null, .null, .null])), (q26, .inl (g.2.1 0, 8, .inl ((fun _ => 0)))), (q28, .inr (9, [.ref (a21 0), .ref (a21 1), .ref (a21 2), .ref (a21 3), .ref (a21 4), .int 0, .int 0, .int 0])), (a21 0, .inl (g.2.1 2, 25, .inr (.inl ((fa21 0))))), (a21 1, .inl (g.2.1 2, 25, .inr (.inl ((fa21 1))))), (a21 2, .inl (g.2.1 2, 5, .inr (.inl ((fa21 2))))), (a21 3, .inl (g.2.1 2, 24, .inr (.inl ((fa21 3))))), (a21 4, .inl (g.2.1 0, 25, .inl fu21))] ++ pl) _ := hP
  have hD : va_D _ ([(h0, .inr (8, [.int 0, .int 0, .int 0, .int 0, .ref q21, .ref q22, .ref q23, .ref q24, .ref q25, .ref q26, .ref q27, .null, .null, .null])), (q26, .inl (g.2.1 0, 8, .inl ((fun _ => 0)))), (q28, .inr (9, [.ref (a21 0), .ref (a21 1), .ref (a21 2), .ref (a21 3), .ref (a21 4), .int 0, .int 0, .int 0])), (a21 0, .inl (g.2.1 2, 25, .inr (.inl ((fa21 0))))), (a21 1, .inl (g.2.1 2, 25, .inr (.inl ((fa21 1))))), (a21 2, .inl (g.2.1 2, 5, .inr (.inl ((fa21 2))))), (a21 3, .inl (g.2.1 2, 24, .inr (.inl ((fa21 3))))), (a21 4, .inl (g.2.1 0, 25, .inl fu21))] ++ pl) := hD
  refine W.widen (k := 29) (n := 92816) (by omega) (by omega) ?_
  obtain ⟨am21, heam21⟩ : ∃ z, z = a21 0 := ⟨_, rfl⟩
  rw [← heam21] at hP hD
  have hP : va_P g.1 vcl ([(h0, .inr (8, [.int 0, .int 0, .int 0, .int 0, .ref q21, .ref q22, .ref q23, .ref q24, .ref q25, .ref q26, .ref q27, .null, .null, .null])), (q26, .inl (g.2.1 0, 8, .inl ((fun _ => 0)))), (q28, .inr (9, [.ref am21, .ref (a21 1), .ref (a21 2), .ref (a21 3), .ref (a21 4), .int 0, .int 0, .int 0])), (am21, .inl (g.2.1 2, 25, .inr (.inl ((fa21 0))))), (a21 1, .inl (g.2.1 2, 25, .inr (.inl ((fa21 1))))), (a21 2, .inl (g.2.1 2, 5, .inr (.inl ((fa21 2))))), (a21 3, .inl (g.2.1 2, 24, .inr (.inl ((fa21 3))))), (a21 4, .inl (g.2.1 0, 25, .inl fu21))] ++ pl) _ := hP
  have hD : va_D _ ([(h0, .inr (8, [.int 0, .int 0, .int 0, .int 0, .ref q21, .ref q22, .ref q23, .ref q24, .ref q25, .ref q26, .ref q27, .null, .null, .null])), (q26, .inl (g.2.1 0, 8, .inl ((fun _ => 0)))), (q28, .inr (9, [.ref am21, .ref (a21 1), .ref (a21 2), .ref (a21 3), .ref (a21 4), .int 0, .int 0, .int 0])), (am21, .inl (g.2.1 2, 25, .inr (.inl ((fa21 0))))), (a21 1, .inl (g.2.1 2, 25, .inr (.inl ((fa21 1))))), (a21 2, .inl (g.2.1 2, 5, .inr (.inl ((fa21 2))))), (a21 3, .inl (g.2.1 2, 24, .inr (.inl ((fa21 3))))), (a21 4, .inl (g.2.1 0, 25, .inl fu21))] ++ pl) := hD
  obtain ⟨am22, heam22⟩ : ∃ z, z = a21 1 := ⟨_, rfl⟩
  rw [← heam22] at hP hD
  have hP : va_P g.1 vcl ([(h0, .inr (8, [.int 0, .int 0, .int 0, .int 0, .ref q21, .ref q22, .ref q23, .ref q24, .ref q25, .ref q26, .ref q27, .null, .null, .null])), (q26, .inl (g.2.1 0, 8, .inl ((fun _ => 0)))), (q28, .inr (9, [.ref am21, .ref am22, .ref (a21 2), .ref (a21 3), .ref (a21 4), .int 0, .int 0, .int 0])), (am21, .inl (g.2.1 2, 25, .inr (.inl ((fa21 0))))), (am22, .inl (g.2.1 2, 25, .inr (.inl ((fa21 1))))), (a21 2, .inl (g.2.1 2, 5, .inr (.inl ((fa21 2))))), (a21 3, .inl (g.2.1 2, 24, .inr (.inl ((fa21 3))))), (a21 4, .inl (g.2.1 0, 25, .inl fu21))] ++ pl) _ := hP
  have hD : va_D _ ([(h0, .inr (8, [.int 0, .int 0, .int 0, .int 0, .ref q21, .ref q22, .ref q23, .ref q24, .ref q25, .ref q26, .ref q27, .null, .null, .null])), (q26, .inl (g.2.1 0, 8, .inl ((fun _ => 0)))), (q28, .inr (9, [.ref am21, .ref am22, .ref (a21 2), .ref (a21 3), .ref (a21 4), .int 0, .int 0, .int 0])), (am21, .inl (g.2.1 2, 25, .inr (.inl ((fa21 0))))), (am22, .inl (g.2.1 2, 25, .inr (.inl ((fa21 1))))), (a21 2, .inl (g.2.1 2, 5, .inr (.inl ((fa21 2))))), (a21 3, .inl (g.2.1 2, 24, .inr (.inl ((fa21 3))))), (a21 4, .inl (g.2.1 0, 25, .inl fu21))] ++ pl) := hD
  obtain ⟨am23, heam23⟩ : ∃ z, z = a21 2 := ⟨_, rfl⟩
  rw [← heam23] at hP hD
  have hP : va_P g.1 vcl ([(h0, .inr (8, [.int 0, .int 0, .int 0, .int 0, .ref q21, .ref q22, .ref q23, .ref q24, .ref q25, .ref q26, .ref q27, .null, .null, .null])), (q26, .inl (g.2.1 0, 8, .inl ((fun _ => 0)))), (q28, .inr (9, [.ref am21, .ref am22, .ref am23, .ref (a21 3), .ref (a21 4), .int 0, .int 0, .int 0])), (am21, .inl (g.2.1 2, 25, .inr (.inl ((fa21 0))))), (am22, .inl (g.2.1 2, 25, .inr (.inl ((fa21 1))))), (am23, .inl (g.2.1 2, 5, .inr (.inl ((fa21 2))))), (a21 3, .inl (g.2.1 2, 24, .inr (.inl ((fa21 3))))), (a21 4, .inl (g.2.1 0, 25, .inl fu21))] ++ pl) _ := hP
  have hD : va_D _ ([(h0, .inr (8, [.int 0, .int 0, .int 0, .int 0, .ref q21, .ref q22, .ref q23, .ref q24, .ref q25, .ref q26, .ref q27, .null, .null, .null])), (q26, .inl (g.2.1 0, 8, .inl ((fun _ => 0)))), (q28, .inr (9, [.ref am21, .ref am22, .ref am23, .ref (a21 3), .ref (a21 4), .int 0, .int 0, .int 0])), (am21, .inl (g.2.1 2, 25, .inr (.inl ((fa21 0))))), (am22, .inl (g.2.1 2, 25, .inr (.inl ((fa21 1))))), (am23, .inl (g.2.1 2, 5, .inr (.inl ((fa21 2))))), (a21 3, .inl (g.2.1 2, 24, .inr (.inl ((fa21 3))))), (a21 4, .inl (g.2.1 0, 25, .inl fu21))] ++ pl) := hD
  obtain ⟨am24, heam24⟩ : ∃ z, z = a21 3 := ⟨_, rfl⟩
  rw [← heam24] at hP hD
  have hP : va_P g.1 vcl ([(h0, .inr (8, [.int 0, .int 0, .int 0, .int 0, .ref q21, .ref q22, .ref q23, .ref q24, .ref q25, .ref q26, .ref q27, .null, .null, .null])), (q26, .inl (g.2.1 0, 8, .inl ((fun _ => 0)))), (q28, .inr (9, [.ref am21, .ref am22, .ref am23, .ref am24, .ref (a21 4), .int 0, .int 0, .int 0])), (am21, .inl (g.2.1 2, 25, .inr (.inl ((fa21 0))))), (am22, .inl (g.2.1 2, 25, .inr (.inl ((fa21 1))))), (am23, .inl (g.2.1 2, 5, .inr (.inl ((fa21 2))))), (am24, .inl (g.2.1 2, 24, .inr (.inl ((fa21 3))))), (a21 4, .inl (g.2.1 0, 25, .inl fu21))] ++ pl) _ := hP
  have hD : va_D _ ([(h0, .inr (8, [.int 0, .int 0, .int 0, .int 0, .ref q21, .ref q22, .ref q23, .ref q24, .ref q25, .ref q26, .ref q27, .null, .null, .null])), (q26, .inl (g.2.1 0, 8, .inl ((fun _ => 0)))), (q28, .inr (9, [.ref am21, .ref am22, .ref am23, .ref am24, .ref (a21 4), .int 0, .int 0, .int 0])), (am21, .inl (g.2.1 2, 25, .inr (.inl ((fa21 0))))), (am22, .inl (g.2.1 2, 25, .inr (.inl ((fa21 1))))), (am23, .inl (g.2.1 2, 5, .inr (.inl ((fa21 2))))), (am24, .inl (g.2.1 2, 24, .inr (.inl ((fa21 3))))), (a21 4, .inl (g.2.1 0, 25, .inl fu21))] ++ pl) := hD
  obtain ⟨am25, heam25⟩ : ∃ z, z = a21 4 := ⟨_, rfl⟩
  rw [← heam25] at hP hD
  have hP : va_P g.1 vcl ([(h0, .inr (8, [.int 0, .int 0, .int 0, .int 0, .ref q21, .ref q22, .ref q23, .ref q24, .ref q25, .ref q26, .ref q27, .null, .null, .null])), (q26, .inl (g.2.1 0, 8, .inl ((fun _ => 0)))), (q28, .inr (9, [.ref am21, .ref am22, .ref am23, .ref am24, .ref am25, .int 0, .int 0, .int 0])), (am21, .inl (g.2.1 2, 25, .inr (.inl ((fa21 0))))), (am22, .inl (g.2.1 2, 25, .inr (.inl ((fa21 1))))), (am23, .inl (g.2.1 2, 5, .inr (.inl ((fa21 2))))), (am24, .inl (g.2.1 2, 24, .inr (.inl ((fa21 3))))), (am25, .inl (g.2.1 0, 25, .inl fu21))] ++ pl) _ := hP
  have hD : va_D _ ([(h0, .inr (8, [.int 0, .int 0, .int 0, .int 0, .ref q21, .ref q22, .ref q23, .ref q24, .ref q25, .ref q26, .ref q27, .null, .null, .null])), (q26, .inl (g.2.1 0, 8, .inl ((fun _ => 0)))), (q28, .inr (9, [.ref am21, .ref am22, .ref am23, .ref am24, .ref am25, .int 0, .int 0, .int 0])), (am21, .inl (g.2.1 2, 25, .inr (.inl ((fa21 0))))), (am22, .inl (g.2.1 2, 25, .inr (.inl ((fa21 1))))), (am23, .inl (g.2.1 2, 5, .inr (.inl ((fa21 2))))), (am24, .inl (g.2.1 2, 24, .inr (.inl ((fa21 3))))), (am25, .inl (g.2.1 0, 25, .inl fu21))] ++ pl) := hD
  have hP : va_P g.1 vcl ([(h0, .inr (8, [.int 0, .int 0, .int 0, .int 0, .ref q21, .ref q22, .ref q23, .ref q24, .ref q25, .ref q26, .ref q27, .null, .null, .null])), (q26, .inl (g.2.1 0, 8, .inl ((fun _ => 0)))), (q28, .inr (9, [.ref am21, .ref am22, .ref am23, .ref am24, .ref am25, .int 0, .int 0, .int 0])), (am22, .inl (g.2.1 2, 25, .inr (.inl ((fa21 1))))), (am23, .inl (g.2.1 2, 5, .inr (.inl ((fa21 2))))), (am24, .inl (g.2.1 2, 24, .inr (.inl ((fa21 3))))), (am25, .inl (g.2.1 0, 25, .inl fu21)), (am21, .inl (g.2.1 2, 25, .inr (.inl ((fa21 0)))))] ++ pl) _ := hP.part [0, 1, 2, 4, 5, 6, 7, 3] rfl
  have hD : va_D _ ([(h0, .inr (8, [.int 0, .int 0, .int 0, .int 0, .ref q21, .ref q22, .ref q23, .ref q24, .ref q25, .ref q26, .ref q27, .null, .null, .null])), (q26, .inl (g.2.1 0, 8, .inl ((fun _ => 0)))), (q28, .inr (9, [.ref am21, .ref am22, .ref am23, .ref am24, .ref am25, .int 0, .int 0, .int 0])), (am22, .inl (g.2.1 2, 25, .inr (.inl ((fa21 1))))), (am23, .inl (g.2.1 2, 5, .inr (.inl ((fa21 2))))), (am24, .inl (g.2.1 2, 24, .inr (.inl ((fa21 3))))), (am25, .inl (g.2.1 0, 25, .inl fu21)), (am21, .inl (g.2.1 2, 25, .inr (.inl ((fa21 0)))))] ++ pl) := hD.part [0, 1, 2, 4, 5, 6, 7, 3] (by decide) rfl
  obtain ⟨hP, hD⟩ := mv_last (X := [(h0, .inr (8, [.int 0, .int 0, .int 0, .int 0, .ref q21, .ref q22, .ref q23, .ref q24, .ref q25, .ref q26, .ref q27, .null, .null, .null])), (q26, .inl (g.2.1 0, 8, .inl ((fun _ => 0)))), (q28, .inr (9, [.ref am21, .ref am22, .ref am23, .ref am24, .ref am25, .int 0, .int 0, .int 0])), (am22, .inl (g.2.1 2, 25, .inr (.inl ((fa21 1))))), (am23, .inl (g.2.1 2, 5, .inr (.inl ((fa21 2))))), (am24, .inl (g.2.1 2, 24, .inr (.inl ((fa21 3))))), (am25, .inl (g.2.1 0, 25, .inl fu21))]) (c := (am21, .inl (g.2.1 2, 25, .inr (.inl ((fa21 0)))))) hP hD
  obtain ⟨T, pl, hxt27, hU, kr27, hO, hP, hD, hnk27⟩ := absorb (X := [(h0, .inr (8, [.int 0, .int 0, .int 0, .int 0, .ref q21, .ref q22, .ref q23, .ref q24, .ref q25, .ref q26, .ref q27, .null, .null, .null])), (q26, .inl (g.2.1 0, 8, .inl ((fun _ => 0)))), (q28, .inr (9, [.ref am21, .ref am22, .ref am23, .ref am24, .ref am25, .int 0, .int 0, .int 0])), (am22, .inl (g.2.1 2, 25, .inr (.inl ((fa21 1))))), (am23, .inl (g.2.1 2, 5, .inr (.inl ((fa21 2))))), (am24, .inl (g.2.1 2, 24, .inr (.inl ((fa21 3))))), (am25, .inl (g.2.1 0, 25, .inl fu21))]) (30, 25) hP hD hO hU (Or.inr n_30_25) (fun _ _ _ => ⟨_, rfl⟩)
  have kr21 := hxt27 _ _ kr21
  have kr22 := hxt27 _ _ kr22
  have kr23 := hxt27 _ _ kr23
  have kr24 := hxt27 _ _ kr24
  have kr25 := hxt27 _ _ kr25
  have kr26 := hxt27 _ _ kr26
  have hXT := ext_tr hXT hxt27
  have n_20_0 := hnk27 _ (by decide) n_20_0
  have n_31_25 := hnk27 _ (by decide) n_31_25
  have n_32_5 := hnk27 _ (by decide) n_32_5
  have n_33_24 := hnk27 _ (by decide) n_33_24
  have n_34_25 := hnk27 _ (by decide) n_34_25
  have n_49_0 := hnk27 _ (by decide) n_49_0
  have hP : va_P g.1 vcl ([(h0, .inr (8, [.int 0, .int 0, .int 0, .int 0, .ref q21, .ref q22, .ref q23, .ref q24, .ref q25, .ref q26, .ref q27, .null, .null, .null])), (q26, .inl (g.2.1 0, 8, .inl ((fun _ => 0)))), (q28, .inr (9, [.ref am21, .ref am22, .ref am23, .ref am24, .ref am25, .int 0, .int 0, .int 0])), (am22, .inl (g.2.1 2, 25, .inr (.inl ((fa21 1))))), (am23, .inl (g.2.1 2, 5, .inr (.inl ((fa21 2))))), (am24, .inl (g.2.1 2, 24, .inr (.inl ((fa21 3))))), (am25, .inl (g.2.1 0, 25, .inl fu21))] ++ pl) _ := hP
  have hD : va_D _ ([(h0, .inr (8, [.int 0, .int 0, .int 0, .int 0, .ref q21, .ref q22, .ref q23, .ref q24, .ref q25, .ref q26, .ref q27, .null, .null, .null])), (q26, .inl (g.2.1 0, 8, .inl ((fun _ => 0)))), (q28, .inr (9, [.ref am21, .ref am22, .ref am23, .ref am24, .ref am25, .int 0, .int 0, .int 0])), (am22, .inl (g.2.1 2, 25, .inr (.inl ((fa21 1))))), (am23, .inl (g.2.1 2, 5, .inr (.inl ((fa21 2))))), (am24, .inl (g.2.1 2, 24, .inr (.inl ((fa21 3))))), (am25, .inl (g.2.1 0, 25, .inl fu21))] ++ pl) := hD
  have hPS := pass_one hPS hnk27 (Or.inr (by decide))
  have hP : va_P g.1 vcl ([(h0, .inr (8, [.int 0, .int 0, .int 0, .int 0, .ref q21, .ref q22, .ref q23, .ref q24, .ref q25, .ref q26, .ref q27, .null, .null, .null])), (q26, .inl (g.2.1 0, 8, .inl ((fun _ => 0)))), (q28, .inr (9, [.ref am21, .ref am22, .ref am23, .ref am24, .ref am25, .int 0, .int 0, .int 0])), (am23, .inl (g.2.1 2, 5, .inr (.inl ((fa21 2))))), (am24, .inl (g.2.1 2, 24, .inr (.inl ((fa21 3))))), (am25, .inl (g.2.1 0, 25, .inl fu21)), (am22, .inl (g.2.1 2, 25, .inr (.inl ((fa21 1)))))] ++ pl) _ := hP.part [0, 1, 2, 4, 5, 6, 3] rfl
  have hD : va_D _ ([(h0, .inr (8, [.int 0, .int 0, .int 0, .int 0, .ref q21, .ref q22, .ref q23, .ref q24, .ref q25, .ref q26, .ref q27, .null, .null, .null])), (q26, .inl (g.2.1 0, 8, .inl ((fun _ => 0)))), (q28, .inr (9, [.ref am21, .ref am22, .ref am23, .ref am24, .ref am25, .int 0, .int 0, .int 0])), (am23, .inl (g.2.1 2, 5, .inr (.inl ((fa21 2))))), (am24, .inl (g.2.1 2, 24, .inr (.inl ((fa21 3))))), (am25, .inl (g.2.1 0, 25, .inl fu21)), (am22, .inl (g.2.1 2, 25, .inr (.inl ((fa21 1)))))] ++ pl) := hD.part [0, 1, 2, 4, 5, 6, 3] (by decide) rfl
  obtain ⟨hP, hD⟩ := mv_last (X := [(h0, .inr (8, [.int 0, .int 0, .int 0, .int 0, .ref q21, .ref q22, .ref q23, .ref q24, .ref q25, .ref q26, .ref q27, .null, .null, .null])), (q26, .inl (g.2.1 0, 8, .inl ((fun _ => 0)))), (q28, .inr (9, [.ref am21, .ref am22, .ref am23, .ref am24, .ref am25, .int 0, .int 0, .int 0])), (am23, .inl (g.2.1 2, 5, .inr (.inl ((fa21 2))))), (am24, .inl (g.2.1 2, 24, .inr (.inl ((fa21 3))))), (am25, .inl (g.2.1 0, 25, .inl fu21))]) (c := (am22, .inl (g.2.1 2, 25, .inr (.inl ((fa21 1)))))) hP hD
  obtain ⟨T, pl, hxt28, hU, kr28, hO, hP, hD, hnk28⟩ := absorb (X := [(h0, .inr (8, [.int 0, .int 0, .int 0, .int 0, .ref q21, .ref q22, .ref q23, .ref q24, .ref q25, .ref q26, .ref q27, .null, .null, .null])), (q26, .inl (g.2.1 0, 8, .inl ((fun _ => 0)))), (q28, .inr (9, [.ref am21, .ref am22, .ref am23, .ref am24, .ref am25, .int 0, .int 0, .int 0])), (am23, .inl (g.2.1 2, 5, .inr (.inl ((fa21 2))))), (am24, .inl (g.2.1 2, 24, .inr (.inl ((fa21 3))))), (am25, .inl (g.2.1 0, 25, .inl fu21))]) (31, 25) hP hD hO hU (Or.inr n_31_25) (fun _ _ _ => ⟨_, rfl⟩)
  have kr21 := hxt28 _ _ kr21
  have kr22 := hxt28 _ _ kr22
  have kr23 := hxt28 _ _ kr23
  have kr24 := hxt28 _ _ kr24
  have kr25 := hxt28 _ _ kr25
  have kr26 := hxt28 _ _ kr26
  have kr27 := hxt28 _ _ kr27
  have hXT := ext_tr hXT hxt28
  have n_20_0 := hnk28 _ (by decide) n_20_0
  have n_32_5 := hnk28 _ (by decide) n_32_5
  have n_33_24 := hnk28 _ (by decide) n_33_24
  have n_34_25 := hnk28 _ (by decide) n_34_25
  have n_49_0 := hnk28 _ (by decide) n_49_0
  have hP : va_P g.1 vcl ([(h0, .inr (8, [.int 0, .int 0, .int 0, .int 0, .ref q21, .ref q22, .ref q23, .ref q24, .ref q25, .ref q26, .ref q27, .null, .null, .null])), (q26, .inl (g.2.1 0, 8, .inl ((fun _ => 0)))), (q28, .inr (9, [.ref am21, .ref am22, .ref am23, .ref am24, .ref am25, .int 0, .int 0, .int 0])), (am23, .inl (g.2.1 2, 5, .inr (.inl ((fa21 2))))), (am24, .inl (g.2.1 2, 24, .inr (.inl ((fa21 3))))), (am25, .inl (g.2.1 0, 25, .inl fu21))] ++ pl) _ := hP
  have hD : va_D _ ([(h0, .inr (8, [.int 0, .int 0, .int 0, .int 0, .ref q21, .ref q22, .ref q23, .ref q24, .ref q25, .ref q26, .ref q27, .null, .null, .null])), (q26, .inl (g.2.1 0, 8, .inl ((fun _ => 0)))), (q28, .inr (9, [.ref am21, .ref am22, .ref am23, .ref am24, .ref am25, .int 0, .int 0, .int 0])), (am23, .inl (g.2.1 2, 5, .inr (.inl ((fa21 2))))), (am24, .inl (g.2.1 2, 24, .inr (.inl ((fa21 3))))), (am25, .inl (g.2.1 0, 25, .inl fu21))] ++ pl) := hD
  have hPS := pass_one hPS hnk28 (Or.inr (by decide))
  have hP : va_P g.1 vcl ([(h0, .inr (8, [.int 0, .int 0, .int 0, .int 0, .ref q21, .ref q22, .ref q23, .ref q24, .ref q25, .ref q26, .ref q27, .null, .null, .null])), (q26, .inl (g.2.1 0, 8, .inl ((fun _ => 0)))), (q28, .inr (9, [.ref am21, .ref am22, .ref am23, .ref am24, .ref am25, .int 0, .int 0, .int 0])), (am24, .inl (g.2.1 2, 24, .inr (.inl ((fa21 3))))), (am25, .inl (g.2.1 0, 25, .inl fu21)), (am23, .inl (g.2.1 2, 5, .inr (.inl ((fa21 2)))))] ++ pl) _ := hP.part [0, 1, 2, 4, 5, 3] rfl
  have hD : va_D _ ([(h0, .inr (8, [.int 0, .int 0, .int 0, .int 0, .ref q21, .ref q22, .ref q23, .ref q24, .ref q25, .ref q26, .ref q27, .null, .null, .null])), (q26, .inl (g.2.1 0, 8, .inl ((fun _ => 0)))), (q28, .inr (9, [.ref am21, .ref am22, .ref am23, .ref am24, .ref am25, .int 0, .int 0, .int 0])), (am24, .inl (g.2.1 2, 24, .inr (.inl ((fa21 3))))), (am25, .inl (g.2.1 0, 25, .inl fu21)), (am23, .inl (g.2.1 2, 5, .inr (.inl ((fa21 2)))))] ++ pl) := hD.part [0, 1, 2, 4, 5, 3] (by decide) rfl
  obtain ⟨hP, hD⟩ := mv_last (X := [(h0, .inr (8, [.int 0, .int 0, .int 0, .int 0, .ref q21, .ref q22, .ref q23, .ref q24, .ref q25, .ref q26, .ref q27, .null, .null, .null])), (q26, .inl (g.2.1 0, 8, .inl ((fun _ => 0)))), (q28, .inr (9, [.ref am21, .ref am22, .ref am23, .ref am24, .ref am25, .int 0, .int 0, .int 0])), (am24, .inl (g.2.1 2, 24, .inr (.inl ((fa21 3))))), (am25, .inl (g.2.1 0, 25, .inl fu21))]) (c := (am23, .inl (g.2.1 2, 5, .inr (.inl ((fa21 2)))))) hP hD
  obtain ⟨T, pl, hxt29, hU, kr29, hO, hP, hD, hnk29⟩ := absorb (X := [(h0, .inr (8, [.int 0, .int 0, .int 0, .int 0, .ref q21, .ref q22, .ref q23, .ref q24, .ref q25, .ref q26, .ref q27, .null, .null, .null])), (q26, .inl (g.2.1 0, 8, .inl ((fun _ => 0)))), (q28, .inr (9, [.ref am21, .ref am22, .ref am23, .ref am24, .ref am25, .int 0, .int 0, .int 0])), (am24, .inl (g.2.1 2, 24, .inr (.inl ((fa21 3))))), (am25, .inl (g.2.1 0, 25, .inl fu21))]) (32, 5) hP hD hO hU (Or.inr n_32_5) (fun _ _ _ => ⟨_, rfl⟩)
  have kr21 := hxt29 _ _ kr21
  have kr22 := hxt29 _ _ kr22
  have kr23 := hxt29 _ _ kr23
  have kr24 := hxt29 _ _ kr24
  have kr25 := hxt29 _ _ kr25
  have kr26 := hxt29 _ _ kr26
  have kr27 := hxt29 _ _ kr27
  have kr28 := hxt29 _ _ kr28
  have hXT := ext_tr hXT hxt29
  have n_20_0 := hnk29 _ (by decide) n_20_0
  have n_33_24 := hnk29 _ (by decide) n_33_24
  have n_34_25 := hnk29 _ (by decide) n_34_25
  have n_49_0 := hnk29 _ (by decide) n_49_0
  have hP : va_P g.1 vcl ([(h0, .inr (8, [.int 0, .int 0, .int 0, .int 0, .ref q21, .ref q22, .ref q23, .ref q24, .ref q25, .ref q26, .ref q27, .null, .null, .null])), (q26, .inl (g.2.1 0, 8, .inl ((fun _ => 0)))), (q28, .inr (9, [.ref am21, .ref am22, .ref am23, .ref am24, .ref am25, .int 0, .int 0, .int 0])), (am24, .inl (g.2.1 2, 24, .inr (.inl ((fa21 3))))), (am25, .inl (g.2.1 0, 25, .inl fu21))] ++ pl) _ := hP
  have hD : va_D _ ([(h0, .inr (8, [.int 0, .int 0, .int 0, .int 0, .ref q21, .ref q22, .ref q23, .ref q24, .ref q25, .ref q26, .ref q27, .null, .null, .null])), (q26, .inl (g.2.1 0, 8, .inl ((fun _ => 0)))), (q28, .inr (9, [.ref am21, .ref am22, .ref am23, .ref am24, .ref am25, .int 0, .int 0, .int 0])), (am24, .inl (g.2.1 2, 24, .inr (.inl ((fa21 3))))), (am25, .inl (g.2.1 0, 25, .inl fu21))] ++ pl) := hD
  have hPS := pass_one hPS hnk29 (Or.inr (by decide))
  have hP : va_P g.1 vcl ([(h0, .inr (8, [.int 0, .int 0, .int 0, .int 0, .ref q21, .ref q22, .ref q23, .ref q24, .ref q25, .ref q26, .ref q27, .null, .null, .null])), (q26, .inl (g.2.1 0, 8, .inl ((fun _ => 0)))), (q28, .inr (9, [.ref am21, .ref am22, .ref am23, .ref am24, .ref am25, .int 0, .int 0, .int 0])), (am25, .inl (g.2.1 0, 25, .inl fu21)), (am24, .inl (g.2.1 2, 24, .inr (.inl ((fa21 3)))))] ++ pl) _ := hP.part [0, 1, 2, 4, 3] rfl
  have hD : va_D _ ([(h0, .inr (8, [.int 0, .int 0, .int 0, .int 0, .ref q21, .ref q22, .ref q23, .ref q24, .ref q25, .ref q26, .ref q27, .null, .null, .null])), (q26, .inl (g.2.1 0, 8, .inl ((fun _ => 0)))), (q28, .inr (9, [.ref am21, .ref am22, .ref am23, .ref am24, .ref am25, .int 0, .int 0, .int 0])), (am25, .inl (g.2.1 0, 25, .inl fu21)), (am24, .inl (g.2.1 2, 24, .inr (.inl ((fa21 3)))))] ++ pl) := hD.part [0, 1, 2, 4, 3] (by decide) rfl
  obtain ⟨hP, hD⟩ := mv_last (X := [(h0, .inr (8, [.int 0, .int 0, .int 0, .int 0, .ref q21, .ref q22, .ref q23, .ref q24, .ref q25, .ref q26, .ref q27, .null, .null, .null])), (q26, .inl (g.2.1 0, 8, .inl ((fun _ => 0)))), (q28, .inr (9, [.ref am21, .ref am22, .ref am23, .ref am24, .ref am25, .int 0, .int 0, .int 0])), (am25, .inl (g.2.1 0, 25, .inl fu21))]) (c := (am24, .inl (g.2.1 2, 24, .inr (.inl ((fa21 3)))))) hP hD
  obtain ⟨T, pl, hxt30, hU, kr30, hO, hP, hD, hnk30⟩ := absorb (X := [(h0, .inr (8, [.int 0, .int 0, .int 0, .int 0, .ref q21, .ref q22, .ref q23, .ref q24, .ref q25, .ref q26, .ref q27, .null, .null, .null])), (q26, .inl (g.2.1 0, 8, .inl ((fun _ => 0)))), (q28, .inr (9, [.ref am21, .ref am22, .ref am23, .ref am24, .ref am25, .int 0, .int 0, .int 0])), (am25, .inl (g.2.1 0, 25, .inl fu21))]) (33, 24) hP hD hO hU (Or.inr n_33_24) (fun _ _ _ => ⟨_, rfl⟩)
  have kr21 := hxt30 _ _ kr21
  have kr22 := hxt30 _ _ kr22
  have kr23 := hxt30 _ _ kr23
  have kr24 := hxt30 _ _ kr24
  have kr25 := hxt30 _ _ kr25
  have kr26 := hxt30 _ _ kr26
  have kr27 := hxt30 _ _ kr27
  have kr28 := hxt30 _ _ kr28
  have kr29 := hxt30 _ _ kr29
  have hXT := ext_tr hXT hxt30
  have n_20_0 := hnk30 _ (by decide) n_20_0
  have n_34_25 := hnk30 _ (by decide) n_34_25
  have n_49_0 := hnk30 _ (by decide) n_49_0
  have hP : va_P g.1 vcl ([(h0, .inr (8, [.int 0, .int 0, .int 0, .int 0, .ref q21, .ref q22, .ref q23, .ref q24, .ref q25, .ref q26, .ref q27, .null, .null, .null])), (q26, .inl (g.2.1 0, 8, .inl ((fun _ => 0)))), (q28, .inr (9, [.ref am21, .ref am22, .ref am23, .ref am24, .ref am25, .int 0, .int 0, .int 0])), (am25, .inl (g.2.1 0, 25, .inl fu21))] ++ pl) _ := hP
  have hD : va_D _ ([(h0, .inr (8, [.int 0, .int 0, .int 0, .int 0, .ref q21, .ref q22, .ref q23, .ref q24, .ref q25, .ref q26, .ref q27, .null, .null, .null])), (q26, .inl (g.2.1 0, 8, .inl ((fun _ => 0)))), (q28, .inr (9, [.ref am21, .ref am22, .ref am23, .ref am24, .ref am25, .int 0, .int 0, .int 0])), (am25, .inl (g.2.1 0, 25, .inl fu21))] ++ pl) := hD
  have hPS := pass_one hPS hnk30 (Or.inr (by decide))
  obtain ⟨hP, hD⟩ := mv_last (X := [(h0, .inr (8, [.int 0, .int 0, .int 0, .int 0, .ref q21, .ref q22, .ref q23, .ref q24, .ref q25, .ref q26, .ref q27, .null, .null, .null])), (q26, .inl (g.2.1 0, 8, .inl ((fun _ => 0)))), (q28, .inr (9, [.ref am21, .ref am22, .ref am23, .ref am24, .ref am25, .int 0, .int 0, .int 0]))]) (c := (am25, .inl (g.2.1 0, 25, .inl fu21))) hP hD
  obtain ⟨T, pl, hxt31, hU, kr31, hO, hP, hD, hnk31⟩ := absorb (X := [(h0, .inr (8, [.int 0, .int 0, .int 0, .int 0, .ref q21, .ref q22, .ref q23, .ref q24, .ref q25, .ref q26, .ref q27, .null, .null, .null])), (q26, .inl (g.2.1 0, 8, .inl ((fun _ => 0)))), (q28, .inr (9, [.ref am21, .ref am22, .ref am23, .ref am24, .ref am25, .int 0, .int 0, .int 0]))]) (34, 25) hP hD hO hU (Or.inr n_34_25) (fun _ _ _ => ⟨_, rfl⟩)
  have kr21 := hxt31 _ _ kr21
  have kr22 := hxt31 _ _ kr22
  have kr23 := hxt31 _ _ kr23
  have kr24 := hxt31 _ _ kr24
  have kr25 := hxt31 _ _ kr25
  have kr26 := hxt31 _ _ kr26
  have kr27 := hxt31 _ _ kr27
  have kr28 := hxt31 _ _ kr28
  have kr29 := hxt31 _ _ kr29
  have kr30 := hxt31 _ _ kr30
  have hXT := ext_tr hXT hxt31
  have n_20_0 := hnk31 _ (by decide) n_20_0
  have n_49_0 := hnk31 _ (by decide) n_49_0
  have hP : va_P g.1 vcl ([(h0, .inr (8, [.int 0, .int 0, .int 0, .int 0, .ref q21, .ref q22, .ref q23, .ref q24, .ref q25, .ref q26, .ref q27, .null, .null, .null])), (q26, .inl (g.2.1 0, 8, .inl ((fun _ => 0)))), (q28, .inr (9, [.ref am21, .ref am22, .ref am23, .ref am24, .ref am25, .int 0, .int 0, .int 0]))] ++ pl) _ := hP
  have hD : va_D _ ([(h0, .inr (8, [.int 0, .int 0, .int 0, .int 0, .ref q21, .ref q22, .ref q23, .ref q24, .ref q25, .ref q26, .ref q27, .null, .null, .null])), (q26, .inl (g.2.1 0, 8, .inl ((fun _ => 0)))), (q28, .inr (9, [.ref am21, .ref am22, .ref am23, .ref am24, .ref am25, .int 0, .int 0, .int 0]))] ++ pl) := hD
  have hPS := pass_one hPS hnk31 (Or.inr (by decide))
  obtain ⟨hP, hD⟩ := mv_last (X := [(h0, .inr (8, [.int 0, .int 0, .int 0, .int 0, .ref q21, .ref q22, .ref q23, .ref q24, .ref q25, .ref q26, .ref q27, .null, .null, .null])), (q26, .inl (g.2.1 0, 8, .inl ((fun _ => 0))))]) (c := (q28, .inr (9, [.ref am21, .ref am22, .ref am23, .ref am24, .ref am25, .int 0, .int 0, .int 0]))) hP hD
  obtain ⟨T, pl, hxt32, hU, kr32, hO, hP, hD, hnk32⟩ := absorb (X := [(h0, .inr (8, [.int 0, .int 0, .int 0, .int 0, .ref q21, .ref q22, .ref q23, .ref q24, .ref q25, .ref q26, .ref q27, .null, .null, .null])), (q26, .inl (g.2.1 0, 8, .inl ((fun _ => 0))))]) (20, 0) hP hD hO hU (Or.inr n_20_0) (fun T9 h9 _ => ⟨_, _, _, _, _, 0, 0, 0, rfl, h9 _ _ kr27, h9 _ _ kr28, h9 _ _ kr29, h9 _ _ kr30, h9 _ _ kr31, by decide, by decide, by decide⟩)
  have kr21 := hxt32 _ _ kr21
  have kr22 := hxt32 _ _ kr22
  have kr23 := hxt32 _ _ kr23
  have kr24 := hxt32 _ _ kr24
  have kr25 := hxt32 _ _ kr25
  have kr26 := hxt32 _ _ kr26
  have kr27 := hxt32 _ _ kr27
  have kr28 := hxt32 _ _ kr28
  have kr29 := hxt32 _ _ kr29
  have kr30 := hxt32 _ _ kr30
  have kr31 := hxt32 _ _ kr31
  have hXT := ext_tr hXT hxt32
  have n_49_0 := hnk32 _ (by decide) n_49_0
  have hP : va_P g.1 vcl ([(h0, .inr (8, [.int 0, .int 0, .int 0, .int 0, .ref q21, .ref q22, .ref q23, .ref q24, .ref q25, .ref q26, .ref q27, .null, .null, .null])), (q26, .inl (g.2.1 0, 8, .inl ((fun _ => 0))))] ++ pl) _ := hP
  have hD : va_D _ ([(h0, .inr (8, [.int 0, .int 0, .int 0, .int 0, .ref q21, .ref q22, .ref q23, .ref q24, .ref q25, .ref q26, .ref q27, .null, .null, .null])), (q26, .inl (g.2.1 0, 8, .inl ((fun _ => 0))))] ++ pl) := hD
  have hPS := pass_one hPS hnk32 (Or.inr (by decide))
  refine va_putF (D := g.1) (ci := 8) (v := .ref q28) (ty := .object "LatticeKeysModel$Sponge") (C := "LatticeKeysModel") (T := T_M) (N := 14) hx hb hts (wg_ft i_M) ty_M k_M n_M hown hK hP hD hS 0 rfl rfl 11 (by decide) (hts _ (wg_t kw_1537)) (fun _ h9 => h9) rfl hnm rfl (by decide +kernel) rfl rfl (Nat.le_of_ble_eq_true rfl) dM_init_81 (fun H locs hP hD hS => ?_)
  have hP : va_P g.1 vcl ([(h0, .inr (8, [.int 0, .int 0, .int 0, .int 0, .ref q21, .ref q22, .ref q23, .ref q24, .ref q25, .ref q26, .ref q27, .ref q28, .null, .null])), (q26, .inl (g.2.1 0, 8, .inl ((fun _ => 0))))] ++ pl) _ := hP
  have hD : va_D _ ([(h0, .inr (8, [.int 0, .int 0, .int 0, .int 0, .ref q21, .ref q22, .ref q23, .ref q24, .ref q25, .ref q26, .ref q27, .ref q28, .null, .null])), (q26, .inl (g.2.1 0, 8, .inl ((fun _ => 0))))] ++ pl) := hD
  refine lv_aload_n hx hb dM_init_84 rfl (lv_at hl 0 rfl) ?_
  refine va_new (ws := [(h0, .inr (8, [.int 0, .int 0, .int 0, .int 0, .ref q21, .ref q22, .ref q23, .ref q24, .ref q25, .ref q26, .ref q27, .ref q28, .null, .null])), (q26, .inl (g.2.1 0, 8, .inl ((fun _ => 0))))] ++ pl) (ci := 11) (fs := [.null, .null, .null, .null, .null, .null, .null, .null, .null, .null, .null, .null, .null, .null]) (C := "LatticeKeysModel$Secrets") (T := T_ME) (N := 14) hx hb hts (wg_ft i_ME) ty_ME k_ME hown (hts _ (wg_t kw_1350)) (hts _ (wg_t kw_1351)) (hts _ (wg_t kw_11)) hK hP hD hS hA rfl z_ME (Nat.le_of_ble_eq_true rfl) (Nat.le_of_ble_eq_true rfl) dM_init_85 (fun q29 H hP hD hS => ?_)
  obtain ⟨hP, hD⟩ := mv_first hP hD
  have hP : va_P g.1 vcl ([(h0, .inr (8, [.int 0, .int 0, .int 0, .int 0, .ref q21, .ref q22, .ref q23, .ref q24, .ref q25, .ref q26, .ref q27, .ref q28, .null, .null])), (q26, .inl (g.2.1 0, 8, .inl ((fun _ => 0)))), (q29, .inr (11, [.null, .null, .null, .null, .null, .null, .null, .null, .null, .null, .null, .null, .null, .null]))] ++ pl) _ := hP
  have hD : va_D _ ([(h0, .inr (8, [.int 0, .int 0, .int 0, .int 0, .ref q21, .ref q22, .ref q23, .ref q24, .ref q25, .ref q26, .ref q27, .ref q28, .null, .null])), (q26, .inl (g.2.1 0, 8, .inl ((fun _ => 0)))), (q29, .inr (11, [.null, .null, .null, .null, .null, .null, .null, .null, .null, .null, .null, .null, .null, .null]))] ++ pl) := hD
  refine W.widen (k := 30) (n := 92830) (by omega) (by omega) ?_
  refine lv_dup hx hb dM_init_88 rfl ?_
  refine lv_aload_n hx hb dM_init_89 rfl (lv_at hl 0 rfl) ?_
  refine va_get (D := g.1) (ci := 8) (C := "LatticeKeysModel") (T := T_M) (N := 14) hx hb hts (wg_ft i_M) hown hK hP 0 rfl rfl 11 (by decide) (hts _ (wg_t kw_1537)) (fun _ h9 => h9) rfl dM_init_90 ?_
  refine mp_v (cx := [(q29, .inr (11, [.null, .null, .null, .null, .null, .null, .null, .null, .null, .null, .null, .null, .null, .null]))]) (wr := [(h0, .inr (8, [.int 0, .int 0, .int 0, .int 0, .ref q21, .ref q22, .ref q23, .ref q24, .ref q25, .ref q26, .ref q27, .ref q28, .null, .null])), (q26, .inl (g.2.1 0, 8, .inl ((fun _ => 0))))]) hP hD hS hA [2] [0, 1] rfl rfl rfl (by decide) (va_runI (As := [.ref q28]) (rest := [.ref q29, .ref h0]) F (t_ME_init l g _ T  pl hO hU  q28 q29 kr32) (cwI 1 hts (wg_in kw_1354) rfl rfl rfl (hts _ (wg_t kw_11)) (hts _ (wg_t kw_1352)) (hts _ (wg_t kw_1353)) rfl (by decide +kernel) ⟨by decide, by decide⟩) (pp_S (en_ok g) hP hD hS hA hE [2] rfl rfl) rfl rfl hl.1 rfl (lv_room (Nat.le_of_ble_eq_true rfl)) dM_init_93 ⟨Nat.le_of_ble_eq_true rfl, Nat.le_of_ble_eq_true rfl⟩) (fun  u22 H locs hu22 hP hD hS => ?_)
  obtain ⟨T, pl⟩ := u22
  obtain ⟨hq21, hO⟩ := hu22
  have hP : va_P g.1 vcl ([(h0, .inr (8, [.int 0, .int 0, .int 0, .int 0, .ref q21, .ref q22, .ref q23, .ref q24, .ref q25, .ref q26, .ref q27, .ref q28, .null, .null])), (q26, .inl (g.2.1 0, 8, .inl ((fun _ => 0))))] ++ pl) _ := hP
  have hD : va_D _ ([(h0, .inr (8, [.int 0, .int 0, .int 0, .int 0, .ref q21, .ref q22, .ref q23, .ref q24, .ref q25, .ref q26, .ref q27, .ref q28, .null, .null])), (q26, .inl (g.2.1 0, 8, .inl ((fun _ => 0))))] ++ pl) := hD
  obtain ⟨hxt33, hU, kr33, hps21⟩ := hq21
  have kr21 := hxt33 _ _ kr21
  have kr22 := hxt33 _ _ kr22
  have kr23 := hxt33 _ _ kr23
  have kr24 := hxt33 _ _ kr24
  have kr25 := hxt33 _ _ kr25
  have kr26 := hxt33 _ _ kr26
  have kr27 := hxt33 _ _ kr27
  have kr28 := hxt33 _ _ kr28
  have kr29 := hxt33 _ _ kr29
  have kr30 := hxt33 _ _ kr30
  have kr31 := hxt33 _ _ kr31
  have kr32 := hxt33 _ _ kr32
  have hXT := ext_tr hXT hxt33
  have n_49_0 := hps21 _ (by decide) n_49_0
  have hPS := pass_tr hPS hps21 (by decide)
  refine W.widen (k := 73) (n := 103071) (by omega) (by omega) ?_
  refine va_putF (D := g.1) (ci := 8) (v := .ref q29) (ty := .object "LatticeKeysModel$Secrets") (C := "LatticeKeysModel") (T := T_M) (N := 14) hx hb hts (wg_ft i_M) ty_M k_M n_M hown hK hP hD hS 0 rfl rfl 12 (by decide) (hts _ (wg_t kw_1538)) (fun _ h9 => h9) rfl hnm rfl (by decide +kernel) rfl rfl (Nat.le_of_ble_eq_true rfl) dM_init_96 (fun H locs hP hD hS => ?_)
  have hP : va_P g.1 vcl ([(h0, .inr (8, [.int 0, .int 0, .int 0, .int 0, .ref q21, .ref q22, .ref q23, .ref q24, .ref q25, .ref q26, .ref q27, .ref q28, .ref q29, .null])), (q26, .inl (g.2.1 0, 8, .inl ((fun _ => 0))))] ++ pl) _ := hP
  have hD : va_D _ ([(h0, .inr (8, [.int 0, .int 0, .int 0, .int 0, .ref q21, .ref q22, .ref q23, .ref q24, .ref q25, .ref q26, .ref q27, .ref q28, .ref q29, .null])), (q26, .inl (g.2.1 0, 8, .inl ((fun _ => 0))))] ++ pl) := hD
  refine lv_aload_n hx hb dM_init_99 rfl (lv_at hl 0 rfl) ?_
  refine va_new (ws := [(h0, .inr (8, [.int 0, .int 0, .int 0, .int 0, .ref q21, .ref q22, .ref q23, .ref q24, .ref q25, .ref q26, .ref q27, .ref q28, .ref q29, .null])), (q26, .inl (g.2.1 0, 8, .inl ((fun _ => 0))))] ++ pl) (ci := 12) (fs := [.null, .null, .null, .null, .null, .null, .null, .null, .null, .null, .null, .null, .null, .null, .null, .null, .null, .null, .null, .null, .null, .null, .null, .int 0, .int 0, .int 0, .int 0, .int 0, .int 0, .int 0, .int 0]) (C := "LatticeKeysModel$Hands") (T := T_MH) (N := 31) hx hb hts (wg_ft i_MH) ty_MH k_MH hown (hts _ (wg_t kw_1422)) (hts _ (wg_t kw_1423)) (hts _ (wg_t kw_13)) hK hP hD hS hA rfl z_MH (Nat.le_of_ble_eq_true rfl) (Nat.le_of_ble_eq_true rfl) dM_init_100 (fun q30 H hP hD hS => ?_)
  obtain ⟨hP, hD⟩ := mv_first hP hD
  have hP : va_P g.1 vcl ([(h0, .inr (8, [.int 0, .int 0, .int 0, .int 0, .ref q21, .ref q22, .ref q23, .ref q24, .ref q25, .ref q26, .ref q27, .ref q28, .ref q29, .null])), (q26, .inl (g.2.1 0, 8, .inl ((fun _ => 0)))), (q30, .inr (12, [.null, .null, .null, .null, .null, .null, .null, .null, .null, .null, .null, .null, .null, .null, .null, .null, .null, .null, .null, .null, .null, .null, .null, .int 0, .int 0, .int 0, .int 0, .int 0, .int 0, .int 0, .int 0]))] ++ pl) _ := hP
  have hD : va_D _ ([(h0, .inr (8, [.int 0, .int 0, .int 0, .int 0, .ref q21, .ref q22, .ref q23, .ref q24, .ref q25, .ref q26, .ref q27, .ref q28, .ref q29, .null])), (q26, .inl (g.2.1 0, 8, .inl ((fun _ => 0)))), (q30, .inr (12, [.null, .null, .null, .null, .null, .null, .null, .null, .null, .null, .null, .null, .null, .null, .null, .null, .null, .null, .null, .null, .null, .null, .null, .int 0, .int 0, .int 0, .int 0, .int 0, .int 0, .int 0, .int 0]))] ++ pl) := hD
  refine W.widen (k := 74) (n := 103102) (by omega) (by omega) ?_
  refine lv_dup hx hb dM_init_103 rfl ?_
  refine lv_aload_n hx hb dM_init_104 rfl (lv_at hl 0 rfl) ?_
  refine va_get (D := g.1) (ci := 8) (C := "LatticeKeysModel") (T := T_M) (N := 14) hx hb hts (wg_ft i_M) hown hK hP 0 rfl rfl 11 (by decide) (hts _ (wg_t kw_1537)) (fun _ h9 => h9) rfl dM_init_105 ?_
  refine mp_v (cx := [(q30, .inr (12, [.null, .null, .null, .null, .null, .null, .null, .null, .null, .null, .null, .null, .null, .null, .null, .null, .null, .null, .null, .null, .null, .null, .null, .int 0, .int 0, .int 0, .int 0, .int 0, .int 0, .int 0, .int 0]))]) (wr := [(h0, .inr (8, [.int 0, .int 0, .int 0, .int 0, .ref q21, .ref q22, .ref q23, .ref q24, .ref q25, .ref q26, .ref q27, .ref q28, .ref q29, .null])), (q26, .inl (g.2.1 0, 8, .inl ((fun _ => 0))))]) hP hD hS hA [2] [0, 1] rfl rfl rfl (by decide) (va_runI (As := [.ref q28]) (rest := [.ref q30, .ref h0]) F (t_MH_init l g _ T  pl hO hU  q28 q30 kr32 n_49_0) (cwI 1 hts (wg_in kw_1426) rfl rfl rfl (hts _ (wg_t kw_13)) (hts _ (wg_t kw_1424)) (hts _ (wg_t kw_1425)) rfl (by decide +kernel) ⟨by decide, by decide⟩) (pp_S (en_ok g) hP hD hS hA hE [2] rfl rfl) rfl rfl hl.1 rfl (lv_room (Nat.le_of_ble_eq_true rfl)) dM_init_108 ⟨Nat.le_of_ble_eq_true rfl, Nat.le_of_ble_eq_true rfl⟩) (fun  u23 H locs hu23 hP hD hS => ?_)
  obtain ⟨T, pl⟩ := u23
  obtain ⟨hq22, hO⟩ := hu23
  have hP : va_P g.1 vcl ([(h0, .inr (8, [.int 0, .int 0, .int 0, .int 0, .ref q21, .ref q22, .ref q23, .ref q24, .ref q25, .ref q26, .ref q27, .ref q28, .ref q29, .null])), (q26, .inl (g.2.1 0, 8, .inl ((fun _ => 0))))] ++ pl) _ := hP
  have hD : va_D _ ([(h0, .inr (8, [.int 0, .int 0, .int 0, .int 0, .ref q21, .ref q22, .ref q23, .ref q24, .ref q25, .ref q26, .ref q27, .ref q28, .ref q29, .null])), (q26, .inl (g.2.1 0, 8, .inl ((fun _ => 0))))] ++ pl) := hD
  obtain ⟨hxt34, hU, kr34, hps22⟩ := hq22
  have kr21 := hxt34 _ _ kr21
  have kr22 := hxt34 _ _ kr22
  have kr23 := hxt34 _ _ kr23
  have kr24 := hxt34 _ _ kr24
  have kr25 := hxt34 _ _ kr25
  have kr26 := hxt34 _ _ kr26
  have kr27 := hxt34 _ _ kr27
  have kr28 := hxt34 _ _ kr28
  have kr29 := hxt34 _ _ kr29
  have kr30 := hxt34 _ _ kr30
  have kr31 := hxt34 _ _ kr31
  have kr32 := hxt34 _ _ kr32
  have kr33 := hxt34 _ _ kr33
  have hXT := ext_tr hXT hxt34
  have hPS := pass_tr hPS hps22 (by decide)
  refine W.widen (k := 230) (n := 139911) (by omega) (by omega) ?_
  refine va_putF (D := g.1) (ci := 8) (v := .ref q30) (ty := .object "LatticeKeysModel$Hands") (C := "LatticeKeysModel") (T := T_M) (N := 14) hx hb hts (wg_ft i_M) ty_M k_M n_M hown hK hP hD hS 0 rfl rfl 13 (by decide) (hts _ (wg_t kw_1539)) (fun _ h9 => h9) rfl hnm rfl (by decide +kernel) rfl rfl (Nat.le_of_ble_eq_true rfl) dM_init_111 (fun H locs hP hD hS => ?_)
  have hP : va_P g.1 vcl ([(h0, .inr (8, [.int 0, .int 0, .int 0, .int 0, .ref q21, .ref q22, .ref q23, .ref q24, .ref q25, .ref q26, .ref q27, .ref q28, .ref q29, .ref q30])), (q26, .inl (g.2.1 0, 8, .inl ((fun _ => 0))))] ++ pl) _ := hP
  have hD : va_D _ ([(h0, .inr (8, [.int 0, .int 0, .int 0, .int 0, .ref q21, .ref q22, .ref q23, .ref q24, .ref q25, .ref q26, .ref q27, .ref q28, .ref q29, .ref q30])), (q26, .inl (g.2.1 0, 8, .inl ((fun _ => 0))))] ++ pl) := hD
  exact mp_vret hx hb hr hlk hP hD hS ((T, fun k => match k with | 0 => q21 | 1 => q22 | 2 => q23 | 3 => q24 | 4 => q25 | 5 => q26 | 6 => q27 | 7 => q28 | 8 => q29 | 9 => q30 | _ => 0), pl) ⟨⟨hXT, hU, hPS, kr21, kr22, kr23, kr24, kr25, kr26, kr32, kr33, kr34⟩, hO⟩ [0, 1] rfl rfl rfl (by omega) (by omega) dM_init_114
