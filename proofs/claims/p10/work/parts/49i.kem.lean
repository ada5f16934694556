set_option linter.all false
abbrev c_KM_digestOf : ByteArray := prog_6_method_7_code
abbrev y_KM_digestOf : MethodName := ⟨"LatticeKeys$Kem", "digestOf", "([BII)V"⟩
abbrev w_KM_digestOf : List Cond := Cond.code y_KM_digestOf c_KM_digestOf 4 none :: WG
theorem dKM_digestOf_0 : decode c_KM_digestOf 0 = .ok (.aload_n 0, 1) := by decide +kernel
theorem dKM_digestOf_1 : decode c_KM_digestOf 1 = .ok (.getfield 10, 3) := by decide +kernel
theorem dKM_digestOf_4 : decode c_KM_digestOf 4 = .ok (.iconst 0, 1) := by decide +kernel
theorem dKM_digestOf_5 : decode c_KM_digestOf 5 = .ok (.invokevirtual 53, 3) := by decide +kernel
theorem dKM_digestOf_8 : decode c_KM_digestOf 8 = .ok (.aload_n 0, 1) := by decide +kernel
theorem dKM_digestOf_9 : decode c_KM_digestOf 9 = .ok (.getfield 10, 3) := by decide +kernel
theorem dKM_digestOf_12 : decode c_KM_digestOf 12 = .ok (.aload_n 1, 1) := by decide +kernel
theorem dKM_digestOf_13 : decode c_KM_digestOf 13 = .ok (.iload_n 2, 1) := by decide +kernel
theorem dKM_digestOf_14 : decode c_KM_digestOf 14 = .ok (.iload_n 3, 1) := by decide +kernel
theorem dKM_digestOf_15 : decode c_KM_digestOf 15 = .ok (.invokevirtual 57, 3) := by decide +kernel
theorem dKM_digestOf_18 : decode c_KM_digestOf 18 = .ok (.aload_n 0, 1) := by decide +kernel
theorem dKM_digestOf_19 : decode c_KM_digestOf 19 = .ok (.getfield 10, 3) := by decide +kernel
theorem dKM_digestOf_22 : decode c_KM_digestOf 22 = .ok (.invokevirtual 70, 3) := by decide +kernel
theorem dKM_digestOf_25 : decode c_KM_digestOf 25 = .ok (.aload_n 0, 1) := by decide +kernel
theorem dKM_digestOf_26 : decode c_KM_digestOf 26 = .ok (.getfield 10, 3) := by decide +kernel
theorem dKM_digestOf_29 : decode c_KM_digestOf 29 = .ok (.aload_n 0, 1) := by decide +kernel
theorem dKM_digestOf_30 : decode c_KM_digestOf 30 = .ok (.getfield 41, 3) := by decide +kernel
theorem dKM_digestOf_33 : decode c_KM_digestOf 33 = .ok (.iconst 0, 1) := by decide +kernel
theorem dKM_digestOf_34 : decode c_KM_digestOf 34 = .ok (.bipush 32, 2) := by decide +kernel
theorem dKM_digestOf_36 : decode c_KM_digestOf 36 = .ok (.invokevirtual 73, 3) := by decide +kernel
theorem dKM_digestOf_39 : decode c_KM_digestOf 39 = .ok (.return_, 1) := by decide +kernel
abbrev c_KM_deriveSeeds : ByteArray := prog_6_method_8_code
abbrev y_KM_deriveSeeds : MethodName := ⟨"LatticeKeys$Kem", "deriveSeeds", "([BI)V"⟩
abbrev w_KM_deriveSeeds : List Cond := Cond.code y_KM_deriveSeeds c_KM_deriveSeeds 3 none :: WG
theorem dKM_deriveSeeds_0 : decode c_KM_deriveSeeds 0 = .ok (.aload_n 0, 1) := by decide +kernel
theorem dKM_deriveSeeds_1 : decode c_KM_deriveSeeds 1 = .ok (.getfield 10, 3) := by decide +kernel
theorem dKM_deriveSeeds_4 : decode c_KM_deriveSeeds 4 = .ok (.iconst 1, 1) := by decide +kernel
theorem dKM_deriveSeeds_5 : decode c_KM_deriveSeeds 5 = .ok (.invokevirtual 53, 3) := by decide +kernel
theorem dKM_deriveSeeds_8 : decode c_KM_deriveSeeds 8 = .ok (.aload_n 0, 1) := by decide +kernel
theorem dKM_deriveSeeds_9 : decode c_KM_deriveSeeds 9 = .ok (.getfield 10, 3) := by decide +kernel
theorem dKM_deriveSeeds_12 : decode c_KM_deriveSeeds 12 = .ok (.aload_n 0, 1) := by decide +kernel
theorem dKM_deriveSeeds_13 : decode c_KM_deriveSeeds 13 = .ok (.getfield 37, 3) := by decide +kernel
theorem dKM_deriveSeeds_16 : decode c_KM_deriveSeeds 16 = .ok (.iconst 0, 1) := by decide +kernel
theorem dKM_deriveSeeds_17 : decode c_KM_deriveSeeds 17 = .ok (.bipush 32, 2) := by decide +kernel
theorem dKM_deriveSeeds_19 : decode c_KM_deriveSeeds 19 = .ok (.invokevirtual 57, 3) := by decide +kernel
theorem dKM_deriveSeeds_22 : decode c_KM_deriveSeeds 22 = .ok (.aload_n 0, 1) := by decide +kernel
theorem dKM_deriveSeeds_23 : decode c_KM_deriveSeeds 23 = .ok (.getfield 10, 3) := by decide +kernel
theorem dKM_deriveSeeds_26 : decode c_KM_deriveSeeds 26 = .ok (.aload_n 1, 1) := by decide +kernel
theorem dKM_deriveSeeds_27 : decode c_KM_deriveSeeds 27 = .ok (.iload_n 2, 1) := by decide +kernel
theorem dKM_deriveSeeds_28 : decode c_KM_deriveSeeds 28 = .ok (.bipush 32, 2) := by decide +kernel
theorem dKM_deriveSeeds_30 : decode c_KM_deriveSeeds 30 = .ok (.invokevirtual 57, 3) := by decide +kernel
theorem dKM_deriveSeeds_33 : decode c_KM_deriveSeeds 33 = .ok (.aload_n 0, 1) := by decide +kernel
theorem dKM_deriveSeeds_34 : decode c_KM_deriveSeeds 34 = .ok (.getfield 10, 3) := by decide +kernel
theorem dKM_deriveSeeds_37 : decode c_KM_deriveSeeds 37 = .ok (.invokevirtual 70, 3) := by decide +kernel
theorem dKM_deriveSeeds_40 : decode c_KM_deriveSeeds 40 = .ok (.aload_n 0, 1) := by decide +kernel
theorem dKM_deriveSeeds_41 : decode c_KM_deriveSeeds 41 = .ok (.getfield 10, 3) := by decide +kernel
theorem dKM_deriveSeeds_44 : decode c_KM_deriveSeeds 44 = .ok (.aload_n 0, 1) := by decide +kernel
theorem dKM_deriveSeeds_45 : decode c_KM_deriveSeeds 45 = .ok (.getfield 44, 3) := by decide +kernel
theorem dKM_deriveSeeds_48 : decode c_KM_deriveSeeds 48 = .ok (.iconst 0, 1) := by decide +kernel
theorem dKM_deriveSeeds_49 : decode c_KM_deriveSeeds 49 = .ok (.bipush 64, 2) := by decide +kernel
theorem dKM_deriveSeeds_51 : decode c_KM_deriveSeeds 51 = .ok (.invokevirtual 73, 3) := by decide +kernel
theorem dKM_deriveSeeds_54 : decode c_KM_deriveSeeds 54 = .ok (.return_, 1) := by decide +kernel
abbrev c_KM_sampleEntry : ByteArray := prog_6_method_11_code
abbrev y_KM_sampleEntry : MethodName := ⟨"LatticeKeys$Kem", "sampleEntry", "([BIII)V"⟩
abbrev w_KM_sampleEntry : List Cond := Cond.code y_KM_sampleEntry c_KM_sampleEntry 12 none :: WG
theorem dKM_sampleEntry_0 : decode c_KM_sampleEntry 0 = .ok (.aload_n 0, 1) := by decide +kernel
theorem dKM_sampleEntry_1 : decode c_KM_sampleEntry 1 = .ok (.getfield 10, 3) := by decide +kernel
theorem dKM_sampleEntry_4 : decode c_KM_sampleEntry 4 = .ok (.iconst 2, 1) := by decide +kernel
theorem dKM_sampleEntry_5 : decode c_KM_sampleEntry 5 = .ok (.invokevirtual 53, 3) := by decide +kernel
theorem dKM_sampleEntry_8 : decode c_KM_sampleEntry 8 = .ok (.aload_n 0, 1) := by decide +kernel
theorem dKM_sampleEntry_9 : decode c_KM_sampleEntry 9 = .ok (.getfield 10, 3) := by decide +kernel
theorem dKM_sampleEntry_12 : decode c_KM_sampleEntry 12 = .ok (.aload_n 1, 1) := by decide +kernel
theorem dKM_sampleEntry_13 : decode c_KM_sampleEntry 13 = .ok (.iload_n 2, 1) := by decide +kernel
theorem dKM_sampleEntry_14 : decode c_KM_sampleEntry 14 = .ok (.bipush 32, 2) := by decide +kernel
theorem dKM_sampleEntry_16 : decode c_KM_sampleEntry 16 = .ok (.invokevirtual 57, 3) := by decide +kernel
theorem dKM_sampleEntry_19 : decode c_KM_sampleEntry 19 = .ok (.aload_n 0, 1) := by decide +kernel
theorem dKM_sampleEntry_20 : decode c_KM_sampleEntry 20 = .ok (.getfield 10, 3) := by decide +kernel
theorem dKM_sampleEntry_23 : decode c_KM_sampleEntry 23 = .ok (.iload_n 3, 1) := by decide +kernel
theorem dKM_sampleEntry_24 : decode c_KM_sampleEntry 24 = .ok (.invokevirtual 67, 3) := by decide +kernel
theorem dKM_sampleEntry_27 : decode c_KM_sampleEntry 27 = .ok (.aload_n 0, 1) := by decide +kernel
theorem dKM_sampleEntry_28 : decode c_KM_sampleEntry 28 = .ok (.getfield 10, 3) := by decide +kernel
theorem dKM_sampleEntry_31 : decode c_KM_sampleEntry 31 = .ok (.iload 4, 2) := by decide +kernel
theorem dKM_sampleEntry_33 : decode c_KM_sampleEntry 33 = .ok (.invokevirtual 67, 3) := by decide +kernel
theorem dKM_sampleEntry_36 : decode c_KM_sampleEntry 36 = .ok (.aload_n 0, 1) := by decide +kernel
theorem dKM_sampleEntry_37 : decode c_KM_sampleEntry 37 = .ok (.getfield 10, 3) := by decide +kernel
theorem dKM_sampleEntry_40 : decode c_KM_sampleEntry 40 = .ok (.invokevirtual 70, 3) := by decide +kernel
theorem dKM_sampleEntry_43 : decode c_KM_sampleEntry 43 = .ok (.iconst 0, 1) := by decide +kernel
theorem dKM_sampleEntry_44 : decode c_KM_sampleEntry 44 = .ok (.istore 5, 2) := by decide +kernel
theorem dKM_sampleEntry_46 : decode c_KM_sampleEntry 46 = .ok (.iconst 0, 1) := by decide +kernel
theorem dKM_sampleEntry_47 : decode c_KM_sampleEntry 47 = .ok (.istore 6, 2) := by decide +kernel
theorem dKM_sampleEntry_49 : decode c_KM_sampleEntry 49 = .ok (.iload 5, 2) := by decide +kernel
theorem dKM_sampleEntry_51 : decode c_KM_sampleEntry 51 = .ok (.sipush 256, 3) := by decide +kernel
theorem dKM_sampleEntry_54 : decode c_KM_sampleEntry 54 = .ok (.if_icmp .ge 115, 3) := by decide +kernel
theorem dKM_sampleEntry_57 : decode c_KM_sampleEntry 57 = .ok (.iload 6, 2) := by decide +kernel
theorem dKM_sampleEntry_59 : decode c_KM_sampleEntry 59 = .ok (.ldc 178, 2) := by decide +kernel
theorem dKM_sampleEntry_61 : decode c_KM_sampleEntry 61 = .ok (.if_icmp .ge 108, 3) := by decide +kernel
theorem dKM_sampleEntry_64 : decode c_KM_sampleEntry 64 = .ok (.aload_n 0, 1) := by decide +kernel
theorem dKM_sampleEntry_65 : decode c_KM_sampleEntry 65 = .ok (.getfield 10, 3) := by decide +kernel
theorem dKM_sampleEntry_68 : decode c_KM_sampleEntry 68 = .ok (.invokevirtual 179, 3) := by decide +kernel
theorem dKM_sampleEntry_71 : decode c_KM_sampleEntry 71 = .ok (.istore 7, 2) := by decide +kernel
theorem dKM_sampleEntry_73 : decode c_KM_sampleEntry 73 = .ok (.aload_n 0, 1) := by decide +kernel
theorem dKM_sampleEntry_74 : decode c_KM_sampleEntry 74 = .ok (.getfield 10, 3) := by decide +kernel
theorem dKM_sampleEntry_77 : decode c_KM_sampleEntry 77 = .ok (.invokevirtual 179, 3) := by decide +kernel
theorem dKM_sampleEntry_80 : decode c_KM_sampleEntry 80 = .ok (.istore 8, 2) := by decide +kernel
theorem dKM_sampleEntry_82 : decode c_KM_sampleEntry 82 = .ok (.aload_n 0, 1) := by decide +kernel
theorem dKM_sampleEntry_83 : decode c_KM_sampleEntry 83 = .ok (.getfield 10, 3) := by decide +kernel
theorem dKM_sampleEntry_86 : decode c_KM_sampleEntry 86 = .ok (.invokevirtual 179, 3) := by decide +kernel
theorem dKM_sampleEntry_89 : decode c_KM_sampleEntry 89 = .ok (.istore 9, 2) := by decide +kernel
theorem dKM_sampleEntry_91 : decode c_KM_sampleEntry 91 = .ok (.iload 7, 2) := by decide +kernel
theorem dKM_sampleEntry_93 : decode c_KM_sampleEntry 93 = .ok (.iload 8, 2) := by decide +kernel
theorem dKM_sampleEntry_95 : decode c_KM_sampleEntry 95 = .ok (.bipush 15, 2) := by decide +kernel
theorem dKM_sampleEntry_97 : decode c_KM_sampleEntry 97 = .ok (.iand, 1) := by decide +kernel
theorem dKM_sampleEntry_98 : decode c_KM_sampleEntry 98 = .ok (.bipush 8, 2) := by decide +kernel
theorem dKM_sampleEntry_100 : decode c_KM_sampleEntry 100 = .ok (.ishl, 1) := by decide +kernel
theorem dKM_sampleEntry_101 : decode c_KM_sampleEntry 101 = .ok (.ior, 1) := by decide +kernel
theorem dKM_sampleEntry_102 : decode c_KM_sampleEntry 102 = .ok (.istore 10, 2) := by decide +kernel
theorem dKM_sampleEntry_104 : decode c_KM_sampleEntry 104 = .ok (.iload 8, 2) := by decide +kernel
theorem dKM_sampleEntry_106 : decode c_KM_sampleEntry 106 = .ok (.iconst 4, 1) := by decide +kernel
theorem dKM_sampleEntry_107 : decode c_KM_sampleEntry 107 = .ok (.ishr, 1) := by decide +kernel
theorem dKM_sampleEntry_108 : decode c_KM_sampleEntry 108 = .ok (.iload 9, 2) := by decide +kernel
theorem dKM_sampleEntry_110 : decode c_KM_sampleEntry 110 = .ok (.iconst 4, 1) := by decide +kernel
theorem dKM_sampleEntry_111 : decode c_KM_sampleEntry 111 = .ok (.ishl, 1) := by decide +kernel
theorem dKM_sampleEntry_112 : decode c_KM_sampleEntry 112 = .ok (.ior, 1) := by decide +kernel
theorem dKM_sampleEntry_113 : decode c_KM_sampleEntry 113 = .ok (.istore 11, 2) := by decide +kernel
theorem dKM_sampleEntry_115 : decode c_KM_sampleEntry 115 = .ok (.iload 10, 2) := by decide +kernel
theorem dKM_sampleEntry_117 : decode c_KM_sampleEntry 117 = .ok (.sipush 3329, 3) := by decide +kernel
theorem dKM_sampleEntry_120 : decode c_KM_sampleEntry 120 = .ok (.if_icmp .ge 15, 3) := by decide +kernel
theorem dKM_sampleEntry_123 : decode c_KM_sampleEntry 123 = .ok (.aload_n 0, 1) := by decide +kernel
theorem dKM_sampleEntry_124 : decode c_KM_sampleEntry 124 = .ok (.getfield 34, 3) := by decide +kernel
theorem dKM_sampleEntry_127 : decode c_KM_sampleEntry 127 = .ok (.iload 5, 2) := by decide +kernel
theorem dKM_sampleEntry_129 : decode c_KM_sampleEntry 129 = .ok (.iload 10, 2) := by decide +kernel
theorem dKM_sampleEntry_131 : decode c_KM_sampleEntry 131 = .ok (.iastore, 1) := by decide +kernel
theorem dKM_sampleEntry_132 : decode c_KM_sampleEntry 132 = .ok (.iinc 5 1, 3) := by decide +kernel
theorem dKM_sampleEntry_135 : decode c_KM_sampleEntry 135 = .ok (.iload 11, 2) := by decide +kernel
theorem dKM_sampleEntry_137 : decode c_KM_sampleEntry 137 = .ok (.sipush 3329, 3) := by decide +kernel
theorem dKM_sampleEntry_140 : decode c_KM_sampleEntry 140 = .ok (.if_icmp .ge 23, 3) := by decide +kernel
theorem dKM_sampleEntry_143 : decode c_KM_sampleEntry 143 = .ok (.iload 5, 2) := by decide +kernel
theorem dKM_sampleEntry_145 : decode c_KM_sampleEntry 145 = .ok (.sipush 256, 3) := by decide +kernel
theorem dKM_sampleEntry_148 : decode c_KM_sampleEntry 148 = .ok (.if_icmp .ge 15, 3) := by decide +kernel
theorem dKM_sampleEntry_151 : decode c_KM_sampleEntry 151 = .ok (.aload_n 0, 1) := by decide +kernel
theorem dKM_sampleEntry_152 : decode c_KM_sampleEntry 152 = .ok (.getfield 34, 3) := by decide +kernel
theorem dKM_sampleEntry_155 : decode c_KM_sampleEntry 155 = .ok (.iload 5, 2) := by decide +kernel
theorem dKM_sampleEntry_157 : decode c_KM_sampleEntry 157 = .ok (.iload 11, 2) := by decide +kernel
theorem dKM_sampleEntry_159 : decode c_KM_sampleEntry 159 = .ok (.iastore, 1) := by decide +kernel
theorem dKM_sampleEntry_160 : decode c_KM_sampleEntry 160 = .ok (.iinc 5 1, 3) := by decide +kernel
theorem dKM_sampleEntry_163 : decode c_KM_sampleEntry 163 = .ok (.iinc 6 1, 3) := by decide +kernel
theorem dKM_sampleEntry_166 : decode c_KM_sampleEntry 166 = .ok (.goto (-117), 3) := by decide +kernel
theorem dKM_sampleEntry_169 : decode c_KM_sampleEntry 169 = .ok (.return_, 1) := by decide +kernel
abbrev c_KM_sampleNoise : ByteArray := prog_6_method_12_code
abbrev y_KM_sampleNoise : MethodName := ⟨"LatticeKeys$Kem", "sampleNoise", "([III)V"⟩
abbrev w_KM_sampleNoise : List Cond := Cond.code y_KM_sampleNoise c_KM_sampleNoise 7 none :: WG
theorem dKM_sampleNoise_0 : decode c_KM_sampleNoise 0 = .ok (.aload_n 0, 1) := by decide +kernel
theorem dKM_sampleNoise_1 : decode c_KM_sampleNoise 1 = .ok (.getfield 10, 3) := by decide +kernel
theorem dKM_sampleNoise_4 : decode c_KM_sampleNoise 4 = .ok (.iconst 3, 1) := by decide +kernel
theorem dKM_sampleNoise_5 : decode c_KM_sampleNoise 5 = .ok (.invokevirtual 53, 3) := by decide +kernel
theorem dKM_sampleNoise_8 : decode c_KM_sampleNoise 8 = .ok (.aload_n 0, 1) := by decide +kernel
theorem dKM_sampleNoise_9 : decode c_KM_sampleNoise 9 = .ok (.getfield 10, 3) := by decide +kernel
theorem dKM_sampleNoise_12 : decode c_KM_sampleNoise 12 = .ok (.aload_n 0, 1) := by decide +kernel
theorem dKM_sampleNoise_13 : decode c_KM_sampleNoise 13 = .ok (.getfield 44, 3) := by decide +kernel
theorem dKM_sampleNoise_16 : decode c_KM_sampleNoise 16 = .ok (.bipush 32, 2) := by decide +kernel
theorem dKM_sampleNoise_18 : decode c_KM_sampleNoise 18 = .ok (.bipush 32, 2) := by decide +kernel
theorem dKM_sampleNoise_20 : decode c_KM_sampleNoise 20 = .ok (.invokevirtual 57, 3) := by decide +kernel
theorem dKM_sampleNoise_23 : decode c_KM_sampleNoise 23 = .ok (.aload_n 0, 1) := by decide +kernel
theorem dKM_sampleNoise_24 : decode c_KM_sampleNoise 24 = .ok (.getfield 10, 3) := by decide +kernel
theorem dKM_sampleNoise_27 : decode c_KM_sampleNoise 27 = .ok (.iload_n 3, 1) := by decide +kernel
theorem dKM_sampleNoise_28 : decode c_KM_sampleNoise 28 = .ok (.invokevirtual 67, 3) := by decide +kernel
theorem dKM_sampleNoise_31 : decode c_KM_sampleNoise 31 = .ok (.aload_n 0, 1) := by decide +kernel
theorem dKM_sampleNoise_32 : decode c_KM_sampleNoise 32 = .ok (.getfield 10, 3) := by decide +kernel
theorem dKM_sampleNoise_35 : decode c_KM_sampleNoise 35 = .ok (.invokevirtual 70, 3) := by decide +kernel
theorem dKM_sampleNoise_38 : decode c_KM_sampleNoise 38 = .ok (.aload_n 0, 1) := by decide +kernel
theorem dKM_sampleNoise_39 : decode c_KM_sampleNoise 39 = .ok (.getfield 10, 3) := by decide +kernel
theorem dKM_sampleNoise_42 : decode c_KM_sampleNoise 42 = .ok (.aload_n 0, 1) := by decide +kernel
theorem dKM_sampleNoise_43 : decode c_KM_sampleNoise 43 = .ok (.getfield 47, 3) := by decide +kernel
theorem dKM_sampleNoise_46 : decode c_KM_sampleNoise 46 = .ok (.iconst 0, 1) := by decide +kernel
theorem dKM_sampleNoise_47 : decode c_KM_sampleNoise 47 = .ok (.bipush 64, 2) := by decide +kernel
theorem dKM_sampleNoise_49 : decode c_KM_sampleNoise 49 = .ok (.iload_n 2, 1) := by decide +kernel
theorem dKM_sampleNoise_50 : decode c_KM_sampleNoise 50 = .ok (.imul, 1) := by decide +kernel
theorem dKM_sampleNoise_51 : decode c_KM_sampleNoise 51 = .ok (.invokevirtual 73, 3) := by decide +kernel
theorem dKM_sampleNoise_54 : decode c_KM_sampleNoise 54 = .ok (.aload_n 1, 1) := by decide +kernel
theorem dKM_sampleNoise_55 : decode c_KM_sampleNoise 55 = .ok (.iconst 2, 1) := by decide +kernel
theorem dKM_sampleNoise_56 : decode c_KM_sampleNoise 56 = .ok (.iload_n 2, 1) := by decide +kernel
theorem dKM_sampleNoise_57 : decode c_KM_sampleNoise 57 = .ok (.imul, 1) := by decide +kernel
theorem dKM_sampleNoise_58 : decode c_KM_sampleNoise 58 = .ok (.aload_n 0, 1) := by decide +kernel
theorem dKM_sampleNoise_59 : decode c_KM_sampleNoise 59 = .ok (.getfield 47, 3) := by decide +kernel
theorem dKM_sampleNoise_62 : decode c_KM_sampleNoise 62 = .ok (.iconst 0, 1) := by decide +kernel
theorem dKM_sampleNoise_63 : decode c_KM_sampleNoise 63 = .ok (.invokestatic 144, 3) := by decide +kernel
theorem dKM_sampleNoise_66 : decode c_KM_sampleNoise 66 = .ok (.iconst 1, 1) := by decide +kernel
theorem dKM_sampleNoise_67 : decode c_KM_sampleNoise 67 = .ok (.iload_n 2, 1) := by decide +kernel
theorem dKM_sampleNoise_68 : decode c_KM_sampleNoise 68 = .ok (.ishl, 1) := by decide +kernel
theorem dKM_sampleNoise_69 : decode c_KM_sampleNoise 69 = .ok (.iconst 1, 1) := by decide +kernel
theorem dKM_sampleNoise_70 : decode c_KM_sampleNoise 70 = .ok (.isub, 1) := by decide +kernel
theorem dKM_sampleNoise_71 : decode c_KM_sampleNoise 71 = .ok (.istore 4, 2) := by decide +kernel
theorem dKM_sampleNoise_73 : decode c_KM_sampleNoise 73 = .ok (.iconst 0, 1) := by decide +kernel
theorem dKM_sampleNoise_74 : decode c_KM_sampleNoise 74 = .ok (.istore 5, 2) := by decide +kernel
theorem dKM_sampleNoise_76 : decode c_KM_sampleNoise 76 = .ok (.iload 5, 2) := by decide +kernel
theorem dKM_sampleNoise_78 : decode c_KM_sampleNoise 78 = .ok (.sipush 256, 3) := by decide +kernel
theorem dKM_sampleNoise_81 : decode c_KM_sampleNoise 81 = .ok (.if_icmp .ge 51, 3) := by decide +kernel
theorem dKM_sampleNoise_84 : decode c_KM_sampleNoise 84 = .ok (.aload_n 1, 1) := by decide +kernel
theorem dKM_sampleNoise_85 : decode c_KM_sampleNoise 85 = .ok (.iload 5, 2) := by decide +kernel
theorem dKM_sampleNoise_87 : decode c_KM_sampleNoise 87 = .ok (.iaload, 1) := by decide +kernel
theorem dKM_sampleNoise_88 : decode c_KM_sampleNoise 88 = .ok (.iload 4, 2) := by decide +kernel
theorem dKM_sampleNoise_90 : decode c_KM_sampleNoise 90 = .ok (.iand, 1) := by decide +kernel
theorem dKM_sampleNoise_91 : decode c_KM_sampleNoise 91 = .ok (.invokestatic 183, 3) := by decide +kernel
theorem dKM_sampleNoise_94 : decode c_KM_sampleNoise 94 = .ok (.aload_n 1, 1) := by decide +kernel
theorem dKM_sampleNoise_95 : decode c_KM_sampleNoise 95 = .ok (.iload 5, 2) := by decide +kernel
theorem dKM_sampleNoise_97 : decode c_KM_sampleNoise 97 = .ok (.iaload, 1) := by decide +kernel
theorem dKM_sampleNoise_98 : decode c_KM_sampleNoise 98 = .ok (.iload_n 2, 1) := by decide +kernel
theorem dKM_sampleNoise_99 : decode c_KM_sampleNoise 99 = .ok (.ishr, 1) := by decide +kernel
theorem dKM_sampleNoise_100 : decode c_KM_sampleNoise 100 = .ok (.invokestatic 183, 3) := by decide +kernel
theorem dKM_sampleNoise_103 : decode c_KM_sampleNoise 103 = .ok (.isub, 1) := by decide +kernel
theorem dKM_sampleNoise_104 : decode c_KM_sampleNoise 104 = .ok (.istore 6, 2) := by decide +kernel
theorem dKM_sampleNoise_106 : decode c_KM_sampleNoise 106 = .ok (.aload_n 1, 1) := by decide +kernel
theorem dKM_sampleNoise_107 : decode c_KM_sampleNoise 107 = .ok (.iload 5, 2) := by decide +kernel
theorem dKM_sampleNoise_109 : decode c_KM_sampleNoise 109 = .ok (.iload 6, 2) := by decide +kernel
theorem dKM_sampleNoise_111 : decode c_KM_sampleNoise 111 = .ok (.ifCond .ge 12, 3) := by decide +kernel
theorem dKM_sampleNoise_114 : decode c_KM_sampleNoise 114 = .ok (.iload 6, 2) := by decide +kernel
theorem dKM_sampleNoise_116 : decode c_KM_sampleNoise 116 = .ok (.sipush 3329, 3) := by decide +kernel
theorem dKM_sampleNoise_119 : decode c_KM_sampleNoise 119 = .ok (.iadd, 1) := by decide +kernel
theorem dKM_sampleNoise_120 : decode c_KM_sampleNoise 120 = .ok (.goto 5, 3) := by decide +kernel
theorem dKM_sampleNoise_123 : decode c_KM_sampleNoise 123 = .ok (.iload 6, 2) := by decide +kernel
theorem dKM_sampleNoise_125 : decode c_KM_sampleNoise 125 = .ok (.iastore, 1) := by decide +kernel
theorem dKM_sampleNoise_126 : decode c_KM_sampleNoise 126 = .ok (.iinc 5 1, 3) := by decide +kernel
theorem dKM_sampleNoise_129 : decode c_KM_sampleNoise 129 = .ok (.goto (-53), 3) := by decide +kernel
theorem dKM_sampleNoise_132 : decode c_KM_sampleNoise 132 = .ok (.return_, 1) := by decide +kernel
abbrev c_KM_readReduced : ByteArray := prog_6_method_13_code
abbrev y_KM_readReduced : MethodName := ⟨"LatticeKeys$Kem", "readReduced", "([BI)V"⟩
abbrev w_KM_readReduced : List Cond := Cond.code y_KM_readReduced c_KM_readReduced 4 none :: WG
theorem dKM_readReduced_0 : decode c_KM_readReduced 0 = .ok (.aload_n 0, 1) := by decide +kernel
theorem dKM_readReduced_1 : decode c_KM_readReduced 1 = .ok (.getfield 34, 3) := by decide +kernel
theorem dKM_readReduced_4 : decode c_KM_readReduced 4 = .ok (.bipush 12, 2) := by decide +kernel
theorem dKM_readReduced_6 : decode c_KM_readReduced 6 = .ok (.aload_n 1, 1) := by decide +kernel
theorem dKM_readReduced_7 : decode c_KM_readReduced 7 = .ok (.iload_n 2, 1) := by decide +kernel
theorem dKM_readReduced_8 : decode c_KM_readReduced 8 = .ok (.invokestatic 144, 3) := by decide +kernel
theorem dKM_readReduced_11 : decode c_KM_readReduced 11 = .ok (.iconst 0, 1) := by decide +kernel
theorem dKM_readReduced_12 : decode c_KM_readReduced 12 = .ok (.istore_n 3, 1) := by decide +kernel
theorem dKM_readReduced_13 : decode c_KM_readReduced 13 = .ok (.iload_n 3, 1) := by decide +kernel
theorem dKM_readReduced_14 : decode c_KM_readReduced 14 = .ok (.sipush 256, 3) := by decide +kernel
theorem dKM_readReduced_17 : decode c_KM_readReduced 17 = .ok (.if_icmp .ge 46, 3) := by decide +kernel
theorem dKM_readReduced_20 : decode c_KM_readReduced 20 = .ok (.aload_n 0, 1) := by decide +kernel
theorem dKM_readReduced_21 : decode c_KM_readReduced 21 = .ok (.getfield 34, 3) := by decide +kernel
theorem dKM_readReduced_24 : decode c_KM_readReduced 24 = .ok (.iload_n 3, 1) := by decide +kernel
theorem dKM_readReduced_25 : decode c_KM_readReduced 25 = .ok (.aload_n 0, 1) := by decide +kernel
theorem dKM_readReduced_26 : decode c_KM_readReduced 26 = .ok (.getfield 34, 3) := by decide +kernel
theorem dKM_readReduced_29 : decode c_KM_readReduced 29 = .ok (.iload_n 3, 1) := by decide +kernel
theorem dKM_readReduced_30 : decode c_KM_readReduced 30 = .ok (.iaload, 1) := by decide +kernel
theorem dKM_readReduced_31 : decode c_KM_readReduced 31 = .ok (.sipush 3329, 3) := by decide +kernel
theorem dKM_readReduced_34 : decode c_KM_readReduced 34 = .ok (.if_icmp .lt 16, 3) := by decide +kernel
theorem dKM_readReduced_37 : decode c_KM_readReduced 37 = .ok (.aload_n 0, 1) := by decide +kernel
theorem dKM_readReduced_38 : decode c_KM_readReduced 38 = .ok (.getfield 34, 3) := by decide +kernel
theorem dKM_readReduced_41 : decode c_KM_readReduced 41 = .ok (.iload_n 3, 1) := by decide +kernel
theorem dKM_readReduced_42 : decode c_KM_readReduced 42 = .ok (.iaload, 1) := by decide +kernel
theorem dKM_readReduced_43 : decode c_KM_readReduced 43 = .ok (.sipush 3329, 3) := by decide +kernel
theorem dKM_readReduced_46 : decode c_KM_readReduced 46 = .ok (.isub, 1) := by decide +kernel
theorem dKM_readReduced_47 : decode c_KM_readReduced 47 = .ok (.goto 9, 3) := by decide +kernel
theorem dKM_readReduced_50 : decode c_KM_readReduced 50 = .ok (.aload_n 0, 1) := by decide +kernel
theorem dKM_readReduced_51 : decode c_KM_readReduced 51 = .ok (.getfield 34, 3) := by decide +kernel
theorem dKM_readReduced_54 : decode c_KM_readReduced 54 = .ok (.iload_n 3, 1) := by decide +kernel
theorem dKM_readReduced_55 : decode c_KM_readReduced 55 = .ok (.iaload, 1) := by decide +kernel
theorem dKM_readReduced_56 : decode c_KM_readReduced 56 = .ok (.iastore, 1) := by decide +kernel
theorem dKM_readReduced_57 : decode c_KM_readReduced 57 = .ok (.iinc 3 1, 3) := by decide +kernel
theorem dKM_readReduced_60 : decode c_KM_readReduced 60 = .ok (.goto (-47), 3) := by decide +kernel
theorem dKM_readReduced_63 : decode c_KM_readReduced 63 = .ok (.return_, 1) := by decide +kernel
abbrev c_KM_writeRounded : ByteArray := prog_6_method_14_code
abbrev y_KM_writeRounded : MethodName := ⟨"LatticeKeys$Kem", "writeRounded", "([II[BI)V"⟩
abbrev w_KM_writeRounded : List Cond := Cond.code y_KM_writeRounded c_KM_writeRounded 7 none :: WG
theorem dKM_writeRounded_0 : decode c_KM_writeRounded 0 = .ok (.iconst 1, 1) := by decide +kernel
theorem dKM_writeRounded_1 : decode c_KM_writeRounded 1 = .ok (.iload_n 2, 1) := by decide +kernel
theorem dKM_writeRounded_2 : decode c_KM_writeRounded 2 = .ok (.ishl, 1) := by decide +kernel
theorem dKM_writeRounded_3 : decode c_KM_writeRounded 3 = .ok (.iconst 1, 1) := by decide +kernel
theorem dKM_writeRounded_4 : decode c_KM_writeRounded 4 = .ok (.isub, 1) := by decide +kernel
theorem dKM_writeRounded_5 : decode c_KM_writeRounded 5 = .ok (.istore 5, 2) := by decide +kernel
theorem dKM_writeRounded_7 : decode c_KM_writeRounded 7 = .ok (.iconst 0, 1) := by decide +kernel
theorem dKM_writeRounded_8 : decode c_KM_writeRounded 8 = .ok (.istore 6, 2) := by decide +kernel
theorem dKM_writeRounded_10 : decode c_KM_writeRounded 10 = .ok (.iload 6, 2) := by decide +kernel
theorem dKM_writeRounded_12 : decode c_KM_writeRounded 12 = .ok (.sipush 256, 3) := by decide +kernel
theorem dKM_writeRounded_15 : decode c_KM_writeRounded 15 = .ok (.if_icmp .ge 30, 3) := by decide +kernel
theorem dKM_writeRounded_18 : decode c_KM_writeRounded 18 = .ok (.aload_n 1, 1) := by decide +kernel
theorem dKM_writeRounded_19 : decode c_KM_writeRounded 19 = .ok (.iload 6, 2) := by decide +kernel
theorem dKM_writeRounded_21 : decode c_KM_writeRounded 21 = .ok (.aload_n 1, 1) := by decide +kernel
theorem dKM_writeRounded_22 : decode c_KM_writeRounded 22 = .ok (.iload 6, 2) := by decide +kernel
theorem dKM_writeRounded_24 : decode c_KM_writeRounded 24 = .ok (.iaload, 1) := by decide +kernel
theorem dKM_writeRounded_25 : decode c_KM_writeRounded 25 = .ok (.iload_n 2, 1) := by decide +kernel
theorem dKM_writeRounded_26 : decode c_KM_writeRounded 26 = .ok (.ishl, 1) := by decide +kernel
theorem dKM_writeRounded_27 : decode c_KM_writeRounded 27 = .ok (.sipush 1664, 3) := by decide +kernel
theorem dKM_writeRounded_30 : decode c_KM_writeRounded 30 = .ok (.iadd, 1) := by decide +kernel
theorem dKM_writeRounded_31 : decode c_KM_writeRounded 31 = .ok (.sipush 3329, 3) := by decide +kernel
theorem dKM_writeRounded_34 : decode c_KM_writeRounded 34 = .ok (.idiv, 1) := by decide +kernel
theorem dKM_writeRounded_35 : decode c_KM_writeRounded 35 = .ok (.iload 5, 2) := by decide +kernel
theorem dKM_writeRounded_37 : decode c_KM_writeRounded 37 = .ok (.iand, 1) := by decide +kernel
theorem dKM_writeRounded_38 : decode c_KM_writeRounded 38 = .ok (.iastore, 1) := by decide +kernel
theorem dKM_writeRounded_39 : decode c_KM_writeRounded 39 = .ok (.iinc 6 1, 3) := by decide +kernel
theorem dKM_writeRounded_42 : decode c_KM_writeRounded 42 = .ok (.goto (-32), 3) := by decide +kernel
theorem dKM_writeRounded_45 : decode c_KM_writeRounded 45 = .ok (.aload_n 1, 1) := by decide +kernel
theorem dKM_writeRounded_46 : decode c_KM_writeRounded 46 = .ok (.iload_n 2, 1) := by decide +kernel
theorem dKM_writeRounded_47 : decode c_KM_writeRounded 47 = .ok (.aload_n 3, 1) := by decide +kernel
theorem dKM_writeRounded_48 : decode c_KM_writeRounded 48 = .ok (.iload 4, 2) := by decide +kernel
theorem dKM_writeRounded_50 : decode c_KM_writeRounded 50 = .ok (.invokestatic 96, 3) := by decide +kernel
theorem dKM_writeRounded_53 : decode c_KM_writeRounded 53 = .ok (.return_, 1) := by decide +kernel
abbrev c_KM_readRounded : ByteArray := prog_6_method_15_code
abbrev y_KM_readRounded : MethodName := ⟨"LatticeKeys$Kem", "readRounded", "([II[BI)V"⟩
abbrev w_KM_readRounded : List Cond := Cond.code y_KM_readRounded c_KM_readRounded 6 none :: WG
theorem dKM_readRounded_0 : decode c_KM_readRounded 0 = .ok (.aload_n 1, 1) := by decide +kernel
theorem dKM_readRounded_1 : decode c_KM_readRounded 1 = .ok (.iload_n 2, 1) := by decide +kernel
theorem dKM_readRounded_2 : decode c_KM_readRounded 2 = .ok (.aload_n 3, 1) := by decide +kernel
theorem dKM_readRounded_3 : decode c_KM_readRounded 3 = .ok (.iload 4, 2) := by decide +kernel
theorem dKM_readRounded_5 : decode c_KM_readRounded 5 = .ok (.invokestatic 144, 3) := by decide +kernel
theorem dKM_readRounded_8 : decode c_KM_readRounded 8 = .ok (.iconst 0, 1) := by decide +kernel
theorem dKM_readRounded_9 : decode c_KM_readRounded 9 = .ok (.istore 5, 2) := by decide +kernel
theorem dKM_readRounded_11 : decode c_KM_readRounded 11 = .ok (.iload 5, 2) := by decide +kernel
theorem dKM_readRounded_13 : decode c_KM_readRounded 13 = .ok (.sipush 256, 3) := by decide +kernel
theorem dKM_readRounded_16 : decode c_KM_readRounded 16 = .ok (.if_icmp .ge 29, 3) := by decide +kernel
theorem dKM_readRounded_19 : decode c_KM_readRounded 19 = .ok (.aload_n 1, 1) := by decide +kernel
theorem dKM_readRounded_20 : decode c_KM_readRounded 20 = .ok (.iload 5, 2) := by decide +kernel
theorem dKM_readRounded_22 : decode c_KM_readRounded 22 = .ok (.aload_n 1, 1) := by decide +kernel
theorem dKM_readRounded_23 : decode c_KM_readRounded 23 = .ok (.iload 5, 2) := by decide +kernel
theorem dKM_readRounded_25 : decode c_KM_readRounded 25 = .ok (.iaload, 1) := by decide +kernel
theorem dKM_readRounded_26 : decode c_KM_readRounded 26 = .ok (.sipush 3329, 3) := by decide +kernel
theorem dKM_readRounded_29 : decode c_KM_readRounded 29 = .ok (.imul, 1) := by decide +kernel
theorem dKM_readRounded_30 : decode c_KM_readRounded 30 = .ok (.iconst 1, 1) := by decide +kernel
theorem dKM_readRounded_31 : decode c_KM_readRounded 31 = .ok (.iload_n 2, 1) := by decide +kernel
theorem dKM_readRounded_32 : decode c_KM_readRounded 32 = .ok (.iconst 1, 1) := by decide +kernel
theorem dKM_readRounded_33 : decode c_KM_readRounded 33 = .ok (.isub, 1) := by decide +kernel
theorem dKM_readRounded_34 : decode c_KM_readRounded 34 = .ok (.ishl, 1) := by decide +kernel
theorem dKM_readRounded_35 : decode c_KM_readRounded 35 = .ok (.iadd, 1) := by decide +kernel
theorem dKM_readRounded_36 : decode c_KM_readRounded 36 = .ok (.iload_n 2, 1) := by decide +kernel
theorem dKM_readRounded_37 : decode c_KM_readRounded 37 = .ok (.ishr, 1) := by decide +kernel
theorem dKM_readRounded_38 : decode c_KM_readRounded 38 = .ok (.iastore, 1) := by decide +kernel
theorem dKM_readRounded_39 : decode c_KM_readRounded 39 = .ok (.iinc 5 1, 3) := by decide +kernel
theorem dKM_readRounded_42 : decode c_KM_readRounded 42 = .ok (.goto (-31), 3) := by decide +kernel
theorem dKM_readRounded_45 : decode c_KM_readRounded 45 = .ok (.return_, 1) := by decide +kernel
def M_KM_digestOf (k : Nat) : Prop := k = 14 ∨ k = 33 ∨ (0 : Nat) = 1
noncomputable def F_KM_digestOf (pb : Nat) (n : Nat) (at_ : Nat) (len : Nat) (s : Sto) : Sto := bnd (F_SP_start_0 14 15 s) fun s21 => bnd (F_SP_absorb 14 15 pb n at_ len s21) fun s22 => bnd (F_SP_finish 14 15 s22) fun s23 => bnd (F_SP_squeeze 14 15 33 32 0 32 s23) fun s24 => s24
set_option maxHeartbeats 400000 in
set_option maxRecDepth 100000 in
theorem N_KM_digestOf (l : Launch) (g : Gd) (sz : Nat) (T : TyN) (s : Sto) (pl : va_W) (hO : okn g T s pl) (hU : inj T) (h0 b : Nat) (pb : Nat) (n : Nat) (at_ : Nat) (len : Nat) (k_h0 : T h0 = some 24) (k_b : T b = some pb) (n_b : nsp pb = (1, n, [])) (h1 : at_ + len ≤ n) (h2 : n < 65536)  : Met l y_KM_digestOf w_KM_digestOf ({ frames := 3, cells := 0, slots := 0, locals := 100 } : Room) (va_Pc [.ref h0, .ref b, .int (nI at_), .int (nI len)] (pr (en g) g.1 vcl sz ([] ++ pl))) (va_Qv (fun (u : (Sto) × va_W) => (u.1 = F_KM_digestOf pb n at_ len s ∧ frm (M_KM_digestOf) s u.1 ∧ True) ∧ okn g T u.1 u.2) (po g.1 vcl (va_A ([] ++ pl) sz) (fun (u : (Sto) × va_W) => [] ++ u.2)) (va_A ([] ++ pl) sz)) 0 0 (va_A ([] ++ pl) sz) := by
  refine mc_entry (cc := c_KM_digestOf) (maxL := 4) (ret := none) (by decide) rfl (Nat.le_of_ble_eq_true rfl) ?_
  intro p e s0 m args below meth c ls F hr hlk hnm hsz hP hD hE hA hl
  obtain ⟨hx, hb, hml, hown, hts⟩ := id F
  have hK := hE.1
  generalize va_A ([] ++ pl) sz = A at hD hE hA ⊢
  have hS : va_S A s0.heap s0.heap [] := va_S.rf
  have hl : lv_has ls 4 [(0, .ref h0), (1, .ref b), (2, .int (nI at_)), (3, .int (nI len))] := hl
  have hR : F_KM_digestOf pb n at_ len s = F_KM_digestOf pb n at_ len s := rfl
  have hF : frm (M_KM_digestOf) s s := frm_rf
  refine lv_aload_n hx hb dKM_digestOf_0 rfl (lv_at hl 0 rfl) ?_
  refine nw_get (C := "LatticeKeys$Kem") (TT := T_KM) (N := 10) hx hb hts (wg_ft i_KM) hown hK hO k_h0 (kn := 24) (ci := 5) (fl := [(3, 14), (3, 20), (3, 25), (3, 30), (3, 31), (3, 32), (3, 33), (3, 34), (3, 35), (3, 36)]) rfl hP rfl 0 (by decide) (hts _ (wg_t kw_107)) (fun _ h9 => h9) (cd := (3, 14)) rfl dKM_digestOf_1 (fun v21 hv21 => ?_)
  obtain ⟨r21, rfl, kr21⟩ := (show ∃ r : Nat, v21 = .ref r ∧ T r = some 14 from hv21)
  refine lv_iconst (v := nI 0) hx hb dKM_digestOf_4 (by decide) ?_
  refine mp_v (cx := []) (wr := []) hP hD hS hA [] [] rfl rfl rfl (by decide) (va_runV (As := [.int (nI 0)]) (rest := []) F (N_SP_start_0 l g _ T s pl hO hU r21 14 15 kr21 rfl rfl) (cwV 1 hts (wg_app (wg_c kw_578 (wg_c kw_579 (wg_c kw_580 (wg_c kw_2 wg_n)))) kw_581) rfl rfl rfl (by decide +kernel) ⟨by decide, by decide⟩) (pn_W "LatticeKeys$Sponge" (en_ok g) (ci := 3) (kn := 14) (fl := [(3, 15), (0, 0), (0, 0), (0, 0)]) hK hO kr21 rfl hP hD hS hA hE [] rfl rfl rfl) rfl rfl hl.1 rfl (lv_room (Nat.le_of_ble_eq_true rfl)) dKM_digestOf_5 ⟨by omega, by omega⟩) (fun  u21 H locs hu21 hP hD hS => ?_)
  obtain ⟨s21, pl⟩ := u21
  obtain ⟨⟨eq21, hFc21, ⟨x21, hx_21, hb_21⟩, ⟨x22, hx_22, hb_22⟩, -⟩, hO⟩ := hu21
  have hO : okn g T s21 pl := hO
  have hP : va_P g.1 vcl ([] ++ pl) _ := hP
  have hD : va_D _ ([] ++ pl) := hD
  have hFc21 : frm (M_SP_start_0 14) s s21 := hFc21
  have hb_21 : x21 = 0 := hb_21
  have hb_22 : x22 = 136 := hb_22
  replace hR := bnd_step hR eq21
  have hF := frm_tr hF hFc21 (fun k hk => by unfold M_SP_start_0 at hk; unfold M_KM_digestOf; omega)
  refine W.widen (k := 0) (n := 0) (by omega) (by omega) ?_
  refine lv_aload_n hx hb dKM_digestOf_8 rfl (lv_at hl 0 rfl) ?_
  refine nw_get (C := "LatticeKeys$Kem") (TT := T_KM) (N := 10) hx hb hts (wg_ft i_KM) hown hK hO k_h0 (kn := 24) (ci := 5) (fl := [(3, 14), (3, 20), (3, 25), (3, 30), (3, 31), (3, 32), (3, 33), (3, 34), (3, 35), (3, 36)]) rfl hP rfl 0 (by decide) (hts _ (wg_t kw_107)) (fun _ h9 => h9) (cd := (3, 14)) rfl dKM_digestOf_9 (fun v22 hv22 => ?_)
  obtain ⟨r22, rfl, kr22⟩ := (show ∃ r : Nat, v22 = .ref r ∧ T r = some 14 from hv22)
  refine lv_aload_n hx hb dKM_digestOf_12 rfl (lv_at hl 1 rfl) ?_
  refine lv_iload_n hx hb dKM_digestOf_13 rfl (lv_at hl 2 rfl) ?_
  refine lv_iload_n hx hb dKM_digestOf_14 rfl (lv_at hl 3 rfl) ?_
  refine mp_v (cx := []) (wr := []) hP hD hS hA [] [] rfl rfl rfl (by decide) (va_runV (As := [.ref b, .int (nI at_), .int (nI len)]) (rest := []) F (N_SP_absorb l g _ T s21 pl hO hU r22 b 14 15 pb n at_ len x21 x22 kr22 rfl rfl k_b n_b hx_21 hx_22 (by omega) (by omega) (by omega) (by omega)) (cwV 3 hts (wg_app (wg_c kw_585 (wg_c kw_586 (wg_c kw_587 (wg_c kw_2 wg_n)))) kw_588) rfl rfl rfl (by decide +kernel) ⟨by decide, by decide⟩) (pn_W "LatticeKeys$Sponge" (en_ok g) (ci := 3) (kn := 14) (fl := [(3, 15), (0, 0), (0, 0), (0, 0)]) hK hO kr22 rfl hP hD hS hA hE [] rfl rfl rfl) rfl rfl hl.1 rfl (lv_room (Nat.le_of_ble_eq_true rfl)) dKM_digestOf_15 ⟨by omega, by omega⟩) (fun  u22 H locs hu22 hP hD hS => ?_)
  obtain ⟨s22, pl⟩ := u22
  obtain ⟨⟨eq22, hFc22, ⟨x24, hx_24, hb_24⟩, ⟨x25, hx_25, hb_25⟩, -⟩, hO⟩ := hu22
  have hO : okn g T s22 pl := hO
  have hP : va_P g.1 vcl ([] ++ pl) _ := hP
  have hD : va_D _ ([] ++ pl) := hD
  have hFc22 : frm (M_SP_absorb 14) s21 s22 := hFc22
  have hb_24 : x24 < x22 := hb_24
  have hb_25 : x25 = x22 := hb_25
  replace hR := bnd_step hR eq22
  have hF := frm_tr hF hFc22 (fun k hk => by unfold M_SP_absorb at hk; unfold M_KM_digestOf; omega)
  refine W.widen (k := 0) (n := 0) (by omega) (by omega) ?_
  refine lv_aload_n hx hb dKM_digestOf_18 rfl (lv_at hl 0 rfl) ?_
  refine nw_get (C := "LatticeKeys$Kem") (TT := T_KM) (N := 10) hx hb hts (wg_ft i_KM) hown hK hO k_h0 (kn := 24) (ci := 5) (fl := [(3, 14), (3, 20), (3, 25), (3, 30), (3, 31), (3, 32), (3, 33), (3, 34), (3, 35), (3, 36)]) rfl hP rfl 0 (by decide) (hts _ (wg_t kw_107)) (fun _ h9 => h9) (cd := (3, 14)) rfl dKM_digestOf_19 (fun v23 hv23 => ?_)
  obtain ⟨r23, rfl, kr23⟩ := (show ∃ r : Nat, v23 = .ref r ∧ T r = some 14 from hv23)
  refine mp_v (cx := []) (wr := []) hP hD hS hA [] [] rfl rfl rfl (by decide) (va_runV (As := []) (rest := []) F (N_SP_finish l g _ T s22 pl hO hU r23 14 15 x24 x25 kr23 rfl rfl hx_24 hx_25 (by omega) (by omega)) (cwV 0 hts (wg_app (wg_c kw_610 (wg_c kw_611 (wg_c kw_612 (wg_c kw_2 wg_n)))) kw_613) rfl rfl rfl (by decide +kernel) ⟨by decide, by decide⟩) (pn_W "LatticeKeys$Sponge" (en_ok g) (ci := 3) (kn := 14) (fl := [(3, 15), (0, 0), (0, 0), (0, 0)]) hK hO kr23 rfl hP hD hS hA hE [] rfl rfl rfl) rfl rfl hl.1 rfl (lv_room (Nat.le_of_ble_eq_true rfl)) dKM_digestOf_22 ⟨by omega, by omega⟩) (fun  u23 H locs hu23 hP hD hS => ?_)
  obtain ⟨s23, pl⟩ := u23
  obtain ⟨⟨eq23, hFc23, ⟨x27, hx_27, hb_27⟩, ⟨x28, hx_28, hb_28⟩, -⟩, hO⟩ := hu23
  have hO : okn g T s23 pl := hO
  have hP : va_P g.1 vcl ([] ++ pl) _ := hP
  have hD : va_D _ ([] ++ pl) := hD
  have hFc23 : frm (M_SP_finish 14) s22 s23 := hFc23
  have hb_27 : x27 = x25 := hb_27
  have hb_28 : x28 = x25 := hb_28
  replace hR := bnd_step hR eq23
  have hF := frm_tr hF hFc23 (fun k hk => by unfold M_SP_finish at hk; unfold M_KM_digestOf; omega)
  refine W.widen (k := 0) (n := 0) (by omega) (by omega) ?_
  refine lv_aload_n hx hb dKM_digestOf_25 rfl (lv_at hl 0 rfl) ?_
  refine nw_get (C := "LatticeKeys$Kem") (TT := T_KM) (N := 10) hx hb hts (wg_ft i_KM) hown hK hO k_h0 (kn := 24) (ci := 5) (fl := [(3, 14), (3, 20), (3, 25), (3, 30), (3, 31), (3, 32), (3, 33), (3, 34), (3, 35), (3, 36)]) rfl hP rfl 0 (by decide) (hts _ (wg_t kw_107)) (fun _ h9 => h9) (cd := (3, 14)) rfl dKM_digestOf_26 (fun v24 hv24 => ?_)
  obtain ⟨r24, rfl, kr24⟩ := (show ∃ r : Nat, v24 = .ref r ∧ T r = some 14 from hv24)
  refine lv_aload_n hx hb dKM_digestOf_29 rfl (lv_at hl 0 rfl) ?_
  refine nw_get (C := "LatticeKeys$Kem") (TT := T_KM) (N := 10) hx hb hts (wg_ft i_KM) hown hK hO k_h0 (kn := 24) (ci := 5) (fl := [(3, 14), (3, 20), (3, 25), (3, 30), (3, 31), (3, 32), (3, 33), (3, 34), (3, 35), (3, 36)]) rfl hP rfl 6 (by decide) (hts _ (wg_t kw_113)) (fun _ h9 => h9) (cd := (3, 33)) rfl dKM_digestOf_30 (fun v25 hv25 => ?_)
  obtain ⟨r25, rfl, kr25⟩ := (show ∃ r : Nat, v25 = .ref r ∧ T r = some 33 from hv25)
  refine lv_iconst (v := nI 0) hx hb dKM_digestOf_33 (by decide) ?_
  refine lv_bipush (v := nI 32) hx hb dKM_digestOf_34 (by decide) ?_
  refine mp_v (cx := []) (wr := []) hP hD hS hA [] [] rfl rfl rfl (by decide) (va_runV (As := [.ref r25, .int (nI 0), .int (nI 32)]) (rest := []) F (N_SP_squeeze l g _ T s23 pl hO hU r24 r25 14 15 33 32 0 32 x27 x28 kr24 rfl rfl kr25 rfl hx_27 hx_28 (by omega) (by omega) (by omega) (by omega)) (cwV 3 hts (wg_app (wg_c kw_614 (wg_c kw_615 (wg_c kw_616 (wg_c kw_2 wg_n)))) kw_617) rfl rfl rfl (by decide +kernel) ⟨by decide, by decide⟩) (pn_W "LatticeKeys$Sponge" (en_ok g) (ci := 3) (kn := 14) (fl := [(3, 15), (0, 0), (0, 0), (0, 0)]) hK hO kr24 rfl hP hD hS hA hE [] rfl rfl rfl) rfl rfl hl.1 rfl (lv_room (Nat.le_of_ble_eq_true rfl)) dKM_digestOf_36 ⟨by omega, by omega⟩) (fun  u24 H locs hu24 hP hD hS => ?_)
  obtain ⟨s24, pl⟩ := u24
  obtain ⟨⟨eq24, hFc24, ⟨x30, hx_30, hb_30⟩, ⟨x31, hx_31, hb_31⟩, -⟩, hO⟩ := hu24
  have hO : okn g T s24 pl := hO
  have hP : va_P g.1 vcl ([] ++ pl) _ := hP
  have hD : va_D _ ([] ++ pl) := hD
  have hFc24 : frm (M_SP_squeeze 14 33) s23 s24 := hFc24
  have hb_30 : x30 ≤ x28 := hb_30
  have hb_31 : x31 = x28 := hb_31
  replace hR := bnd_step hR eq24
  have hF := frm_tr hF hFc24 (fun k hk => by unfold M_SP_squeeze at hk; unfold M_KM_digestOf; omega)
  refine W.widen (k := 0) (n := 0) (by omega) (by omega) ?_
  exact mp_vret hx hb hr hlk hP hD hS (s24, pl) ⟨⟨hR.symm, hF, trivial⟩, hO⟩ [] rfl rfl rfl (by omega) (by omega) dKM_digestOf_39
def M_KM_deriveSeeds (k : Nat) : Prop := k = 14 ∨ k = 34 ∨ (0 : Nat) = 1
noncomputable def F_KM_deriveSeeds (pb : Nat) (n : Nat) (at_ : Nat) (s : Sto) : Sto := bnd (F_SP_start_1 14 15 s) fun s21 => bnd (F_SP_absorb 14 15 32 32 0 32 s21) fun s22 => bnd (F_SP_absorb 14 15 pb n at_ 32 s22) fun s23 => bnd (F_SP_finish 14 15 s23) fun s24 => bnd (F_SP_squeeze 14 15 34 64 0 64 s24) fun s25 => s25
set_option maxHeartbeats 400000 in
set_option maxRecDepth 100000 in
theorem N_KM_deriveSeeds (l : Launch) (g : Gd) (sz : Nat) (T : TyN) (s : Sto) (pl : va_W) (hO : okn g T s pl) (hU : inj T) (h0 b : Nat) (pb : Nat) (n : Nat) (at_ : Nat) (k_h0 : T h0 = some 24) (k_b : T b = some pb) (n_b : nsp pb = (1, n, [])) (h1 : at_ + 32 ≤ n) (h2 : n < 65536)  : Met l y_KM_deriveSeeds w_KM_deriveSeeds ({ frames := 3, cells := 0, slots := 0, locals := 100 } : Room) (va_Pc [.ref h0, .ref b, .int (nI at_)] (pr (en g) g.1 vcl sz ([] ++ pl))) (va_Qv (fun (u : (Sto) × va_W) => (u.1 = F_KM_deriveSeeds pb n at_ s ∧ frm (M_KM_deriveSeeds) s u.1 ∧ True) ∧ okn g T u.1 u.2) (po g.1 vcl (va_A ([] ++ pl) sz) (fun (u : (Sto) × va_W) => [] ++ u.2)) (va_A ([] ++ pl) sz)) 0 0 (va_A ([] ++ pl) sz) := by
  refine mc_entry (cc := c_KM_deriveSeeds) (maxL := 3) (ret := none) (by decide) rfl (Nat.le_of_ble_eq_true rfl) ?_
  intro p e s0 m args below meth c ls F hr hlk hnm hsz hP hD hE hA hl
  obtain ⟨hx, hb, hml, hown, hts⟩ := id F
  have hK := hE.1
  generalize va_A ([] ++ pl) sz = A at hD hE hA ⊢
  have hS : va_S A s0.heap s0.heap [] := va_S.rf
  have hl : lv_has ls 3 [(0, .ref h0), (1, .ref b), (2, .int (nI at_))] := hl
  have hR : F_KM_deriveSeeds pb n at_ s = F_KM_deriveSeeds pb n at_ s := rfl
  have hF : frm (M_KM_deriveSeeds) s s := frm_rf
  refine lv_aload_n hx hb dKM_deriveSeeds_0 rfl (lv_at hl 0 rfl) ?_
  refine nw_get (C := "LatticeKeys$Kem") (TT := T_KM) (N := 10) hx hb hts (wg_ft i_KM) hown hK hO k_h0 (kn := 24) (ci := 5) (fl := [(3, 14), (3, 20), (3, 25), (3, 30), (3, 31), (3, 32), (3, 33), (3, 34), (3, 35), (3, 36)]) rfl hP rfl 0 (by decide) (hts _ (wg_t kw_107)) (fun _ h9 => h9) (cd := (3, 14)) rfl dKM_deriveSeeds_1 (fun v21 hv21 => ?_)
  obtain ⟨r21, rfl, kr21⟩ := (show ∃ r : Nat, v21 = .ref r ∧ T r = some 14 from hv21)
  refine lv_iconst (v := nI 1) hx hb dKM_deriveSeeds_4 (by decide) ?_
  refine mp_v (cx := []) (wr := []) hP hD hS hA [] [] rfl rfl rfl (by decide) (va_runV (As := [.int (nI 1)]) (rest := []) F (N_SP_start_1 l g _ T s pl hO hU r21 14 15 kr21 rfl rfl) (cwV 1 hts (wg_app (wg_c kw_578 (wg_c kw_579 (wg_c kw_580 (wg_c kw_2 wg_n)))) kw_581) rfl rfl rfl (by decide +kernel) ⟨by decide, by decide⟩) (pn_W "LatticeKeys$Sponge" (en_ok g) (ci := 3) (kn := 14) (fl := [(3, 15), (0, 0), (0, 0), (0, 0)]) hK hO kr21 rfl hP hD hS hA hE [] rfl rfl rfl) rfl rfl hl.1 rfl (lv_room (Nat.le_of_ble_eq_true rfl)) dKM_deriveSeeds_5 ⟨by omega, by omega⟩) (fun  u21 H locs hu21 hP hD hS => ?_)
  obtain ⟨s21, pl⟩ := u21
  obtain ⟨⟨eq21, hFc21, ⟨x21, hx_21, hb_21⟩, ⟨x22, hx_22, hb_22⟩, -⟩, hO⟩ := hu21
  have hO : okn g T s21 pl := hO
  have hP : va_P g.1 vcl ([] ++ pl) _ := hP
  have hD : va_D _ ([] ++ pl) := hD
  have hFc21 : frm (M_SP_start_1 14) s s21 := hFc21
  have hb_21 : x21 = 0 := hb_21
  have hb_22 : x22 = 72 := hb_22
  replace hR := bnd_step hR eq21
  have hF := frm_tr hF hFc21 (fun k hk => by unfold M_SP_start_1 at hk; unfold M_KM_deriveSeeds; omega)
  refine W.widen (k := 0) (n := 0) (by omega) (by omega) ?_
  refine lv_aload_n hx hb dKM_deriveSeeds_8 rfl (lv_at hl 0 rfl) ?_
  refine nw_get (C := "LatticeKeys$Kem") (TT := T_KM) (N := 10) hx hb hts (wg_ft i_KM) hown hK hO k_h0 (kn := 24) (ci := 5) (fl := [(3, 14), (3, 20), (3, 25), (3, 30), (3, 31), (3, 32), (3, 33), (3, 34), (3, 35), (3, 36)]) rfl hP rfl 0 (by decide) (hts _ (wg_t kw_107)) (fun _ h9 => h9) (cd := (3, 14)) rfl dKM_deriveSeeds_9 (fun v22 hv22 => ?_)
  obtain ⟨r22, rfl, kr22⟩ := (show ∃ r : Nat, v22 = .ref r ∧ T r = some 14 from hv22)
  refine lv_aload_n hx hb dKM_deriveSeeds_12 rfl (lv_at hl 0 rfl) ?_
  refine nw_get (C := "LatticeKeys$Kem") (TT := T_KM) (N := 10) hx hb hts (wg_ft i_KM) hown hK hO k_h0 (kn := 24) (ci := 5) (fl := [(3, 14), (3, 20), (3, 25), (3, 30), (3, 31), (3, 32), (3, 33), (3, 34), (3, 35), (3, 36)]) rfl hP rfl 5 (by decide) (hts _ (wg_t kw_112)) (fun _ h9 => h9) (cd := (3, 32)) rfl dKM_deriveSeeds_13 (fun v23 hv23 => ?_)
  obtain ⟨r23, rfl, kr23⟩ := (show ∃ r : Nat, v23 = .ref r ∧ T r = some 32 from hv23)
  refine lv_iconst (v := nI 0) hx hb dKM_deriveSeeds_16 (by decide) ?_
  refine lv_bipush (v := nI 32) hx hb dKM_deriveSeeds_17 (by decide) ?_
  refine mp_v (cx := []) (wr := []) hP hD hS hA [] [] rfl rfl rfl (by decide) (va_runV (As := [.ref r23, .int (nI 0), .int (nI 32)]) (rest := []) F (N_SP_absorb l g _ T s21 pl hO hU r22 r23 14 15 32 32 0 32 x21 x22 kr22 rfl rfl kr23 rfl hx_21 hx_22 (by omega) (by omega) (by omega) (by omega)) (cwV 3 hts (wg_app (wg_c kw_585 (wg_c kw_586 (wg_c kw_587 (wg_c kw_2 wg_n)))) kw_588) rfl rfl rfl (by decide +kernel) ⟨by decide, by decide⟩) (pn_W "LatticeKeys$Sponge" (en_ok g) (ci := 3) (kn := 14) (fl := [(3, 15), (0, 0), (0, 0), (0, 0)]) hK hO kr22 rfl hP hD hS hA hE [] rfl rfl rfl) rfl rfl hl.1 rfl (lv_room (Nat.le_of_ble_eq_true rfl)) dKM_deriveSeeds_19 ⟨by omega, by omega⟩) (fun  u22 H locs hu22 hP hD hS => ?_)
  obtain ⟨s22, pl⟩ := u22
  obtain ⟨⟨eq22, hFc22, ⟨x24, hx_24, hb_24⟩, ⟨x25, hx_25, hb_25⟩, -⟩, hO⟩ := hu22
  have hO : okn g T s22 pl := hO
  have hP : va_P g.1 vcl ([] ++ pl) _ := hP
  have hD : va_D _ ([] ++ pl) := hD
  have hFc22 : frm (M_SP_absorb 14) s21 s22 := hFc22
  have hb_24 : x24 < x22 := hb_24
  have hb_25 : x25 = x22 := hb_25
  replace hR := bnd_step hR eq22
  have hF := frm_tr hF hFc22 (fun k hk => by unfold M_SP_absorb at hk; unfold M_KM_deriveSeeds; omega)
  refine W.widen (k := 0) (n := 0) (by omega) (by omega) ?_
  refine lv_aload_n hx hb dKM_deriveSeeds_22 rfl (lv_at hl 0 rfl) ?_
  refine nw_get (C := "LatticeKeys$Kem") (TT := T_KM) (N := 10) hx hb hts (wg_ft i_KM) hown hK hO k_h0 (kn := 24) (ci := 5) (fl := [(3, 14), (3, 20), (3, 25), (3, 30), (3, 31), (3, 32), (3, 33), (3, 34), (3, 35), (3, 36)]) rfl hP rfl 0 (by decide) (hts _ (wg_t kw_107)) (fun _ h9 => h9) (cd := (3, 14)) rfl dKM_deriveSeeds_23 (fun v24 hv24 => ?_)
  obtain ⟨r24, rfl, kr24⟩ := (show ∃ r : Nat, v24 = .ref r ∧ T r = some 14 from hv24)
  refine lv_aload_n hx hb dKM_deriveSeeds_26 rfl (lv_at hl 1 rfl) ?_
  refine lv_iload_n hx hb dKM_deriveSeeds_27 rfl (lv_at hl 2 rfl) ?_
  refine lv_bipush (v := nI 32) hx hb dKM_deriveSeeds_28 (by decide) ?_
  refine mp_v (cx := []) (wr := []) hP hD hS hA [] [] rfl rfl rfl (by decide) (va_runV (As := [.ref b, .int (nI at_), .int (nI 32)]) (rest := []) F (N_SP_absorb l g _ T s22 pl hO hU r24 b 14 15 pb n at_ 32 x24 x25 kr24 rfl rfl k_b n_b hx_24 hx_25 (by omega) (by omega) (by omega) (by omega)) (cwV 3 hts (wg_app (wg_c kw_585 (wg_c kw_586 (wg_c kw_587 (wg_c kw_2 wg_n)))) kw_588) rfl rfl rfl (by decide +kernel) ⟨by decide, by decide⟩) (pn_W "LatticeKeys$Sponge" (en_ok g) (ci := 3) (kn := 14) (fl := [(3, 15), (0, 0), (0, 0), (0, 0)]) hK hO kr24 rfl hP hD hS hA hE [] rfl rfl rfl) rfl rfl hl.1 rfl (lv_room (Nat.le_of_ble_eq_true rfl)) dKM_deriveSeeds_30 ⟨by omega, by omega⟩) (fun  u23 H locs hu23 hP hD hS => ?_)
  obtain ⟨s23, pl⟩ := u23
  obtain ⟨⟨eq23, hFc23, ⟨x27, hx_27, hb_27⟩, ⟨x28, hx_28, hb_28⟩, -⟩, hO⟩ := hu23
  have hO : okn g T s23 pl := hO
  have hP : va_P g.1 vcl ([] ++ pl) _ := hP
  have hD : va_D _ ([] ++ pl) := hD
  have hFc23 : frm (M_SP_absorb 14) s22 s23 := hFc23
  have hb_27 : x27 < x25 := hb_27
  have hb_28 : x28 = x25 := hb_28
  replace hR := bnd_step hR eq23
  have hF := frm_tr hF hFc23 (fun k hk => by unfold M_SP_absorb at hk; unfold M_KM_deriveSeeds; omega)
  refine W.widen (k := 0) (n := 0) (by omega) (by omega) ?_
  refine lv_aload_n hx hb dKM_deriveSeeds_33 rfl (lv_at hl 0 rfl) ?_
  refine nw_get (C := "LatticeKeys$Kem") (TT := T_KM) (N := 10) hx hb hts (wg_ft i_KM) hown hK hO k_h0 (kn := 24) (ci := 5) (fl := [(3, 14), (3, 20), (3, 25), (3, 30), (3, 31), (3, 32), (3, 33), (3, 34), (3, 35), (3, 36)]) rfl hP rfl 0 (by decide) (hts _ (wg_t kw_107)) (fun _ h9 => h9) (cd := (3, 14)) rfl dKM_deriveSeeds_34 (fun v25 hv25 => ?_)
  obtain ⟨r25, rfl, kr25⟩ := (show ∃ r : Nat, v25 = .ref r ∧ T r = some 14 from hv25)
  refine mp_v (cx := []) (wr := []) hP hD hS hA [] [] rfl rfl rfl (by decide) (va_runV (As := []) (rest := []) F (N_SP_finish l g _ T s23 pl hO hU r25 14 15 x27 x28 kr25 rfl rfl hx_27 hx_28 (by omega) (by omega)) (cwV 0 hts (wg_app (wg_c kw_610 (wg_c kw_611 (wg_c kw_612 (wg_c kw_2 wg_n)))) kw_613) rfl rfl rfl (by decide +kernel) ⟨by decide, by decide⟩) (pn_W "LatticeKeys$Sponge" (en_ok g) (ci := 3) (kn := 14) (fl := [(3, 15), (0, 0), (0, 0), (0, 0)]) hK hO kr25 rfl hP hD hS hA hE [] rfl rfl rfl) rfl rfl hl.1 rfl (lv_room (Nat.le_of_ble_eq_true rfl)) dKM_deriveSeeds_37 ⟨by omega, by omega⟩) (fun  u24 H locs hu24 hP hD hS => ?_)
  obtain ⟨s24, pl⟩ := u24
  obtain ⟨⟨eq24, hFc24, ⟨x30, hx_30, hb_30⟩, ⟨x31, hx_31, hb_31⟩, -⟩, hO⟩ := hu24
  have hO : okn g T s24 pl := hO
  have hP : va_P g.1 vcl ([] ++ pl) _ := hP
  have hD : va_D _ ([] ++ pl) := hD
  have hFc24 : frm (M_SP_finish 14) s23 s24 := hFc24
  have hb_30 : x30 = x28 := hb_30
  have hb_31 : x31 = x28 := hb_31
  replace hR := bnd_step hR eq24
  have hF := frm_tr hF hFc24 (fun k hk => by unfold M_SP_finish at hk; unfold M_KM_deriveSeeds; omega)
  refine W.widen (k := 0) (n := 0) (by omega) (by omega) ?_
  refine lv_aload_n hx hb dKM_deriveSeeds_40 rfl (lv_at hl 0 rfl) ?_
  refine nw_get (C := "LatticeKeys$Kem") (TT := T_KM) (N := 10) hx hb hts (wg_ft i_KM) hown hK hO k_h0 (kn := 24) (ci := 5) (fl := [(3, 14), (3, 20), (3, 25), (3, 30), (3, 31), (3, 32), (3, 33), (3, 34), (3, 35), (3, 36)]) rfl hP rfl 0 (by decide) (hts _ (wg_t kw_107)) (fun _ h9 => h9) (cd := (3, 14)) rfl dKM_deriveSeeds_41 (fun v26 hv26 => ?_)
  obtain ⟨r26, rfl, kr26⟩ := (show ∃ r : Nat, v26 = .ref r ∧ T r = some 14 from hv26)
  refine lv_aload_n hx hb dKM_deriveSeeds_44 rfl (lv_at hl 0 rfl) ?_
  refine nw_get (C := "LatticeKeys$Kem") (TT := T_KM) (N := 10) hx hb hts (wg_ft i_KM) hown hK hO k_h0 (kn := 24) (ci := 5) (fl := [(3, 14), (3, 20), (3, 25), (3, 30), (3, 31), (3, 32), (3, 33), (3, 34), (3, 35), (3, 36)]) rfl hP rfl 7 (by decide) (hts _ (wg_t kw_114)) (fun _ h9 => h9) (cd := (3, 34)) rfl dKM_deriveSeeds_45 (fun v27 hv27 => ?_)
  obtain ⟨r27, rfl, kr27⟩ := (show ∃ r : Nat, v27 = .ref r ∧ T r = some 34 from hv27)
  refine lv_iconst (v := nI 0) hx hb dKM_deriveSeeds_48 (by decide) ?_
  refine lv_bipush (v := nI 64) hx hb dKM_deriveSeeds_49 (by decide) ?_
  refine mp_v (cx := []) (wr := []) hP hD hS hA [] [] rfl rfl rfl (by decide) (va_runV (As := [.ref r27, .int (nI 0), .int (nI 64)]) (rest := []) F (N_SP_squeeze l g _ T s24 pl hO hU r26 r27 14 15 34 64 0 64 x30 x31 kr26 rfl rfl kr27 rfl hx_30 hx_31 (by omega) (by omega) (by omega) (by omega)) (cwV 3 hts (wg_app (wg_c kw_614 (wg_c kw_615 (wg_c kw_616 (wg_c kw_2 wg_n)))) kw_617) rfl rfl rfl (by decide +kernel) ⟨by decide, by decide⟩) (pn_W "LatticeKeys$Sponge" (en_ok g) (ci := 3) (kn := 14) (fl := [(3, 15), (0, 0), (0, 0), (0, 0)]) hK hO kr26 rfl hP hD hS hA hE [] rfl rfl rfl) rfl rfl hl.1 rfl (lv_room (Nat.le_of_ble_eq_true rfl)) dKM_deriveSeeds_51 ⟨by omega, by omega⟩) (fun  u25 H locs hu25 hP hD hS => ?_)
  obtain ⟨s25, pl⟩ := u25
  obtain ⟨⟨eq25, hFc25, ⟨x33, hx_33, hb_33⟩, ⟨x34, hx_34, hb_34⟩, -⟩, hO⟩ := hu25
  have hO : okn g T s25 pl := hO
  have hP : va_P g.1 vcl ([] ++ pl) _ := hP
  have hD : va_D _ ([] ++ pl) := hD
  have hFc25 : frm (M_SP_squeeze 14 34) s24 s25 := hFc25
  have hb_33 : x33 ≤ x31 := hb_33
  have hb_34 : x34 = x31 := hb_34
  replace hR := bnd_step hR eq25
  have hF := frm_tr hF hFc25 (fun k hk => by unfold M_SP_squeeze at hk; unfold M_KM_deriveSeeds; omega)
  refine W.widen (k := 0) (n := 0) (by omega) (by omega) ?_
  exact mp_vret hx hb hr hlk hP hD hS (s25, pl) ⟨⟨hR.symm, hF, trivial⟩, hO⟩ [] rfl rfl rfl (by omega) (by omega) dKM_deriveSeeds_54
def M_KM_sampleEntry (k : Nat) : Prop := k = 14 ∨ k = 31 ∨ (0 : Nat) = 1
noncomputable def F_KM_sampleEntry_L0 : Nat → Nat → Nat → Sto → Sto
  | 0, i21, fl21, s26 => if 256 ≤ fl21 then s26 else s26
  | n21 + 1, i21, fl21, s26 => if 256 ≤ fl21 then s26 else bnd (F_SP_nextByte 14 15 s26) fun q21 => bnd (q21.1.toNatClampNeg) fun z21 => bnd (F_SP_nextByte 14 15 q21.2) fun q22 => bnd (q22.1.toNatClampNeg) fun z22 => bnd (F_SP_nextByte 14 15 q22.2) fun q23 => bnd (q23.1.toNatClampNeg) fun z23 => bnd (((nI z21) ||| (((nI z22) &&& (nI 15)) <<< ((nI 8) &&& 31)))) fun z24 => bnd (((nI (z22 / 16)) ||| ((nI z23) <<< ((nI 4) &&& 31)))) fun z25 => if (nI 3329) ≤ z24 then if (nI 3329) ≤ z25 then F_KM_sampleEntry_L0  n21 (i21 + 1) fl21 q23.2 else if 256 ≤ fl21 then F_KM_sampleEntry_L0  n21 (i21 + 1) fl21 q23.2 else bnd (sI q23.2 31 fl21 z25) fun s27 => F_KM_sampleEntry_L0  n21 (i21 + 1) (fl21 + 1) s27 else bnd (sI q23.2 31 fl21 z24) fun s28 => if (nI 3329) ≤ z25 then F_KM_sampleEntry_L0  n21 (i21 + 1) (fl21 + 1) s28 else if 256 ≤ fl21 + 1 then F_KM_sampleEntry_L0  n21 (i21 + 1) (fl21 + 1) s28 else bnd (sI s28 31 (fl21 + 1) z25) fun s29 => F_KM_sampleEntry_L0  n21 (i21 + 1) (fl21 + 1 + 1) s29
noncomputable def F_KM_sampleEntry (pb : Nat) (n : Nat) (at_ : Nat) (v1 : Int32) (v2 : Int32) (s : Sto) : Sto := bnd (F_SP_start_2 14 15 s) fun s21 => bnd (F_SP_absorb 14 15 pb n at_ 32 s21) fun s22 => bnd (F_SP_absorbByte 14 15 v1 s22) fun s23 => bnd (F_SP_absorbByte 14 15 v2 s23) fun s24 => bnd (F_SP_finish 14 15 s24) fun s25 => F_KM_sampleEntry_L0 1000000 0 0 s25
set_option maxHeartbeats 400000 in
set_option maxRecDepth 100000 in
theorem N_KM_sampleEntry (l : Launch) (g : Gd) (sz : Nat) (T : TyN) (s : Sto) (pl : va_W) (hO : okn g T s pl) (hU : inj T) (h0 b : Nat) (pb : Nat) (n : Nat) (at_ : Nat) (v1 : Int32) (v2 : Int32) (k_h0 : T h0 = some 24) (k_b : T b = some pb) (n_b : nsp pb = (1, n, [])) (h1 : at_ + 32 ≤ n) (h2 : n < 65536)  : Met l y_KM_sampleEntry w_KM_sampleEntry ({ frames := 3, cells := 0, slots := 0, locals := 100 } : Room) (va_Pc [.ref h0, .ref b, .int (nI at_), .int v1, .int v2] (pr (en g) g.1 vcl sz ([] ++ pl))) (va_Qv (fun (u : (Sto) × va_W) => (u.1 = F_KM_sampleEntry pb n at_ v1 v2 s ∧ frm (M_KM_sampleEntry) s u.1 ∧ True) ∧ okn g T u.1 u.2) (po g.1 vcl (va_A ([] ++ pl) sz) (fun (u : (Sto) × va_W) => [] ++ u.2)) (va_A ([] ++ pl) sz)) 0 0 (va_A ([] ++ pl) sz) := by
  refine mc_entry (cc := c_KM_sampleEntry) (maxL := 12) (ret := none) (by decide) rfl (Nat.le_of_ble_eq_true rfl) ?_
  intro p e s0 m args below meth c ls F hr hlk hnm hsz hP hD hE hA hl
  obtain ⟨hx, hb, hml, hown, hts⟩ := id F
  have hK := hE.1
  generalize va_A ([] ++ pl) sz = A at hD hE hA ⊢
  have hS : va_S A s0.heap s0.heap [] := va_S.rf
  have hl : lv_has ls 12 [(0, .ref h0), (1, .ref b), (2, .int (nI at_)), (3, .int v1), (4, .int v2)] := hl
  have hR : F_KM_sampleEntry pb n at_ v1 v2 s = F_KM_sampleEntry pb n at_ v1 v2 s := rfl
  have hF : frm (M_KM_sampleEntry) s s := frm_rf
  refine lv_aload_n hx hb dKM_sampleEntry_0 rfl (lv_at hl 0 rfl) ?_
  refine nw_get (C := "LatticeKeys$Kem") (TT := T_KM) (N := 10) hx hb hts (wg_ft i_KM) hown hK hO k_h0 (kn := 24) (ci := 5) (fl := [(3, 14), (3, 20), (3, 25), (3, 30), (3, 31), (3, 32), (3, 33), (3, 34), (3, 35), (3, 36)]) rfl hP rfl 0 (by decide) (hts _ (wg_t kw_107)) (fun _ h9 => h9) (cd := (3, 14)) rfl dKM_sampleEntry_1 (fun v21 hv21 => ?_)
  obtain ⟨r21, rfl, kr21⟩ := (show ∃ r : Nat, v21 = .ref r ∧ T r = some 14 from hv21)
  refine lv_iconst (v := nI 2) hx hb dKM_sampleEntry_4 (by decide) ?_
  refine mp_v (cx := []) (wr := []) hP hD hS hA [] [] rfl rfl rfl (by decide) (va_runV (As := [.int (nI 2)]) (rest := []) F (N_SP_start_2 l g _ T s pl hO hU r21 14 15 kr21 rfl rfl) (cwV 1 hts (wg_app (wg_c kw_578 (wg_c kw_579 (wg_c kw_580 (wg_c kw_2 wg_n)))) kw_581) rfl rfl rfl (by decide +kernel) ⟨by decide, by decide⟩) (pn_W "LatticeKeys$Sponge" (en_ok g) (ci := 3) (kn := 14) (fl := [(3, 15), (0, 0), (0, 0), (0, 0)]) hK hO kr21 rfl hP hD hS hA hE [] rfl rfl rfl) rfl rfl hl.1 rfl (lv_room (Nat.le_of_ble_eq_true rfl)) dKM_sampleEntry_5 ⟨by omega, by omega⟩) (fun  u21 H locs hu21 hP hD hS => ?_)
  obtain ⟨s21, pl⟩ := u21
  obtain ⟨⟨eq21, hFc21, ⟨x21, hx_21, hb_21⟩, ⟨x22, hx_22, hb_22⟩, -⟩, hO⟩ := hu21
  have hO : okn g T s21 pl := hO
  have hP : va_P g.1 vcl ([] ++ pl) _ := hP
  have hD : va_D _ ([] ++ pl) := hD
  have hFc21 : frm (M_SP_start_2 14) s s21 := hFc21
  have hb_21 : x21 = 0 := hb_21
  have hb_22 : x22 = 168 := hb_22
  replace hR := bnd_step hR eq21
  have hF := frm_tr hF hFc21 (fun k hk => by unfold M_SP_start_2 at hk; unfold M_KM_sampleEntry; omega)
  refine W.widen (k := 0) (n := 0) (by omega) (by omega) ?_
  refine lv_aload_n hx hb dKM_sampleEntry_8 rfl (lv_at hl 0 rfl) ?_
  refine nw_get (C := "LatticeKeys$Kem") (TT := T_KM) (N := 10) hx hb hts (wg_ft i_KM) hown hK hO k_h0 (kn := 24) (ci := 5) (fl := [(3, 14), (3, 20), (3, 25), (3, 30), (3, 31), (3, 32), (3, 33), (3, 34), (3, 35), (3, 36)]) rfl hP rfl 0 (by decide) (hts _ (wg_t kw_107)) (fun _ h9 => h9) (cd := (3, 14)) rfl dKM_sampleEntry_9 (fun v22 hv22 => ?_)
  obtain ⟨r22, rfl, kr22⟩ := (show ∃ r : Nat, v22 = .ref r ∧ T r = some 14 from hv22)
  refine lv_aload_n hx hb dKM_sampleEntry_12 rfl (lv_at hl 1 rfl) ?_
  refine lv_iload_n hx hb dKM_sampleEntry_13 rfl (lv_at hl 2 rfl) ?_
  refine lv_bipush (v := nI 32) hx hb dKM_sampleEntry_14 (by decide) ?_
  refine mp_v (cx := []) (wr := []) hP hD hS hA [] [] rfl rfl rfl (by decide) (va_runV (As := [.ref b, .int (nI at_), .int (nI 32)]) (rest := []) F (N_SP_absorb l g _ T s21 pl hO hU r22 b 14 15 pb n at_ 32 x21 x22 kr22 rfl rfl k_b n_b hx_21 hx_22 (by omega) (by omega) (by omega) (by omega)) (cwV 3 hts (wg_app (wg_c kw_585 (wg_c kw_586 (wg_c kw_587 (wg_c kw_2 wg_n)))) kw_588) rfl rfl rfl (by decide +kernel) ⟨by decide, by decide⟩) (pn_W "LatticeKeys$Sponge" (en_ok g) (ci := 3) (kn := 14) (fl := [(3, 15), (0, 0), (0, 0), (0, 0)]) hK hO kr22 rfl hP hD hS hA hE [] rfl rfl rfl) rfl rfl hl.1 rfl (lv_room (Nat.le_of_ble_eq_true rfl)) dKM_sampleEntry_16 ⟨by omega, by omega⟩) (fun  u22 H locs hu22 hP hD hS => ?_)
  obtain ⟨s22, pl⟩ := u22
  obtain ⟨⟨eq22, hFc22, ⟨x24, hx_24, hb_24⟩, ⟨x25, hx_25, hb_25⟩, -⟩, hO⟩ := hu22
  have hO : okn g T s22 pl := hO
  have hP : va_P g.1 vcl ([] ++ pl) _ := hP
  have hD : va_D _ ([] ++ pl) := hD
  have hFc22 : frm (M_SP_absorb 14) s21 s22 := hFc22
  have hb_24 : x24 < x22 := hb_24
  have hb_25 : x25 = x22 := hb_25
  replace hR := bnd_step hR eq22
  have hF := frm_tr hF hFc22 (fun k hk => by unfold M_SP_absorb at hk; unfold M_KM_sampleEntry; omega)
  refine W.widen (k := 0) (n := 0) (by omega) (by omega) ?_
  refine lv_aload_n hx hb dKM_sampleEntry_19 rfl (lv_at hl 0 rfl) ?_
  refine nw_get (C := "LatticeKeys$Kem") (TT := T_KM) (N := 10) hx hb hts (wg_ft i_KM) hown hK hO k_h0 (kn := 24) (ci := 5) (fl := [(3, 14), (3, 20), (3, 25), (3, 30), (3, 31), (3, 32), (3, 33), (3, 34), (3, 35), (3, 36)]) rfl hP rfl 0 (by decide) (hts _ (wg_t kw_107)) (fun _ h9 => h9) (cd := (3, 14)) rfl dKM_sampleEntry_20 (fun v23 hv23 => ?_)
  obtain ⟨r23, rfl, kr23⟩ := (show ∃ r : Nat, v23 = .ref r ∧ T r = some 14 from hv23)
  refine lv_iload_n hx hb dKM_sampleEntry_23 rfl (lv_at hl 3 rfl) ?_
  refine mp_v (cx := []) (wr := []) hP hD hS hA [] [] rfl rfl rfl (by decide) (va_runV (As := [.int v1]) (rest := []) F (N_SP_absorbByte l g _ T s22 pl hO hU r23 14 15 v1 x24 x25 kr23 rfl rfl hx_24 hx_25 (by omega) (by omega)) (cwV 1 hts (wg_app (wg_c kw_609 (wg_c kw_590 (wg_c kw_591 (wg_c kw_2 wg_n)))) kw_592) rfl rfl rfl (by decide +kernel) ⟨by decide, by decide⟩) (pn_W "LatticeKeys$Sponge" (en_ok g) (ci := 3) (kn := 14) (fl := [(3, 15), (0, 0), (0, 0), (0, 0)]) hK hO kr23 rfl hP hD hS hA hE [] rfl rfl rfl) rfl rfl hl.1 rfl (lv_room (Nat.le_of_ble_eq_true rfl)) dKM_sampleEntry_24 ⟨by omega, by omega⟩) (fun  u23 H locs hu23 hP hD hS => ?_)
  obtain ⟨s23, pl⟩ := u23
  obtain ⟨⟨eq23, hFc23, ⟨x27, hx_27, hb_27⟩, ⟨x28, hx_28, hb_28⟩, -⟩, hO⟩ := hu23
  have hO : okn g T s23 pl := hO
  have hP : va_P g.1 vcl ([] ++ pl) _ := hP
  have hD : va_D _ ([] ++ pl) := hD
  have hFc23 : frm (M_SP_absorbByte 14) s22 s23 := hFc23
  have hb_27 : x27 < x25 := hb_27
  have hb_28 : x28 = x25 := hb_28
  replace hR := bnd_step hR eq23
  have hF := frm_tr hF hFc23 (fun k hk => by unfold M_SP_absorbByte at hk; unfold M_KM_sampleEntry; omega)
  refine W.widen (k := 0) (n := 0) (by omega) (by omega) ?_
  refine lv_aload_n hx hb dKM_sampleEntry_27 rfl (lv_at hl 0 rfl) ?_
  refine nw_get (C := "LatticeKeys$Kem") (TT := T_KM) (N := 10) hx hb hts (wg_ft i_KM) hown hK hO k_h0 (kn := 24) (ci := 5) (fl := [(3, 14), (3, 20), (3, 25), (3, 30), (3, 31), (3, 32), (3, 33), (3, 34), (3, 35), (3, 36)]) rfl hP rfl 0 (by decide) (hts _ (wg_t kw_107)) (fun _ h9 => h9) (cd := (3, 14)) rfl dKM_sampleEntry_28 (fun v24 hv24 => ?_)
  obtain ⟨r24, rfl, kr24⟩ := (show ∃ r : Nat, v24 = .ref r ∧ T r = some 14 from hv24)
  refine lv_iload hx hb dKM_sampleEntry_31 (lv_at hl 4 rfl) ?_
  refine mp_v (cx := []) (wr := []) hP hD hS hA [] [] rfl rfl rfl (by decide) (va_runV (As := [.int v2]) (rest := []) F (N_SP_absorbByte l g _ T s23 pl hO hU r24 14 15 v2 x27 x28 kr24 rfl rfl hx_27 hx_28 (by omega) (by omega)) (cwV 1 hts (wg_app (wg_c kw_609 (wg_c kw_590 (wg_c kw_591 (wg_c kw_2 wg_n)))) kw_592) rfl rfl rfl (by decide +kernel) ⟨by decide, by decide⟩) (pn_W "LatticeKeys$Sponge" (en_ok g) (ci := 3) (kn := 14) (fl := [(3, 15), (0, 0), (0, 0), (0, 0)]) hK hO kr24 rfl hP hD hS hA hE [] rfl rfl rfl) rfl rfl hl.1 rfl (lv_room (Nat.le_of_ble_eq_true rfl)) dKM_sampleEntry_33 ⟨by omega, by omega⟩) (fun  u24 H locs hu24 hP hD hS => ?_)
  obtain ⟨s24, pl⟩ := u24
  obtain ⟨⟨eq24, hFc24, ⟨x30, hx_30, hb_30⟩, ⟨x31, hx_31, hb_31⟩, -⟩, hO⟩ := hu24
  have hO : okn g T s24 pl := hO
  have hP : va_P g.1 vcl ([] ++ pl) _ := hP
  have hD : va_D _ ([] ++ pl) := hD
  have hFc24 : frm (M_SP_absorbByte 14) s23 s24 := hFc24
  have hb_30 : x30 < x28 := hb_30
  have hb_31 : x31 = x28 := hb_31
  replace hR := bnd_step hR eq24
  have hF := frm_tr hF hFc24 (fun k hk => by unfold M_SP_absorbByte at hk; unfold M_KM_sampleEntry; omega)
  refine W.widen (k := 0) (n := 0) (by omega) (by omega) ?_
  refine lv_aload_n hx hb dKM_sampleEntry_36 rfl (lv_at hl 0 rfl) ?_
  refine nw_get (C := "LatticeKeys$Kem") (TT := T_KM) (N := 10) hx hb hts (wg_ft i_KM) hown hK hO k_h0 (kn := 24) (ci := 5) (fl := [(3, 14), (3, 20), (3, 25), (3, 30), (3, 31), (3, 32), (3, 33), (3, 34), (3, 35), (3, 36)]) rfl hP rfl 0 (by decide) (hts _ (wg_t kw_107)) (fun _ h9 => h9) (cd := (3, 14)) rfl dKM_sampleEntry_37 (fun v25 hv25 => ?_)
  obtain ⟨r25, rfl, kr25⟩ := (show ∃ r : Nat, v25 = .ref r ∧ T r = some 14 from hv25)
  refine mp_v (cx := []) (wr := []) hP hD hS hA [] [] rfl rfl rfl (by decide) (va_runV (As := []) (rest := []) F (N_SP_finish l g _ T s24 pl hO hU r25 14 15 x30 x31 kr25 rfl rfl hx_30 hx_31 (by omega) (by omega)) (cwV 0 hts (wg_app (wg_c kw_610 (wg_c kw_611 (wg_c kw_612 (wg_c kw_2 wg_n)))) kw_613) rfl rfl rfl (by decide +kernel) ⟨by decide, by decide⟩) (pn_W "LatticeKeys$Sponge" (en_ok g) (ci := 3) (kn := 14) (fl := [(3, 15), (0, 0), (0, 0), (0, 0)]) hK hO kr25 rfl hP hD hS hA hE [] rfl rfl rfl) rfl rfl hl.1 rfl (lv_room (Nat.le_of_ble_eq_true rfl)) dKM_sampleEntry_40 ⟨by omega, by omega⟩) (fun  u25 H locs hu25 hP hD hS => ?_)
  obtain ⟨s25, pl⟩ := u25
  obtain ⟨⟨eq25, hFc25, ⟨x33, hx_33, hb_33⟩, ⟨x34, hx_34, hb_34⟩, -⟩, hO⟩ := hu25
  have hO : okn g T s25 pl := hO
  have hP : va_P g.1 vcl ([] ++ pl) _ := hP
  have hD : va_D _ ([] ++ pl) := hD
  have hFc25 : frm (M_SP_finish 14) s24 s25 := hFc25
  have hb_33 : x33 = x31 := hb_33
  have hb_34 : x34 = x31 := hb_34
  replace hR := bnd_step hR eq25
  have hF := frm_tr hF hFc25 (fun k hk => by unfold M_SP_finish at hk; unfold M_KM_sampleEntry; omega)
  refine W.widen (k := 0) (n := 0) (by omega) (by omega) ?_
  refine lv_iconst (v := nI 0) hx hb dKM_sampleEntry_43 (by decide) ?_
  refine lv_istore (lv' := [(5, .int (nI 0)), (0, .ref h0), (1, .ref b), (2, .int (nI at_)), (3, .int v1), (4, .int v2)]) hx hb dKM_sampleEntry_44 hl (by decide) rfl (fun ls hl => ?_)
  refine lv_iconst (v := nI 0) hx hb dKM_sampleEntry_46 (by decide) ?_
  refine lv_istore (lv' := [(6, .int (nI 0)), (5, .int (nI 0)), (0, .ref h0), (1, .ref b), (2, .int (nI at_)), (3, .int v1), (4, .int v2)]) hx hb dKM_sampleEntry_47 hl (by decide) rfl (fun ls hl => ?_)
  have lp21 : ∀ (n21 : Nat) (i21 : Nat) (fl21 : Nat) (s26 : Sto) (ps21 : Nat) (pl : va_W) (ls : Array Slot) (H : Heap) (locs : List Loc), n21 + i21 = 1000000 → (fl21 ≤ 256) → (ps21 ≤ 168) → frm (M_KM_sampleEntry) s s26 → s26.1 14 3 = nI ps21 → s26.1 14 1 = nI x34 → F_KM_sampleEntry pb n at_ v1 v2 s = F_KM_sampleEntry_L0 n21 i21 fl21 s26 → lv_has ls 12 [(6, .int (nI i21)), (5, .int (nI fl21)), (0, .ref h0)] → okn g T s26 pl → va_P g.1 vcl ([] ++ pl) H → va_D A ([] ++ pl) → va_S A s0.heap H locs → W p l e ({ frames := 3, cells := 0, slots := 0, locals := 100 } : Room) s0 m args below meth c H locs 0 0 (MQ below (va_Qv (fun (u : (Sto) × va_W) => (u.1 = F_KM_sampleEntry pb n at_ v1 v2 s ∧ frm (M_KM_sampleEntry) s u.1 ∧ True) ∧ okn g T u.1 u.2) (po g.1 vcl A (fun (u : (Sto) × va_W) => [] ++ u.2)) A) args s0 0 0 A) (F0 m 49 ls []) := by
    intro n21
    induction n21 with
    | zero =>
      intro i21 fl21 s26 ps21 pl ls H locs hm21 hi21 hi22 hF hf21 hf22 hR hl hO hP hD hS
      refine lv_iload hx hb dKM_sampleEntry_49 (lv_at hl 1 rfl) ?_
      refine lv_sipush (v := nI 256) hx hb dKM_sampleEntry_51 (by decide) ?_
      refine mi_ge (tgt := 169) hx hb dKM_sampleEntry_54 (by decide) (by omega) (by omega) (fun h21 => ?_) (fun h21 => ?_)
      · replace hR := hR.trans (if_pos h21)
        exact mp_vret hx hb hr hlk hP hD hS (s26, pl) ⟨⟨hR.symm, hF, trivial⟩, hO⟩ [] rfl rfl rfl (by omega) (by omega) dKM_sampleEntry_169
      · replace hR := hR.trans (if_neg (Nat.not_le.mpr h21))
        refine lv_iload hx hb dKM_sampleEntry_57 (lv_at hl 0 rfl) ?_
        refine lv_ldc (v := 1000000) hx hb hown (hts _ (wg_t kw_651)) dKM_sampleEntry_59 ?_
        refine mi_as (show (1000000 : Int32) = nI 1000000 by decide) ?_
        refine mi_ge (tgt := 169) hx hb dKM_sampleEntry_61 (by decide) (by omega) (by omega) (fun h22 => ?_) (fun h22 => absurd h22 (by omega))
        exact mp_vret hx hb hr hlk hP hD hS (s26, pl) ⟨⟨hR.symm, hF, trivial⟩, hO⟩ [] rfl rfl rfl (by omega) (by omega) dKM_sampleEntry_169
    | succ n21 ih21 =>
      intro i21 fl21 s26 ps21 pl ls H locs hm21 hi21 hi22 hF hf23 hf24 hR hl hO hP hD hS
      refine lv_iload hx hb dKM_sampleEntry_49 (lv_at hl 1 rfl) ?_
      refine lv_sipush (v := nI 256) hx hb dKM_sampleEntry_51 (by decide) ?_
      refine mi_ge (tgt := 169) hx hb dKM_sampleEntry_54 (by decide) (by omega) (by omega) (fun h23 => ?_) (fun h23 => ?_)
      · replace hR := hR.trans (if_pos h23)
        exact mp_vret hx hb hr hlk hP hD hS (s26, pl) ⟨⟨hR.symm, hF, trivial⟩, hO⟩ [] rfl rfl rfl (by omega) (by omega) dKM_sampleEntry_169
      · replace hR := hR.trans (if_neg (Nat.not_le.mpr h23))
        refine lv_iload hx hb dKM_sampleEntry_57 (lv_at hl 0 rfl) ?_
        refine lv_ldc (v := 1000000) hx hb hown (hts _ (wg_t kw_651)) dKM_sampleEntry_59 ?_
        refine mi_as (show (1000000 : Int32) = nI 1000000 by decide) ?_
        refine mi_ge (tgt := 169) hx hb dKM_sampleEntry_61 (by decide) (by omega) (by omega) (fun h24 => absurd h24 (by omega)) (fun h24 => ?_)
        refine lv_aload_n hx hb dKM_sampleEntry_64 rfl (lv_at hl 2 rfl) ?_
        refine nw_get (C := "LatticeKeys$Kem") (TT := T_KM) (N := 10) hx hb hts (wg_ft i_KM) hown hK hO k_h0 (kn := 24) (ci := 5) (fl := [(3, 14), (3, 20), (3, 25), (3, 30), (3, 31), (3, 32), (3, 33), (3, 34), (3, 35), (3, 36)]) rfl hP rfl 0 (by decide) (hts _ (wg_t kw_107)) (fun _ h9 => h9) (cd := (3, 14)) rfl dKM_sampleEntry_65 (fun v26 hv26 => ?_)
        obtain ⟨r26, rfl, kr26⟩ := (show ∃ r : Nat, v26 = .ref r ∧ T r = some 14 from hv26)
        refine mp_i (cx := []) (wr := []) hP hD hS hA [] [] rfl rfl rfl (by decide) (va_runV (As := []) (rest := []) F (N_SP_nextByte l g _ T s26 pl hO hU r26 14 15 ps21 x34 kr26 rfl rfl hf23 hf24 (by omega) (by omega)) (cwV 0 hts (wg_app (wg_c kw_652 (wg_c kw_619 (wg_c kw_620 (wg_c kw_2 wg_n)))) kw_621) rfl rfl rfl (by decide +kernel) ⟨by decide, by decide⟩) (pn_W "LatticeKeys$Sponge" (en_ok g) (ci := 3) (kn := 14) (fl := [(3, 15), (0, 0), (0, 0), (0, 0)]) hK hO kr26 rfl hP hD hS hA hE [] rfl rfl rfl) rfl rfl hl.1 rfl (lv_room (Nat.le_of_ble_eq_true rfl)) dKM_sampleEntry_68 ⟨by omega, by omega⟩) (fun r27 u26 H locs hu26 hP hD hS => ?_)
        obtain ⟨q21, pl⟩ := u26
        obtain ⟨⟨eq26, rfl, hFc26, ⟨x38, hx_38, hb_38⟩, ⟨x36, hx_36, hb_36⟩, ⟨x37, hx_37, hb_37⟩, -⟩, hO⟩ := hu26
        have hO : okn g T q21.2 pl := hO
        have hP : va_P g.1 vcl ([] ++ pl) _ := hP
        have hD : va_D _ ([] ++ pl) := hD
        have hFc26 : frm (M_SP_nextByte 14) s26 q21.2 := hFc26
        have hb_36 : x36 ≤ x34 := hb_36
        have hb_37 : x37 = x34 := hb_37
        have hb_38 : x38 < 256 := hb_38
        replace hR := bnd_step hR eq26
        have hF := frm_tr hF hFc26 (fun k hk => by unfold M_SP_nextByte at hk; unfold M_KM_sampleEntry; omega)
        obtain ⟨z21, ez21, hz21, hz22⟩ := cl_of (b := 2147483648) hx_38 (by omega) (by decide)
        replace hR := bnd_step hR ez21
        refine mi_as hz21 ?_
        refine W.widen (k := 0) (n := 0) (by omega) (by omega) ?_
        refine lv_istore (lv' := [(7, .int (nI z21)), (6, .int (nI i21)), (5, .int (nI fl21)), (0, .ref h0)]) hx hb dKM_sampleEntry_71 hl (by decide) rfl (fun ls hl => ?_)
        refine lv_aload_n hx hb dKM_sampleEntry_73 rfl (lv_at hl 3 rfl) ?_
        refine nw_get (C := "LatticeKeys$Kem") (TT := T_KM) (N := 10) hx hb hts (wg_ft i_KM) hown hK hO k_h0 (kn := 24) (ci := 5) (fl := [(3, 14), (3, 20), (3, 25), (3, 30), (3, 31), (3, 32), (3, 33), (3, 34), (3, 35), (3, 36)]) rfl hP rfl 0 (by decide) (hts _ (wg_t kw_107)) (fun _ h9 => h9) (cd := (3, 14)) rfl dKM_sampleEntry_74 (fun v27 hv27 => ?_)
        obtain ⟨r28, rfl, kr27⟩ := (show ∃ r : Nat, v27 = .ref r ∧ T r = some 14 from hv27)
        refine mp_i (cx := []) (wr := []) hP hD hS hA [] [] rfl rfl rfl (by decide) (va_runV (As := []) (rest := []) F (N_SP_nextByte l g _ T q21.2 pl hO hU r28 14 15 x36 x37 kr27 rfl rfl hx_36 hx_37 (by omega) (by omega)) (cwV 0 hts (wg_app (wg_c kw_652 (wg_c kw_619 (wg_c kw_620 (wg_c kw_2 wg_n)))) kw_621) rfl rfl rfl (by decide +kernel) ⟨by decide, by decide⟩) (pn_W "LatticeKeys$Sponge" (en_ok g) (ci := 3) (kn := 14) (fl := [(3, 15), (0, 0), (0, 0), (0, 0)]) hK hO kr27 rfl hP hD hS hA hE [] rfl rfl rfl) rfl rfl hl.1 rfl (lv_room (Nat.le_of_ble_eq_true rfl)) dKM_sampleEntry_77 ⟨by omega, by omega⟩) (fun r29 u27 H locs hu27 hP hD hS => ?_)
        obtain ⟨q22, pl⟩ := u27
        obtain ⟨⟨eq27, rfl, hFc27, ⟨x41, hx_41, hb_41⟩, ⟨x39, hx_39, hb_39⟩, ⟨x40, hx_40, hb_40⟩, -⟩, hO⟩ := hu27
        have hO : okn g T q22.2 pl := hO
        have hP : va_P g.1 vcl ([] ++ pl) _ := hP
        have hD : va_D _ ([] ++ pl) := hD
        have hFc27 : frm (M_SP_nextByte 14) q21.2 q22.2 := hFc27
        have hb_39 : x39 ≤ x37 := hb_39
        have hb_40 : x40 = x37 := hb_40
        have hb_41 : x41 < 256 := hb_41
        replace hR := bnd_step hR eq27
        have hF := frm_tr hF hFc27 (fun k hk => by unfold M_SP_nextByte at hk; unfold M_KM_sampleEntry; omega)
        obtain ⟨z22, ez22, hz23, hz24⟩ := cl_of (b := 2147483648) hx_41 (by omega) (by decide)
        replace hR := bnd_step hR ez22
        refine mi_as hz23 ?_
        refine W.widen (k := 0) (n := 0) (by omega) (by omega) ?_
        refine lv_istore (lv' := [(8, .int (nI z22)), (7, .int (nI z21)), (6, .int (nI i21)), (5, .int (nI fl21)), (0, .ref h0)]) hx hb dKM_sampleEntry_80 hl (by decide) rfl (fun ls hl => ?_)
        refine lv_aload_n hx hb dKM_sampleEntry_82 rfl (lv_at hl 4 rfl) ?_
        refine nw_get (C := "LatticeKeys$Kem") (TT := T_KM) (N := 10) hx hb hts (wg_ft i_KM) hown hK hO k_h0 (kn := 24) (ci := 5) (fl := [(3, 14), (3, 20), (3, 25), (3, 30), (3, 31), (3, 32), (3, 33), (3, 34), (3, 35), (3, 36)]) rfl hP rfl 0 (by decide) (hts _ (wg_t kw_107)) (fun _ h9 => h9) (cd := (3, 14)) rfl dKM_sampleEntry_83 (fun v28 hv28 => ?_)
        obtain ⟨r30, rfl, kr28⟩ := (show ∃ r : Nat, v28 = .ref r ∧ T r = some 14 from hv28)
        refine mp_i (cx := []) (wr := []) hP hD hS hA [] [] rfl rfl rfl (by decide) (va_runV (As := []) (rest := []) F (N_SP_nextByte l g _ T q22.2 pl hO hU r30 14 15 x39 x40 kr28 rfl rfl hx_39 hx_40 (by omega) (by omega)) (cwV 0 hts (wg_app (wg_c kw_652 (wg_c kw_619 (wg_c kw_620 (wg_c kw_2 wg_n)))) kw_621) rfl rfl rfl (by decide +kernel) ⟨by decide, by decide⟩) (pn_W "LatticeKeys$Sponge" (en_ok g) (ci := 3) (kn := 14) (fl := [(3, 15), (0, 0), (0, 0), (0, 0)]) hK hO kr28 rfl hP hD hS hA hE [] rfl rfl rfl) rfl rfl hl.1 rfl (lv_room (Nat.le_of_ble_eq_true rfl)) dKM_sampleEntry_86 ⟨by omega, by omega⟩) (fun r31 u28 H locs hu28 hP hD hS => ?_)
        obtain ⟨q23, pl⟩ := u28
        obtain ⟨⟨eq28, rfl, hFc28, ⟨x44, hx_44, hb_44⟩, ⟨x42, hx_42, hb_42⟩, ⟨x43, hx_43, hb_43⟩, -⟩, hO⟩ := hu28
        have hO : okn g T q23.2 pl := hO
        have hP : va_P g.1 vcl ([] ++ pl) _ := hP
        have hD : va_D _ ([] ++ pl) := hD
        have hFc28 : frm (M_SP_nextByte 14) q22.2 q23.2 := hFc28
        have hb_42 : x42 ≤ x40 := hb_42
        have hb_43 : x43 = x40 := hb_43
        have hb_44 : x44 < 256 := hb_44
        replace hR := bnd_step hR eq28
        have hF := frm_tr hF hFc28 (fun k hk => by unfold M_SP_nextByte at hk; unfold M_KM_sampleEntry; omega)
        obtain ⟨z23, ez23, hz25, hz26⟩ := cl_of (b := 2147483648) hx_44 (by omega) (by decide)
        replace hR := bnd_step hR ez23
        refine mi_as hz25 ?_
        refine W.widen (k := 0) (n := 0) (by omega) (by omega) ?_
        refine lv_istore (lv' := [(9, .int (nI z23)), (8, .int (nI z22)), (7, .int (nI z21)), (6, .int (nI i21)), (5, .int (nI fl21)), (0, .ref h0)]) hx hb dKM_sampleEntry_89 hl (by decide) rfl (fun ls hl => ?_)
        refine lv_iload hx hb dKM_sampleEntry_91 (lv_at hl 2 rfl) ?_
        refine lv_iload hx hb dKM_sampleEntry_93 (lv_at hl 1 rfl) ?_
        refine lv_bipush (v := nI 15) hx hb dKM_sampleEntry_95 (by decide) ?_
        refine lv_iand hx hb dKM_sampleEntry_97 ?_
        refine lv_bipush (v := nI 8) hx hb dKM_sampleEntry_98 (by decide) ?_
        refine lv_ishl hx hb dKM_sampleEntry_100 ?_
        refine lv_ior hx hb dKM_sampleEntry_101 ?_
        refine mi_eqv (fun z24 ez24 => ?_)
        replace hR := bnd_step hR ez24
        refine lv_istore (lv' := [(10, .int z24), (9, .int (nI z23)), (8, .int (nI z22)), (7, .int (nI z21)), (6, .int (nI i21)), (5, .int (nI fl21)), (0, .ref h0)]) hx hb dKM_sampleEntry_102 hl (by decide) rfl (fun ls hl => ?_)
        refine lv_iload hx hb dKM_sampleEntry_104 (lv_at hl 2 rfl) ?_
        refine lv_iconst (v := nI 4) hx hb dKM_sampleEntry_106 (by decide) ?_
        refine mi_ishr hx hb dKM_sampleEntry_107 (by omega) (by decide) ?_
        refine mi_as (show nI (z22 / 2 ^ 4) = nI (z22 / 16) from rfl) ?_
        refine lv_iload hx hb dKM_sampleEntry_108 (lv_at hl 1 rfl) ?_
        refine lv_iconst (v := nI 4) hx hb dKM_sampleEntry_110 (by decide) ?_
        refine lv_ishl hx hb dKM_sampleEntry_111 ?_
        refine lv_ior hx hb dKM_sampleEntry_112 ?_
        refine mi_eqv (fun z25 ez25 => ?_)
        replace hR := bnd_step hR ez25
        refine lv_istore (lv' := [(11, .int z25), (10, .int z24), (9, .int (nI z23)), (8, .int (nI z22)), (7, .int (nI z21)), (6, .int (nI i21)), (5, .int (nI fl21)), (0, .ref h0)]) hx hb dKM_sampleEntry_113 hl (by decide) rfl (fun ls hl => ?_)
        refine lv_iload hx hb dKM_sampleEntry_115 (lv_at hl 1 rfl) ?_
        refine lv_sipush (v := nI 3329) hx hb dKM_sampleEntry_117 (by decide) ?_
        refine lv_icmp_ge (tgt := 135) hx hb dKM_sampleEntry_120 (by decide) (fun h25 => ?_) (fun h25 => ?_)
        · replace hR := hR.trans (if_pos h25)
          refine lv_iload hx hb dKM_sampleEntry_135 (lv_at hl 0 rfl) ?_
          refine lv_sipush (v := nI 3329) hx hb dKM_sampleEntry_137 (by decide) ?_
          refine lv_icmp_ge (tgt := 163) hx hb dKM_sampleEntry_140 (by decide) (fun h26 => ?_) (fun h26 => ?_)
          · replace hR := hR.trans (if_pos h26)
            refine mi_iinc (k := 5) (x := i21) (d := 1) (y := i21 + 1) (lv' := [(6, .int (nI (i21 + 1))), (11, .int z25), (10, .int z24), (9, .int (nI z23)), (8, .int (nI z22)), (7, .int (nI z21)), (5, .int (nI fl21)), (0, .ref h0)]) hx hb dKM_sampleEntry_163 hl rfl (by decide) rfl (by decide) rfl (fun ls hl => ?_)
            refine lv_goto (tgt := 49) hx hb dKM_sampleEntry_166 (by decide) ?_
            exact ih21 (i21 + 1) fl21 q23.2 x42 pl ls H locs (by omega) (by omega) (by omega) hF hx_42 (by have h9 := hx_43; rw [show x43 = x34 by omega] at h9; exact h9) hR (lv_sub hl [0, 6, 7] rfl) hO hP hD hS
          · replace hR := hR.trans (if_neg h26)
            refine lv_iload hx hb dKM_sampleEntry_143 (lv_at hl 6 rfl) ?_
            refine lv_sipush (v := nI 256) hx hb dKM_sampleEntry_145 (by decide) ?_
            refine mi_ge (tgt := 163) hx hb dKM_sampleEntry_148 (by decide) (by omega) (by omega) (fun h27 => ?_) (fun h27 => ?_)
            · replace hR := hR.trans (if_pos h27)
              refine mi_iinc (k := 5) (x := i21) (d := 1) (y := i21 + 1) (lv' := [(6, .int (nI (i21 + 1))), (11, .int z25), (10, .int z24), (9, .int (nI z23)), (8, .int (nI z22)), (7, .int (nI z21)), (5, .int (nI fl21)), (0, .ref h0)]) hx hb dKM_sampleEntry_163 hl rfl (by decide) rfl (by decide) rfl (fun ls hl => ?_)
              refine lv_goto (tgt := 49) hx hb dKM_sampleEntry_166 (by decide) ?_
              exact ih21 (i21 + 1) fl21 q23.2 x42 pl ls H locs (by omega) (by omega) (by omega) hF hx_42 (by have h9 := hx_43; rw [show x43 = x34 by omega] at h9; exact h9) hR (lv_sub hl [0, 6, 7] rfl) hO hP hD hS
            · replace hR := hR.trans (if_neg (Nat.not_le.mpr h27))
              refine lv_aload_n hx hb dKM_sampleEntry_151 rfl (lv_at hl 7 rfl) ?_
              refine nw_get (C := "LatticeKeys$Kem") (TT := T_KM) (N := 10) hx hb hts (wg_ft i_KM) hown hK hO k_h0 (kn := 24) (ci := 5) (fl := [(3, 14), (3, 20), (3, 25), (3, 30), (3, 31), (3, 32), (3, 33), (3, 34), (3, 35), (3, 36)]) rfl hP rfl 4 (by decide) (hts _ (wg_t kw_111)) (fun _ h9 => h9) (cd := (3, 31)) rfl dKM_sampleEntry_152 (fun v29 hv29 => ?_)
              obtain ⟨r32, rfl, kr29⟩ := (show ∃ r : Nat, v29 = .ref r ∧ T r = some 31 from hv29)
              refine lv_iload hx hb dKM_sampleEntry_155 (lv_at hl 6 rfl) ?_
              refine lv_iload hx hb dKM_sampleEntry_157 (lv_at hl 0 rfl) ?_
              refine nw_iast hx hb hK hO hU kr29 (k := 31) rfl hP hD hS (by omega) (by omega) dKM_sampleEntry_159 (fun s27 pl H locs es21 hO hP hD hS => ?_)
              replace hR := bnd_step hR es21
              have hF := frm_sI hF es21 (by unfold M_KM_sampleEntry; omega)
              have hf25 : s27.1 14 3 = nI x42 := fc_ne hx_42 es21 (by omega)
              have hf26 : s27.1 14 1 = nI x43 := fc_ne hx_43 es21 (by omega)
              refine mi_iinc (k := 6) (x := fl21) (d := 1) (y := fl21 + 1) (lv' := [(5, .int (nI (fl21 + 1))), (11, .int z25), (10, .int z24), (9, .int (nI z23)), (8, .int (nI z22)), (7, .int (nI z21)), (6, .int (nI i21)), (0, .ref h0)]) hx hb dKM_sampleEntry_160 hl rfl (by decide) rfl (by decide) rfl (fun ls hl => ?_)
              refine mi_iinc (k := 6) (x := i21) (d := 1) (y := i21 + 1) (lv' := [(6, .int (nI (i21 + 1))), (5, .int (nI (fl21 + 1))), (11, .int z25), (10, .int z24), (9, .int (nI z23)), (8, .int (nI z22)), (7, .int (nI z21)), (0, .ref h0)]) hx hb dKM_sampleEntry_163 hl rfl (by decide) rfl (by decide) rfl (fun ls hl => ?_)
              refine lv_goto (tgt := 49) hx hb dKM_sampleEntry_166 (by decide) ?_
              exact ih21 (i21 + 1) (fl21 + 1) s27 x42 pl ls H locs (by omega) (by omega) (by omega) hF hf25 (by have h9 := hf26; rw [show x43 = x34 by omega] at h9; exact h9) hR (lv_sub hl [0, 1, 7] rfl) hO hP hD hS
        · replace hR := hR.trans (if_neg h25)
          refine lv_aload_n hx hb dKM_sampleEntry_123 rfl (lv_at hl 7 rfl) ?_
          refine nw_get (C := "LatticeKeys$Kem") (TT := T_KM) (N := 10) hx hb hts (wg_ft i_KM) hown hK hO k_h0 (kn := 24) (ci := 5) (fl := [(3, 14), (3, 20), (3, 25), (3, 30), (3, 31), (3, 32), (3, 33), (3, 34), (3, 35), (3, 36)]) rfl hP rfl 4 (by decide) (hts _ (wg_t kw_111)) (fun _ h9 => h9) (cd := (3, 31)) rfl dKM_sampleEntry_124 (fun v30 hv30 => ?_)
          obtain ⟨r33, rfl, kr30⟩ := (show ∃ r : Nat, v30 = .ref r ∧ T r = some 31 from hv30)
          refine lv_iload hx hb dKM_sampleEntry_127 (lv_at hl 6 rfl) ?_
          refine lv_iload hx hb dKM_sampleEntry_129 (lv_at hl 1 rfl) ?_
          refine nw_iast hx hb hK hO hU kr30 (k := 31) rfl hP hD hS (by omega) (by omega) dKM_sampleEntry_131 (fun s28 pl H locs es22 hO hP hD hS => ?_)
          replace hR := bnd_step hR es22
          have hF := frm_sI hF es22 (by unfold M_KM_sampleEntry; omega)
          have hf27 : s28.1 14 3 = nI x42 := fc_ne hx_42 es22 (by omega)
          have hf28 : s28.1 14 1 = nI x43 := fc_ne hx_43 es22 (by omega)
          refine mi_iinc (k := 6) (x := fl21) (d := 1) (y := fl21 + 1) (lv' := [(5, .int (nI (fl21 + 1))), (11, .int z25), (10, .int z24), (9, .int (nI z23)), (8, .int (nI z22)), (7, .int (nI z21)), (6, .int (nI i21)), (0, .ref h0)]) hx hb dKM_sampleEntry_132 hl rfl (by decide) rfl (by decide) rfl (fun ls hl => ?_)
          refine lv_iload hx hb dKM_sampleEntry_135 (lv_at hl 1 rfl) ?_
          refine lv_sipush (v := nI 3329) hx hb dKM_sampleEntry_137 (by decide) ?_
          refine lv_icmp_ge (tgt := 163) hx hb dKM_sampleEntry_140 (by decide) (fun h28 => ?_) (fun h28 => ?_)
          · replace hR := hR.trans (if_pos h28)
            refine mi_iinc (k := 6) (x := i21) (d := 1) (y := i21 + 1) (lv' := [(6, .int (nI (i21 + 1))), (5, .int (nI (fl21 + 1))), (11, .int z25), (10, .int z24), (9, .int (nI z23)), (8, .int (nI z22)), (7, .int (nI z21)), (0, .ref h0)]) hx hb dKM_sampleEntry_163 hl rfl (by decide) rfl (by decide) rfl (fun ls hl => ?_)
            refine lv_goto (tgt := 49) hx hb dKM_sampleEntry_166 (by decide) ?_
            exact ih21 (i21 + 1) (fl21 + 1) s28 x42 pl ls H locs (by omega) (by omega) (by omega) hF hf27 (by have h9 := hf28; rw [show x43 = x34 by omega] at h9; exact h9) hR (lv_sub hl [0, 1, 7] rfl) hO hP hD hS
          · replace hR := hR.trans (if_neg h28)
            refine lv_iload hx hb dKM_sampleEntry_143 (lv_at hl 0 rfl) ?_
            refine lv_sipush (v := nI 256) hx hb dKM_sampleEntry_145 (by decide) ?_
            refine mi_ge (tgt := 163) hx hb dKM_sampleEntry_148 (by decide) (by omega) (by omega) (fun h29 => ?_) (fun h29 => ?_)
            · replace hR := hR.trans (if_pos h29)
              refine mi_iinc (k := 6) (x := i21) (d := 1) (y := i21 + 1) (lv' := [(6, .int (nI (i21 + 1))), (5, .int (nI (fl21 + 1))), (11, .int z25), (10, .int z24), (9, .int (nI z23)), (8, .int (nI z22)), (7, .int (nI z21)), (0, .ref h0)]) hx hb dKM_sampleEntry_163 hl rfl (by decide) rfl (by decide) rfl (fun ls hl => ?_)
              refine lv_goto (tgt := 49) hx hb dKM_sampleEntry_166 (by decide) ?_
              exact ih21 (i21 + 1) (fl21 + 1) s28 x42 pl ls H locs (by omega) (by omega) (by omega) hF hf27 (by have h9 := hf28; rw [show x43 = x34 by omega] at h9; exact h9) hR (lv_sub hl [0, 1, 7] rfl) hO hP hD hS
            · replace hR := hR.trans (if_neg (Nat.not_le.mpr h29))
              refine lv_aload_n hx hb dKM_sampleEntry_151 rfl (lv_at hl 7 rfl) ?_
              refine nw_get (C := "LatticeKeys$Kem") (TT := T_KM) (N := 10) hx hb hts (wg_ft i_KM) hown hK hO k_h0 (kn := 24) (ci := 5) (fl := [(3, 14), (3, 20), (3, 25), (3, 30), (3, 31), (3, 32), (3, 33), (3, 34), (3, 35), (3, 36)]) rfl hP rfl 4 (by decide) (hts _ (wg_t kw_111)) (fun _ h9 => h9) (cd := (3, 31)) rfl dKM_sampleEntry_152 (fun v31 hv31 => ?_)
              obtain ⟨r34, rfl, kr31⟩ := (show ∃ r : Nat, v31 = .ref r ∧ T r = some 31 from hv31)
              refine lv_iload hx hb dKM_sampleEntry_155 (lv_at hl 0 rfl) ?_
              refine lv_iload hx hb dKM_sampleEntry_157 (lv_at hl 1 rfl) ?_
              refine nw_iast hx hb hK hO hU kr31 (k := 31) rfl hP hD hS (by omega) (by omega) dKM_sampleEntry_159 (fun s29 pl H locs es23 hO hP hD hS => ?_)
              replace hR := bnd_step hR es23
              have hF := frm_sI hF es23 (by unfold M_KM_sampleEntry; omega)
              have hf29 : s29.1 14 3 = nI x42 := fc_ne hf27 es23 (by omega)
              have hf30 : s29.1 14 1 = nI x43 := fc_ne hf28 es23 (by omega)
              refine mi_iinc (k := 0) (x := fl21 + 1) (d := 1) (y := fl21 + 1 + 1) (lv' := [(5, .int (nI (fl21 + 1 + 1))), (11, .int z25), (10, .int z24), (9, .int (nI z23)), (8, .int (nI z22)), (7, .int (nI z21)), (6, .int (nI i21)), (0, .ref h0)]) hx hb dKM_sampleEntry_160 hl rfl (by decide) rfl (by decide) rfl (fun ls hl => ?_)
              refine mi_iinc (k := 6) (x := i21) (d := 1) (y := i21 + 1) (lv' := [(6, .int (nI (i21 + 1))), (5, .int (nI (fl21 + 1 + 1))), (11, .int z25), (10, .int z24), (9, .int (nI z23)), (8, .int (nI z22)), (7, .int (nI z21)), (0, .ref h0)]) hx hb dKM_sampleEntry_163 hl rfl (by decide) rfl (by decide) rfl (fun ls hl => ?_)
              refine lv_goto (tgt := 49) hx hb dKM_sampleEntry_166 (by decide) ?_
              exact ih21 (i21 + 1) (fl21 + 1 + 1) s29 x42 pl ls H locs (by omega) (by omega) (by omega) hF hf29 (by have h9 := hf30; rw [show x43 = x34 by omega] at h9; exact h9) hR (lv_sub hl [0, 1, 7] rfl) hO hP hD hS
  exact lp21 1000000 0 0 s25 x33 pl ls _ _ (by omega) (by omega) (by omega) hF hx_33 hx_34 hR (lv_sub hl [0, 1, 2] rfl) hO hP hD hS
def M_KM_sampleNoise_2 (pf : Nat) (k : Nat) : Prop := k = 14 ∨ k = 35 ∨ k = pf ∨ (0 : Nat) = 1
noncomputable def F_KM_sampleNoise_2_L0 (pf : Nat) : Nat → Nat → Sto → Sto
  | 0, i21, s27 => s27
  | n21 + 1, i21, s27 => bnd (F_JI_bitCount ((s27.1 pf i21) &&& (nI 3)) s27) fun q21 => bnd (F_JI_bitCount ((q21.2.1 pf i21) >>> ((nI 2) &&& 31)) q21.2) fun q22 => bnd (((q21.1) - (q22.1))) fun z21 => if 0 ≤ z21 then bnd (sI q22.2 pf i21 z21) fun s28 => F_KM_sampleNoise_2_L0 pf n21 (i21 + 1) s28 else bnd (sI q22.2 pf i21 (z21 + (nI 3329))) fun s29 => F_KM_sampleNoise_2_L0 pf n21 (i21 + 1) s29
noncomputable def F_KM_sampleNoise_2 (pf : Nat) (wh : Int32) (s : Sto) : Sto := bnd (F_SP_start_3 14 15 s) fun s21 => bnd (F_SP_absorb 14 15 34 64 32 32 s21) fun s22 => bnd (F_SP_absorbByte 14 15 wh s22) fun s23 => bnd (F_SP_finish 14 15 s23) fun s24 => bnd (F_SP_squeeze 14 15 35 192 0 128 s24) fun s25 => bnd (F_BT_unpack pf 4 35 192 0 s25) fun s26 => F_KM_sampleNoise_2_L0 pf 256 0 s26
set_option maxHeartbeats 400000 in
set_option maxRecDepth 100000 in
theorem N_KM_sampleNoise_2 (l : Launch) (g : Gd) (sz : Nat) (T : TyN) (s : Sto) (pl : va_W) (hO : okn g T s pl) (hU : inj T) (h0 f : Nat) (pf : Nat) (wh : Int32) (k_h0 : T h0 = some 24) (k_f : T f = some pf) (n_f : nsp pf = (0, 256, []))  : Met l y_KM_sampleNoise w_KM_sampleNoise ({ frames := 3, cells := 0, slots := 0, locals := 100 } : Room) (va_Pc [.ref h0, .ref f, .int (nI 2), .int wh] (pr (en g) g.1 vcl sz ([] ++ pl))) (va_Qv (fun (u : (Sto) × va_W) => (u.1 = F_KM_sampleNoise_2 pf wh s ∧ frm (M_KM_sampleNoise_2 pf) s u.1 ∧ True) ∧ okn g T u.1 u.2) (po g.1 vcl (va_A ([] ++ pl) sz) (fun (u : (Sto) × va_W) => [] ++ u.2)) (va_A ([] ++ pl) sz)) 0 0 (va_A ([] ++ pl) sz) := by
  refine mc_entry (cc := c_KM_sampleNoise) (maxL := 7) (ret := none) (by decide) rfl (Nat.le_of_ble_eq_true rfl) ?_
  intro p e s0 m args below meth c ls F hr hlk hnm hsz hP hD hE hA hl
  obtain ⟨hx, hb, hml, hown, hts⟩ := id F
  have hK := hE.1
  generalize va_A ([] ++ pl) sz = A at hD hE hA ⊢
  have hS : va_S A s0.heap s0.heap [] := va_S.rf
  have hl : lv_has ls 7 [(0, .ref h0), (1, .ref f), (2, .int (nI 2)), (3, .int wh)] := hl
  have hR : F_KM_sampleNoise_2 pf wh s = F_KM_sampleNoise_2 pf wh s := rfl
  have hF : frm (M_KM_sampleNoise_2 pf) s s := frm_rf
  refine lv_aload_n hx hb dKM_sampleNoise_0 rfl (lv_at hl 0 rfl) ?_
  refine nw_get (C := "LatticeKeys$Kem") (TT := T_KM) (N := 10) hx hb hts (wg_ft i_KM) hown hK hO k_h0 (kn := 24) (ci := 5) (fl := [(3, 14), (3, 20), (3, 25), (3, 30), (3, 31), (3, 32), (3, 33), (3, 34), (3, 35), (3, 36)]) rfl hP rfl 0 (by decide) (hts _ (wg_t kw_107)) (fun _ h9 => h9) (cd := (3, 14)) rfl dKM_sampleNoise_1 (fun v21 hv21 => ?_)
  obtain ⟨r21, rfl, kr21⟩ := (show ∃ r : Nat, v21 = .ref r ∧ T r = some 14 from hv21)
  refine lv_iconst (v := nI 3) hx hb dKM_sampleNoise_4 (by decide) ?_
  refine mp_v (cx := []) (wr := []) hP hD hS hA [] [] rfl rfl rfl (by decide) (va_runV (As := [.int (nI 3)]) (rest := []) F (N_SP_start_3 l g _ T s pl hO hU r21 14 15 kr21 rfl rfl) (cwV 1 hts (wg_app (wg_c kw_578 (wg_c kw_579 (wg_c kw_580 (wg_c kw_2 wg_n)))) kw_581) rfl rfl rfl (by decide +kernel) ⟨by decide, by decide⟩) (pn_W "LatticeKeys$Sponge" (en_ok g) (ci := 3) (kn := 14) (fl := [(3, 15), (0, 0), (0, 0), (0, 0)]) hK hO kr21 rfl hP hD hS hA hE [] rfl rfl rfl) rfl rfl hl.1 rfl (lv_room (Nat.le_of_ble_eq_true rfl)) dKM_sampleNoise_5 ⟨by omega, by omega⟩) (fun  u21 H locs hu21 hP hD hS => ?_)
  obtain ⟨s21, pl⟩ := u21
  obtain ⟨⟨eq21, hFc21, ⟨x21, hx_21, hb_21⟩, ⟨x22, hx_22, hb_22⟩, -⟩, hO⟩ := hu21
  have hO : okn g T s21 pl := hO
  have hP : va_P g.1 vcl ([] ++ pl) _ := hP
  have hD : va_D _ ([] ++ pl) := hD
  have hFc21 : frm (M_SP_start_3 14) s s21 := hFc21
  have hb_21 : x21 = 0 := hb_21
  have hb_22 : x22 = 136 := hb_22
  replace hR := bnd_step hR eq21
  have hF := frm_tr hF hFc21 (fun k hk => by unfold M_SP_start_3 at hk; unfold M_KM_sampleNoise_2; omega)
  refine W.widen (k := 0) (n := 0) (by omega) (by omega) ?_
  refine lv_aload_n hx hb dKM_sampleNoise_8 rfl (lv_at hl 0 rfl) ?_
  refine nw_get (C := "LatticeKeys$Kem") (TT := T_KM) (N := 10) hx hb hts (wg_ft i_KM) hown hK hO k_h0 (kn := 24) (ci := 5) (fl := [(3, 14), (3, 20), (3, 25), (3, 30), (3, 31), (3, 32), (3, 33), (3, 34), (3, 35), (3, 36)]) rfl hP rfl 0 (by decide) (hts _ (wg_t kw_107)) (fun _ h9 => h9) (cd := (3, 14)) rfl dKM_sampleNoise_9 (fun v22 hv22 => ?_)
  obtain ⟨r22, rfl, kr22⟩ := (show ∃ r : Nat, v22 = .ref r ∧ T r = some 14 from hv22)
  refine lv_aload_n hx hb dKM_sampleNoise_12 rfl (lv_at hl 0 rfl) ?_
  refine nw_get (C := "LatticeKeys$Kem") (TT := T_KM) (N := 10) hx hb hts (wg_ft i_KM) hown hK hO k_h0 (kn := 24) (ci := 5) (fl := [(3, 14), (3, 20), (3, 25), (3, 30), (3, 31), (3, 32), (3, 33), (3, 34), (3, 35), (3, 36)]) rfl hP rfl 7 (by decide) (hts _ (wg_t kw_114)) (fun _ h9 => h9) (cd := (3, 34)) rfl dKM_sampleNoise_13 (fun v23 hv23 => ?_)
  obtain ⟨r23, rfl, kr23⟩ := (show ∃ r : Nat, v23 = .ref r ∧ T r = some 34 from hv23)
  refine lv_bipush (v := nI 32) hx hb dKM_sampleNoise_16 (by decide) ?_
  refine lv_bipush (v := nI 32) hx hb dKM_sampleNoise_18 (by decide) ?_
  refine mp_v (cx := []) (wr := []) hP hD hS hA [] [] rfl rfl rfl (by decide) (va_runV (As := [.ref r23, .int (nI 32), .int (nI 32)]) (rest := []) F (N_SP_absorb l g _ T s21 pl hO hU r22 r23 14 15 34 64 32 32 x21 x22 kr22 rfl rfl kr23 rfl hx_21 hx_22 (by omega) (by omega) (by omega) (by omega)) (cwV 3 hts (wg_app (wg_c kw_585 (wg_c kw_586 (wg_c kw_587 (wg_c kw_2 wg_n)))) kw_588) rfl rfl rfl (by decide +kernel) ⟨by decide, by decide⟩) (pn_W "LatticeKeys$Sponge" (en_ok g) (ci := 3) (kn := 14) (fl := [(3, 15), (0, 0), (0, 0), (0, 0)]) hK hO kr22 rfl hP hD hS hA hE [] rfl rfl rfl) rfl rfl hl.1 rfl (lv_room (Nat.le_of_ble_eq_true rfl)) dKM_sampleNoise_20 ⟨by omega, by omega⟩) (fun  u22 H locs hu22 hP hD hS => ?_)
  obtain ⟨s22, pl⟩ := u22
  obtain ⟨⟨eq22, hFc22, ⟨x24, hx_24, hb_24⟩, ⟨x25, hx_25, hb_25⟩, -⟩, hO⟩ := hu22
  have hO : okn g T s22 pl := hO
  have hP : va_P g.1 vcl ([] ++ pl) _ := hP
  have hD : va_D _ ([] ++ pl) := hD
  have hFc22 : frm (M_SP_absorb 14) s21 s22 := hFc22
  have hb_24 : x24 < x22 := hb_24
  have hb_25 : x25 = x22 := hb_25
  replace hR := bnd_step hR eq22
  have hF := frm_tr hF hFc22 (fun k hk => by unfold M_SP_absorb at hk; unfold M_KM_sampleNoise_2; omega)
  refine W.widen (k := 0) (n := 0) (by omega) (by omega) ?_
  refine lv_aload_n hx hb dKM_sampleNoise_23 rfl (lv_at hl 0 rfl) ?_
  refine nw_get (C := "LatticeKeys$Kem") (TT := T_KM) (N := 10) hx hb hts (wg_ft i_KM) hown hK hO k_h0 (kn := 24) (ci := 5) (fl := [(3, 14), (3, 20), (3, 25), (3, 30), (3, 31), (3, 32), (3, 33), (3, 34), (3, 35), (3, 36)]) rfl hP rfl 0 (by decide) (hts _ (wg_t kw_107)) (fun _ h9 => h9) (cd := (3, 14)) rfl dKM_sampleNoise_24 (fun v24 hv24 => ?_)
  obtain ⟨r24, rfl, kr24⟩ := (show ∃ r : Nat, v24 = .ref r ∧ T r = some 14 from hv24)
  refine lv_iload_n hx hb dKM_sampleNoise_27 rfl (lv_at hl 3 rfl) ?_
  refine mp_v (cx := []) (wr := []) hP hD hS hA [] [] rfl rfl rfl (by decide) (va_runV (As := [.int wh]) (rest := []) F (N_SP_absorbByte l g _ T s22 pl hO hU r24 14 15 wh x24 x25 kr24 rfl rfl hx_24 hx_25 (by omega) (by omega)) (cwV 1 hts (wg_app (wg_c kw_609 (wg_c kw_590 (wg_c kw_591 (wg_c kw_2 wg_n)))) kw_592) rfl rfl rfl (by decide +kernel) ⟨by decide, by decide⟩) (pn_W "LatticeKeys$Sponge" (en_ok g) (ci := 3) (kn := 14) (fl := [(3, 15), (0, 0), (0, 0), (0, 0)]) hK hO kr24 rfl hP hD hS hA hE [] rfl rfl rfl) rfl rfl hl.1 rfl (lv_room (Nat.le_of_ble_eq_true rfl)) dKM_sampleNoise_28 ⟨by omega, by omega⟩) (fun  u23 H locs hu23 hP hD hS => ?_)
  obtain ⟨s23, pl⟩ := u23
  obtain ⟨⟨eq23, hFc23, ⟨x27, hx_27, hb_27⟩, ⟨x28, hx_28, hb_28⟩, -⟩, hO⟩ := hu23
  have hO : okn g T s23 pl := hO
  have hP : va_P g.1 vcl ([] ++ pl) _ := hP
  have hD : va_D _ ([] ++ pl) := hD
  have hFc23 : frm (M_SP_absorbByte 14) s22 s23 := hFc23
  have hb_27 : x27 < x25 := hb_27
  have hb_28 : x28 = x25 := hb_28
  replace hR := bnd_step hR eq23
  have hF := frm_tr hF hFc23 (fun k hk => by unfold M_SP_absorbByte at hk; unfold M_KM_sampleNoise_2; omega)
  refine W.widen (k := 0) (n := 0) (by omega) (by omega) ?_
  refine lv_aload_n hx hb dKM_sampleNoise_31 rfl (lv_at hl 0 rfl) ?_
  refine nw_get (C := "LatticeKeys$Kem") (TT := T_KM) (N := 10) hx hb hts (wg_ft i_KM) hown hK hO k_h0 (kn := 24) (ci := 5) (fl := [(3, 14), (3, 20), (3, 25), (3, 30), (3, 31), (3, 32), (3, 33), (3, 34), (3, 35), (3, 36)]) rfl hP rfl 0 (by decide) (hts _ (wg_t kw_107)) (fun _ h9 => h9) (cd := (3, 14)) rfl dKM_sampleNoise_32 (fun v25 hv25 => ?_)
  obtain ⟨r25, rfl, kr25⟩ := (show ∃ r : Nat, v25 = .ref r ∧ T r = some 14 from hv25)
  refine mp_v (cx := []) (wr := []) hP hD hS hA [] [] rfl rfl rfl (by decide) (va_runV (As := []) (rest := []) F (N_SP_finish l g _ T s23 pl hO hU r25 14 15 x27 x28 kr25 rfl rfl hx_27 hx_28 (by omega) (by omega)) (cwV 0 hts (wg_app (wg_c kw_610 (wg_c kw_611 (wg_c kw_612 (wg_c kw_2 wg_n)))) kw_613) rfl rfl rfl (by decide +kernel) ⟨by decide, by decide⟩) (pn_W "LatticeKeys$Sponge" (en_ok g) (ci := 3) (kn := 14) (fl := [(3, 15), (0, 0), (0, 0), (0, 0)]) hK hO kr25 rfl hP hD hS hA hE [] rfl rfl rfl) rfl rfl hl.1 rfl (lv_room (Nat.le_of_ble_eq_true rfl)) dKM_sampleNoise_35 ⟨by omega, by omega⟩) (fun  u24 H locs hu24 hP hD hS => ?_)
  obtain ⟨s24, pl⟩ := u24
  obtain ⟨⟨eq24, hFc24, ⟨x30, hx_30, hb_30⟩, ⟨x31, hx_31, hb_31⟩, -⟩, hO⟩ := hu24
  have hO : okn g T s24 pl := hO
  have hP : va_P g.1 vcl ([] ++ pl) _ := hP
  have hD : va_D _ ([] ++ pl) := hD
  have hFc24 : frm (M_SP_finish 14) s23 s24 := hFc24
  have hb_30 : x30 = x28 := hb_30
  have hb_31 : x31 = x28 := hb_31
  replace hR := bnd_step hR eq24
  have hF := frm_tr hF hFc24 (fun k hk => by unfold M_SP_finish at hk; unfold M_KM_sampleNoise_2; omega)
  refine W.widen (k := 0) (n := 0) (by omega) (by omega) ?_
  refine lv_aload_n hx hb dKM_sampleNoise_38 rfl (lv_at hl 0 rfl) ?_
  refine nw_get (C := "LatticeKeys$Kem") (TT := T_KM) (N := 10) hx hb hts (wg_ft i_KM) hown hK hO k_h0 (kn := 24) (ci := 5) (fl := [(3, 14), (3, 20), (3, 25), (3, 30), (3, 31), (3, 32), (3, 33), (3, 34), (3, 35), (3, 36)]) rfl hP rfl 0 (by decide) (hts _ (wg_t kw_107)) (fun _ h9 => h9) (cd := (3, 14)) rfl dKM_sampleNoise_39 (fun v26 hv26 => ?_)
  obtain ⟨r26, rfl, kr26⟩ := (show ∃ r : Nat, v26 = .ref r ∧ T r = some 14 from hv26)
  refine lv_aload_n hx hb dKM_sampleNoise_42 rfl (lv_at hl 0 rfl) ?_
  refine nw_get (C := "LatticeKeys$Kem") (TT := T_KM) (N := 10) hx hb hts (wg_ft i_KM) hown hK hO k_h0 (kn := 24) (ci := 5) (fl := [(3, 14), (3, 20), (3, 25), (3, 30), (3, 31), (3, 32), (3, 33), (3, 34), (3, 35), (3, 36)]) rfl hP rfl 8 (by decide) (hts _ (wg_t kw_115)) (fun _ h9 => h9) (cd := (3, 35)) rfl dKM_sampleNoise_43 (fun v27 hv27 => ?_)
  obtain ⟨r27, rfl, kr27⟩ := (show ∃ r : Nat, v27 = .ref r ∧ T r = some 35 from hv27)
  refine lv_iconst (v := nI 0) hx hb dKM_sampleNoise_46 (by decide) ?_
  refine lv_bipush (v := nI 64) hx hb dKM_sampleNoise_47 (by decide) ?_
  refine lv_iload_n hx hb dKM_sampleNoise_49 rfl (lv_at hl 2 rfl) ?_
  refine mi_imul hx hb dKM_sampleNoise_50 ?_
  refine mi_as (show nI (64 * 2) = nI 128 from rfl) ?_
  refine mp_v (cx := []) (wr := []) hP hD hS hA [] [] rfl rfl rfl (by decide) (va_runV (As := [.ref r27, .int (nI 0), .int (nI 128)]) (rest := []) F (N_SP_squeeze l g _ T s24 pl hO hU r26 r27 14 15 35 192 0 128 x30 x31 kr26 rfl rfl kr27 rfl hx_30 hx_31 (by omega) (by omega) (by omega) (by omega)) (cwV 3 hts (wg_app (wg_c kw_614 (wg_c kw_615 (wg_c kw_616 (wg_c kw_2 wg_n)))) kw_617) rfl rfl rfl (by decide +kernel) ⟨by decide, by decide⟩) (pn_W "LatticeKeys$Sponge" (en_ok g) (ci := 3) (kn := 14) (fl := [(3, 15), (0, 0), (0, 0), (0, 0)]) hK hO kr26 rfl hP hD hS hA hE [] rfl rfl rfl) rfl rfl hl.1 rfl (lv_room (Nat.le_of_ble_eq_true rfl)) dKM_sampleNoise_51 ⟨by omega, by omega⟩) (fun  u25 H locs hu25 hP hD hS => ?_)
  obtain ⟨s25, pl⟩ := u25
  obtain ⟨⟨eq25, hFc25, ⟨x33, hx_33, hb_33⟩, ⟨x34, hx_34, hb_34⟩, -⟩, hO⟩ := hu25
  have hO : okn g T s25 pl := hO
  have hP : va_P g.1 vcl ([] ++ pl) _ := hP
  have hD : va_D _ ([] ++ pl) := hD
  have hFc25 : frm (M_SP_squeeze 14 35) s24 s25 := hFc25
  have hb_33 : x33 ≤ x31 := hb_33
  have hb_34 : x34 = x31 := hb_34
  replace hR := bnd_step hR eq25
  have hF := frm_tr hF hFc25 (fun k hk => by unfold M_SP_squeeze at hk; unfold M_KM_sampleNoise_2; omega)
  refine W.widen (k := 0) (n := 0) (by omega) (by omega) ?_
  refine lv_aload_n hx hb dKM_sampleNoise_54 rfl (lv_at hl 1 rfl) ?_
  refine lv_iconst (v := nI 2) hx hb dKM_sampleNoise_55 (by decide) ?_
  refine lv_iload_n hx hb dKM_sampleNoise_56 rfl (lv_at hl 2 rfl) ?_
  refine mi_imul hx hb dKM_sampleNoise_57 ?_
  refine mi_as (show nI (2 * 2) = nI 4 from rfl) ?_
  refine lv_aload_n hx hb dKM_sampleNoise_58 rfl (lv_at hl 0 rfl) ?_
  refine nw_get (C := "LatticeKeys$Kem") (TT := T_KM) (N := 10) hx hb hts (wg_ft i_KM) hown hK hO k_h0 (kn := 24) (ci := 5) (fl := [(3, 14), (3, 20), (3, 25), (3, 30), (3, 31), (3, 32), (3, 33), (3, 34), (3, 35), (3, 36)]) rfl hP rfl 8 (by decide) (hts _ (wg_t kw_115)) (fun _ h9 => h9) (cd := (3, 35)) rfl dKM_sampleNoise_59 (fun v28 hv28 => ?_)
  obtain ⟨r28, rfl, kr28⟩ := (show ∃ r : Nat, v28 = .ref r ∧ T r = some 35 from hv28)
  refine lv_iconst (v := nI 0) hx hb dKM_sampleNoise_62 (by decide) ?_
  refine mp_v (cx := []) (wr := []) hP hD hS hA [] [] rfl rfl rfl (by decide) (va_runS (As := [.ref f, .int (nI 4), .ref r28, .int (nI 0)]) (rest := []) F (N_BT_unpack l g _ T s25 pl hO hU f r28 pf 4 35 192 0 k_f n_f kr28 rfl (by omega) (by omega) (by omega)) (va_cwS 4 hts (wg_app (wg_c kw_627 (wg_c kw_628 (wg_c kw_22 wg_n))) kw_629) rfl rfl rfl (by decide +kernel) ⟨by decide, by decide⟩) (pp_S (en_ok g) hP hD hS hA hE [] rfl rfl) rfl rfl hl.1 rfl (lv_room (Nat.le_of_ble_eq_true rfl)) dKM_sampleNoise_63 ⟨by omega, by omega⟩) (fun  u26 H locs hu26 hP hD hS => ?_)
  obtain ⟨s26, pl⟩ := u26
  obtain ⟨⟨eq26, hFc26, -⟩, hO⟩ := hu26
  have hO : okn g T s26 pl := hO
  have hP : va_P g.1 vcl ([] ++ pl) _ := hP
  have hD : va_D _ ([] ++ pl) := hD
  have hFc26 : frm (M_BT_unpack pf) s25 s26 := hFc26
  replace hR := bnd_step hR eq26
  have hF := frm_tr hF hFc26 (fun k hk => by unfold M_BT_unpack at hk; unfold M_KM_sampleNoise_2; omega)
  refine W.widen (k := 0) (n := 0) (by omega) (by omega) ?_
  refine lv_iconst (v := nI 1) hx hb dKM_sampleNoise_66 (by decide) ?_
  refine lv_iload_n hx hb dKM_sampleNoise_67 rfl (lv_at hl 2 rfl) ?_
  refine mi_ishl hx hb dKM_sampleNoise_68 (by decide) (by decide) ?_
  refine mi_as (show nI (1 * 2 ^ 2) = nI 4 from rfl) ?_
  refine lv_iconst (v := nI 1) hx hb dKM_sampleNoise_69 (by decide) ?_
  refine mi_isub hx hb dKM_sampleNoise_70 (by omega) ?_
  refine mi_as (show nI (4 - 1) = nI 3 from rfl) ?_
  refine lv_istore (lv' := [(4, .int (nI 3)), (0, .ref h0), (1, .ref f), (2, .int (nI 2)), (3, .int wh)]) hx hb dKM_sampleNoise_71 hl (by decide) rfl (fun ls hl => ?_)
  refine lv_iconst (v := nI 0) hx hb dKM_sampleNoise_73 (by decide) ?_
  refine lv_istore (lv' := [(5, .int (nI 0)), (4, .int (nI 3)), (0, .ref h0), (1, .ref f), (2, .int (nI 2)), (3, .int wh)]) hx hb dKM_sampleNoise_74 hl (by decide) rfl (fun ls hl => ?_)
  have lp21 : ∀ (n21 : Nat) (i21 : Nat) (s27 : Sto) (pl : va_W) (ls : Array Slot) (H : Heap) (locs : List Loc), n21 + i21 = 256 → frm (M_KM_sampleNoise_2 pf) s s27 → F_KM_sampleNoise_2 pf wh s = F_KM_sampleNoise_2_L0 pf n21 i21 s27 → lv_has ls 7 [(5, .int (nI i21)), (4, .int (nI 3)), (1, .ref f), (2, .int (nI 2))] → okn g T s27 pl → va_P g.1 vcl ([] ++ pl) H → va_D A ([] ++ pl) → va_S A s0.heap H locs → W p l e ({ frames := 3, cells := 0, slots := 0, locals := 100 } : Room) s0 m args below meth c H locs 0 0 (MQ below (va_Qv (fun (u : (Sto) × va_W) => (u.1 = F_KM_sampleNoise_2 pf wh s ∧ frm (M_KM_sampleNoise_2 pf) s u.1 ∧ True) ∧ okn g T u.1 u.2) (po g.1 vcl A (fun (u : (Sto) × va_W) => [] ++ u.2)) A) args s0 0 0 A) (F0 m 76 ls []) := by
    intro n21
    induction n21 with
    | zero =>
      intro i21 s27 pl ls H locs hm21 hF hR hl hO hP hD hS
      refine lv_iload hx hb dKM_sampleNoise_76 (lv_at hl 0 rfl) ?_
      refine lv_sipush (v := nI 256) hx hb dKM_sampleNoise_78 (by decide) ?_
      refine mi_ge (tgt := 132) hx hb dKM_sampleNoise_81 (by decide) (by omega) (by omega) (fun h21 => ?_) (fun h21 => absurd h21 (by omega))
      exact mp_vret hx hb hr hlk hP hD hS (s27, pl) ⟨⟨hR.symm, hF, trivial⟩, hO⟩ [] rfl rfl rfl (by omega) (by omega) dKM_sampleNoise_132
    | succ n21 ih21 =>
      intro i21 s27 pl ls H locs hm21 hF hR hl hO hP hD hS
      refine lv_iload hx hb dKM_sampleNoise_76 (lv_at hl 0 rfl) ?_
      refine lv_sipush (v := nI 256) hx hb dKM_sampleNoise_78 (by decide) ?_
      refine mi_ge (tgt := 132) hx hb dKM_sampleNoise_81 (by decide) (by omega) (by omega) (fun h22 => absurd h22 (by omega)) (fun h22 => ?_)
      refine lv_aload_n hx hb dKM_sampleNoise_84 rfl (lv_at hl 2 rfl) ?_
      refine lv_iload hx hb dKM_sampleNoise_85 (lv_at hl 0 rfl) ?_
      refine nw_iald hx hb hK hO k_f (k := pf) n_f hP (by omega) (by omega) dKM_sampleNoise_87 ?_
      refine lv_iload hx hb dKM_sampleNoise_88 (lv_at hl 1 rfl) ?_
      refine lv_iand hx hb dKM_sampleNoise_90 ?_
      refine mp_i (cx := []) (wr := []) hP hD hS hA [] [] rfl rfl rfl (by decide) (va_runS (As := [.int (((s27.1 pf i21) &&& (nI 3)))]) (rest := []) F (N_JI_bitCount l g _ T s27 pl hO hU ((s27.1 pf i21) &&& (nI 3))) (va_cwS 1 hts (wg_app (wg_c kw_630 (wg_c kw_631 (wg_c kw_23 wg_n))) kw_632) rfl rfl rfl (by decide +kernel) ⟨by decide, by decide⟩) (pp_S (en_ok g) hP hD hS hA hE [] rfl rfl) rfl rfl hl.1 rfl (lv_room (Nat.le_of_ble_eq_true rfl)) dKM_sampleNoise_91 ⟨by omega, by omega⟩) (fun r29 u27 H locs hu27 hP hD hS => ?_)
      obtain ⟨q21, pl⟩ := u27
      obtain ⟨⟨eq27, rfl, hFc27, -⟩, hO⟩ := hu27
      have hO : okn g T q21.2 pl := hO
      have hP : va_P g.1 vcl ([] ++ pl) _ := hP
      have hD : va_D _ ([] ++ pl) := hD
      have hFc27 : frm (M_JI_bitCount) s27 q21.2 := hFc27
      replace hR := bnd_step hR eq27
      have hF := frm_tr hF hFc27 (fun k hk => by unfold M_JI_bitCount at hk; unfold M_KM_sampleNoise_2; omega)
      refine W.widen (k := 0) (n := 0) (by omega) (by omega) ?_
      refine lv_aload_n hx hb dKM_sampleNoise_94 rfl (lv_at hl 2 rfl) ?_
      refine lv_iload hx hb dKM_sampleNoise_95 (lv_at hl 0 rfl) ?_
      refine nw_iald hx hb hK hO k_f (k := pf) n_f hP (by omega) (by omega) dKM_sampleNoise_97 ?_
      refine lv_iload_n hx hb dKM_sampleNoise_98 rfl (lv_at hl 3 rfl) ?_
      refine lv_ishr hx hb dKM_sampleNoise_99 ?_
      refine mp_i (cx := []) (wr := []) hP hD hS hA [] [] rfl rfl rfl (by decide) (va_runS (As := [.int (((q21.2.1 pf i21) >>> ((nI 2) &&& 31)))]) (rest := [.int q21.1]) F (N_JI_bitCount l g _ T q21.2 pl hO hU ((q21.2.1 pf i21) >>> ((nI 2) &&& 31))) (va_cwS 1 hts (wg_app (wg_c kw_630 (wg_c kw_631 (wg_c kw_23 wg_n))) kw_632) rfl rfl rfl (by decide +kernel) ⟨by decide, by decide⟩) (pp_S (en_ok g) hP hD hS hA hE [] rfl rfl) rfl rfl hl.1 rfl (lv_room (Nat.le_of_ble_eq_true rfl)) dKM_sampleNoise_100 ⟨by omega, by omega⟩) (fun r30 u28 H locs hu28 hP hD hS => ?_)
      obtain ⟨q22, pl⟩ := u28
      obtain ⟨⟨eq28, rfl, hFc28, -⟩, hO⟩ := hu28
      have hO : okn g T q22.2 pl := hO
      have hP : va_P g.1 vcl ([] ++ pl) _ := hP
      have hD : va_D _ ([] ++ pl) := hD
      have hFc28 : frm (M_JI_bitCount) q21.2 q22.2 := hFc28
      replace hR := bnd_step hR eq28
      have hF := frm_tr hF hFc28 (fun k hk => by unfold M_JI_bitCount at hk; unfold M_KM_sampleNoise_2; omega)
      refine W.widen (k := 0) (n := 0) (by omega) (by omega) ?_
      refine lv_isub hx hb dKM_sampleNoise_103 ?_
      refine mi_eqv (fun z21 ez21 => ?_)
      replace hR := bnd_step hR ez21
      refine lv_istore (lv' := [(6, .int z21), (5, .int (nI i21)), (4, .int (nI 3)), (1, .ref f), (2, .int (nI 2))]) hx hb dKM_sampleNoise_104 hl (by decide) rfl (fun ls hl => ?_)
      refine lv_aload_n hx hb dKM_sampleNoise_106 rfl (lv_at hl 3 rfl) ?_
      refine lv_iload hx hb dKM_sampleNoise_107 (lv_at hl 1 rfl) ?_
      refine lv_iload hx hb dKM_sampleNoise_109 (lv_at hl 0 rfl) ?_
      refine lv_if_ge (tgt := 123) hx hb dKM_sampleNoise_111 (by decide) (fun h23 => ?_) (fun h23 => ?_)
      · replace hR := hR.trans (if_pos h23)
        refine lv_iload hx hb dKM_sampleNoise_123 (lv_at hl 0 rfl) ?_
        refine nw_iast hx hb hK hO hU k_f (k := pf) n_f hP hD hS (by omega) (by omega) dKM_sampleNoise_125 (fun s28 pl H locs es21 hO hP hD hS => ?_)
        replace hR := bnd_step hR es21
        have hF := frm_sI hF es21 (by unfold M_KM_sampleNoise_2; omega)
        refine mi_iinc (k := 1) (x := i21) (d := 1) (y := i21 + 1) (lv' := [(5, .int (nI (i21 + 1))), (6, .int z21), (4, .int (nI 3)), (1, .ref f), (2, .int (nI 2))]) hx hb dKM_sampleNoise_126 hl rfl (by decide) rfl (by decide) rfl (fun ls hl => ?_)
        refine lv_goto (tgt := 76) hx hb dKM_sampleNoise_129 (by decide) ?_
        exact ih21 (i21 + 1) s28 pl ls H locs (by omega) hF hR (lv_sub hl [0, 2, 3, 4] rfl) hO hP hD hS
      · replace hR := hR.trans (if_neg h23)
        refine lv_iload hx hb dKM_sampleNoise_114 (lv_at hl 0 rfl) ?_
        refine lv_sipush (v := nI 3329) hx hb dKM_sampleNoise_116 (by decide) ?_
        refine lv_iadd hx hb dKM_sampleNoise_119 ?_
        refine lv_goto (tgt := 125) hx hb dKM_sampleNoise_120 (by decide) ?_
        refine nw_iast hx hb hK hO hU k_f (k := pf) n_f hP hD hS (by omega) (by omega) dKM_sampleNoise_125 (fun s29 pl H locs es22 hO hP hD hS => ?_)
        replace hR := bnd_step hR es22
        have hF := frm_sI hF es22 (by unfold M_KM_sampleNoise_2; omega)
        refine mi_iinc (k := 1) (x := i21) (d := 1) (y := i21 + 1) (lv' := [(5, .int (nI (i21 + 1))), (6, .int z21), (4, .int (nI 3)), (1, .ref f), (2, .int (nI 2))]) hx hb dKM_sampleNoise_126 hl rfl (by decide) rfl (by decide) rfl (fun ls hl => ?_)
        refine lv_goto (tgt := 76) hx hb dKM_sampleNoise_129 (by decide) ?_
        exact ih21 (i21 + 1) s29 pl ls H locs (by omega) hF hR (lv_sub hl [0, 2, 3, 4] rfl) hO hP hD hS
  exact lp21 256 0 s26 pl ls _ _ (by omega) hF hR (lv_sub hl [0, 1, 3, 4] rfl) hO hP hD hS
def M_KM_sampleNoise_3 (pf : Nat) (k : Nat) : Prop := k = 14 ∨ k = 35 ∨ k = pf ∨ (0 : Nat) = 1
noncomputable def F_KM_sampleNoise_3_L0 (pf : Nat) : Nat → Nat → Sto → Sto
  | 0, i21, s27 => s27
  | n21 + 1, i21, s27 => bnd (F_JI_bitCount ((s27.1 pf i21) &&& (nI 7)) s27) fun q21 => bnd (F_JI_bitCount ((q21.2.1 pf i21) >>> ((nI 3) &&& 31)) q21.2) fun q22 => bnd (((q21.1) - (q22.1))) fun z21 => if 0 ≤ z21 then bnd (sI q22.2 pf i21 z21) fun s28 => F_KM_sampleNoise_3_L0 pf n21 (i21 + 1) s28 else bnd (sI q22.2 pf i21 (z21 + (nI 3329))) fun s29 => F_KM_sampleNoise_3_L0 pf n21 (i21 + 1) s29
noncomputable def F_KM_sampleNoise_3 (pf : Nat) (wh : Int32) (s : Sto) : Sto := bnd (F_SP_start_3 14 15 s) fun s21 => bnd (F_SP_absorb 14 15 34 64 32 32 s21) fun s22 => bnd (F_SP_absorbByte 14 15 wh s22) fun s23 => bnd (F_SP_finish 14 15 s23) fun s24 => bnd (F_SP_squeeze 14 15 35 192 0 192 s24) fun s25 => bnd (F_BT_unpack pf 6 35 192 0 s25) fun s26 => F_KM_sampleNoise_3_L0 pf 256 0 s26
set_option maxHeartbeats 400000 in
set_option maxRecDepth 100000 in
theorem N_KM_sampleNoise_3 (l : Launch) (g : Gd) (sz : Nat) (T : TyN) (s : Sto) (pl : va_W) (hO : okn g T s pl) (hU : inj T) (h0 f : Nat) (pf : Nat) (wh : Int32) (k_h0 : T h0 = some 24) (k_f : T f = some pf) (n_f : nsp pf = (0, 256, []))  : Met l y_KM_sampleNoise w_KM_sampleNoise ({ frames := 3, cells := 0, slots := 0, locals := 100 } : Room) (va_Pc [.ref h0, .ref f, .int (nI 3), .int wh] (pr (en g) g.1 vcl sz ([] ++ pl))) (va_Qv (fun (u : (Sto) × va_W) => (u.1 = F_KM_sampleNoise_3 pf wh s ∧ frm (M_KM_sampleNoise_3 pf) s u.1 ∧ True) ∧ okn g T u.1 u.2) (po g.1 vcl (va_A ([] ++ pl) sz) (fun (u : (Sto) × va_W) => [] ++ u.2)) (va_A ([] ++ pl) sz)) 0 0 (va_A ([] ++ pl) sz) := by
  refine mc_entry (cc := c_KM_sampleNoise) (maxL := 7) (ret := none) (by decide) rfl (Nat.le_of_ble_eq_true rfl) ?_
  intro p e s0 m args below meth c ls F hr hlk hnm hsz hP hD hE hA hl
  obtain ⟨hx, hb, hml, hown, hts⟩ := id F
  have hK := hE.1
  generalize va_A ([] ++ pl) sz = A at hD hE hA ⊢
  have hS : va_S A s0.heap s0.heap [] := va_S.rf
  have hl : lv_has ls 7 [(0, .ref h0), (1, .ref f), (2, .int (nI 3)), (3, .int wh)] := hl
  have hR : F_KM_sampleNoise_3 pf wh s = F_KM_sampleNoise_3 pf wh s := rfl
  have hF : frm (M_KM_sampleNoise_3 pf) s s := frm_rf
  refine lv_aload_n hx hb dKM_sampleNoise_0 rfl (lv_at hl 0 rfl) ?_
  refine nw_get (C := "LatticeKeys$Kem") (TT := T_KM) (N := 10) hx hb hts (wg_ft i_KM) hown hK hO k_h0 (kn := 24) (ci := 5) (fl := [(3, 14), (3, 20), (3, 25), (3, 30), (3, 31), (3, 32), (3, 33), (3, 34), (3, 35), (3, 36)]) rfl hP rfl 0 (by decide) (hts _ (wg_t kw_107)) (fun _ h9 => h9) (cd := (3, 14)) rfl dKM_sampleNoise_1 (fun v21 hv21 => ?_)
  obtain ⟨r21, rfl, kr21⟩ := (show ∃ r : Nat, v21 = .ref r ∧ T r = some 14 from hv21)
  refine lv_iconst (v := nI 3) hx hb dKM_sampleNoise_4 (by decide) ?_
  refine mp_v (cx := []) (wr := []) hP hD hS hA [] [] rfl rfl rfl (by decide) (va_runV (As := [.int (nI 3)]) (rest := []) F (N_SP_start_3 l g _ T s pl hO hU r21 14 15 kr21 rfl rfl) (cwV 1 hts (wg_app (wg_c kw_578 (wg_c kw_579 (wg_c kw_580 (wg_c kw_2 wg_n)))) kw_581) rfl rfl rfl (by decide +kernel) ⟨by decide, by decide⟩) (pn_W "LatticeKeys$Sponge" (en_ok g) (ci := 3) (kn := 14) (fl := [(3, 15), (0, 0), (0, 0), (0, 0)]) hK hO kr21 rfl hP hD hS hA hE [] rfl rfl rfl) rfl rfl hl.1 rfl (lv_room (Nat.le_of_ble_eq_true rfl)) dKM_sampleNoise_5 ⟨by omega, by omega⟩) (fun  u21 H locs hu21 hP hD hS => ?_)
  obtain ⟨s21, pl⟩ := u21
  obtain ⟨⟨eq21, hFc21, ⟨x21, hx_21, hb_21⟩, ⟨x22, hx_22, hb_22⟩, -⟩, hO⟩ := hu21
  have hO : okn g T s21 pl := hO
  have hP : va_P g.1 vcl ([] ++ pl) _ := hP
  have hD : va_D _ ([] ++ pl) := hD
  have hFc21 : frm (M_SP_start_3 14) s s21 := hFc21
  have hb_21 : x21 = 0 := hb_21
  have hb_22 : x22 = 136 := hb_22
  replace hR := bnd_step hR eq21
  have hF := frm_tr hF hFc21 (fun k hk => by unfold M_SP_start_3 at hk; unfold M_KM_sampleNoise_3; omega)
  refine W.widen (k := 0) (n := 0) (by omega) (by omega) ?_
  refine lv_aload_n hx hb dKM_sampleNoise_8 rfl (lv_at hl 0 rfl) ?_
  refine nw_get (C := "LatticeKeys$Kem") (TT := T_KM) (N := 10) hx hb hts (wg_ft i_KM) hown hK hO k_h0 (kn := 24) (ci := 5) (fl := [(3, 14), (3, 20), (3, 25), (3, 30), (3, 31), (3, 32), (3, 33), (3, 34), (3, 35), (3, 36)]) rfl hP rfl 0 (by decide) (hts _ (wg_t kw_107)) (fun _ h9 => h9) (cd := (3, 14)) rfl dKM_sampleNoise_9 (fun v22 hv22 => ?_)
  obtain ⟨r22, rfl, kr22⟩ := (show ∃ r : Nat, v22 = .ref r ∧ T r = some 14 from hv22)
  refine lv_aload_n hx hb dKM_sampleNoise_12 rfl (lv_at hl 0 rfl) ?_
  refine nw_get (C := "LatticeKeys$Kem") (TT := T_KM) (N := 10) hx hb hts (wg_ft i_KM) hown hK hO k_h0 (kn := 24) (ci := 5) (fl := [(3, 14), (3, 20), (3, 25), (3, 30), (3, 31), (3, 32), (3, 33), (3, 34), (3, 35), (3, 36)]) rfl hP rfl 7 (by decide) (hts _ (wg_t kw_114)) (fun _ h9 => h9) (cd := (3, 34)) rfl dKM_sampleNoise_13 (fun v23 hv23 => ?_)
  obtain ⟨r23, rfl, kr23⟩ := (show ∃ r : Nat, v23 = .ref r ∧ T r = some 34 from hv23)
  refine lv_bipush (v := nI 32) hx hb dKM_sampleNoise_16 (by decide) ?_
  refine lv_bipush (v := nI 32) hx hb dKM_sampleNoise_18 (by decide) ?_
  refine mp_v (cx := []) (wr := []) hP hD hS hA [] [] rfl rfl rfl (by decide) (va_runV (As := [.ref r23, .int (nI 32), .int (nI 32)]) (rest := []) F (N_SP_absorb l g _ T s21 pl hO hU r22 r23 14 15 34 64 32 32 x21 x22 kr22 rfl rfl kr23 rfl hx_21 hx_22 (by omega) (by omega) (by omega) (by omega)) (cwV 3 hts (wg_app (wg_c kw_585 (wg_c kw_586 (wg_c kw_587 (wg_c kw_2 wg_n)))) kw_588) rfl rfl rfl (by decide +kernel) ⟨by decide, by decide⟩) (pn_W "LatticeKeys$Sponge" (en_ok g) (ci := 3) (kn := 14) (fl := [(3, 15), (0, 0), (0, 0), (0, 0)]) hK hO kr22 rfl hP hD hS hA hE [] rfl rfl rfl) rfl rfl hl.1 rfl (lv_room (Nat.le_of_ble_eq_true rfl)) dKM_sampleNoise_20 ⟨by omega, by omega⟩) (fun  u22 H locs hu22 hP hD hS => ?_)
  obtain ⟨s22, pl⟩ := u22
  obtain ⟨⟨eq22, hFc22, ⟨x24, hx_24, hb_24⟩, ⟨x25, hx_25, hb_25⟩, -⟩, hO⟩ := hu22
  have hO : okn g T s22 pl := hO
  have hP : va_P g.1 vcl ([] ++ pl) _ := hP
  have hD : va_D _ ([] ++ pl) := hD
  have hFc22 : frm (M_SP_absorb 14) s21 s22 := hFc22
  have hb_24 : x24 < x22 := hb_24
  have hb_25 : x25 = x22 := hb_25
  replace hR := bnd_step hR eq22
  have hF := frm_tr hF hFc22 (fun k hk => by unfold M_SP_absorb at hk; unfold M_KM_sampleNoise_3; omega)
  refine W.widen (k := 0) (n := 0) (by omega) (by omega) ?_
  refine lv_aload_n hx hb dKM_sampleNoise_23 rfl (lv_at hl 0 rfl) ?_
  refine nw_get (C := "LatticeKeys$Kem") (TT := T_KM) (N := 10) hx hb hts (wg_ft i_KM) hown hK hO k_h0 (kn := 24) (ci := 5) (fl := [(3, 14), (3, 20), (3, 25), (3, 30), (3, 31), (3, 32), (3, 33), (3, 34), (3, 35), (3, 36)]) rfl hP rfl 0 (by decide) (hts _ (wg_t kw_107)) (fun _ h9 => h9) (cd := (3, 14)) rfl dKM_sampleNoise_24 (fun v24 hv24 => ?_)
  obtain ⟨r24, rfl, kr24⟩ := (show ∃ r : Nat, v24 = .ref r ∧ T r = some 14 from hv24)
  refine lv_iload_n hx hb dKM_sampleNoise_27 rfl (lv_at hl 3 rfl) ?_
  refine mp_v (cx := []) (wr := []) hP hD hS hA [] [] rfl rfl rfl (by decide) (va_runV (As := [.int wh]) (rest := []) F (N_SP_absorbByte l g _ T s22 pl hO hU r24 14 15 wh x24 x25 kr24 rfl rfl hx_24 hx_25 (by omega) (by omega)) (cwV 1 hts (wg_app (wg_c kw_609 (wg_c kw_590 (wg_c kw_591 (wg_c kw_2 wg_n)))) kw_592) rfl rfl rfl (by decide +kernel) ⟨by decide, by decide⟩) (pn_W "LatticeKeys$Sponge" (en_ok g) (ci := 3) (kn := 14) (fl := [(3, 15), (0, 0), (0, 0), (0, 0)]) hK hO kr24 rfl hP hD hS hA hE [] rfl rfl rfl) rfl rfl hl.1 rfl (lv_room (Nat.le_of_ble_eq_true rfl)) dKM_sampleNoise_28 ⟨by omega, by omega⟩) (fun  u23 H locs hu23 hP hD hS => ?_)
  obtain ⟨s23, pl⟩ := u23
  obtain ⟨⟨eq23, hFc23, ⟨x27, hx_27, hb_27⟩, ⟨x28, hx_28, hb_28⟩, -⟩, hO⟩ := hu23
  have hO : okn g T s23 pl := hO
  have hP : va_P g.1 vcl ([] ++ pl) _ := hP
  have hD : va_D _ ([] ++ pl) := hD
  have hFc23 : frm (M_SP_absorbByte 14) s22 s23 := hFc23
  have hb_27 : x27 < x25 := hb_27
  have hb_28 : x28 = x25 := hb_28
  replace hR := bnd_step hR eq23
  have hF := frm_tr hF hFc23 (fun k hk => by unfold M_SP_absorbByte at hk; unfold M_KM_sampleNoise_3; omega)
  refine W.widen (k := 0) (n := 0) (by omega) (by omega) ?_
  refine lv_aload_n hx hb dKM_sampleNoise_31 rfl (lv_at hl 0 rfl) ?_
  refine nw_get (C := "LatticeKeys$Kem") (TT := T_KM) (N := 10) hx hb hts (wg_ft i_KM) hown hK hO k_h0 (kn := 24) (ci := 5) (fl := [(3, 14), (3, 20), (3, 25), (3, 30), (3, 31), (3, 32), (3, 33), (3, 34), (3, 35), (3, 36)]) rfl hP rfl 0 (by decide) (hts _ (wg_t kw_107)) (fun _ h9 => h9) (cd := (3, 14)) rfl dKM_sampleNoise_32 (fun v25 hv25 => ?_)
  obtain ⟨r25, rfl, kr25⟩ := (show ∃ r : Nat, v25 = .ref r ∧ T r = some 14 from hv25)
  refine mp_v (cx := []) (wr := []) hP hD hS hA [] [] rfl rfl rfl (by decide) (va_runV (As := []) (rest := []) F (N_SP_finish l g _ T s23 pl hO hU r25 14 15 x27 x28 kr25 rfl rfl hx_27 hx_28 (by omega) (by omega)) (cwV 0 hts (wg_app (wg_c kw_610 (wg_c kw_611 (wg_c kw_612 (wg_c kw_2 wg_n)))) kw_613) rfl rfl rfl (by decide +kernel) ⟨by decide, by decide⟩) (pn_W "LatticeKeys$Sponge" (en_ok g) (ci := 3) (kn := 14) (fl := [(3, 15), (0, 0), (0, 0), (0, 0)]) hK hO kr25 rfl hP hD hS hA hE [] rfl rfl rfl) rfl rfl hl.1 rfl (lv_room (Nat.le_of_ble_eq_true rfl)) dKM_sampleNoise_35 ⟨by omega, by omega⟩) (fun  u24 H locs hu24 hP hD hS => ?_)
  obtain ⟨s24, pl⟩ := u24
  obtain ⟨⟨eq24, hFc24, ⟨x30, hx_30, hb_30⟩, ⟨x31, hx_31, hb_31⟩, -⟩, hO⟩ := hu24
  have hO : okn g T s24 pl := hO
  have hP : va_P g.1 vcl ([] ++ pl) _ := hP
  have hD : va_D _ ([] ++ pl) := hD
  have hFc24 : frm (M_SP_finish 14) s23 s24 := hFc24
  have hb_30 : x30 = x28 := hb_30
  have hb_31 : x31 = x28 := hb_31
  replace hR := bnd_step hR eq24
  have hF := frm_tr hF hFc24 (fun k hk => by unfold M_SP_finish at hk; unfold M_KM_sampleNoise_3; omega)
  refine W.widen (k := 0) (n := 0) (by omega) (by omega) ?_
  refine lv_aload_n hx hb dKM_sampleNoise_38 rfl (lv_at hl 0 rfl) ?_
  refine nw_get (C := "LatticeKeys$Kem") (TT := T_KM) (N := 10) hx hb hts (wg_ft i_KM) hown hK hO k_h0 (kn := 24) (ci := 5) (fl := [(3, 14), (3, 20), (3, 25), (3, 30), (3, 31), (3, 32), (3, 33), (3, 34), (3, 35), (3, 36)]) rfl hP rfl 0 (by decide) (hts _ (wg_t kw_107)) (fun _ h9 => h9) (cd := (3, 14)) rfl dKM_sampleNoise_39 (fun v26 hv26 => ?_)
  obtain ⟨r26, rfl, kr26⟩ := (show ∃ r : Nat, v26 = .ref r ∧ T r = some 14 from hv26)
  refine lv_aload_n hx hb dKM_sampleNoise_42 rfl (lv_at hl 0 rfl) ?_
  refine nw_get (C := "LatticeKeys$Kem") (TT := T_KM) (N := 10) hx hb hts (wg_ft i_KM) hown hK hO k_h0 (kn := 24) (ci := 5) (fl := [(3, 14), (3, 20), (3, 25), (3, 30), (3, 31), (3, 32), (3, 33), (3, 34), (3, 35), (3, 36)]) rfl hP rfl 8 (by decide) (hts _ (wg_t kw_115)) (fun _ h9 => h9) (cd := (3, 35)) rfl dKM_sampleNoise_43 (fun v27 hv27 => ?_)
  obtain ⟨r27, rfl, kr27⟩ := (show ∃ r : Nat, v27 = .ref r ∧ T r = some 35 from hv27)
  refine lv_iconst (v := nI 0) hx hb dKM_sampleNoise_46 (by decide) ?_
  refine lv_bipush (v := nI 64) hx hb dKM_sampleNoise_47 (by decide) ?_
  refine lv_iload_n hx hb dKM_sampleNoise_49 rfl (lv_at hl 2 rfl) ?_
  refine mi_imul hx hb dKM_sampleNoise_50 ?_
  refine mi_as (show nI (64 * 3) = nI 192 from rfl) ?_
  refine mp_v (cx := []) (wr := []) hP hD hS hA [] [] rfl rfl rfl (by decide) (va_runV (As := [.ref r27, .int (nI 0), .int (nI 192)]) (rest := []) F (N_SP_squeeze l g _ T s24 pl hO hU r26 r27 14 15 35 192 0 192 x30 x31 kr26 rfl rfl kr27 rfl hx_30 hx_31 (by omega) (by omega) (by omega) (by omega)) (cwV 3 hts (wg_app (wg_c kw_614 (wg_c kw_615 (wg_c kw_616 (wg_c kw_2 wg_n)))) kw_617) rfl rfl rfl (by decide +kernel) ⟨by decide, by decide⟩) (pn_W "LatticeKeys$Sponge" (en_ok g) (ci := 3) (kn := 14) (fl := [(3, 15), (0, 0), (0, 0), (0, 0)]) hK hO kr26 rfl hP hD hS hA hE [] rfl rfl rfl) rfl rfl hl.1 rfl (lv_room (Nat.le_of_ble_eq_true rfl)) dKM_sampleNoise_51 ⟨by omega, by omega⟩) (fun  u25 H locs hu25 hP hD hS => ?_)
  obtain ⟨s25, pl⟩ := u25
  obtain ⟨⟨eq25, hFc25, ⟨x33, hx_33, hb_33⟩, ⟨x34, hx_34, hb_34⟩, -⟩, hO⟩ := hu25
  have hO : okn g T s25 pl := hO
  have hP : va_P g.1 vcl ([] ++ pl) _ := hP
  have hD : va_D _ ([] ++ pl) := hD
  have hFc25 : frm (M_SP_squeeze 14 35) s24 s25 := hFc25
  have hb_33 : x33 ≤ x31 := hb_33
  have hb_34 : x34 = x31 := hb_34
  replace hR := bnd_step hR eq25
  have hF := frm_tr hF hFc25 (fun k hk => by unfold M_SP_squeeze at hk; unfold M_KM_sampleNoise_3; omega)
  refine W.widen (k := 0) (n := 0) (by omega) (by omega) ?_
  refine lv_aload_n hx hb dKM_sampleNoise_54 rfl (lv_at hl 1 rfl) ?_
  refine lv_iconst (v := nI 2) hx hb dKM_sampleNoise_55 (by decide) ?_
  refine lv_iload_n hx hb dKM_sampleNoise_56 rfl (lv_at hl 2 rfl) ?_
  refine mi_imul hx hb dKM_sampleNoise_57 ?_
  refine mi_as (show nI (2 * 3) = nI 6 from rfl) ?_
  refine lv_aload_n hx hb dKM_sampleNoise_58 rfl (lv_at hl 0 rfl) ?_
  refine nw_get (C := "LatticeKeys$Kem") (TT := T_KM) (N := 10) hx hb hts (wg_ft i_KM) hown hK hO k_h0 (kn := 24) (ci := 5) (fl := [(3, 14), (3, 20), (3, 25), (3, 30), (3, 31), (3, 32), (3, 33), (3, 34), (3, 35), (3, 36)]) rfl hP rfl 8 (by decide) (hts _ (wg_t kw_115)) (fun _ h9 => h9) (cd := (3, 35)) rfl dKM_sampleNoise_59 (fun v28 hv28 => ?_)
  obtain ⟨r28, rfl, kr28⟩ := (show ∃ r : Nat, v28 = .ref r ∧ T r = some 35 from hv28)
  refine lv_iconst (v := nI 0) hx hb dKM_sampleNoise_62 (by decide) ?_
  refine mp_v (cx := []) (wr := []) hP hD hS hA [] [] rfl rfl rfl (by decide) (va_runS (As := [.ref f, .int (nI 6), .ref r28, .int (nI 0)]) (rest := []) F (N_BT_unpack l g _ T s25 pl hO hU f r28 pf 6 35 192 0 k_f n_f kr28 rfl (by omega) (by omega) (by omega)) (va_cwS 4 hts (wg_app (wg_c kw_627 (wg_c kw_628 (wg_c kw_22 wg_n))) kw_629) rfl rfl rfl (by decide +kernel) ⟨by decide, by decide⟩) (pp_S (en_ok g) hP hD hS hA hE [] rfl rfl) rfl rfl hl.1 rfl (lv_room (Nat.le_of_ble_eq_true rfl)) dKM_sampleNoise_63 ⟨by omega, by omega⟩) (fun  u26 H locs hu26 hP hD hS => ?_)
  obtain ⟨s26, pl⟩ := u26
  obtain ⟨⟨eq26, hFc26, -⟩, hO⟩ := hu26
  have hO : okn g T s26 pl := hO
  have hP : va_P g.1 vcl ([] ++ pl) _ := hP
  have hD : va_D _ ([] ++ pl) := hD
  have hFc26 : frm (M_BT_unpack pf) s25 s26 := hFc26
  replace hR := bnd_step hR eq26
  have hF := frm_tr hF hFc26 (fun k hk => by unfold M_BT_unpack at hk; unfold M_KM_sampleNoise_3; omega)
  refine W.widen (k := 0) (n := 0) (by omega) (by omega) ?_
  refine lv_iconst (v := nI 1) hx hb dKM_sampleNoise_66 (by decide) ?_
  refine lv_iload_n hx hb dKM_sampleNoise_67 rfl (lv_at hl 2 rfl) ?_
  refine mi_ishl hx hb dKM_sampleNoise_68 (by decide) (by decide) ?_
  refine mi_as (show nI (1 * 2 ^ 3) = nI 8 from rfl) ?_
  refine lv_iconst (v := nI 1) hx hb dKM_sampleNoise_69 (by decide) ?_
  refine mi_isub hx hb dKM_sampleNoise_70 (by omega) ?_
  refine mi_as (show nI (8 - 1) = nI 7 from rfl) ?_
  refine lv_istore (lv' := [(4, .int (nI 7)), (0, .ref h0), (1, .ref f), (2, .int (nI 3)), (3, .int wh)]) hx hb dKM_sampleNoise_71 hl (by decide) rfl (fun ls hl => ?_)
  refine lv_iconst (v := nI 0) hx hb dKM_sampleNoise_73 (by decide) ?_
  refine lv_istore (lv' := [(5, .int (nI 0)), (4, .int (nI 7)), (0, .ref h0), (1, .ref f), (2, .int (nI 3)), (3, .int wh)]) hx hb dKM_sampleNoise_74 hl (by decide) rfl (fun ls hl => ?_)
  have lp21 : ∀ (n21 : Nat) (i21 : Nat) (s27 : Sto) (pl : va_W) (ls : Array Slot) (H : Heap) (locs : List Loc), n21 + i21 = 256 → frm (M_KM_sampleNoise_3 pf) s s27 → F_KM_sampleNoise_3 pf wh s = F_KM_sampleNoise_3_L0 pf n21 i21 s27 → lv_has ls 7 [(5, .int (nI i21)), (4, .int (nI 7)), (1, .ref f), (2, .int (nI 3))] → okn g T s27 pl → va_P g.1 vcl ([] ++ pl) H → va_D A ([] ++ pl) → va_S A s0.heap H locs → W p l e ({ frames := 3, cells := 0, slots := 0, locals := 100 } : Room) s0 m args below meth c H locs 0 0 (MQ below (va_Qv (fun (u : (Sto) × va_W) => (u.1 = F_KM_sampleNoise_3 pf wh s ∧ frm (M_KM_sampleNoise_3 pf) s u.1 ∧ True) ∧ okn g T u.1 u.2) (po g.1 vcl A (fun (u : (Sto) × va_W) => [] ++ u.2)) A) args s0 0 0 A) (F0 m 76 ls []) := by
    intro n21
    induction n21 with
    | zero =>
      intro i21 s27 pl ls H locs hm21 hF hR hl hO hP hD hS
      refine lv_iload hx hb dKM_sampleNoise_76 (lv_at hl 0 rfl) ?_
      refine lv_sipush (v := nI 256) hx hb dKM_sampleNoise_78 (by decide) ?_
      refine mi_ge (tgt := 132) hx hb dKM_sampleNoise_81 (by decide) (by omega) (by omega) (fun h21 => ?_) (fun h21 => absurd h21 (by omega))
      exact mp_vret hx hb hr hlk hP hD hS (s27, pl) ⟨⟨hR.symm, hF, trivial⟩, hO⟩ [] rfl rfl rfl (by omega) (by omega) dKM_sampleNoise_132
    | succ n21 ih21 =>
      intro i21 s27 pl ls H locs hm21 hF hR hl hO hP hD hS
      refine lv_iload hx hb dKM_sampleNoise_76 (lv_at hl 0 rfl) ?_
      refine lv_sipush (v := nI 256) hx hb dKM_sampleNoise_78 (by decide) ?_
      refine mi_ge (tgt := 132) hx hb dKM_sampleNoise_81 (by decide) (by omega) (by omega) (fun h22 => absurd h22 (by omega)) (fun h22 => ?_)
      refine lv_aload_n hx hb dKM_sampleNoise_84 rfl (lv_at hl 2 rfl) ?_
      refine lv_iload hx hb dKM_sampleNoise_85 (lv_at hl 0 rfl) ?_
      refine nw_iald hx hb hK hO k_f (k := pf) n_f hP (by omega) (by omega) dKM_sampleNoise_87 ?_
      refine lv_iload hx hb dKM_sampleNoise_88 (lv_at hl 1 rfl) ?_
      refine lv_iand hx hb dKM_sampleNoise_90 ?_
      refine mp_i (cx := []) (wr := []) hP hD hS hA [] [] rfl rfl rfl (by decide) (va_runS (As := [.int (((s27.1 pf i21) &&& (nI 7)))]) (rest := []) F (N_JI_bitCount l g _ T s27 pl hO hU ((s27.1 pf i21) &&& (nI 7))) (va_cwS 1 hts (wg_app (wg_c kw_630 (wg_c kw_631 (wg_c kw_23 wg_n))) kw_632) rfl rfl rfl (by decide +kernel) ⟨by decide, by decide⟩) (pp_S (en_ok g) hP hD hS hA hE [] rfl rfl) rfl rfl hl.1 rfl (lv_room (Nat.le_of_ble_eq_true rfl)) dKM_sampleNoise_91 ⟨by omega, by omega⟩) (fun r29 u27 H locs hu27 hP hD hS => ?_)
      obtain ⟨q21, pl⟩ := u27
      obtain ⟨⟨eq27, rfl, hFc27, -⟩, hO⟩ := hu27
      have hO : okn g T q21.2 pl := hO
      have hP : va_P g.1 vcl ([] ++ pl) _ := hP
      have hD : va_D _ ([] ++ pl) := hD
      have hFc27 : frm (M_JI_bitCount) s27 q21.2 := hFc27
      replace hR := bnd_step hR eq27
      have hF := frm_tr hF hFc27 (fun k hk => by unfold M_JI_bitCount at hk; unfold M_KM_sampleNoise_3; omega)
      refine W.widen (k := 0) (n := 0) (by omega) (by omega) ?_
      refine lv_aload_n hx hb dKM_sampleNoise_94 rfl (lv_at hl 2 rfl) ?_
      refine lv_iload hx hb dKM_sampleNoise_95 (lv_at hl 0 rfl) ?_
      refine nw_iald hx hb hK hO k_f (k := pf) n_f hP (by omega) (by omega) dKM_sampleNoise_97 ?_
      refine lv_iload_n hx hb dKM_sampleNoise_98 rfl (lv_at hl 3 rfl) ?_
      refine lv_ishr hx hb dKM_sampleNoise_99 ?_
      refine mp_i (cx := []) (wr := []) hP hD hS hA [] [] rfl rfl rfl (by decide) (va_runS (As := [.int (((q21.2.1 pf i21) >>> ((nI 3) &&& 31)))]) (rest := [.int q21.1]) F (N_JI_bitCount l g _ T q21.2 pl hO hU ((q21.2.1 pf i21) >>> ((nI 3) &&& 31))) (va_cwS 1 hts (wg_app (wg_c kw_630 (wg_c kw_631 (wg_c kw_23 wg_n))) kw_632) rfl rfl rfl (by decide +kernel) ⟨by decide, by decide⟩) (pp_S (en_ok g) hP hD hS hA hE [] rfl rfl) rfl rfl hl.1 rfl (lv_room (Nat.le_of_ble_eq_true rfl)) dKM_sampleNoise_100 ⟨by omega, by omega⟩) (fun r30 u28 H locs hu28 hP hD hS => ?_)
      obtain ⟨q22, pl⟩ := u28
      obtain ⟨⟨eq28, rfl, hFc28, -⟩, hO⟩ := hu28
      have hO : okn g T q22.2 pl := hO
      have hP : va_P g.1 vcl ([] ++ pl) _ := hP
      have hD : va_D _ ([] ++ pl) := hD
      have hFc28 : frm (M_JI_bitCount) q21.2 q22.2 := hFc28
      replace hR := bnd_step hR eq28
      have hF := frm_tr hF hFc28 (fun k hk => by unfold M_JI_bitCount at hk; unfold M_KM_sampleNoise_3; omega)
      refine W.widen (k := 0) (n := 0) (by omega) (by omega) ?_
      refine lv_isub hx hb dKM_sampleNoise_103 ?_
      refine mi_eqv (fun z21 ez21 => ?_)
      replace hR := bnd_step hR ez21
      refine lv_istore (lv' := [(6, .int z21), (5, .int (nI i21)), (4, .int (nI 7)), (1, .ref f), (2, .int (nI 3))]) hx hb dKM_sampleNoise_104 hl (by decide) rfl (fun ls hl => ?_)
      refine lv_aload_n hx hb dKM_sampleNoise_106 rfl (lv_at hl 3 rfl) ?_
      refine lv_iload hx hb dKM_sampleNoise_107 (lv_at hl 1 rfl) ?_
      refine lv_iload hx hb dKM_sampleNoise_109 (lv_at hl 0 rfl) ?_
      refine lv_if_ge (tgt := 123) hx hb dKM_sampleNoise_111 (by decide) (fun h23 => ?_) (fun h23 => ?_)
      · replace hR := hR.trans (if_pos h23)
        refine lv_iload hx hb dKM_sampleNoise_123 (lv_at hl 0 rfl) ?_
        refine nw_iast hx hb hK hO hU k_f (k := pf) n_f hP hD hS (by omega) (by omega) dKM_sampleNoise_125 (fun s28 pl H locs es21 hO hP hD hS => ?_)
        replace hR := bnd_step hR es21
        have hF := frm_sI hF es21 (by unfold M_KM_sampleNoise_3; omega)
        refine mi_iinc (k := 1) (x := i21) (d := 1) (y := i21 + 1) (lv' := [(5, .int (nI (i21 + 1))), (6, .int z21), (4, .int (nI 7)), (1, .ref f), (2, .int (nI 3))]) hx hb dKM_sampleNoise_126 hl rfl (by decide) rfl (by decide) rfl (fun ls hl => ?_)
        refine lv_goto (tgt := 76) hx hb dKM_sampleNoise_129 (by decide) ?_
        exact ih21 (i21 + 1) s28 pl ls H locs (by omega) hF hR (lv_sub hl [0, 2, 3, 4] rfl) hO hP hD hS
      · replace hR := hR.trans (if_neg h23)
        refine lv_iload hx hb dKM_sampleNoise_114 (lv_at hl 0 rfl) ?_
        refine lv_sipush (v := nI 3329) hx hb dKM_sampleNoise_116 (by decide) ?_
        refine lv_iadd hx hb dKM_sampleNoise_119 ?_
        refine lv_goto (tgt := 125) hx hb dKM_sampleNoise_120 (by decide) ?_
        refine nw_iast hx hb hK hO hU k_f (k := pf) n_f hP hD hS (by omega) (by omega) dKM_sampleNoise_125 (fun s29 pl H locs es22 hO hP hD hS => ?_)
        replace hR := bnd_step hR es22
        have hF := frm_sI hF es22 (by unfold M_KM_sampleNoise_3; omega)
        refine mi_iinc (k := 1) (x := i21) (d := 1) (y := i21 + 1) (lv' := [(5, .int (nI (i21 + 1))), (6, .int z21), (4, .int (nI 7)), (1, .ref f), (2, .int (nI 3))]) hx hb dKM_sampleNoise_126 hl rfl (by decide) rfl (by decide) rfl (fun ls hl => ?_)
        refine lv_goto (tgt := 76) hx hb dKM_sampleNoise_129 (by decide) ?_
        exact ih21 (i21 + 1) s29 pl ls H locs (by omega) hF hR (lv_sub hl [0, 2, 3, 4] rfl) hO hP hD hS
  exact lp21 256 0 s26 pl ls _ _ (by omega) hF hR (lv_sub hl [0, 1, 3, 4] rfl) hO hP hD hS
def M_KM_readReduced (k : Nat) : Prop := k = 31 ∨ (0 : Nat) = 1
noncomputable def F_KM_readReduced_L0 : Nat → Nat → Sto → Sto
  | 0, i21, s22 => s22
  | n21 + 1, i21, s22 => if (s22.1 31 i21) < (nI 3329) then bnd (sI s22 31 i21 (s22.1 31 i21)) fun s23 => F_KM_readReduced_L0  n21 (i21 + 1) s23 else bnd (sI s22 31 i21 ((s22.1 31 i21) - (nI 3329))) fun s24 => F_KM_readReduced_L0  n21 (i21 + 1) s24
noncomputable def F_KM_readReduced (pb : Nat) (n : Nat) (at_ : Nat) (s : Sto) : Sto := bnd (F_BT_unpack 31 12 pb n at_ s) fun s21 => F_KM_readReduced_L0 256 0 s21
set_option maxHeartbeats 400000 in
set_option maxRecDepth 100000 in
theorem N_KM_readReduced (l : Launch) (g : Gd) (sz : Nat) (T : TyN) (s : Sto) (pl : va_W) (hO : okn g T s pl) (hU : inj T) (h0 b : Nat) (pb : Nat) (n : Nat) (at_ : Nat) (k_h0 : T h0 = some 24) (k_b : T b = some pb) (n_b : nsp pb = (1, n, [])) (h1 : at_ + 384 ≤ n) (h2 : n < 65536)  : Met l y_KM_readReduced w_KM_readReduced ({ frames := 1, cells := 0, slots := 0, locals := 28 } : Room) (va_Pc [.ref h0, .ref b, .int (nI at_)] (pr (en g) g.1 vcl sz ([] ++ pl))) (va_Qv (fun (u : (Sto) × va_W) => (u.1 = F_KM_readReduced pb n at_ s ∧ frm (M_KM_readReduced) s u.1 ∧ True) ∧ okn g T u.1 u.2) (po g.1 vcl (va_A ([] ++ pl) sz) (fun (u : (Sto) × va_W) => [] ++ u.2)) (va_A ([] ++ pl) sz)) 0 0 (va_A ([] ++ pl) sz) := by
  refine mc_entry (cc := c_KM_readReduced) (maxL := 4) (ret := none) (by decide) rfl (Nat.le_of_ble_eq_true rfl) ?_
  intro p e s0 m args below meth c ls F hr hlk hnm hsz hP hD hE hA hl
  obtain ⟨hx, hb, hml, hown, hts⟩ := id F
  have hK := hE.1
  generalize va_A ([] ++ pl) sz = A at hD hE hA ⊢
  have hS : va_S A s0.heap s0.heap [] := va_S.rf
  have hl : lv_has ls 4 [(0, .ref h0), (1, .ref b), (2, .int (nI at_))] := hl
  have hR : F_KM_readReduced pb n at_ s = F_KM_readReduced pb n at_ s := rfl
  have hF : frm (M_KM_readReduced) s s := frm_rf
  refine lv_aload_n hx hb dKM_readReduced_0 rfl (lv_at hl 0 rfl) ?_
  refine nw_get (C := "LatticeKeys$Kem") (TT := T_KM) (N := 10) hx hb hts (wg_ft i_KM) hown hK hO k_h0 (kn := 24) (ci := 5) (fl := [(3, 14), (3, 20), (3, 25), (3, 30), (3, 31), (3, 32), (3, 33), (3, 34), (3, 35), (3, 36)]) rfl hP rfl 4 (by decide) (hts _ (wg_t kw_111)) (fun _ h9 => h9) (cd := (3, 31)) rfl dKM_readReduced_1 (fun v21 hv21 => ?_)
  obtain ⟨r21, rfl, kr21⟩ := (show ∃ r : Nat, v21 = .ref r ∧ T r = some 31 from hv21)
  refine lv_bipush (v := nI 12) hx hb dKM_readReduced_4 (by decide) ?_
  refine lv_aload_n hx hb dKM_readReduced_6 rfl (lv_at hl 1 rfl) ?_
  refine lv_iload_n hx hb dKM_readReduced_7 rfl (lv_at hl 2 rfl) ?_
  refine mp_v (cx := []) (wr := []) hP hD hS hA [] [] rfl rfl rfl (by decide) (va_runS (As := [.ref r21, .int (nI 12), .ref b, .int (nI at_)]) (rest := []) F (N_BT_unpack l g _ T s pl hO hU r21 b 31 12 pb n at_ kr21 rfl k_b n_b (by omega) (by omega) (by omega)) (va_cwS 4 hts (wg_app (wg_c kw_627 (wg_c kw_628 (wg_c kw_22 wg_n))) kw_629) rfl rfl rfl (by decide +kernel) ⟨by decide, by decide⟩) (pp_S (en_ok g) hP hD hS hA hE [] rfl rfl) rfl rfl hl.1 rfl (lv_room (Nat.le_of_ble_eq_true rfl)) dKM_readReduced_8 ⟨by omega, by omega⟩) (fun  u21 H locs hu21 hP hD hS => ?_)
  obtain ⟨s21, pl⟩ := u21
  obtain ⟨⟨eq21, hFc21, -⟩, hO⟩ := hu21
  have hO : okn g T s21 pl := hO
  have hP : va_P g.1 vcl ([] ++ pl) _ := hP
  have hD : va_D _ ([] ++ pl) := hD
  have hFc21 : frm (M_BT_unpack 31) s s21 := hFc21
  replace hR := bnd_step hR eq21
  have hF := frm_tr hF hFc21 (fun k hk => by unfold M_BT_unpack at hk; unfold M_KM_readReduced; omega)
  refine W.widen (k := 0) (n := 0) (by omega) (by omega) ?_
  refine lv_iconst (v := nI 0) hx hb dKM_readReduced_11 (by decide) ?_
  refine lv_istore_n (lv' := [(3, .int (nI 0)), (0, .ref h0), (1, .ref b), (2, .int (nI at_))]) hx hb dKM_readReduced_12 rfl hl (by decide) rfl (fun ls hl => ?_)
  have lp21 : ∀ (n21 : Nat) (i21 : Nat) (s22 : Sto) (pl : va_W) (ls : Array Slot) (H : Heap) (locs : List Loc), n21 + i21 = 256 → frm (M_KM_readReduced) s s22 → F_KM_readReduced pb n at_ s = F_KM_readReduced_L0 n21 i21 s22 → lv_has ls 4 [(3, .int (nI i21)), (0, .ref h0)] → okn g T s22 pl → va_P g.1 vcl ([] ++ pl) H → va_D A ([] ++ pl) → va_S A s0.heap H locs → W p l e ({ frames := 1, cells := 0, slots := 0, locals := 28 } : Room) s0 m args below meth c H locs 0 0 (MQ below (va_Qv (fun (u : (Sto) × va_W) => (u.1 = F_KM_readReduced pb n at_ s ∧ frm (M_KM_readReduced) s u.1 ∧ True) ∧ okn g T u.1 u.2) (po g.1 vcl A (fun (u : (Sto) × va_W) => [] ++ u.2)) A) args s0 0 0 A) (F0 m 13 ls []) := by
    intro n21
    induction n21 with
    | zero =>
      intro i21 s22 pl ls H locs hm21 hF hR hl hO hP hD hS
      refine lv_iload_n hx hb dKM_readReduced_13 rfl (lv_at hl 0 rfl) ?_
      refine lv_sipush (v := nI 256) hx hb dKM_readReduced_14 (by decide) ?_
      refine mi_ge (tgt := 63) hx hb dKM_readReduced_17 (by decide) (by omega) (by omega) (fun h21 => ?_) (fun h21 => absurd h21 (by omega))
      exact mp_vret hx hb hr hlk hP hD hS (s22, pl) ⟨⟨hR.symm, hF, trivial⟩, hO⟩ [] rfl rfl rfl (by omega) (by omega) dKM_readReduced_63
    | succ n21 ih21 =>
      intro i21 s22 pl ls H locs hm21 hF hR hl hO hP hD hS
      refine lv_iload_n hx hb dKM_readReduced_13 rfl (lv_at hl 0 rfl) ?_
      refine lv_sipush (v := nI 256) hx hb dKM_readReduced_14 (by decide) ?_
      refine mi_ge (tgt := 63) hx hb dKM_readReduced_17 (by decide) (by omega) (by omega) (fun h22 => absurd h22 (by omega)) (fun h22 => ?_)
      refine lv_aload_n hx hb dKM_readReduced_20 rfl (lv_at hl 1 rfl) ?_
      refine nw_get (C := "LatticeKeys$Kem") (TT := T_KM) (N := 10) hx hb hts (wg_ft i_KM) hown hK hO k_h0 (kn := 24) (ci := 5) (fl := [(3, 14), (3, 20), (3, 25), (3, 30), (3, 31), (3, 32), (3, 33), (3, 34), (3, 35), (3, 36)]) rfl hP rfl 4 (by decide) (hts _ (wg_t kw_111)) (fun _ h9 => h9) (cd := (3, 31)) rfl dKM_readReduced_21 (fun v22 hv22 => ?_)
      obtain ⟨r22, rfl, kr22⟩ := (show ∃ r : Nat, v22 = .ref r ∧ T r = some 31 from hv22)
      refine lv_iload_n hx hb dKM_readReduced_24 rfl (lv_at hl 0 rfl) ?_
      refine lv_aload_n hx hb dKM_readReduced_25 rfl (lv_at hl 1 rfl) ?_
      refine nw_get (C := "LatticeKeys$Kem") (TT := T_KM) (N := 10) hx hb hts (wg_ft i_KM) hown hK hO k_h0 (kn := 24) (ci := 5) (fl := [(3, 14), (3, 20), (3, 25), (3, 30), (3, 31), (3, 32), (3, 33), (3, 34), (3, 35), (3, 36)]) rfl hP rfl 4 (by decide) (hts _ (wg_t kw_111)) (fun _ h9 => h9) (cd := (3, 31)) rfl dKM_readReduced_26 (fun v23 hv23 => ?_)
      obtain ⟨r23, rfl, kr23⟩ := (show ∃ r : Nat, v23 = .ref r ∧ T r = some 31 from hv23)
      refine lv_iload_n hx hb dKM_readReduced_29 rfl (lv_at hl 0 rfl) ?_
      refine nw_iald hx hb hK hO kr23 (k := 31) rfl hP (by omega) (by omega) dKM_readReduced_30 ?_
      refine lv_sipush (v := nI 3329) hx hb dKM_readReduced_31 (by decide) ?_
      refine lv_icmp_lt (tgt := 50) hx hb dKM_readReduced_34 (by decide) (fun h23 => ?_) (fun h23 => ?_)
      · replace hR := hR.trans (if_pos h23)
        refine lv_aload_n hx hb dKM_readReduced_50 rfl (lv_at hl 1 rfl) ?_
        refine nw_get (C := "LatticeKeys$Kem") (TT := T_KM) (N := 10) hx hb hts (wg_ft i_KM) hown hK hO k_h0 (kn := 24) (ci := 5) (fl := [(3, 14), (3, 20), (3, 25), (3, 30), (3, 31), (3, 32), (3, 33), (3, 34), (3, 35), (3, 36)]) rfl hP rfl 4 (by decide) (hts _ (wg_t kw_111)) (fun _ h9 => h9) (cd := (3, 31)) rfl dKM_readReduced_51 (fun v24 hv24 => ?_)
        obtain ⟨r24, rfl, kr24⟩ := (show ∃ r : Nat, v24 = .ref r ∧ T r = some 31 from hv24)
        refine lv_iload_n hx hb dKM_readReduced_54 rfl (lv_at hl 0 rfl) ?_
        refine nw_iald hx hb hK hO kr24 (k := 31) rfl hP (by omega) (by omega) dKM_readReduced_55 ?_
        refine nw_iast hx hb hK hO hU kr22 (k := 31) rfl hP hD hS (by omega) (by omega) dKM_readReduced_56 (fun s23 pl H locs es21 hO hP hD hS => ?_)
        replace hR := bnd_step hR es21
        have hF := frm_sI hF es21 (by unfold M_KM_readReduced; omega)
        refine mi_iinc (k := 0) (x := i21) (d := 1) (y := i21 + 1) (lv' := [(3, .int (nI (i21 + 1))), (0, .ref h0)]) hx hb dKM_readReduced_57 hl rfl (by decide) rfl (by decide) rfl (fun ls hl => ?_)
        refine lv_goto (tgt := 13) hx hb dKM_readReduced_60 (by decide) ?_
        exact ih21 (i21 + 1) s23 pl ls H locs (by omega) hF hR (lv_sub hl [0, 1] rfl) hO hP hD hS
      · replace hR := hR.trans (if_neg h23)
        refine lv_aload_n hx hb dKM_readReduced_37 rfl (lv_at hl 1 rfl) ?_
        refine nw_get (C := "LatticeKeys$Kem") (TT := T_KM) (N := 10) hx hb hts (wg_ft i_KM) hown hK hO k_h0 (kn := 24) (ci := 5) (fl := [(3, 14), (3, 20), (3, 25), (3, 30), (3, 31), (3, 32), (3, 33), (3, 34), (3, 35), (3, 36)]) rfl hP rfl 4 (by decide) (hts _ (wg_t kw_111)) (fun _ h9 => h9) (cd := (3, 31)) rfl dKM_readReduced_38 (fun v25 hv25 => ?_)
        obtain ⟨r25, rfl, kr25⟩ := (show ∃ r : Nat, v25 = .ref r ∧ T r = some 31 from hv25)
        refine lv_iload_n hx hb dKM_readReduced_41 rfl (lv_at hl 0 rfl) ?_
        refine nw_iald hx hb hK hO kr25 (k := 31) rfl hP (by omega) (by omega) dKM_readReduced_42 ?_
        refine lv_sipush (v := nI 3329) hx hb dKM_readReduced_43 (by decide) ?_
        refine lv_isub hx hb dKM_readReduced_46 ?_
        refine lv_goto (tgt := 56) hx hb dKM_readReduced_47 (by decide) ?_
        refine nw_iast hx hb hK hO hU kr22 (k := 31) rfl hP hD hS (by omega) (by omega) dKM_readReduced_56 (fun s24 pl H locs es22 hO hP hD hS => ?_)
        replace hR := bnd_step hR es22
        have hF := frm_sI hF es22 (by unfold M_KM_readReduced; omega)
        refine mi_iinc (k := 0) (x := i21) (d := 1) (y := i21 + 1) (lv' := [(3, .int (nI (i21 + 1))), (0, .ref h0)]) hx hb dKM_readReduced_57 hl rfl (by decide) rfl (by decide) rfl (fun ls hl => ?_)
        refine lv_goto (tgt := 13) hx hb dKM_readReduced_60 (by decide) ?_
        exact ih21 (i21 + 1) s24 pl ls H locs (by omega) hF hR (lv_sub hl [0, 1] rfl) hO hP hD hS
  exact lp21 256 0 s21 pl ls _ _ (by omega) hF hR (lv_sub hl [0, 1] rfl) hO hP hD hS
def M_KM_writeRounded (pf : Nat) (pt : Nat) (k : Nat) : Prop := k = pf ∨ k = pt ∨ (0 : Nat) = 1
noncomputable def F_KM_writeRounded_L0 (pf : Nat) (b : Nat) (pt : Nat) (n : Nat) (at_ : Nat) (z21 : Int32) : Nat → Nat → Sto → Sto
  | 0, i21, s21 => bnd (F_BT_pack pf b pt n at_ s21) fun s22 => s22
  | n21 + 1, i21, s21 => bnd (sI s21 pf i21 (((((s21.1 pf i21) <<< ((nI b) &&& 31)) + (nI 1664)) / (nI 3329)) &&& z21)) fun s23 => F_KM_writeRounded_L0 pf b pt n at_ z21 n21 (i21 + 1) s23
noncomputable def F_KM_writeRounded (pf : Nat) (b : Nat) (pt : Nat) (n : Nat) (at_ : Nat) (s : Sto) : Sto := bnd ((((nI 1) <<< ((nI b) &&& 31)) - (nI 1))) fun z21 => F_KM_writeRounded_L0 pf b pt n at_ z21 256 0 s
set_option maxHeartbeats 400000 in
set_option maxRecDepth 100000 in
theorem N_KM_writeRounded (l : Launch) (g : Gd) (sz : Nat) (T : TyN) (s : Sto) (pl : va_W) (hO : okn g T s pl) (hU : inj T) (h0 f to : Nat) (pf : Nat) (b : Nat) (pt : Nat) (n : Nat) (at_ : Nat) (k_h0 : T h0 = some 24) (k_f : T f = some pf) (n_f : nsp pf = (0, 256, [])) (k_to : T to = some pt) (n_to : nsp pt = (1, n, [])) (h1 : at_ + 32 * b ≤ n) (h2 : n < 65536) (h3 : b < 32)  : Met l y_KM_writeRounded w_KM_writeRounded ({ frames := 1, cells := 0, slots := 0, locals := 27 } : Room) (va_Pc [.ref h0, .ref f, .int (nI b), .ref to, .int (nI at_)] (pr (en g) g.1 vcl sz ([] ++ pl))) (va_Qv (fun (u : (Sto) × va_W) => (u.1 = F_KM_writeRounded pf b pt n at_ s ∧ frm (M_KM_writeRounded pf pt) s u.1 ∧ True) ∧ okn g T u.1 u.2) (po g.1 vcl (va_A ([] ++ pl) sz) (fun (u : (Sto) × va_W) => [] ++ u.2)) (va_A ([] ++ pl) sz)) 0 0 (va_A ([] ++ pl) sz) := by
  refine mc_entry (cc := c_KM_writeRounded) (maxL := 7) (ret := none) (by decide) rfl (Nat.le_of_ble_eq_true rfl) ?_
  intro p e s0 m args below meth c ls F hr hlk hnm hsz hP hD hE hA hl
  obtain ⟨hx, hb, hml, hown, hts⟩ := id F
  have hK := hE.1
  generalize va_A ([] ++ pl) sz = A at hD hE hA ⊢
  have hS : va_S A s0.heap s0.heap [] := va_S.rf
  have hl : lv_has ls 7 [(0, .ref h0), (1, .ref f), (2, .int (nI b)), (3, .ref to), (4, .int (nI at_))] := hl
  have hR : F_KM_writeRounded pf b pt n at_ s = F_KM_writeRounded pf b pt n at_ s := rfl
  have hF : frm (M_KM_writeRounded pf pt) s s := frm_rf
  refine lv_iconst (v := nI 1) hx hb dKM_writeRounded_0 (by decide) ?_
  refine lv_iload_n hx hb dKM_writeRounded_1 rfl (lv_at hl 2 rfl) ?_
  refine lv_ishl hx hb dKM_writeRounded_2 ?_
  refine lv_iconst (v := nI 1) hx hb dKM_writeRounded_3 (by decide) ?_
  refine lv_isub hx hb dKM_writeRounded_4 ?_
  refine mi_eqv (fun z21 ez21 => ?_)
  replace hR := bnd_step hR ez21
  refine lv_istore (lv' := [(5, .int z21), (0, .ref h0), (1, .ref f), (2, .int (nI b)), (3, .ref to), (4, .int (nI at_))]) hx hb dKM_writeRounded_5 hl (by decide) rfl (fun ls hl => ?_)
  refine lv_iconst (v := nI 0) hx hb dKM_writeRounded_7 (by decide) ?_
  refine lv_istore (lv' := [(6, .int (nI 0)), (5, .int z21), (0, .ref h0), (1, .ref f), (2, .int (nI b)), (3, .ref to), (4, .int (nI at_))]) hx hb dKM_writeRounded_8 hl (by decide) rfl (fun ls hl => ?_)
  have lp21 : ∀ (n21 : Nat) (i21 : Nat) (s21 : Sto) (pl : va_W) (ls : Array Slot) (H : Heap) (locs : List Loc), n21 + i21 = 256 → frm (M_KM_writeRounded pf pt) s s21 → F_KM_writeRounded pf b pt n at_ s = F_KM_writeRounded_L0 pf b pt n at_ z21 n21 i21 s21 → lv_has ls 7 [(6, .int (nI i21)), (5, .int z21), (1, .ref f), (2, .int (nI b)), (3, .ref to), (4, .int (nI at_))] → okn g T s21 pl → va_P g.1 vcl ([] ++ pl) H → va_D A ([] ++ pl) → va_S A s0.heap H locs → W p l e ({ frames := 1, cells := 0, slots := 0, locals := 27 } : Room) s0 m args below meth c H locs 0 0 (MQ below (va_Qv (fun (u : (Sto) × va_W) => (u.1 = F_KM_writeRounded pf b pt n at_ s ∧ frm (M_KM_writeRounded pf pt) s u.1 ∧ True) ∧ okn g T u.1 u.2) (po g.1 vcl A (fun (u : (Sto) × va_W) => [] ++ u.2)) A) args s0 0 0 A) (F0 m 10 ls []) := by
    intro n21
    induction n21 with
    | zero =>
      intro i21 s21 pl ls H locs hm21 hF hR hl hO hP hD hS
      refine lv_iload hx hb dKM_writeRounded_10 (lv_at hl 0 rfl) ?_
      refine lv_sipush (v := nI 256) hx hb dKM_writeRounded_12 (by decide) ?_
      refine mi_ge (tgt := 45) hx hb dKM_writeRounded_15 (by decide) (by omega) (by omega) (fun h21 => ?_) (fun h21 => absurd h21 (by omega))
      refine lv_aload_n hx hb dKM_writeRounded_45 rfl (lv_at hl 2 rfl) ?_
      refine lv_iload_n hx hb dKM_writeRounded_46 rfl (lv_at hl 3 rfl) ?_
      refine lv_aload_n hx hb dKM_writeRounded_47 rfl (lv_at hl 4 rfl) ?_
      refine lv_iload hx hb dKM_writeRounded_48 (lv_at hl 5 rfl) ?_
      refine mp_v (cx := []) (wr := []) hP hD hS hA [] [] rfl rfl rfl (by decide) (va_runS (As := [.ref f, .int (nI b), .ref to, .int (nI at_)]) (rest := []) F (N_BT_pack l g _ T s21 pl hO hU f to pf b pt n at_ k_f n_f k_to n_to (by omega) (by omega) (by omega)) (va_cwS 4 hts (wg_app (wg_c kw_644 (wg_c kw_645 (wg_c kw_22 wg_n))) kw_646) rfl rfl rfl (by decide +kernel) ⟨by decide, by decide⟩) (pp_S (en_ok g) hP hD hS hA hE [] rfl rfl) rfl rfl hl.1 rfl (lv_room (Nat.le_of_ble_eq_true rfl)) dKM_writeRounded_50 ⟨by omega, by omega⟩) (fun  u21 H locs hu21 hP hD hS => ?_)
      obtain ⟨s22, pl⟩ := u21
      obtain ⟨⟨eq21, hFc21, -⟩, hO⟩ := hu21
      have hO : okn g T s22 pl := hO
      have hP : va_P g.1 vcl ([] ++ pl) _ := hP
      have hD : va_D _ ([] ++ pl) := hD
      have hFc21 : frm (M_BT_pack pt) s21 s22 := hFc21
      replace hR := bnd_step hR eq21
      have hF := frm_tr hF hFc21 (fun k hk => by unfold M_BT_pack at hk; unfold M_KM_writeRounded; omega)
      refine W.widen (k := 0) (n := 0) (by omega) (by omega) ?_
      exact mp_vret hx hb hr hlk hP hD hS (s22, pl) ⟨⟨hR.symm, hF, trivial⟩, hO⟩ [] rfl rfl rfl (by omega) (by omega) dKM_writeRounded_53
    | succ n21 ih21 =>
      intro i21 s21 pl ls H locs hm21 hF hR hl hO hP hD hS
      refine lv_iload hx hb dKM_writeRounded_10 (lv_at hl 0 rfl) ?_
      refine lv_sipush (v := nI 256) hx hb dKM_writeRounded_12 (by decide) ?_
      refine mi_ge (tgt := 45) hx hb dKM_writeRounded_15 (by decide) (by omega) (by omega) (fun h22 => absurd h22 (by omega)) (fun h22 => ?_)
      refine lv_aload_n hx hb dKM_writeRounded_18 rfl (lv_at hl 2 rfl) ?_
      refine lv_iload hx hb dKM_writeRounded_19 (lv_at hl 0 rfl) ?_
      refine lv_aload_n hx hb dKM_writeRounded_21 rfl (lv_at hl 2 rfl) ?_
      refine lv_iload hx hb dKM_writeRounded_22 (lv_at hl 0 rfl) ?_
      refine nw_iald hx hb hK hO k_f (k := pf) n_f hP (by omega) (by omega) dKM_writeRounded_24 ?_
      refine lv_iload_n hx hb dKM_writeRounded_25 rfl (lv_at hl 3 rfl) ?_
      refine lv_ishl hx hb dKM_writeRounded_26 ?_
      refine lv_sipush (v := nI 1664) hx hb dKM_writeRounded_27 (by decide) ?_
      refine lv_iadd hx hb dKM_writeRounded_30 ?_
      refine lv_sipush (v := nI 3329) hx hb dKM_writeRounded_31 (by decide) ?_
      refine lv_idiv hx hb dKM_writeRounded_34 (nI_ne0 (by omega) (by omega)) ?_
      refine lv_iload hx hb dKM_writeRounded_35 (lv_at hl 1 rfl) ?_
      refine lv_iand hx hb dKM_writeRounded_37 ?_
      refine nw_iast hx hb hK hO hU k_f (k := pf) n_f hP hD hS (by omega) (by omega) dKM_writeRounded_38 (fun s23 pl H locs es21 hO hP hD hS => ?_)
      replace hR := bnd_step hR es21
      have hF := frm_sI hF es21 (by unfold M_KM_writeRounded; omega)
      refine mi_iinc (k := 0) (x := i21) (d := 1) (y := i21 + 1) (lv' := [(6, .int (nI (i21 + 1))), (5, .int z21), (1, .ref f), (2, .int (nI b)), (3, .ref to), (4, .int (nI at_))]) hx hb dKM_writeRounded_39 hl rfl (by decide) rfl (by decide) rfl (fun ls hl => ?_)
      refine lv_goto (tgt := 10) hx hb dKM_writeRounded_42 (by decide) ?_
      exact ih21 (i21 + 1) s23 pl ls H locs (by omega) hF hR (lv_sub hl [0, 1, 2, 3, 4, 5] rfl) hO hP hD hS
  exact lp21 256 0 s pl ls _ _ (by omega) hF hR (lv_sub hl [0, 1, 3, 4, 5, 6] rfl) hO hP hD hS
def M_KM_readRounded (pf : Nat) (k : Nat) : Prop := k = pf ∨ (0 : Nat) = 1
noncomputable def F_KM_readRounded_L0 (pf : Nat) (b : Nat) : Nat → Nat → Sto → Sto
  | 0, i21, s22 => s22
  | n21 + 1, i21, s22 => bnd (sI s22 pf i21 ((((s22.1 pf i21) * (nI 3329)) + ((nI 1) <<< ((nI (b - 1)) &&& 31))) >>> ((nI b) &&& 31))) fun s23 => F_KM_readRounded_L0 pf b n21 (i21 + 1) s23
noncomputable def F_KM_readRounded (pf : Nat) (b : Nat) (pr_ : Nat) (n : Nat) (at_ : Nat) (s : Sto) : Sto := bnd (F_BT_unpack pf b pr_ n at_ s) fun s21 => F_KM_readRounded_L0 pf b 256 0 s21
set_option maxHeartbeats 400000 in
set_option maxRecDepth 100000 in
theorem N_KM_readRounded (l : Launch) (g : Gd) (sz : Nat) (T : TyN) (s : Sto) (pl : va_W) (hO : okn g T s pl) (hU : inj T) (h0 f fr : Nat) (pf : Nat) (b : Nat) (pr_ : Nat) (n : Nat) (at_ : Nat) (k_h0 : T h0 = some 24) (k_f : T f = some pf) (n_f : nsp pf = (0, 256, [])) (k_fr : T fr = some pr_) (n_fr : nsp pr_ = (1, n, [])) (h1 : at_ + 32 * b ≤ n) (h2 : n < 65536) (h3 : b < 32) (h4 : 1 ≤ b)  : Met l y_KM_readRounded w_KM_readRounded ({ frames := 1, cells := 0, slots := 0, locals := 28 } : Room) (va_Pc [.ref h0, .ref f, .int (nI b), .ref fr, .int (nI at_)] (pr (en g) g.1 vcl sz ([] ++ pl))) (va_Qv (fun (u : (Sto) × va_W) => (u.1 = F_KM_readRounded pf b pr_ n at_ s ∧ frm (M_KM_readRounded pf) s u.1 ∧ True) ∧ okn g T u.1 u.2) (po g.1 vcl (va_A ([] ++ pl) sz) (fun (u : (Sto) × va_W) => [] ++ u.2)) (va_A ([] ++ pl) sz)) 0 0 (va_A ([] ++ pl) sz) := by
  refine mc_entry (cc := c_KM_readRounded) (maxL := 6) (ret := none) (by decide) rfl (Nat.le_of_ble_eq_true rfl) ?_
  intro p e s0 m args below meth c ls F hr hlk hnm hsz hP hD hE hA hl
  obtain ⟨hx, hb, hml, hown, hts⟩ := id F
  have hK := hE.1
  generalize va_A ([] ++ pl) sz = A at hD hE hA ⊢
  have hS : va_S A s0.heap s0.heap [] := va_S.rf
  have hl : lv_has ls 6 [(0, .ref h0), (1, .ref f), (2, .int (nI b)), (3, .ref fr), (4, .int (nI at_))] := hl
  have hR : F_KM_readRounded pf b pr_ n at_ s = F_KM_readRounded pf b pr_ n at_ s := rfl
  have hF : frm (M_KM_readRounded pf) s s := frm_rf
  refine lv_aload_n hx hb dKM_readRounded_0 rfl (lv_at hl 1 rfl) ?_
  refine lv_iload_n hx hb dKM_readRounded_1 rfl (lv_at hl 2 rfl) ?_
  refine lv_aload_n hx hb dKM_readRounded_2 rfl (lv_at hl 3 rfl) ?_
  refine lv_iload hx hb dKM_readRounded_3 (lv_at hl 4 rfl) ?_
  refine mp_v (cx := []) (wr := []) hP hD hS hA [] [] rfl rfl rfl (by decide) (va_runS (As := [.ref f, .int (nI b), .ref fr, .int (nI at_)]) (rest := []) F (N_BT_unpack l g _ T s pl hO hU f fr pf b pr_ n at_ k_f n_f k_fr n_fr (by omega) (by omega) (by omega)) (va_cwS 4 hts (wg_app (wg_c kw_627 (wg_c kw_628 (wg_c kw_22 wg_n))) kw_629) rfl rfl rfl (by decide +kernel) ⟨by decide, by decide⟩) (pp_S (en_ok g) hP hD hS hA hE [] rfl rfl) rfl rfl hl.1 rfl (lv_room (Nat.le_of_ble_eq_true rfl)) dKM_readRounded_5 ⟨by omega, by omega⟩) (fun  u21 H locs hu21 hP hD hS => ?_)
  obtain ⟨s21, pl⟩ := u21
  obtain ⟨⟨eq21, hFc21, -⟩, hO⟩ := hu21
  have hO : okn g T s21 pl := hO
  have hP : va_P g.1 vcl ([] ++ pl) _ := hP
  have hD : va_D _ ([] ++ pl) := hD
  have hFc21 : frm (M_BT_unpack pf) s s21 := hFc21
  replace hR := bnd_step hR eq21
  have hF := frm_tr hF hFc21 (fun k hk => by unfold M_BT_unpack at hk; unfold M_KM_readRounded; omega)
  refine W.widen (k := 0) (n := 0) (by omega) (by omega) ?_
  refine lv_iconst (v := nI 0) hx hb dKM_readRounded_8 (by decide) ?_
  refine lv_istore (lv' := [(5, .int (nI 0)), (0, .ref h0), (1, .ref f), (2, .int (nI b)), (3, .ref fr), (4, .int (nI at_))]) hx hb dKM_readRounded_9 hl (by decide) rfl (fun ls hl => ?_)
  have lp21 : ∀ (n21 : Nat) (i21 : Nat) (s22 : Sto) (pl : va_W) (ls : Array Slot) (H : Heap) (locs : List Loc), n21 + i21 = 256 → frm (M_KM_readRounded pf) s s22 → F_KM_readRounded pf b pr_ n at_ s = F_KM_readRounded_L0 pf b n21 i21 s22 → lv_has ls 6 [(5, .int (nI i21)), (1, .ref f), (2, .int (nI b))] → okn g T s22 pl → va_P g.1 vcl ([] ++ pl) H → va_D A ([] ++ pl) → va_S A s0.heap H locs → W p l e ({ frames := 1, cells := 0, slots := 0, locals := 28 } : Room) s0 m args below meth c H locs 0 0 (MQ below (va_Qv (fun (u : (Sto) × va_W) => (u.1 = F_KM_readRounded pf b pr_ n at_ s ∧ frm (M_KM_readRounded pf) s u.1 ∧ True) ∧ okn g T u.1 u.2) (po g.1 vcl A (fun (u : (Sto) × va_W) => [] ++ u.2)) A) args s0 0 0 A) (F0 m 11 ls []) := by
    intro n21
    induction n21 with
    | zero =>
      intro i21 s22 pl ls H locs hm21 hF hR hl hO hP hD hS
      refine lv_iload hx hb dKM_readRounded_11 (lv_at hl 0 rfl) ?_
      refine lv_sipush (v := nI 256) hx hb dKM_readRounded_13 (by decide) ?_
      refine mi_ge (tgt := 45) hx hb dKM_readRounded_16 (by decide) (by omega) (by omega) (fun h21 => ?_) (fun h21 => absurd h21 (by omega))
      exact mp_vret hx hb hr hlk hP hD hS (s22, pl) ⟨⟨hR.symm, hF, trivial⟩, hO⟩ [] rfl rfl rfl (by omega) (by omega) dKM_readRounded_45
    | succ n21 ih21 =>
      intro i21 s22 pl ls H locs hm21 hF hR hl hO hP hD hS
      refine lv_iload hx hb dKM_readRounded_11 (lv_at hl 0 rfl) ?_
      refine lv_sipush (v := nI 256) hx hb dKM_readRounded_13 (by decide) ?_
      refine mi_ge (tgt := 45) hx hb dKM_readRounded_16 (by decide) (by omega) (by omega) (fun h22 => absurd h22 (by omega)) (fun h22 => ?_)
      refine lv_aload_n hx hb dKM_readRounded_19 rfl (lv_at hl 1 rfl) ?_
      refine lv_iload hx hb dKM_readRounded_20 (lv_at hl 0 rfl) ?_
      refine lv_aload_n hx hb dKM_readRounded_22 rfl (lv_at hl 1 rfl) ?_
      refine lv_iload hx hb dKM_readRounded_23 (lv_at hl 0 rfl) ?_
      refine nw_iald hx hb hK hO k_f (k := pf) n_f hP (by omega) (by omega) dKM_readRounded_25 ?_
      refine lv_sipush (v := nI 3329) hx hb dKM_readRounded_26 (by decide) ?_
      refine lv_imul hx hb dKM_readRounded_29 ?_
      refine lv_iconst (v := nI 1) hx hb dKM_readRounded_30 (by decide) ?_
      refine lv_iload_n hx hb dKM_readRounded_31 rfl (lv_at hl 2 rfl) ?_
      refine lv_iconst (v := nI 1) hx hb dKM_readRounded_32 (by decide) ?_
      refine mi_isub hx hb dKM_readRounded_33 (by omega) ?_
      refine lv_ishl hx hb dKM_readRounded_34 ?_
      refine lv_iadd hx hb dKM_readRounded_35 ?_
      refine lv_iload_n hx hb dKM_readRounded_36 rfl (lv_at hl 2 rfl) ?_
      refine lv_ishr hx hb dKM_readRounded_37 ?_
      refine nw_iast hx hb hK hO hU k_f (k := pf) n_f hP hD hS (by omega) (by omega) dKM_readRounded_38 (fun s23 pl H locs es21 hO hP hD hS => ?_)
      replace hR := bnd_step hR es21
      have hF := frm_sI hF es21 (by unfold M_KM_readRounded; omega)
      refine mi_iinc (k := 0) (x := i21) (d := 1) (y := i21 + 1) (lv' := [(5, .int (nI (i21 + 1))), (1, .ref f), (2, .int (nI b))]) hx hb dKM_readRounded_39 hl rfl (by decide) rfl (by decide) rfl (fun ls hl => ?_)
      refine lv_goto (tgt := 11) hx hb dKM_readRounded_42 (by decide) ?_
      exact ih21 (i21 + 1) s23 pl ls H locs (by omega) hF hR (lv_sub hl [0, 1, 2] rfl) hO hP hD hS
  exact lp21 256 0 s21 pl ls _ _ (by omega) hF hR (lv_sub hl [0, 2, 3] rfl) hO hP hD hS
