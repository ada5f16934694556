abbrev c_KM_digestOf : ByteArray := prog_6_method_7_code
abbrev y_KM_digestOf : MethodName := ⟨"LatticeKeys$Kem", "digestOf", "([BII)V"⟩
abbrev w_KM_digestOf : List Cond := Cond.code y_KM_digestOf c_KM_digestOf 4 none :: WG
theorem dKM_digestOf_0 : decode c_KM_digestOf 0 = .ok (.aload_n 0, 1) := by decide +kernel
theorem dKM_digestOf_1 : decode c_KM_digestOf 1 = .ok (.getfield 10, 3) := by decide +kernel
theorem dKM_digestOf_4 : decode c_KM_digestOf 4 = .ok (.iconst 0, 1) := by decide +kernel
theorem dKM_digestOf_5 : decode c_KM_digestOf 5 = .ok (.invokevirtual 53, 3) := by decide +kernel
theorem dKM_digestOf_8 : decode c_KM_digestOf 8 = .ok (.aload_n 0, 1) := by decide +kernel
theorem dKM_digestOf_9 : decode c_KM_digestOf 9 = .ok (.getfield 10, 3) := by decide +kernel
theorem dKM_digestOf_12 : decode c_KM_digestOf 12 = .ok (.aload_n 1, 1) := by decide +kernel
theorem dKM_digestOf_13 : decode c_KM_digestOf 13 = .ok (.iload_n 2, 1) := by decide +kernel
theorem dKM_digestOf_14 : decode c_KM_digestOf 14 = .ok (.iload_n 3, 1) := by decide +kernel
theorem dKM_digestOf_15 : decode c_KM_digestOf 15 = .ok (.invokevirtual 57, 3) := by decide +kernel
theorem dKM_digestOf_18 : decode c_KM_digestOf 18 = .ok (.aload_n 0, 1) := by decide +kernel
theorem dKM_digestOf_19 : decode c_KM_digestOf 19 = .ok (.getfield 10, 3) := by decide +kernel
theorem dKM_digestOf_22 : decode c_KM_digestOf 22 = .ok (.invokevirtual 70, 3) := by decide +kernel
theorem dKM_digestOf_25 : decode c_KM_digestOf 25 = .ok (.aload_n 0, 1) := by decide +kernel
theorem dKM_digestOf_26 : decode c_KM_digestOf 26 = .ok (.getfield 10, 3) := by decide +kernel
theorem dKM_digestOf_29 : decode c_KM_digestOf 29 = .ok (.aload_n 0, 1) := by decide +kernel
theorem dKM_digestOf_30 : decode c_KM_digestOf 30 = .ok (.getfield 41, 3) := by decide +kernel
theorem dKM_digestOf_33 : decode c_KM_digestOf 33 = .ok (.iconst 0, 1) := by decide +kernel
theorem dKM_digestOf_34 : decode c_KM_digestOf 34 = .ok (.bipush 32, 2) := by decide +kernel
theorem dKM_digestOf_36 : decode c_KM_digestOf 36 = .ok (.invokevirtual 73, 3) := by decide +kernel
theorem dKM_digestOf_39 : decode c_KM_digestOf 39 = .ok (.return_, 1) := by decide +kernel
abbrev c_KM_deriveSeeds : ByteArray := prog_6_method_8_code
abbrev y_KM_deriveSeeds : MethodName := ⟨"LatticeKeys$Kem", "deriveSeeds", "([BI)V"⟩
abbrev w_KM_deriveSeeds : List Cond := Cond.code y_KM_deriveSeeds c_KM_deriveSeeds 3 none :: WG
theorem dKM_deriveSeeds_0 : decode c_KM_deriveSeeds 0 = .ok (.aload_n 0, 1) := by decide +kernel
theorem dKM_deriveSeeds_1 : decode c_KM_deriveSeeds 1 = .ok (.getfield 10, 3) := by decide +kernel
theorem dKM_deriveSeeds_4 : decode c_KM_deriveSeeds 4 = .ok (.iconst 1, 1) := by decide +kernel
theorem dKM_deriveSeeds_5 : decode c_KM_deriveSeeds 5 = .ok (.invokevirtual 53, 3) := by decide +kernel
theorem dKM_deriveSeeds_8 : decode c_KM_deriveSeeds 8 = .ok (.aload_n 0, 1) := by decide +kernel
theorem dKM_deriveSeeds_9 : decode c_KM_deriveSeeds 9 = .ok (.getfield 10, 3) := by decide +kernel
theorem dKM_deriveSeeds_12 : decode c_KM_deriveSeeds 12 = .ok (.aload_n 0, 1) := by decide +kernel
theorem dKM_deriveSeeds_13 : decode c_KM_deriveSeeds 13 = .ok (.getfield 37, 3) := by decide +kernel
theorem dKM_deriveSeeds_16 : decode c_KM_deriveSeeds 16 = .ok (.iconst 0, 1) := by decide +kernel
theorem dKM_deriveSeeds_17 : decode c_KM_deriveSeeds 17 = .ok (.bipush 32, 2) := by decide +kernel
theorem dKM_deriveSeeds_19 : decode c_KM_deriveSeeds 19 = .ok (.invokevirtual 57, 3) := by decide +kernel
theorem dKM_deriveSeeds_22 : decode c_KM_deriveSeeds 22 = .ok (.aload_n 0, 1) := by decide +kernel
theorem dKM_deriveSeeds_23 : decode c_KM_deriveSeeds 23 = .ok (.getfield 10, 3) := by decide +kernel
theorem dKM_deriveSeeds_26 : decode c_KM_deriveSeeds 26 = .ok (.aload_n 1, 1) := by decide +kernel
theorem dKM_deriveSeeds_27 : decode c_KM_deriveSeeds 27 = .ok (.iload_n 2, 1) := by decide +kernel
theorem dKM_deriveSeeds_28 : decode c_KM_deriveSeeds 28 = .ok (.bipush 32, 2) := by decide +kernel
theorem dKM_deriveSeeds_30 : decode c_KM_deriveSeeds 30 = .ok (.invokevirtual 57, 3) := by decide +kernel
theorem dKM_deriveSeeds_33 : decode c_KM_deriveSeeds 33 = .ok (.aload_n 0, 1) := by decide +kernel
theorem dKM_deriveSeeds_34 : decode c_KM_deriveSeeds 34 = .ok (.getfield 10, 3) := by decide +kernel
theorem dKM_deriveSeeds_37 : decode c_KM_deriveSeeds 37 = .ok (.invokevirtual 70, 3) := by decide +kernel
theorem dKM_deriveSeeds_40 : decode c_KM_deriveSeeds 40 = .ok (.aload_n 0, 1) := by decide +kernel
theorem dKM_deriveSeeds_41 : decode c_KM_deriveSeeds 41 = .ok (.getfield 10, 3) := by decide +kernel
theorem dKM_deriveSeeds_44 : decode c_KM_deriveSeeds 44 = .ok (.aload_n 0, 1) := by decide +kernel
theorem dKM_deriveSeeds_45 : decode c_KM_deriveSeeds 45 = .ok (.getfield 44, 3) := by decide +kernel
theorem dKM_deriveSeeds_48 : decode c_KM_deriveSeeds 48 = .ok (.iconst 0, 1) := by decide +kernel
theorem dKM_deriveSeeds_49 : decode c_KM_deriveSeeds 49 = .ok (.bipush 64, 2) := by decide +kernel
theorem dKM_deriveSeeds_51 : decode c_KM_deriveSeeds 51 = .ok (.invokevirtual 73, 3) := by decide +kernel
theorem dKM_deriveSeeds_54 : decode c_KM_deriveSeeds 54 = .ok (.return_, 1) := by decide +kernel
abbrev c_KM_sampleEntry : ByteArray := prog_6_method_11_code
abbrev y_KM_sampleEntry : MethodName := ⟨"LatticeKeys$Kem", "sampleEntry", "([BIII)V"⟩
abbrev w_KM_sampleEntry : List Cond := Cond.code y_KM_sampleEntry c_KM_sampleEntry 12 none :: WG
theorem dKM_sampleEntry_0 : decode c_KM_sampleEntry 0 = .ok (.aload_n 0, 1) := by decide +kernel
theorem dKM_sampleEntry_1 : decode c_KM_sampleEntry 1 = .ok (.getfield 10, 3) := by decide +kernel
theorem dKM_sampleEntry_4 : decode c_KM_sampleEntry 4 = .ok (.iconst 2, 1) := by decide +kernel
theorem dKM_sampleEntry_5 : decode c_KM_sampleEntry 5 = .ok (.invokevirtual 53, 3) := by decide +kernel
theorem dKM_sampleEntry_8 : decode c_KM_sampleEntry 8 = .ok (.aload_n 0, 1) := by decide +kernel
theorem dKM_sampleEntry_9 : decode c_KM_sampleEntry 9 = .ok (.getfield 10, 3) := by decide +kernel
theorem dKM_sampleEntry_12 : decode c_KM_sampleEntry 12 = .ok (.aload_n 1, 1) := by decide +kernel
theorem dKM_sampleEntry_13 : decode c_KM_sampleEntry 13 = .ok (.iload_n 2, 1) := by decide +kernel
theorem dKM_sampleEntry_14 : decode c_KM_sampleEntry 14 = .ok (.bipush 32, 2) := by decide +kernel
theorem dKM_sampleEntry_16 : decode c_KM_sampleEntry 16 = .ok (.invokevirtual 57, 3) := by decide +kernel
theorem dKM_sampleEntry_19 : decode c_KM_sampleEntry 19 = .ok (.aload_n 0, 1) := by decide +kernel
theorem dKM_sampleEntry_20 : decode c_KM_sampleEntry 20 = .ok (.getfield 10, 3) := by decide +kernel
theorem dKM_sampleEntry_23 : decode c_KM_sampleEntry 23 = .ok (.iload_n 3, 1) := by decide +kernel
theorem dKM_sampleEntry_24 : decode c_KM_sampleEntry 24 = .ok (.invokevirtual 67, 3) := by decide +kernel
theorem dKM_sampleEntry_27 : decode c_KM_sampleEntry 27 = .ok (.aload_n 0, 1) := by decide +kernel
theorem dKM_sampleEntry_28 : decode c_KM_sampleEntry 28 = .ok (.getfield 10, 3) := by decide +kernel
theorem dKM_sampleEntry_31 : decode c_KM_sampleEntry 31 = .ok (.iload 4, 2) := by decide +kernel
theorem dKM_sampleEntry_33 : decode c_KM_sampleEntry 33 = .ok (.invokevirtual 67, 3) := by decide +kernel
theorem dKM_sampleEntry_36 : decode c_KM_sampleEntry 36 = .ok (.aload_n 0, 1) := by decide +kernel
theorem dKM_sampleEntry_37 : decode c_KM_sampleEntry 37 = .ok (.getfield 10, 3) := by decide +kernel
theorem dKM_sampleEntry_40 : decode c_KM_sampleEntry 40 = .ok (.invokevirtual 70, 3) := by decide +kernel
theorem dKM_sampleEntry_43 : decode c_KM_sampleEntry 43 = .ok (.iconst 0, 1) := by decide +kernel
theorem dKM_sampleEntry_44 : decode c_KM_sampleEntry 44 = .ok (.istore 5, 2) := by decide +kernel
theorem dKM_sampleEntry_46 : decode c_KM_sampleEntry 46 = .ok (.iconst 0, 1) := by decide +kernel
theorem dKM_sampleEntry_47 : decode c_KM_sampleEntry 47 = .ok (.istore 6, 2) := by decide +kernel
theorem dKM_sampleEntry_49 : decode c_KM_sampleEntry 49 = .ok (.iload 5, 2) := by decide +kernel
theorem dKM_sampleEntry_51 : decode c_KM_sampleEntry 51 = .ok (.sipush 256, 3) := by decide +kernel
theorem dKM_sampleEntry_54 : decode c_KM_sampleEntry 54 = .ok (.if_icmp .ge 115, 3) := by decide +kernel
theorem dKM_sampleEntry_57 : decode c_KM_sampleEntry 57 = .ok (.iload 6, 2) := by decide +kernel
theorem dKM_sampleEntry_59 : decode c_KM_sampleEntry 59 = .ok (.ldc 178, 2) := by decide +kernel
theorem dKM_sampleEntry_61 : decode c_KM_sampleEntry 61 = .ok (.if_icmp .ge 108, 3) := by decide +kernel
theorem dKM_sampleEntry_64 : decode c_KM_sampleEntry 64 = .ok (.aload_n 0, 1) := by decide +kernel
theorem dKM_sampleEntry_65 : decode c_KM_sampleEntry 65 = .ok (.getfield 10, 3) := by decide +kernel
theorem dKM_sampleEntry_68 : decode c_KM_sampleEntry 68 = .ok (.invokevirtual 179, 3) := by decide +kernel
theorem dKM_sampleEntry_71 : decode c_KM_sampleEntry 71 = .ok (.istore 7, 2) := by decide +kernel
theorem dKM_sampleEntry_73 : decode c_KM_sampleEntry 73 = .ok (.aload_n 0, 1) := by decide +kernel
theorem dKM_sampleEntry_74 : decode c_KM_sampleEntry 74 = .ok (.getfield 10, 3) := by decide +kernel
theorem dKM_sampleEntry_77 : decode c_KM_sampleEntry 77 = .ok (.invokevirtual 179, 3) := by decide +kernel
theorem dKM_sampleEntry_80 : decode c_KM_sampleEntry 80 = .ok (.istore 8, 2) := by decide +kernel
theorem dKM_sampleEntry_82 : decode c_KM_sampleEntry 82 = .ok (.aload_n 0, 1) := by decide +kernel
theorem dKM_sampleEntry_83 : decode c_KM_sampleEntry 83 = .ok (.getfield 10, 3) := by decide +kernel
theorem dKM_sampleEntry_86 : decode c_KM_sampleEntry 86 = .ok (.invokevirtual 179, 3) := by decide +kernel
theorem dKM_sampleEntry_89 : decode c_KM_sampleEntry 89 = .ok (.istore 9, 2) := by decide +kernel
theorem dKM_sampleEntry_91 : decode c_KM_sampleEntry 91 = .ok (.iload 7, 2) := by decide +kernel
theorem dKM_sampleEntry_93 : decode c_KM_sampleEntry 93 = .ok (.iload 8, 2) := by decide +kernel
theorem dKM_sampleEntry_95 : decode c_KM_sampleEntry 95 = .ok (.bipush 15, 2) := by decide +kernel
theorem dKM_sampleEntry_97 : decode c_KM_sampleEntry 97 = .ok (.iand, 1) := by decide +kernel
theorem dKM_sampleEntry_98 : decode c_KM_sampleEntry 98 = .ok (.bipush 8, 2) := by decide +kernel
theorem dKM_sampleEntry_100 : decode c_KM_sampleEntry 100 = .ok (.ishl, 1) := by decide +kernel
theorem dKM_sampleEntry_101 : decode c_KM_sampleEntry 101 = .ok (.ior, 1) := by decide +kernel
theorem dKM_sampleEntry_102 : decode c_KM_sampleEntry 102 = .ok (.istore 10, 2) := by decide +kernel
theorem dKM_sampleEntry_104 : decode c_KM_sampleEntry 104 = .ok (.iload 8, 2) := by decide +kernel
theorem dKM_sampleEntry_106 : decode c_KM_sampleEntry 106 = .ok (.iconst 4, 1) := by decide +kernel
theorem dKM_sampleEntry_107 : decode c_KM_sampleEntry 107 = .ok (.ishr, 1) := by decide +kernel
theorem dKM_sampleEntry_108 : decode c_KM_sampleEntry 108 = .ok (.iload 9, 2) := by decide +kernel
theorem dKM_sampleEntry_110 : decode c_KM_sampleEntry 110 = .ok (.iconst 4, 1) := by decide +kernel
theorem dKM_sampleEntry_111 : decode c_KM_sampleEntry 111 = .ok (.ishl, 1) := by decide +kernel
theorem dKM_sampleEntry_112 : decode c_KM_sampleEntry 112 = .ok (.ior, 1) := by decide +kernel
theorem dKM_sampleEntry_113 : decode c_KM_sampleEntry 113 = .ok (.istore 11, 2) := by decide +kernel
theorem dKM_sampleEntry_115 : decode c_KM_sampleEntry 115 = .ok (.iload 10, 2) := by decide +kernel
theorem dKM_sampleEntry_117 : decode c_KM_sampleEntry 117 = .ok (.sipush 3329, 3) := by decide +kernel
theorem dKM_sampleEntry_120 : decode c_KM_sampleEntry 120 = .ok (.if_icmp .ge 15, 3) := by decide +kernel
theorem dKM_sampleEntry_123 : decode c_KM_sampleEntry 123 = .ok (.aload_n 0, 1) := by decide +kernel
theorem dKM_sampleEntry_124 : decode c_KM_sampleEntry 124 = .ok (.getfield 34, 3) := by decide +kernel
theorem dKM_sampleEntry_127 : decode c_KM_sampleEntry 127 = .ok (.iload 5, 2) := by decide +kernel
theorem dKM_sampleEntry_129 : decode c_KM_sampleEntry 129 = .ok (.iload 10, 2) := by decide +kernel
theorem dKM_sampleEntry_131 : decode c_KM_sampleEntry 131 = .ok (.iastore, 1) := by decide +kernel
theorem dKM_sampleEntry_132 : decode c_KM_sampleEntry 132 = .ok (.iinc 5 1, 3) := by decide +kernel
theorem dKM_sampleEntry_135 : decode c_KM_sampleEntry 135 = .ok (.iload 11, 2) := by decide +kernel
theorem dKM_sampleEntry_137 : decode c_KM_sampleEntry 137 = .ok (.sipush 3329, 3) := by decide +kernel
theorem dKM_sampleEntry_140 : decode c_KM_sampleEntry 140 = .ok (.if_icmp .ge 23, 3) := by decide +kernel
theorem dKM_sampleEntry_143 : decode c_KM_sampleEntry 143 = .ok (.iload 5, 2) := by decide +kernel
theorem dKM_sampleEntry_145 : decode c_KM_sampleEntry 145 = .ok (.sipush 256, 3) := by decide +kernel
theorem dKM_sampleEntry_148 : decode c_KM_sampleEntry 148 = .ok (.if_icmp .ge 15, 3) := by decide +kernel
theorem dKM_sampleEntry_151 : decode c_KM_sampleEntry 151 = .ok (.aload_n 0, 1) := by decide +kernel
theorem dKM_sampleEntry_152 : decode c_KM_sampleEntry 152 = .ok (.getfield 34, 3) := by decide +kernel
theorem dKM_sampleEntry_155 : decode c_KM_sampleEntry 155 = .ok (.iload 5, 2) := by decide +kernel
theorem dKM_sampleEntry_157 : decode c_KM_sampleEntry 157 = .ok (.iload 11, 2) := by decide +kernel
theorem dKM_sampleEntry_159 : decode c_KM_sampleEntry 159 = .ok (.iastore, 1) := by decide +kernel
theorem dKM_sampleEntry_160 : decode c_KM_sampleEntry 160 = .ok (.iinc 5 1, 3) := by decide +kernel
theorem dKM_sampleEntry_163 : decode c_KM_sampleEntry 163 = .ok (.iinc 6 1, 3) := by decide +kernel
theorem dKM_sampleEntry_166 : decode c_KM_sampleEntry 166 = .ok (.goto (-117), 3) := by decide +kernel
theorem dKM_sampleEntry_169 : decode c_KM_sampleEntry 169 = .ok (.return_, 1) := by decide +kernel
abbrev c_KM_sampleNoise : ByteArray := prog_6_method_12_code
abbrev y_KM_sampleNoise : MethodName := ⟨"LatticeKeys$Kem", "sampleNoise", "([III)V"⟩
abbrev w_KM_sampleNoise : List Cond := Cond.code y_KM_sampleNoise c_KM_sampleNoise 7 none :: WG
theorem dKM_sampleNoise_0 : decode c_KM_sampleNoise 0 = .ok (.aload_n 0, 1) := by decide +kernel
theorem dKM_sampleNoise_1 : decode c_KM_sampleNoise 1 = .ok (.getfield 10, 3) := by decide +kernel
theorem dKM_sampleNoise_4 : decode c_KM_sampleNoise 4 = .ok (.iconst 3, 1) := by decide +kernel
theorem dKM_sampleNoise_5 : decode c_KM_sampleNoise 5 = .ok (.invokevirtual 53, 3) := by decide +kernel
theorem dKM_sampleNoise_8 : decode c_KM_sampleNoise 8 = .ok (.aload_n 0, 1) := by decide +kernel
theorem dKM_sampleNoise_9 : decode c_KM_sampleNoise 9 = .ok (.getfield 10, 3) := by decide +kernel
theorem dKM_sampleNoise_12 : decode c_KM_sampleNoise 12 = .ok (.aload_n 0, 1) := by decide +kernel
theorem dKM_sampleNoise_13 : decode c_KM_sampleNoise 13 = .ok (.getfield 44, 3) := by decide +kernel
theorem dKM_sampleNoise_16 : decode c_KM_sampleNoise 16 = .ok (.bipush 32, 2) := by decide +kernel
theorem dKM_sampleNoise_18 : decode c_KM_sampleNoise 18 = .ok (.bipush 32, 2) := by decide +kernel
theorem dKM_sampleNoise_20 : decode c_KM_sampleNoise 20 = .ok (.invokevirtual 57, 3) := by decide +kernel
theorem dKM_sampleNoise_23 : decode c_KM_sampleNoise 23 = .ok (.aload_n 0, 1) := by decide +kernel
theorem dKM_sampleNoise_24 : decode c_KM_sampleNoise 24 = .ok (.getfield 10, 3) := by decide +kernel
theorem dKM_sampleNoise_27 : decode c_KM_sampleNoise 27 = .ok (.iload_n 3, 1) := by decide +kernel
theorem dKM_sampleNoise_28 : decode c_KM_sampleNoise 28 = .ok (.invokevirtual 67, 3) := by decide +kernel
theorem dKM_sampleNoise_31 : decode c_KM_sampleNoise 31 = .ok (.aload_n 0, 1) := by decide +kernel
theorem dKM_sampleNoise_32 : decode c_KM_sampleNoise 32 = .ok (.getfield 10, 3) := by decide +kernel
theorem dKM_sampleNoise_35 : decode c_KM_sampleNoise 35 = .ok (.invokevirtual 70, 3) := by decide +kernel
theorem dKM_sampleNoise_38 : decode c_KM_sampleNoise 38 = .ok (.aload_n 0, 1) := by decide +kernel
theorem dKM_sampleNoise_39 : decode c_KM_sampleNoise 39 = .ok (.getfield 10, 3) := by decide +kernel
theorem dKM_sampleNoise_42 : decode c_KM_sampleNoise 42 = .ok (.aload_n 0, 1) := by decide +kernel
theorem dKM_sampleNoise_43 : decode c_KM_sampleNoise 43 = .ok (.getfield 47, 3) := by decide +kernel
theorem dKM_sampleNoise_46 : decode c_KM_sampleNoise 46 = .ok (.iconst 0, 1) := by decide +kernel
theorem dKM_sampleNoise_47 : decode c_KM_sampleNoise 47 = .ok (.bipush 64, 2) := by decide +kernel
theorem dKM_sampleNoise_49 : decode c_KM_sampleNoise 49 = .ok (.iload_n 2, 1) := by decide +kernel
theorem dKM_sampleNoise_50 : decode c_KM_sampleNoise 50 = .ok (.imul, 1) := by decide +kernel
theorem dKM_sampleNoise_51 : decode c_KM_sampleNoise 51 = .ok (.invokevirtual 73, 3) := by decide +kernel
theorem dKM_sampleNoise_54 : decode c_KM_sampleNoise 54 = .ok (.aload_n 1, 1) := by decide +kernel
theorem dKM_sampleNoise_55 : decode c_KM_sampleNoise 55 = .ok (.iconst 2, 1) := by decide +kernel
theorem dKM_sampleNoise_56 : decode c_KM_sampleNoise 56 = .ok (.iload_n 2, 1) := by decide +kernel
theorem dKM_sampleNoise_57 : decode c_KM_sampleNoise 57 = .ok (.imul, 1) := by decide +kernel
theorem dKM_sampleNoise_58 : decode c_KM_sampleNoise 58 = .ok (.aload_n 0, 1) := by decide +kernel
theorem dKM_sampleNoise_59 : decode c_KM_sampleNoise 59 = .ok (.getfield 47, 3) := by decide +kernel
theorem dKM_sampleNoise_62 : decode c_KM_sampleNoise 62 = .ok (.iconst 0, 1) := by decide +kernel
theorem dKM_sampleNoise_63 : decode c_KM_sampleNoise 63 = .ok (.invokestatic 144, 3) := by decide +kernel
theorem dKM_sampleNoise_66 : decode c_KM_sampleNoise 66 = .ok (.iconst 1, 1) := by decide +kernel
theorem dKM_sampleNoise_67 : decode c_KM_sampleNoise 67 = .ok (.iload_n 2, 1) := by decide +kernel
theorem dKM_sampleNoise_68 : decode c_KM_sampleNoise 68 = .ok (.ishl, 1) := by decide +kernel
theorem dKM_sampleNoise_69 : decode c_KM_sampleNoise 69 = .ok (.iconst 1, 1) := by decide +kernel
theorem dKM_sampleNoise_70 : decode c_KM_sampleNoise 70 = .ok (.isub, 1) := by decide +kernel
theorem dKM_sampleNoise_71 : decode c_KM_sampleNoise 71 = .ok (.istore 4, 2) := by decide +kernel
theorem dKM_sampleNoise_73 : decode c_KM_sampleNoise 73 = .ok (.iconst 0, 1) := by decide +kernel
theorem dKM_sampleNoise_74 : decode c_KM_sampleNoise 74 = .ok (.istore 5, 2) := by decide +kernel
theorem dKM_sampleNoise_76 : decode c_KM_sampleNoise 76 = .ok (.iload 5, 2) := by decide +kernel
theorem dKM_sampleNoise_78 : decode c_KM_sampleNoise 78 = .ok (.sipush 256, 3) := by decide +kernel
theorem dKM_sampleNoise_81 : decode c_KM_sampleNoise 81 = .ok (.if_icmp .ge 51, 3) := by decide +kernel
theorem dKM_sampleNoise_84 : decode c_KM_sampleNoise 84 = .ok (.aload_n 1, 1) := by decide +kernel
theorem dKM_sampleNoise_85 : decode c_KM_sampleNoise 85 = .ok (.iload 5, 2) := by decide +kernel
theorem dKM_sampleNoise_87 : decode c_KM_sampleNoise 87 = .ok (.iaload, 1) := by decide +kernel
theorem dKM_sampleNoise_88 : decode c_KM_sampleNoise 88 = .ok (.iload 4, 2) := by decide +kernel
theorem dKM_sampleNoise_90 : decode c_KM_sampleNoise 90 = .ok (.iand, 1) := by decide +kernel
theorem dKM_sampleNoise_91 : decode c_KM_sampleNoise 91 = .ok (.invokestatic 183, 3) := by decide +kernel
theorem dKM_sampleNoise_94 : decode c_KM_sampleNoise 94 = .ok (.aload_n 1, 1) := by decide +kernel
theorem dKM_sampleNoise_95 : decode c_KM_sampleNoise 95 = .ok (.iload 5, 2) := by decide +kernel
theorem dKM_sampleNoise_97 : decode c_KM_sampleNoise 97 = .ok (.iaload, 1) := by decide +kernel
theorem dKM_sampleNoise_98 : decode c_KM_sampleNoise 98 = .ok (.iload_n 2, 1) := by decide +kernel
theorem dKM_sampleNoise_99 : decode c_KM_sampleNoise 99 = .ok (.ishr, 1) := by decide +kernel
theorem dKM_sampleNoise_100 : decode c_KM_sampleNoise 100 = .ok (.invokestatic 183, 3) := by decide +kernel
theorem dKM_sampleNoise_103 : decode c_KM_sampleNoise 103 = .ok (.isub, 1) := by decide +kernel
theorem dKM_sampleNoise_104 : decode c_KM_sampleNoise 104 = .ok (.istore 6, 2) := by decide +kernel
theorem dKM_sampleNoise_106 : decode c_KM_sampleNoise 106 = .ok (.aload_n 1, 1) := by decide +kernel
theorem dKM_sampleNoise_107 : decode c_KM_sampleNoise 107 = .ok (.iload 5, 2) := by decide +kernel
theorem dKM_sampleNoise_109 : decode c_KM_sampleNoise 109 = .ok (.iload 6, 2) := by decide +kernel
theorem dKM_sampleNoise_111 : decode c_KM_sampleNoise 111 = .ok (.ifCond .ge 12, 3) := by decide +kernel
theorem dKM_sampleNoise_114 : decode c_KM_sampleNoise 114 = .ok (.iload 6, 2) := by decide +kernel
theorem dKM_sampleNoise_116 : decode c_KM_sampleNoise 116 = .ok (.sipush 3329, 3) := by decide +kernel
theorem dKM_sampleNoise_119 : decode c_KM_sampleNoise 119 = .ok (.iadd, 1) := by decide +kernel
theorem dKM_sampleNoise_120 : decode c_KM_sampleNoise 120 = .ok (.goto 5, 3) := by decide +kernel
theorem dKM_sampleNoise_123 : decode c_KM_sampleNoise 123 = .ok (.iload 6, 2) := by decide +kernel
theorem dKM_sampleNoise_125 : decode c_KM_sampleNoise 125 = .ok (.iastore, 1) := by decide +kernel
theorem dKM_sampleNoise_126 : decode c_KM_sampleNoise 126 = .ok (.iinc 5 1, 3) := by decide +kernel
theorem dKM_sampleNoise_129 : decode c_KM_sampleNoise 129 = .ok (.goto (-53), 3) := by decide +kernel
theorem dKM_sampleNoise_132 : decode c_KM_sampleNoise 132 = .ok (.return_, 1) := by decide +kernel
abbrev c_KM_readReduced : ByteArray := prog_6_method_13_code
abbrev y_KM_readReduced : MethodName := ⟨"LatticeKeys$Kem", "readReduced", "([BI)V"⟩
abbrev w_KM_readReduced : List Cond := Cond.code y_KM_readReduced c_KM_readReduced 4 none :: WG
theorem dKM_readReduced_0 : decode c_KM_readReduced 0 = .ok (.aload_n 0, 1) := by decide +kernel
theorem dKM_readReduced_1 : decode c_KM_readReduced 1 = .ok (.getfield 34, 3) := by decide +kernel
theorem dKM_readReduced_4 : decode c_KM_readReduced 4 = .ok (.bipush 12, 2) := by decide +kernel
theorem dKM_readReduced_6 : decode c_KM_readReduced 6 = .ok (.aload_n 1, 1) := by decide +kernel
theorem dKM_readReduced_7 : decode c_KM_readReduced 7 = .ok (.iload_n 2, 1) := by decide +kernel
theorem dKM_readReduced_8 : decode c_KM_readReduced 8 = .ok (.invokestatic 144, 3) := by decide +kernel
theorem dKM_readReduced_11 : decode c_KM_readReduced 11 = .ok (.iconst 0, 1) := by decide +kernel
theorem dKM_readReduced_12 : decode c_KM_readReduced 12 = .ok (.istore_n 3, 1) := by decide +kernel
theorem dKM_readReduced_13 : decode c_KM_readReduced 13 = .ok (.iload_n 3, 1) := by decide +kernel
theorem dKM_readReduced_14 : decode c_KM_readReduced 14 = .ok (.sipush 256, 3) := by decide +kernel
theorem dKM_readReduced_17 : decode c_KM_readReduced 17 = .ok (.if_icmp .ge 46, 3) := by decide +kernel
theorem dKM_readReduced_20 : decode c_KM_readReduced 20 = .ok (.aload_n 0, 1) := by decide +kernel
theorem dKM_readReduced_21 : decode c_KM_readReduced 21 = .ok (.getfield 34, 3) := by decide +kernel
theorem dKM_readReduced_24 : decode c_KM_readReduced 24 = .ok (.iload_n 3, 1) := by decide +kernel
theorem dKM_readReduced_25 : decode c_KM_readReduced 25 = .ok (.aload_n 0, 1) := by decide +kernel
theorem dKM_readReduced_26 : decode c_KM_readReduced 26 = .ok (.getfield 34, 3) := by decide +kernel
theorem dKM_readReduced_29 : decode c_KM_readReduced 29 = .ok (.iload_n 3, 1) := by decide +kernel
theorem dKM_readReduced_30 : decode c_KM_readReduced 30 = .ok (.iaload, 1) := by decide +kernel
theorem dKM_readReduced_31 : decode c_KM_readReduced 31 = .ok (.sipush 3329, 3) := by decide +kernel
theorem dKM_readReduced_34 : decode c_KM_readReduced 34 = .ok (.if_icmp .lt 16, 3) := by decide +kernel
theorem dKM_readReduced_37 : decode c_KM_readReduced 37 = .ok (.aload_n 0, 1) := by decide +kernel
theorem dKM_readReduced_38 : decode c_KM_readReduced 38 = .ok (.getfield 34, 3) := by decide +kernel
theorem dKM_readReduced_41 : decode c_KM_readReduced 41 = .ok (.iload_n 3, 1) := by decide +kernel
theorem dKM_readReduced_42 : decode c_KM_readReduced 42 = .ok (.iaload, 1) := by decide +kernel
theorem dKM_readReduced_43 : decode c_KM_readReduced 43 = .ok (.sipush 3329, 3) := by decide +kernel
theorem dKM_readReduced_46 : decode c_KM_readReduced 46 = .ok (.isub, 1) := by decide +kernel
theorem dKM_readReduced_47 : decode c_KM_readReduced 47 = .ok (.goto 9, 3) := by decide +kernel
theorem dKM_readReduced_50 : decode c_KM_readReduced 50 = .ok (.aload_n 0, 1) := by decide +kernel
theorem dKM_readReduced_51 : decode c_KM_readReduced 51 = .ok (.getfield 34, 3) := by decide +kernel
theorem dKM_readReduced_54 : decode c_KM_readReduced 54 = .ok (.iload_n 3, 1) := by decide +kernel
theorem dKM_readReduced_55 : decode c_KM_readReduced 55 = .ok (.iaload, 1) := by decide +kernel
theorem dKM_readReduced_56 : decode c_KM_readReduced 56 = .ok (.iastore, 1) := by decide +kernel
theorem dKM_readReduced_57 : decode c_KM_readReduced 57 = .ok (.iinc 3 1, 3) := by decide +kernel
theorem dKM_readReduced_60 : decode c_KM_readReduced 60 = .ok (.goto (-47), 3) := by decide +kernel
theorem dKM_readReduced_63 : decode c_KM_readReduced 63 = .ok (.return_, 1) := by decide +kernel
abbrev c_KM_writeRounded : ByteArray := prog_6_method_14_code
abbrev y_KM_writeRounded : MethodName := ⟨"LatticeKeys$Kem", "writeRounded", "([II[BI)V"⟩
abbrev w_KM_writeRounded : List Cond := Cond.code y_KM_writeRounded c_KM_writeRounded 7 none :: WG
theorem dKM_writeRounded_0 : decode c_KM_writeRounded 0 = .ok (.iconst 1, 1) := by decide +kernel
theorem dKM_writeRounded_1 : decode c_KM_writeRounded 1 = .ok (.iload_n 2, 1) := by decide +kernel
theorem dKM_writeRounded_2 : decode c_KM_writeRounded 2 = .ok (.ishl, 1) := by decide +kernel
theorem dKM_writeRounded_3 : decode c_KM_writeRounded 3 = .ok (.iconst 1, 1) := by decide +kernel
theorem dKM_writeRounded_4 : decode c_KM_writeRounded 4 = .ok (.isub, 1) := by decide +kernel
theorem dKM_writeRounded_5 : decode c_KM_writeRounded 5 = .ok (.istore 5, 2) := by decide +kernel
theorem dKM_writeRounded_7 : decode c_KM_writeRounded 7 = .ok (.iconst 0, 1) := by decide +kernel
theorem dKM_writeRounded_8 : decode c_KM_writeRounded 8 = .ok (.istore 6, 2) := by decide +kernel
theorem dKM_writeRounded_10 : decode c_KM_writeRounded 10 = .ok (.iload 6, 2) := by decide +kernel
theorem dKM_writeRounded_12 : decode c_KM_writeRounded 12 = .ok (.sipush 256, 3) := by decide +kernel
theorem dKM_writeRounded_15 : decode c_KM_writeRounded 15 = .ok (.if_icmp .ge 30, 3) := by decide +kernel
theorem dKM_writeRounded_18 : decode c_KM_writeRounded 18 = .ok (.aload_n 1, 1) := by decide +kernel
theorem dKM_writeRounded_19 : decode c_KM_writeRounded 19 = .ok (.iload 6, 2) := by decide +kernel
theorem dKM_writeRounded_21 : decode c_KM_writeRounded 21 = .ok (.aload_n 1, 1) := by decide +kernel
theorem dKM_writeRounded_22 : decode c_KM_writeRounded 22 = .ok (.iload 6, 2) := by decide +kernel
theorem dKM_writeRounded_24 : decode c_KM_writeRounded 24 = .ok (.iaload, 1) := by decide +kernel
theorem dKM_writeRounded_25 : decode c_KM_writeRounded 25 = .ok (.iload_n 2, 1) := by decide +kernel
theorem dKM_writeRounded_26 : decode c_KM_writeRounded 26 = .ok (.ishl, 1) := by decide +kernel
theorem dKM_writeRounded_27 : decode c_KM_writeRounded 27 = .ok (.sipush 1664, 3) := by decide +kernel
theorem dKM_writeRounded_30 : decode c_KM_writeRounded 30 = .ok (.iadd, 1) := by decide +kernel
theorem dKM_writeRounded_31 : decode c_KM_writeRounded 31 = .ok (.sipush 3329, 3) := by decide +kernel
theorem dKM_writeRounded_34 : decode c_KM_writeRounded 34 = .ok (.idiv, 1) := by decide +kernel
theorem dKM_writeRounded_35 : decode c_KM_writeRounded 35 = .ok (.iload 5, 2) := by decide +kernel
theorem dKM_writeRounded_37 : decode c_KM_writeRounded 37 = .ok (.iand, 1) := by decide +kernel
theorem dKM_writeRounded_38 : decode c_KM_writeRounded 38 = .ok (.iastore, 1) := by decide +kernel
theorem dKM_writeRounded_39 : decode c_KM_writeRounded 39 = .ok (.iinc 6 1, 3) := by decide +kernel
theorem dKM_writeRounded_42 : decode c_KM_writeRounded 42 = .ok (.goto (-32), 3) := by decide +kernel
theorem dKM_writeRounded_45 : decode c_KM_writeRounded 45 = .ok (.aload_n 1, 1) := by decide +kernel
theorem dKM_writeRounded_46 : decode c_KM_writeRounded 46 = .ok (.iload_n 2, 1) := by decide +kernel
theorem dKM_writeRounded_47 : decode c_KM_writeRounded 47 = .ok (.aload_n 3, 1) := by decide +kernel
theorem dKM_writeRounded_48 : decode c_KM_writeRounded 48 = .ok (.iload 4, 2) := by decide +kernel
theorem dKM_writeRounded_50 : decode c_KM_writeRounded 50 = .ok (.invokestatic 96, 3) := by decide +kernel
theorem dKM_writeRounded_53 : decode c_KM_writeRounded 53 = .ok (.return_, 1) := by decide +kernel
abbrev c_KM_readRounded : ByteArray := prog_6_method_15_code
abbrev y_KM_readRounded : MethodName := ⟨"LatticeKeys$Kem", "readRounded", "([II[BI)V"⟩
abbrev w_KM_readRounded : List Cond := Cond.code y_KM_readRounded c_KM_readRounded 6 none :: WG
theorem dKM_readRounded_0 : decode c_KM_readRounded 0 = .ok (.aload_n 1, 1) := by decide +kernel
theorem dKM_readRounded_1 : decode c_KM_readRounded 1 = .ok (.iload_n 2, 1) := by decide +kernel
theorem dKM_readRounded_2 : decode c_KM_readRounded 2 = .ok (.aload_n 3, 1) := by decide +kernel
theorem dKM_readRounded_3 : decode c_KM_readRounded 3 = .ok (.iload 4, 2) := by decide +kernel
theorem dKM_readRounded_5 : decode c_KM_readRounded 5 = .ok (.invokestatic 144, 3) := by decide +kernel
theorem dKM_readRounded_8 : decode c_KM_readRounded 8 = .ok (.iconst 0, 1) := by decide +kernel
theorem dKM_readRounded_9 : decode c_KM_readRounded 9 = .ok (.istore 5, 2) := by decide +kernel
theorem dKM_readRounded_11 : decode c_KM_readRounded 11 = .ok (.iload 5, 2) := by decide +kernel
theorem dKM_readRounded_13 : decode c_KM_readRounded 13 = .ok (.sipush 256, 3) := by decide +kernel
theorem dKM_readRounded_16 : decode c_KM_readRounded 16 = .ok (.if_icmp .ge 29, 3) := by decide +kernel
theorem dKM_readRounded_19 : decode c_KM_readRounded 19 = .ok (.aload_n 1, 1) := by decide +kernel
theorem dKM_readRounded_20 : decode c_KM_readRounded 20 = .ok (.iload 5, 2) := by decide +kernel
theorem dKM_readRounded_22 : decode c_KM_readRounded 22 = .ok (.aload_n 1, 1) := by decide +kernel
theorem dKM_readRounded_23 : decode c_KM_readRounded 23 = .ok (.iload 5, 2) := by decide +kernel
theorem dKM_readRounded_25 : decode c_KM_readRounded 25 = .ok (.iaload, 1) := by decide +kernel
theorem dKM_readRounded_26 : decode c_KM_readRounded 26 = .ok (.sipush 3329, 3) := by decide +kernel
theorem dKM_readRounded_29 : decode c_KM_readRounded 29 = .ok (.imul, 1) := by decide +kernel
theorem dKM_readRounded_30 : decode c_KM_readRounded 30 = .ok (.iconst 1, 1) := by decide +kernel
theorem dKM_readRounded_31 : decode c_KM_readRounded 31 = .ok (.iload_n 2, 1) := by decide +kernel
theorem dKM_readRounded_32 : decode c_KM_readRounded 32 = .ok (.iconst 1, 1) := by decide +kernel
theorem dKM_readRounded_33 : decode c_KM_readRounded 33 = .ok (.isub, 1) := by decide +kernel
theorem dKM_readRounded_34 : decode c_KM_readRounded 34 = .ok (.ishl, 1) := by decide +kernel
theorem dKM_readRounded_35 : decode c_KM_readRounded 35 = .ok (.iadd, 1) := by decide +kernel
theorem dKM_readRounded_36 : decode c_KM_readRounded 36 = .ok (.iload_n 2, 1) := by decide +kernel
theorem dKM_readRounded_37 : decode c_KM_readRounded 37 = .ok (.ishr, 1) := by decide +kernel
theorem dKM_readRounded_38 : decode c_KM_readRounded 38 = .ok (.iastore, 1) := by decide +kernel
theorem dKM_readRounded_39 : decode c_KM_readRounded 39 = .ok (.iinc 5 1, 3) := by decide +kernel
theorem dKM_readRounded_42 : decode c_KM_readRounded 42 = .ok (.goto (-31), 3) := by decide +kernel
theorem dKM_readRounded_45 : decode c_KM_readRounded 45 = .ok (.return_, 1) := by decide +kernel
set_option maxHeartbeats 400000 in
set_option maxRecDepth 100000 in
theorem t_KM_digestOf (l : Launch) (g : Gd) (sz : Nat) (T : Ty) (xs : List Nat) (pl : va_W) (hO : okx g T xs pl) (hU : uni T) (hc0 : clo T xs 0) (hc2 : clo T xs 2) (h0 b n at_ len : Nat) (k_h0 : T h0 = some (13, 0)) (k_b : T b = some (1, n)) (h1 : at_ + len ≤ n) (h2 : n < 65536)  : Met l y_KM_digestOf w_KM_digestOf ({ frames := 3, cells := 0, slots := 0, locals := 100 } : Room) (va_Pc [.ref h0, .ref b, .int (nI at_), .int (nI len)] (pr (en g) g.1 vcl sz ([] ++ pl))) (va_Qv (fun (u : va_W) => (True) ∧ okx g T xs u) (po g.1 vcl (va_A ([] ++ pl) sz) (fun (u : va_W) => [] ++ u)) (va_A ([] ++ pl) sz)) 0 0 (va_A ([] ++ pl) sz) := by
  refine mc_entry (cc := c_KM_digestOf) (maxL := 4) (ret := none) (by decide) rfl (Nat.le_of_ble_eq_true rfl) ?_
  intro p e s m args below meth c ls F hr hlk hnm hsz hP hD hE hA hl
  obtain ⟨hx, hb, hml, hown, hts⟩ := id F
  have hK := hE.1
  generalize va_A ([] ++ pl) sz = A at hD hE hA ⊢
  have hS : va_S A s.heap s.heap [] := va_S.rf
  have hl : lv_has ls 4 [(0, .ref h0), (1, .ref b), (2, .int (nI at_)), (3, .int (nI len))] := hl
  refine lv_aload_n hx hb dKM_digestOf_0 rfl (lv_at hl 0 rfl) ?_
  refine ty_get (ci := 5) (C := "LatticeKeys$Kem") (TT := T_KM) (N := 10) (kd := (13, 0)) hx hb hts (wg_ft i_KM) hown hK hO k_h0 (nxg hc0 k_h0 rfl) hP (fun _ h9 => h9) rfl 0 (by decide) (hts _ (wg_t kw_107)) (fun _ h9 => h9) (cd := (3, 10, 1)) rfl dKM_digestOf_1 (fun v21 hv21 => ?_)
  obtain ⟨r21, rfl, kr21⟩ := (show ∃ r : Nat, v21 = .ref r ∧ T r = some (10, 1) from hv21)
  refine lv_iconst (v := nI 0) hx hb dKM_digestOf_4 (by decide) ?_
  obtain ⟨e21, pl, hP, hD, hk21, hO⟩ := open1 hP hD hO kr21 (nxg hc2 kr21 rfl)
  obtain ⟨ln21, rt21, ps21, x21, rfl, kl21, hr21, hr22, hr23⟩ := hk21
  have kl21 : T ln21 = some (19, 1) := kl21
  obtain ⟨e22, pl, hP, hD, hk22, hO⟩ := open1 hP hD hO kl21 (nmc (knd_ne kl21 kr21 (by decide)) (nxg hc2 kl21 rfl))
  obtain ⟨f21, rfl⟩ := hk22
  have hP : va_P g.1 vcl ([(r21, .inr (3, [.ref ln21, .int (nI rt21), .int x21, .int (nI ps21)])), (ln21, .inl (g.2.1 2, 25, .inr (.inl f21)))] ++ pl) _ := hP
  have hD : va_D _ ([(r21, .inr (3, [.ref ln21, .int (nI rt21), .int x21, .int (nI ps21)])), (ln21, .inl (g.2.1 2, 25, .inr (.inl f21)))] ++ pl) := hD
  refine mp_v (cx := [(r21, .inr (3, [.ref ln21, .int (nI rt21), .int x21, .int (nI ps21)])), (ln21, .inl (g.2.1 2, 25, .inr (.inl f21)))]) (wr := []) hP hD hS hA [0, 1] [] rfl rfl rfl (by decide) (va_runV (As := [.int (nI 0)]) (rest := []) F (t_SP_start_0 l g _ T (ln21 :: (r21 :: xs)) pl hO hU  r21 ln21 rt21 ps21 x21 f21) (cwV 1 hts (wg_app (wg_c kw_578 (wg_c kw_579 (wg_c kw_580 (wg_c kw_2 wg_n)))) kw_581) rfl rfl rfl (by decide +kernel) ⟨by decide, by decide⟩) (pp_V (en_ok g) (q0 := 0) hK hP hD hS hA hE [0, 1] rfl rfl rfl rfl) rfl rfl hl.1 rfl (lv_room (Nat.le_of_ble_eq_true rfl)) dKM_digestOf_5 ⟨by omega, by omega⟩) (fun  u21 H locs hu21 hP hD hS => ?_)
  obtain ⟨u22, pl⟩ := u21
  obtain ⟨hq21, hO⟩ := hu21
  have hP : va_P g.1 vcl ([(r21, .inr (3, [.ref ln21, .int (nI 136), .int (nI 6), .int (nI 0)])), (ln21, .inl (g.2.1 2, 25, .inr (.inl u22)))] ++ pl) _ := hP
  have hD : va_D _ ([(r21, .inr (3, [.ref ln21, .int (nI 136), .int (nI 6), .int (nI 0)])), (ln21, .inl (g.2.1 2, 25, .inr (.inl u22)))] ++ pl) := hD
  refine W.widen (k := 0) (n := 0) (by omega) (by omega) ?_
  refine lv_aload_n hx hb dKM_digestOf_8 rfl (lv_at hl 0 rfl) ?_
  refine ty_get (ci := 5) (C := "LatticeKeys$Kem") (TT := T_KM) (N := 10) (kd := (13, 0)) hx hb hts (wg_ft i_KM) hown hK hO k_h0 (nxg (clo_cons (clo_cons hc0 kr21 (by decide)) kl21 (by decide)) k_h0 rfl) hP (fun _ h9 => h9) rfl 0 (by decide) (hts _ (wg_t kw_107)) (fun _ h9 => h9) (cd := (3, 10, 1)) rfl dKM_digestOf_9 (fun v22 hv22 => ?_)
  obtain ⟨r22, rfl, kr22⟩ := (show ∃ r : Nat, v22 = .ref r ∧ T r = some (10, 1) from hv22)
  obtain rfl : r21 = r22 := hU _ _ _ (by decide) kr21 kr22
  refine lv_aload_n hx hb dKM_digestOf_12 rfl (lv_at hl 1 rfl) ?_
  refine lv_iload_n hx hb dKM_digestOf_13 rfl (lv_at hl 2 rfl) ?_
  refine lv_iload_n hx hb dKM_digestOf_14 rfl (lv_at hl 3 rfl) ?_
  refine mp_v (cx := [(r21, .inr (3, [.ref ln21, .int (nI 136), .int (nI 6), .int (nI 0)])), (ln21, .inl (g.2.1 2, 25, .inr (.inl u22)))]) (wr := []) hP hD hS hA [0, 1] [] rfl rfl rfl (by decide) (va_runV (As := [.ref b, .int (nI at_), .int (nI len)]) (rest := []) F (t_SP_absorb l g _ T (ln21 :: (r21 :: xs)) pl hO hU (clo_cons (clo_cons hc0 kr21 (by decide)) kl21 (by decide)) b n at_ len r21 ln21 136 0 (nI 6) u22 k_b (by omega) (by omega) (by omega) (by omega)) (cwV 3 hts (wg_app (wg_c kw_585 (wg_c kw_586 (wg_c kw_587 (wg_c kw_2 wg_n)))) kw_588) rfl rfl rfl (by decide +kernel) ⟨by decide, by decide⟩) (pp_V (en_ok g) (q0 := 0) hK hP hD hS hA hE [0, 1] rfl rfl rfl rfl) rfl rfl hl.1 rfl (lv_room (Nat.le_of_ble_eq_true rfl)) dKM_digestOf_15 ⟨by omega, by omega⟩) (fun  u23 H locs hu22 hP hD hS => ?_)
  obtain ⟨u24, pl⟩ := u23
  obtain ⟨hq22, hO⟩ := hu22
  obtain ⟨k21, f22⟩ := u24
  have hP : va_P g.1 vcl ([(r21, .inr (3, [.ref ln21, .int (nI 136), .int (nI 6), .int (nI k21)])), (ln21, .inl (g.2.1 2, 25, .inr (.inl f22)))] ++ pl) _ := hP
  have hD : va_D _ ([(r21, .inr (3, [.ref ln21, .int (nI 136), .int (nI 6), .int (nI k21)])), (ln21, .inl (g.2.1 2, 25, .inr (.inl f22)))] ++ pl) := hD
  have hq22 : k21 < 136 := hq22
  refine W.widen (k := 0) (n := 0) (by omega) (by omega) ?_
  refine lv_aload_n hx hb dKM_digestOf_18 rfl (lv_at hl 0 rfl) ?_
  refine ty_get (ci := 5) (C := "LatticeKeys$Kem") (TT := T_KM) (N := 10) (kd := (13, 0)) hx hb hts (wg_ft i_KM) hown hK hO k_h0 (nxg (clo_cons (clo_cons hc0 kr21 (by decide)) kl21 (by decide)) k_h0 rfl) hP (fun _ h9 => h9) rfl 0 (by decide) (hts _ (wg_t kw_107)) (fun _ h9 => h9) (cd := (3, 10, 1)) rfl dKM_digestOf_19 (fun v23 hv23 => ?_)
  obtain ⟨r23, rfl, kr23⟩ := (show ∃ r : Nat, v23 = .ref r ∧ T r = some (10, 1) from hv23)
  obtain rfl : r21 = r23 := hU _ _ _ (by decide) kr21 kr23
  refine mp_v (cx := [(r21, .inr (3, [.ref ln21, .int (nI 136), .int (nI 6), .int (nI k21)])), (ln21, .inl (g.2.1 2, 25, .inr (.inl f22)))]) (wr := []) hP hD hS hA [0, 1] [] rfl rfl rfl (by decide) (va_runV (As := []) (rest := []) F (t_SP_finish l g _ T (ln21 :: (r21 :: xs)) pl hO hU  r21 ln21 136 k21 (nI 6) f22 (by omega) (by omega)) (cwV 0 hts (wg_app (wg_c kw_610 (wg_c kw_611 (wg_c kw_612 (wg_c kw_2 wg_n)))) kw_613) rfl rfl rfl (by decide +kernel) ⟨by decide, by decide⟩) (pp_V (en_ok g) (q0 := 0) hK hP hD hS hA hE [0, 1] rfl rfl rfl rfl) rfl rfl hl.1 rfl (lv_room (Nat.le_of_ble_eq_true rfl)) dKM_digestOf_22 ⟨by omega, by omega⟩) (fun  u25 H locs hu23 hP hD hS => ?_)
  obtain ⟨u26, pl⟩ := u25
  obtain ⟨hq23, hO⟩ := hu23
  have hP : va_P g.1 vcl ([(r21, .inr (3, [.ref ln21, .int (nI 136), .int (nI 6), .int (nI 136)])), (ln21, .inl (g.2.1 2, 25, .inr (.inl u26)))] ++ pl) _ := hP
  have hD : va_D _ ([(r21, .inr (3, [.ref ln21, .int (nI 136), .int (nI 6), .int (nI 136)])), (ln21, .inl (g.2.1 2, 25, .inr (.inl u26)))] ++ pl) := hD
  refine W.widen (k := 0) (n := 0) (by omega) (by omega) ?_
  refine lv_aload_n hx hb dKM_digestOf_25 rfl (lv_at hl 0 rfl) ?_
  refine ty_get (ci := 5) (C := "LatticeKeys$Kem") (TT := T_KM) (N := 10) (kd := (13, 0)) hx hb hts (wg_ft i_KM) hown hK hO k_h0 (nxg (clo_cons (clo_cons hc0 kr21 (by decide)) kl21 (by decide)) k_h0 rfl) hP (fun _ h9 => h9) rfl 0 (by decide) (hts _ (wg_t kw_107)) (fun _ h9 => h9) (cd := (3, 10, 1)) rfl dKM_digestOf_26 (fun v24 hv24 => ?_)
  obtain ⟨r24, rfl, kr24⟩ := (show ∃ r : Nat, v24 = .ref r ∧ T r = some (10, 1) from hv24)
  obtain rfl : r21 = r24 := hU _ _ _ (by decide) kr21 kr24
  refine lv_aload_n hx hb dKM_digestOf_29 rfl (lv_at hl 0 rfl) ?_
  refine ty_get (ci := 5) (C := "LatticeKeys$Kem") (TT := T_KM) (N := 10) (kd := (13, 0)) hx hb hts (wg_ft i_KM) hown hK hO k_h0 (nxg (clo_cons (clo_cons hc0 kr21 (by decide)) kl21 (by decide)) k_h0 rfl) hP (fun _ h9 => h9) rfl 6 (by decide) (hts _ (wg_t kw_113)) (fun _ h9 => h9) (cd := (3, 1, 32)) rfl dKM_digestOf_30 (fun v25 hv25 => ?_)
  obtain ⟨r25, rfl, kr25⟩ := (show ∃ r : Nat, v25 = .ref r ∧ T r = some (1, 32) from hv25)
  refine lv_iconst (v := nI 0) hx hb dKM_digestOf_33 (by decide) ?_
  refine lv_bipush (v := nI 32) hx hb dKM_digestOf_34 (by decide) ?_
  refine mp_v (cx := [(r21, .inr (3, [.ref ln21, .int (nI 136), .int (nI 6), .int (nI 136)])), (ln21, .inl (g.2.1 2, 25, .inr (.inl u26)))]) (wr := []) hP hD hS hA [0, 1] [] rfl rfl rfl (by decide) (va_runV (As := [.ref r25, .int (nI 0), .int (nI 32)]) (rest := []) F (t_SP_squeeze l g _ T (ln21 :: (r21 :: xs)) pl hO hU (clo_cons (clo_cons hc0 kr21 (by decide)) kl21 (by decide)) r25 32 0 32 r21 ln21 136 136 (nI 6) u26 kr25 (by omega) (by omega) (by omega) (by omega)) (cwV 3 hts (wg_app (wg_c kw_614 (wg_c kw_615 (wg_c kw_616 (wg_c kw_2 wg_n)))) kw_617) rfl rfl rfl (by decide +kernel) ⟨by decide, by decide⟩) (pp_V (en_ok g) (q0 := 0) hK hP hD hS hA hE [0, 1] rfl rfl rfl rfl) rfl rfl hl.1 rfl (lv_room (Nat.le_of_ble_eq_true rfl)) dKM_digestOf_36 ⟨by omega, by omega⟩) (fun  u27 H locs hu24 hP hD hS => ?_)
  obtain ⟨u28, pl⟩ := u27
  obtain ⟨hq24, hO⟩ := hu24
  obtain ⟨k22, f23⟩ := u28
  have hP : va_P g.1 vcl ([(r21, .inr (3, [.ref ln21, .int (nI 136), .int (nI 6), .int (nI k22)])), (ln21, .inl (g.2.1 2, 25, .inr (.inl f23)))] ++ pl) _ := hP
  have hD : va_D _ ([(r21, .inr (3, [.ref ln21, .int (nI 136), .int (nI 6), .int (nI k22)])), (ln21, .inl (g.2.1 2, 25, .inr (.inl f23)))] ++ pl) := hD
  have hq24 : k22 ≤ 136 := hq24
  refine W.widen (k := 0) (n := 0) (by omega) (by omega) ?_
  have hO := close1 (e := .inl (g.2.1 2, 25, .inr (.inl f23))) hO kl21 ⟨_, rfl⟩
  have hO := close1 (e := .inr (3, [.ref ln21, .int (nI 136), .int (nI 6), .int (nI k22)])) hO kr21 ⟨_, _, _, _, rfl, kl21, by omega, by omega, by omega⟩
  have hO : okx g T xs ((r21, .inr (3, [.ref ln21, .int (nI 136), .int (nI 6), .int (nI k22)])) :: (ln21, .inl (g.2.1 2, 25, .inr (.inl f23))) :: pl) := hO
  have hP : va_P g.1 vcl ([] ++ ((r21, .inr (3, [.ref ln21, .int (nI 136), .int (nI 6), .int (nI k22)])) :: (ln21, .inl (g.2.1 2, 25, .inr (.inl f23))) :: pl)) _ := hP
  have hD : va_D _ ([] ++ ((r21, .inr (3, [.ref ln21, .int (nI 136), .int (nI 6), .int (nI k22)])) :: (ln21, .inl (g.2.1 2, 25, .inr (.inl f23))) :: pl)) := hD
  generalize ((r21, .inr (3, [.ref ln21, .int (nI 136), .int (nI 6), .int (nI k22)])) :: (ln21, .inl (g.2.1 2, 25, .inr (.inl f23))) :: pl) = pl at hO hP hD
  exact mp_vret hx hb hr hlk hP hD hS pl ⟨trivial, hO⟩ [] rfl rfl rfl (by omega) (by omega) dKM_digestOf_39
set_option maxHeartbeats 400000 in
set_option maxRecDepth 100000 in
theorem t_KM_deriveSeeds (l : Launch) (g : Gd) (sz : Nat) (T : Ty) (xs : List Nat) (pl : va_W) (hO : okx g T xs pl) (hU : uni T) (hc0 : clo T xs 0) (hc2 : clo T xs 2) (h0 b n at_ : Nat) (k_h0 : T h0 = some (13, 0)) (k_b : T b = some (1, n)) (h1 : at_ + 32 ≤ n) (h2 : n < 65536)  : Met l y_KM_deriveSeeds w_KM_deriveSeeds ({ frames := 3, cells := 0, slots := 0, locals := 100 } : Room) (va_Pc [.ref h0, .ref b, .int (nI at_)] (pr (en g) g.1 vcl sz ([] ++ pl))) (va_Qv (fun (u : va_W) => (True) ∧ okx g T xs u) (po g.1 vcl (va_A ([] ++ pl) sz) (fun (u : va_W) => [] ++ u)) (va_A ([] ++ pl) sz)) 0 0 (va_A ([] ++ pl) sz) := by
  refine mc_entry (cc := c_KM_deriveSeeds) (maxL := 3) (ret := none) (by decide) rfl (Nat.le_of_ble_eq_true rfl) ?_
  intro p e s m args below meth c ls F hr hlk hnm hsz hP hD hE hA hl
  obtain ⟨hx, hb, hml, hown, hts⟩ := id F
  have hK := hE.1
  generalize va_A ([] ++ pl) sz = A at hD hE hA ⊢
  have hS : va_S A s.heap s.heap [] := va_S.rf
  have hl : lv_has ls 3 [(0, .ref h0), (1, .ref b), (2, .int (nI at_))] := hl
  refine lv_aload_n hx hb dKM_deriveSeeds_0 rfl (lv_at hl 0 rfl) ?_
  refine ty_get (ci := 5) (C := "LatticeKeys$Kem") (TT := T_KM) (N := 10) (kd := (13, 0)) hx hb hts (wg_ft i_KM) hown hK hO k_h0 (nxg hc0 k_h0 rfl) hP (fun _ h9 => h9) rfl 0 (by decide) (hts _ (wg_t kw_107)) (fun _ h9 => h9) (cd := (3, 10, 1)) rfl dKM_deriveSeeds_1 (fun v21 hv21 => ?_)
  obtain ⟨r21, rfl, kr21⟩ := (show ∃ r : Nat, v21 = .ref r ∧ T r = some (10, 1) from hv21)
  refine lv_iconst (v := nI 1) hx hb dKM_deriveSeeds_4 (by decide) ?_
  obtain ⟨e21, pl, hP, hD, hk21, hO⟩ := open1 hP hD hO kr21 (nxg hc2 kr21 rfl)
  obtain ⟨ln21, rt21, ps21, x21, rfl, kl21, hr21, hr22, hr23⟩ := hk21
  have kl21 : T ln21 = some (19, 1) := kl21
  obtain ⟨e22, pl, hP, hD, hk22, hO⟩ := open1 hP hD hO kl21 (nmc (knd_ne kl21 kr21 (by decide)) (nxg hc2 kl21 rfl))
  obtain ⟨f21, rfl⟩ := hk22
  have hP : va_P g.1 vcl ([(r21, .inr (3, [.ref ln21, .int (nI rt21), .int x21, .int (nI ps21)])), (ln21, .inl (g.2.1 2, 25, .inr (.inl f21)))] ++ pl) _ := hP
  have hD : va_D _ ([(r21, .inr (3, [.ref ln21, .int (nI rt21), .int x21, .int (nI ps21)])), (ln21, .inl (g.2.1 2, 25, .inr (.inl f21)))] ++ pl) := hD
  refine mp_v (cx := [(r21, .inr (3, [.ref ln21, .int (nI rt21), .int x21, .int (nI ps21)])), (ln21, .inl (g.2.1 2, 25, .inr (.inl f21)))]) (wr := []) hP hD hS hA [0, 1] [] rfl rfl rfl (by decide) (va_runV (As := [.int (nI 1)]) (rest := []) F (t_SP_start_1 l g _ T (ln21 :: (r21 :: xs)) pl hO hU  r21 ln21 rt21 ps21 x21 f21) (cwV 1 hts (wg_app (wg_c kw_578 (wg_c kw_579 (wg_c kw_580 (wg_c kw_2 wg_n)))) kw_581) rfl rfl rfl (by decide +kernel) ⟨by decide, by decide⟩) (pp_V (en_ok g) (q0 := 0) hK hP hD hS hA hE [0, 1] rfl rfl rfl rfl) rfl rfl hl.1 rfl (lv_room (Nat.le_of_ble_eq_true rfl)) dKM_deriveSeeds_5 ⟨by omega, by omega⟩) (fun  u21 H locs hu21 hP hD hS => ?_)
  obtain ⟨u22, pl⟩ := u21
  obtain ⟨hq21, hO⟩ := hu21
  have hP : va_P g.1 vcl ([(r21, .inr (3, [.ref ln21, .int (nI 72), .int (nI 6), .int (nI 0)])), (ln21, .inl (g.2.1 2, 25, .inr (.inl u22)))] ++ pl) _ := hP
  have hD : va_D _ ([(r21, .inr (3, [.ref ln21, .int (nI 72), .int (nI 6), .int (nI 0)])), (ln21, .inl (g.2.1 2, 25, .inr (.inl u22)))] ++ pl) := hD
  refine W.widen (k := 0) (n := 0) (by omega) (by omega) ?_
  refine lv_aload_n hx hb dKM_deriveSeeds_8 rfl (lv_at hl 0 rfl) ?_
  refine ty_get (ci := 5) (C := "LatticeKeys$Kem") (TT := T_KM) (N := 10) (kd := (13, 0)) hx hb hts (wg_ft i_KM) hown hK hO k_h0 (nxg (clo_cons (clo_cons hc0 kr21 (by decide)) kl21 (by decide)) k_h0 rfl) hP (fun _ h9 => h9) rfl 0 (by decide) (hts _ (wg_t kw_107)) (fun _ h9 => h9) (cd := (3, 10, 1)) rfl dKM_deriveSeeds_9 (fun v22 hv22 => ?_)
  obtain ⟨r22, rfl, kr22⟩ := (show ∃ r : Nat, v22 = .ref r ∧ T r = some (10, 1) from hv22)
  obtain rfl : r21 = r22 := hU _ _ _ (by decide) kr21 kr22
  refine lv_aload_n hx hb dKM_deriveSeeds_12 rfl (lv_at hl 0 rfl) ?_
  refine ty_get (ci := 5) (C := "LatticeKeys$Kem") (TT := T_KM) (N := 10) (kd := (13, 0)) hx hb hts (wg_ft i_KM) hown hK hO k_h0 (nxg (clo_cons (clo_cons hc0 kr21 (by decide)) kl21 (by decide)) k_h0 rfl) hP (fun _ h9 => h9) rfl 5 (by decide) (hts _ (wg_t kw_112)) (fun _ h9 => h9) (cd := (3, 1, 32)) rfl dKM_deriveSeeds_13 (fun v23 hv23 => ?_)
  obtain ⟨r23, rfl, kr23⟩ := (show ∃ r : Nat, v23 = .ref r ∧ T r = some (1, 32) from hv23)
  refine lv_iconst (v := nI 0) hx hb dKM_deriveSeeds_16 (by decide) ?_
  refine lv_bipush (v := nI 32) hx hb dKM_deriveSeeds_17 (by decide) ?_
  refine mp_v (cx := [(r21, .inr (3, [.ref ln21, .int (nI 72), .int (nI 6), .int (nI 0)])), (ln21, .inl (g.2.1 2, 25, .inr (.inl u22)))]) (wr := []) hP hD hS hA [0, 1] [] rfl rfl rfl (by decide) (va_runV (As := [.ref r23, .int (nI 0), .int (nI 32)]) (rest := []) F (t_SP_absorb l g _ T (ln21 :: (r21 :: xs)) pl hO hU (clo_cons (clo_cons hc0 kr21 (by decide)) kl21 (by decide)) r23 32 0 32 r21 ln21 72 0 (nI 6) u22 kr23 (by omega) (by omega) (by omega) (by omega)) (cwV 3 hts (wg_app (wg_c kw_585 (wg_c kw_586 (wg_c kw_587 (wg_c kw_2 wg_n)))) kw_588) rfl rfl rfl (by decide +kernel) ⟨by decide, by decide⟩) (pp_V (en_ok g) (q0 := 0) hK hP hD hS hA hE [0, 1] rfl rfl rfl rfl) rfl rfl hl.1 rfl (lv_room (Nat.le_of_ble_eq_true rfl)) dKM_deriveSeeds_19 ⟨by omega, by omega⟩) (fun  u23 H locs hu22 hP hD hS => ?_)
  obtain ⟨u24, pl⟩ := u23
  obtain ⟨hq22, hO⟩ := hu22
  obtain ⟨k21, f22⟩ := u24
  have hP : va_P g.1 vcl ([(r21, .inr (3, [.ref ln21, .int (nI 72), .int (nI 6), .int (nI k21)])), (ln21, .inl (g.2.1 2, 25, .inr (.inl f22)))] ++ pl) _ := hP
  have hD : va_D _ ([(r21, .inr (3, [.ref ln21, .int (nI 72), .int (nI 6), .int (nI k21)])), (ln21, .inl (g.2.1 2, 25, .inr (.inl f22)))] ++ pl) := hD
  have hq22 : k21 < 72 := hq22
  refine W.widen (k := 0) (n := 0) (by omega) (by omega) ?_
  refine lv_aload_n hx hb dKM_deriveSeeds_22 rfl (lv_at hl 0 rfl) ?_
  refine ty_get (ci := 5) (C := "LatticeKeys$Kem") (TT := T_KM) (N := 10) (kd := (13, 0)) hx hb hts (wg_ft i_KM) hown hK hO k_h0 (nxg (clo_cons (clo_cons hc0 kr21 (by decide)) kl21 (by decide)) k_h0 rfl) hP (fun _ h9 => h9) rfl 0 (by decide) (hts _ (wg_t kw_107)) (fun _ h9 => h9) (cd := (3, 10, 1)) rfl dKM_deriveSeeds_23 (fun v24 hv24 => ?_)
  obtain ⟨r24, rfl, kr24⟩ := (show ∃ r : Nat, v24 = .ref r ∧ T r = some (10, 1) from hv24)
  obtain rfl : r21 = r24 := hU _ _ _ (by decide) kr21 kr24
  refine lv_aload_n hx hb dKM_deriveSeeds_26 rfl (lv_at hl 1 rfl) ?_
  refine lv_iload_n hx hb dKM_deriveSeeds_27 rfl (lv_at hl 2 rfl) ?_
  refine lv_bipush (v := nI 32) hx hb dKM_deriveSeeds_28 (by decide) ?_
  refine mp_v (cx := [(r21, .inr (3, [.ref ln21, .int (nI 72), .int (nI 6), .int (nI k21)])), (ln21, .inl (g.2.1 2, 25, .inr (.inl f22)))]) (wr := []) hP hD hS hA [0, 1] [] rfl rfl rfl (by decide) (va_runV (As := [.ref b, .int (nI at_), .int (nI 32)]) (rest := []) F (t_SP_absorb l g _ T (ln21 :: (r21 :: xs)) pl hO hU (clo_cons (clo_cons hc0 kr21 (by decide)) kl21 (by decide)) b n at_ 32 r21 ln21 72 k21 (nI 6) f22 k_b (by omega) (by omega) (by omega) (by omega)) (cwV 3 hts (wg_app (wg_c kw_585 (wg_c kw_586 (wg_c kw_587 (wg_c kw_2 wg_n)))) kw_588) rfl rfl rfl (by decide +kernel) ⟨by decide, by decide⟩) (pp_V (en_ok g) (q0 := 0) hK hP hD hS hA hE [0, 1] rfl rfl rfl rfl) rfl rfl hl.1 rfl (lv_room (Nat.le_of_ble_eq_true rfl)) dKM_deriveSeeds_30 ⟨by omega, by omega⟩) (fun  u25 H locs hu23 hP hD hS => ?_)
  obtain ⟨u26, pl⟩ := u25
  obtain ⟨hq23, hO⟩ := hu23
  obtain ⟨k22, f23⟩ := u26
  have hP : va_P g.1 vcl ([(r21, .inr (3, [.ref ln21, .int (nI 72), .int (nI 6), .int (nI k22)])), (ln21, .inl (g.2.1 2, 25, .inr (.inl f23)))] ++ pl) _ := hP
  have hD : va_D _ ([(r21, .inr (3, [.ref ln21, .int (nI 72), .int (nI 6), .int (nI k22)])), (ln21, .inl (g.2.1 2, 25, .inr (.inl f23)))] ++ pl) := hD
  have hq23 : k22 < 72 := hq23
  refine W.widen (k := 0) (n := 0) (by omega) (by omega) ?_
  refine lv_aload_n hx hb dKM_deriveSeeds_33 rfl (lv_at hl 0 rfl) ?_
  refine ty_get (ci := 5) (C := "LatticeKeys$Kem") (TT := T_KM) (N := 10) (kd := (13, 0)) hx hb hts (wg_ft i_KM) hown hK hO k_h0 (nxg (clo_cons (clo_cons hc0 kr21 (by decide)) kl21 (by decide)) k_h0 rfl) hP (fun _ h9 => h9) rfl 0 (by decide) (hts _ (wg_t kw_107)) (fun _ h9 => h9) (cd := (3, 10, 1)) rfl dKM_deriveSeeds_34 (fun v25 hv25 => ?_)
  obtain ⟨r25, rfl, kr25⟩ := (show ∃ r : Nat, v25 = .ref r ∧ T r = some (10, 1) from hv25)
  obtain rfl : r21 = r25 := hU _ _ _ (by decide) kr21 kr25
  refine mp_v (cx := [(r21, .inr (3, [.ref ln21, .int (nI 72), .int (nI 6), .int (nI k22)])), (ln21, .inl (g.2.1 2, 25, .inr (.inl f23)))]) (wr := []) hP hD hS hA [0, 1] [] rfl rfl rfl (by decide) (va_runV (As := []) (rest := []) F (t_SP_finish l g _ T (ln21 :: (r21 :: xs)) pl hO hU  r21 ln21 72 k22 (nI 6) f23 (by omega) (by omega)) (cwV 0 hts (wg_app (wg_c kw_610 (wg_c kw_611 (wg_c kw_612 (wg_c kw_2 wg_n)))) kw_613) rfl rfl rfl (by decide +kernel) ⟨by decide, by decide⟩) (pp_V (en_ok g) (q0 := 0) hK hP hD hS hA hE [0, 1] rfl rfl rfl rfl) rfl rfl hl.1 rfl (lv_room (Nat.le_of_ble_eq_true rfl)) dKM_deriveSeeds_37 ⟨by omega, by omega⟩) (fun  u27 H locs hu24 hP hD hS => ?_)
  obtain ⟨u28, pl⟩ := u27
  obtain ⟨hq24, hO⟩ := hu24
  have hP : va_P g.1 vcl ([(r21, .inr (3, [.ref ln21, .int (nI 72), .int (nI 6), .int (nI 72)])), (ln21, .inl (g.2.1 2, 25, .inr (.inl u28)))] ++ pl) _ := hP
  have hD : va_D _ ([(r21, .inr (3, [.ref ln21, .int (nI 72), .int (nI 6), .int (nI 72)])), (ln21, .inl (g.2.1 2, 25, .inr (.inl u28)))] ++ pl) := hD
  refine W.widen (k := 0) (n := 0) (by omega) (by omega) ?_
  refine lv_aload_n hx hb dKM_deriveSeeds_40 rfl (lv_at hl 0 rfl) ?_
  refine ty_get (ci := 5) (C := "LatticeKeys$Kem") (TT := T_KM) (N := 10) (kd := (13, 0)) hx hb hts (wg_ft i_KM) hown hK hO k_h0 (nxg (clo_cons (clo_cons hc0 kr21 (by decide)) kl21 (by decide)) k_h0 rfl) hP (fun _ h9 => h9) rfl 0 (by decide) (hts _ (wg_t kw_107)) (fun _ h9 => h9) (cd := (3, 10, 1)) rfl dKM_deriveSeeds_41 (fun v26 hv26 => ?_)
  obtain ⟨r26, rfl, kr26⟩ := (show ∃ r : Nat, v26 = .ref r ∧ T r = some (10, 1) from hv26)
  obtain rfl : r21 = r26 := hU _ _ _ (by decide) kr21 kr26
  refine lv_aload_n hx hb dKM_deriveSeeds_44 rfl (lv_at hl 0 rfl) ?_
  refine ty_get (ci := 5) (C := "LatticeKeys$Kem") (TT := T_KM) (N := 10) (kd := (13, 0)) hx hb hts (wg_ft i_KM) hown hK hO k_h0 (nxg (clo_cons (clo_cons hc0 kr21 (by decide)) kl21 (by decide)) k_h0 rfl) hP (fun _ h9 => h9) rfl 7 (by decide) (hts _ (wg_t kw_114)) (fun _ h9 => h9) (cd := (3, 1, 64)) rfl dKM_deriveSeeds_45 (fun v27 hv27 => ?_)
  obtain ⟨r27, rfl, kr27⟩ := (show ∃ r : Nat, v27 = .ref r ∧ T r = some (1, 64) from hv27)
  refine lv_iconst (v := nI 0) hx hb dKM_deriveSeeds_48 (by decide) ?_
  refine lv_bipush (v := nI 64) hx hb dKM_deriveSeeds_49 (by decide) ?_
  refine mp_v (cx := [(r21, .inr (3, [.ref ln21, .int (nI 72), .int (nI 6), .int (nI 72)])), (ln21, .inl (g.2.1 2, 25, .inr (.inl u28)))]) (wr := []) hP hD hS hA [0, 1] [] rfl rfl rfl (by decide) (va_runV (As := [.ref r27, .int (nI 0), .int (nI 64)]) (rest := []) F (t_SP_squeeze l g _ T (ln21 :: (r21 :: xs)) pl hO hU (clo_cons (clo_cons hc0 kr21 (by decide)) kl21 (by decide)) r27 64 0 64 r21 ln21 72 72 (nI 6) u28 kr27 (by omega) (by omega) (by omega) (by omega)) (cwV 3 hts (wg_app (wg_c kw_614 (wg_c kw_615 (wg_c kw_616 (wg_c kw_2 wg_n)))) kw_617) rfl rfl rfl (by decide +kernel) ⟨by decide, by decide⟩) (pp_V (en_ok g) (q0 := 0) hK hP hD hS hA hE [0, 1] rfl rfl rfl rfl) rfl rfl hl.1 rfl (lv_room (Nat.le_of_ble_eq_true rfl)) dKM_deriveSeeds_51 ⟨by omega, by omega⟩) (fun  u29 H locs hu25 hP hD hS => ?_)
  obtain ⟨u30, pl⟩ := u29
  obtain ⟨hq25, hO⟩ := hu25
  obtain ⟨k23, f24⟩ := u30
  have hP : va_P g.1 vcl ([(r21, .inr (3, [.ref ln21, .int (nI 72), .int (nI 6), .int (nI k23)])), (ln21, .inl (g.2.1 2, 25, .inr (.inl f24)))] ++ pl) _ := hP
  have hD : va_D _ ([(r21, .inr (3, [.ref ln21, .int (nI 72), .int (nI 6), .int (nI k23)])), (ln21, .inl (g.2.1 2, 25, .inr (.inl f24)))] ++ pl) := hD
  have hq25 : k23 ≤ 72 := hq25
  refine W.widen (k := 0) (n := 0) (by omega) (by omega) ?_
  have hO := close1 (e := .inl (g.2.1 2, 25, .inr (.inl f24))) hO kl21 ⟨_, rfl⟩
  have hO := close1 (e := .inr (3, [.ref ln21, .int (nI 72), .int (nI 6), .int (nI k23)])) hO kr21 ⟨_, _, _, _, rfl, kl21, by omega, by omega, by omega⟩
  have hO : okx g T xs ((r21, .inr (3, [.ref ln21, .int (nI 72), .int (nI 6), .int (nI k23)])) :: (ln21, .inl (g.2.1 2, 25, .inr (.inl f24))) :: pl) := hO
  have hP : va_P g.1 vcl ([] ++ ((r21, .inr (3, [.ref ln21, .int (nI 72), .int (nI 6), .int (nI k23)])) :: (ln21, .inl (g.2.1 2, 25, .inr (.inl f24))) :: pl)) _ := hP
  have hD : va_D _ ([] ++ ((r21, .inr (3, [.ref ln21, .int (nI 72), .int (nI 6), .int (nI k23)])) :: (ln21, .inl (g.2.1 2, 25, .inr (.inl f24))) :: pl)) := hD
  generalize ((r21, .inr (3, [.ref ln21, .int (nI 72), .int (nI 6), .int (nI k23)])) :: (ln21, .inl (g.2.1 2, 25, .inr (.inl f24))) :: pl) = pl at hO hP hD
  exact mp_vret hx hb hr hlk hP hD hS pl ⟨trivial, hO⟩ [] rfl rfl rfl (by omega) (by omega) dKM_deriveSeeds_54
set_option maxHeartbeats 400000 in
set_option maxRecDepth 100000 in
theorem t_KM_sampleEntry (l : Launch) (g : Gd) (sz : Nat) (T : Ty) (xs : List Nat) (pl : va_W) (hO : okx g T xs pl) (hU : uni T) (hc0 : clo T xs 0) (hc2 : clo T xs 2) (h0 b n at_ : Nat) (v1 : Int32) (v2 : Int32) (k_h0 : T h0 = some (13, 0)) (k_b : T b = some (1, n)) (h1 : at_ + 32 ≤ n) (h2 : n < 65536)  : Met l y_KM_sampleEntry w_KM_sampleEntry ({ frames := 3, cells := 0, slots := 0, locals := 100 } : Room) (va_Pc [.ref h0, .ref b, .int (nI at_), .int v1, .int v2] (pr (en g) g.1 vcl sz ([] ++ pl))) (va_Qv (fun (u : va_W) => (True) ∧ okx g T xs u) (po g.1 vcl (va_A ([] ++ pl) sz) (fun (u : va_W) => [] ++ u)) (va_A ([] ++ pl) sz)) 0 0 (va_A ([] ++ pl) sz) := by
  refine mc_entry (cc := c_KM_sampleEntry) (maxL := 12) (ret := none) (by decide) rfl (Nat.le_of_ble_eq_true rfl) ?_
  intro p e s m args below meth c ls F hr hlk hnm hsz hP hD hE hA hl
  obtain ⟨hx, hb, hml, hown, hts⟩ := id F
  have hK := hE.1
  generalize va_A ([] ++ pl) sz = A at hD hE hA ⊢
  have hS : va_S A s.heap s.heap [] := va_S.rf
  have hl : lv_has ls 12 [(0, .ref h0), (1, .ref b), (2, .int (nI at_)), (3, .int v1), (4, .int v2)] := hl
  refine lv_aload_n hx hb dKM_sampleEntry_0 rfl (lv_at hl 0 rfl) ?_
  refine ty_get (ci := 5) (C := "LatticeKeys$Kem") (TT := T_KM) (N := 10) (kd := (13, 0)) hx hb hts (wg_ft i_KM) hown hK hO k_h0 (nxg hc0 k_h0 rfl) hP (fun _ h9 => h9) rfl 0 (by decide) (hts _ (wg_t kw_107)) (fun _ h9 => h9) (cd := (3, 10, 1)) rfl dKM_sampleEntry_1 (fun v21 hv21 => ?_)
  obtain ⟨r21, rfl, kr21⟩ := (show ∃ r : Nat, v21 = .ref r ∧ T r = some (10, 1) from hv21)
  refine lv_iconst (v := nI 2) hx hb dKM_sampleEntry_4 (by decide) ?_
  obtain ⟨e21, pl, hP, hD, hk21, hO⟩ := open1 hP hD hO kr21 (nxg hc2 kr21 rfl)
  obtain ⟨ln21, rt21, ps21, x21, rfl, kl21, hr21, hr22, hr23⟩ := hk21
  have kl21 : T ln21 = some (19, 1) := kl21
  obtain ⟨e22, pl, hP, hD, hk22, hO⟩ := open1 hP hD hO kl21 (nmc (knd_ne kl21 kr21 (by decide)) (nxg hc2 kl21 rfl))
  obtain ⟨f21, rfl⟩ := hk22
  have hP : va_P g.1 vcl ([(r21, .inr (3, [.ref ln21, .int (nI rt21), .int x21, .int (nI ps21)])), (ln21, .inl (g.2.1 2, 25, .inr (.inl f21)))] ++ pl) _ := hP
  have hD : va_D _ ([(r21, .inr (3, [.ref ln21, .int (nI rt21), .int x21, .int (nI ps21)])), (ln21, .inl (g.2.1 2, 25, .inr (.inl f21)))] ++ pl) := hD
  refine mp_v (cx := [(r21, .inr (3, [.ref ln21, .int (nI rt21), .int x21, .int (nI ps21)])), (ln21, .inl (g.2.1 2, 25, .inr (.inl f21)))]) (wr := []) hP hD hS hA [0, 1] [] rfl rfl rfl (by decide) (va_runV (As := [.int (nI 2)]) (rest := []) F (t_SP_start_2 l g _ T (ln21 :: (r21 :: xs)) pl hO hU  r21 ln21 rt21 ps21 x21 f21) (cwV 1 hts (wg_app (wg_c kw_578 (wg_c kw_579 (wg_c kw_580 (wg_c kw_2 wg_n)))) kw_581) rfl rfl rfl (by decide +kernel) ⟨by decide, by decide⟩) (pp_V (en_ok g) (q0 := 0) hK hP hD hS hA hE [0, 1] rfl rfl rfl rfl) rfl rfl hl.1 rfl (lv_room (Nat.le_of_ble_eq_true rfl)) dKM_sampleEntry_5 ⟨by omega, by omega⟩) (fun  u21 H locs hu21 hP hD hS => ?_)
  obtain ⟨u22, pl⟩ := u21
  obtain ⟨hq21, hO⟩ := hu21
  have hP : va_P g.1 vcl ([(r21, .inr (3, [.ref ln21, .int (nI 168), .int (nI 31), .int (nI 0)])), (ln21, .inl (g.2.1 2, 25, .inr (.inl u22)))] ++ pl) _ := hP
  have hD : va_D _ ([(r21, .inr (3, [.ref ln21, .int (nI 168), .int (nI 31), .int (nI 0)])), (ln21, .inl (g.2.1 2, 25, .inr (.inl u22)))] ++ pl) := hD
  refine W.widen (k := 0) (n := 0) (by omega) (by omega) ?_
  refine lv_aload_n hx hb dKM_sampleEntry_8 rfl (lv_at hl 0 rfl) ?_
  refine ty_get (ci := 5) (C := "LatticeKeys$Kem") (TT := T_KM) (N := 10) (kd := (13, 0)) hx hb hts (wg_ft i_KM) hown hK hO k_h0 (nxg (clo_cons (clo_cons hc0 kr21 (by decide)) kl21 (by decide)) k_h0 rfl) hP (fun _ h9 => h9) rfl 0 (by decide) (hts _ (wg_t kw_107)) (fun _ h9 => h9) (cd := (3, 10, 1)) rfl dKM_sampleEntry_9 (fun v22 hv22 => ?_)
  obtain ⟨r22, rfl, kr22⟩ := (show ∃ r : Nat, v22 = .ref r ∧ T r = some (10, 1) from hv22)
  obtain rfl : r21 = r22 := hU _ _ _ (by decide) kr21 kr22
  refine lv_aload_n hx hb dKM_sampleEntry_12 rfl (lv_at hl 1 rfl) ?_
  refine lv_iload_n hx hb dKM_sampleEntry_13 rfl (lv_at hl 2 rfl) ?_
  refine lv_bipush (v := nI 32) hx hb dKM_sampleEntry_14 (by decide) ?_
  refine mp_v (cx := [(r21, .inr (3, [.ref ln21, .int (nI 168), .int (nI 31), .int (nI 0)])), (ln21, .inl (g.2.1 2, 25, .inr (.inl u22)))]) (wr := []) hP hD hS hA [0, 1] [] rfl rfl rfl (by decide) (va_runV (As := [.ref b, .int (nI at_), .int (nI 32)]) (rest := []) F (t_SP_absorb l g _ T (ln21 :: (r21 :: xs)) pl hO hU (clo_cons (clo_cons hc0 kr21 (by decide)) kl21 (by decide)) b n at_ 32 r21 ln21 168 0 (nI 31) u22 k_b (by omega) (by omega) (by omega) (by omega)) (cwV 3 hts (wg_app (wg_c kw_585 (wg_c kw_586 (wg_c kw_587 (wg_c kw_2 wg_n)))) kw_588) rfl rfl rfl (by decide +kernel) ⟨by decide, by decide⟩) (pp_V (en_ok g) (q0 := 0) hK hP hD hS hA hE [0, 1] rfl rfl rfl rfl) rfl rfl hl.1 rfl (lv_room (Nat.le_of_ble_eq_true rfl)) dKM_sampleEntry_16 ⟨by omega, by omega⟩) (fun  u23 H locs hu22 hP hD hS => ?_)
  obtain ⟨u24, pl⟩ := u23
  obtain ⟨hq22, hO⟩ := hu22
  obtain ⟨k21, f22⟩ := u24
  have hP : va_P g.1 vcl ([(r21, .inr (3, [.ref ln21, .int (nI 168), .int (nI 31), .int (nI k21)])), (ln21, .inl (g.2.1 2, 25, .inr (.inl f22)))] ++ pl) _ := hP
  have hD : va_D _ ([(r21, .inr (3, [.ref ln21, .int (nI 168), .int (nI 31), .int (nI k21)])), (ln21, .inl (g.2.1 2, 25, .inr (.inl f22)))] ++ pl) := hD
  have hq22 : k21 < 168 := hq22
  refine W.widen (k := 0) (n := 0) (by omega) (by omega) ?_
  refine lv_aload_n hx hb dKM_sampleEntry_19 rfl (lv_at hl 0 rfl) ?_
  refine ty_get (ci := 5) (C := "LatticeKeys$Kem") (TT := T_KM) (N := 10) (kd := (13, 0)) hx hb hts (wg_ft i_KM) hown hK hO k_h0 (nxg (clo_cons (clo_cons hc0 kr21 (by decide)) kl21 (by decide)) k_h0 rfl) hP (fun _ h9 => h9) rfl 0 (by decide) (hts _ (wg_t kw_107)) (fun _ h9 => h9) (cd := (3, 10, 1)) rfl dKM_sampleEntry_20 (fun v23 hv23 => ?_)
  obtain ⟨r23, rfl, kr23⟩ := (show ∃ r : Nat, v23 = .ref r ∧ T r = some (10, 1) from hv23)
  obtain rfl : r21 = r23 := hU _ _ _ (by decide) kr21 kr23
  refine lv_iload_n hx hb dKM_sampleEntry_23 rfl (lv_at hl 3 rfl) ?_
  refine mp_v (cx := [(r21, .inr (3, [.ref ln21, .int (nI 168), .int (nI 31), .int (nI k21)])), (ln21, .inl (g.2.1 2, 25, .inr (.inl f22)))]) (wr := []) hP hD hS hA [0, 1] [] rfl rfl rfl (by decide) (va_runV (As := [.int v1]) (rest := []) F (t_SP_absorbByte l g _ T (ln21 :: (r21 :: xs)) pl hO hU  v1 r21 ln21 168 k21 (nI 31) f22 (by omega) (by omega)) (cwV 1 hts (wg_app (wg_c kw_609 (wg_c kw_590 (wg_c kw_591 (wg_c kw_2 wg_n)))) kw_592) rfl rfl rfl (by decide +kernel) ⟨by decide, by decide⟩) (pp_V (en_ok g) (q0 := 0) hK hP hD hS hA hE [0, 1] rfl rfl rfl rfl) rfl rfl hl.1 rfl (lv_room (Nat.le_of_ble_eq_true rfl)) dKM_sampleEntry_24 ⟨by omega, by omega⟩) (fun  u25 H locs hu23 hP hD hS => ?_)
  obtain ⟨u26, pl⟩ := u25
  obtain ⟨hq23, hO⟩ := hu23
  obtain ⟨k22, f23⟩ := u26
  have hP : va_P g.1 vcl ([(r21, .inr (3, [.ref ln21, .int (nI 168), .int (nI 31), .int (nI k22)])), (ln21, .inl (g.2.1 2, 25, .inr (.inl f23)))] ++ pl) _ := hP
  have hD : va_D _ ([(r21, .inr (3, [.ref ln21, .int (nI 168), .int (nI 31), .int (nI k22)])), (ln21, .inl (g.2.1 2, 25, .inr (.inl f23)))] ++ pl) := hD
  have hq23 : k22 < 168 := hq23
  refine W.widen (k := 0) (n := 0) (by omega) (by omega) ?_
  refine lv_aload_n hx hb dKM_sampleEntry_27 rfl (lv_at hl 0 rfl) ?_
  refine ty_get (ci := 5) (C := "LatticeKeys$Kem") (TT := T_KM) (N := 10) (kd := (13, 0)) hx hb hts (wg_ft i_KM) hown hK hO k_h0 (nxg (clo_cons (clo_cons hc0 kr21 (by decide)) kl21 (by decide)) k_h0 rfl) hP (fun _ h9 => h9) rfl 0 (by decide) (hts _ (wg_t kw_107)) (fun _ h9 => h9) (cd := (3, 10, 1)) rfl dKM_sampleEntry_28 (fun v24 hv24 => ?_)
  obtain ⟨r24, rfl, kr24⟩ := (show ∃ r : Nat, v24 = .ref r ∧ T r = some (10, 1) from hv24)
  obtain rfl : r21 = r24 := hU _ _ _ (by decide) kr21 kr24
  refine lv_iload hx hb dKM_sampleEntry_31 (lv_at hl 4 rfl) ?_
  refine mp_v (cx := [(r21, .inr (3, [.ref ln21, .int (nI 168), .int (nI 31), .int (nI k22)])), (ln21, .inl (g.2.1 2, 25, .inr (.inl f23)))]) (wr := []) hP hD hS hA [0, 1] [] rfl rfl rfl (by decide) (va_runV (As := [.int v2]) (rest := []) F (t_SP_absorbByte l g _ T (ln21 :: (r21 :: xs)) pl hO hU  v2 r21 ln21 168 k22 (nI 31) f23 (by omega) (by omega)) (cwV 1 hts (wg_app (wg_c kw_609 (wg_c kw_590 (wg_c kw_591 (wg_c kw_2 wg_n)))) kw_592) rfl rfl rfl (by decide +kernel) ⟨by decide, by decide⟩) (pp_V (en_ok g) (q0 := 0) hK hP hD hS hA hE [0, 1] rfl rfl rfl rfl) rfl rfl hl.1 rfl (lv_room (Nat.le_of_ble_eq_true rfl)) dKM_sampleEntry_33 ⟨by omega, by omega⟩) (fun  u27 H locs hu24 hP hD hS => ?_)
  obtain ⟨u28, pl⟩ := u27
  obtain ⟨hq24, hO⟩ := hu24
  obtain ⟨k23, f24⟩ := u28
  have hP : va_P g.1 vcl ([(r21, .inr (3, [.ref ln21, .int (nI 168), .int (nI 31), .int (nI k23)])), (ln21, .inl (g.2.1 2, 25, .inr (.inl f24)))] ++ pl) _ := hP
  have hD : va_D _ ([(r21, .inr (3, [.ref ln21, .int (nI 168), .int (nI 31), .int (nI k23)])), (ln21, .inl (g.2.1 2, 25, .inr (.inl f24)))] ++ pl) := hD
  have hq24 : k23 < 168 := hq24
  refine W.widen (k := 0) (n := 0) (by omega) (by omega) ?_
  refine lv_aload_n hx hb dKM_sampleEntry_36 rfl (lv_at hl 0 rfl) ?_
  refine ty_get (ci := 5) (C := "LatticeKeys$Kem") (TT := T_KM) (N := 10) (kd := (13, 0)) hx hb hts (wg_ft i_KM) hown hK hO k_h0 (nxg (clo_cons (clo_cons hc0 kr21 (by decide)) kl21 (by decide)) k_h0 rfl) hP (fun _ h9 => h9) rfl 0 (by decide) (hts _ (wg_t kw_107)) (fun _ h9 => h9) (cd := (3, 10, 1)) rfl dKM_sampleEntry_37 (fun v25 hv25 => ?_)
  obtain ⟨r25, rfl, kr25⟩ := (show ∃ r : Nat, v25 = .ref r ∧ T r = some (10, 1) from hv25)
  obtain rfl : r21 = r25 := hU _ _ _ (by decide) kr21 kr25
  refine mp_v (cx := [(r21, .inr (3, [.ref ln21, .int (nI 168), .int (nI 31), .int (nI k23)])), (ln21, .inl (g.2.1 2, 25, .inr (.inl f24)))]) (wr := []) hP hD hS hA [0, 1] [] rfl rfl rfl (by decide) (va_runV (As := []) (rest := []) F (t_SP_finish l g _ T (ln21 :: (r21 :: xs)) pl hO hU  r21 ln21 168 k23 (nI 31) f24 (by omega) (by omega)) (cwV 0 hts (wg_app (wg_c kw_610 (wg_c kw_611 (wg_c kw_612 (wg_c kw_2 wg_n)))) kw_613) rfl rfl rfl (by decide +kernel) ⟨by decide, by decide⟩) (pp_V (en_ok g) (q0 := 0) hK hP hD hS hA hE [0, 1] rfl rfl rfl rfl) rfl rfl hl.1 rfl (lv_room (Nat.le_of_ble_eq_true rfl)) dKM_sampleEntry_40 ⟨by omega, by omega⟩) (fun  u29 H locs hu25 hP hD hS => ?_)
  obtain ⟨u30, pl⟩ := u29
  obtain ⟨hq25, hO⟩ := hu25
  have hP : va_P g.1 vcl ([(r21, .inr (3, [.ref ln21, .int (nI 168), .int (nI 31), .int (nI 168)])), (ln21, .inl (g.2.1 2, 25, .inr (.inl u30)))] ++ pl) _ := hP
  have hD : va_D _ ([(r21, .inr (3, [.ref ln21, .int (nI 168), .int (nI 31), .int (nI 168)])), (ln21, .inl (g.2.1 2, 25, .inr (.inl u30)))] ++ pl) := hD
  refine W.widen (k := 0) (n := 0) (by omega) (by omega) ?_
  refine lv_iconst (v := nI 0) hx hb dKM_sampleEntry_43 (by decide) ?_
  refine lv_istore (lv' := [(5, .int (nI 0)), (0, .ref h0), (1, .ref b), (2, .int (nI at_)), (3, .int v1), (4, .int v2)]) hx hb dKM_sampleEntry_44 hl (by decide) rfl (fun ls hl => ?_)
  refine lv_iconst (v := nI 0) hx hb dKM_sampleEntry_46 (by decide) ?_
  refine lv_istore (lv' := [(6, .int (nI 0)), (5, .int (nI 0)), (0, .ref h0), (1, .ref b), (2, .int (nI at_)), (3, .int v1), (4, .int v2)]) hx hb dKM_sampleEntry_47 hl (by decide) rfl (fun ls hl => ?_)
  have lp21 : ∀ (n21 : Nat) (i21 : Nat) (fl21 : Nat) (ps22 : Nat) (f25 : Nat → Int64) (pl : va_W) (ls : Array Slot) (H : Heap) (locs : List Loc), n21 + i21 = 1000000 → (fl21 ≤ 256) → (ps22 ≤ 168) → lv_has ls 12 [(6, .int (nI i21)), (5, .int (nI fl21)), (0, .ref h0)] → okx g T (ln21 :: (r21 :: xs)) pl → va_P g.1 vcl ([(r21, .inr (3, [.ref ln21, .int (nI 168), .int (nI 31), .int (nI ps22)])), (ln21, .inl (g.2.1 2, 25, .inr (.inl f25)))] ++ pl) H → va_D A ([(r21, .inr (3, [.ref ln21, .int (nI 168), .int (nI 31), .int (nI ps22)])), (ln21, .inl (g.2.1 2, 25, .inr (.inl f25)))] ++ pl) → va_S A s.heap H locs → W p l e ({ frames := 3, cells := 0, slots := 0, locals := 100 } : Room) s m args below meth c H locs 0 0 (MQ below (va_Qv (fun (u : va_W) => (True) ∧ okx g T xs u) (po g.1 vcl A (fun (u : va_W) => [] ++ u)) A) args s 0 0 A) (F0 m 49 ls []) := by
    intro n21
    induction n21 with
    | zero =>
      intro i21 fl21 ps22 f25 pl ls H locs hm21 hi21 hi22 hl hO hP hD hS
      refine lv_iload hx hb dKM_sampleEntry_49 (lv_at hl 1 rfl) ?_
      refine lv_sipush (v := nI 256) hx hb dKM_sampleEntry_51 (by decide) ?_
      refine mi_ge (tgt := 169) hx hb dKM_sampleEntry_54 (by decide) (by omega) (by omega) (fun h21 => ?_) (fun h21 => ?_)
      · have hO := close1 (e := .inl (g.2.1 2, 25, .inr (.inl f25))) hO kl21 ⟨_, rfl⟩
        have hO := close1 (e := .inr (3, [.ref ln21, .int (nI 168), .int (nI 31), .int (nI ps22)])) hO kr21 ⟨_, _, _, _, rfl, kl21, by omega, by omega, by omega⟩
        have hO : okx g T xs ((r21, .inr (3, [.ref ln21, .int (nI 168), .int (nI 31), .int (nI ps22)])) :: (ln21, .inl (g.2.1 2, 25, .inr (.inl f25))) :: pl) := hO
        have hP : va_P g.1 vcl ([] ++ ((r21, .inr (3, [.ref ln21, .int (nI 168), .int (nI 31), .int (nI ps22)])) :: (ln21, .inl (g.2.1 2, 25, .inr (.inl f25))) :: pl)) _ := hP
        have hD : va_D _ ([] ++ ((r21, .inr (3, [.ref ln21, .int (nI 168), .int (nI 31), .int (nI ps22)])) :: (ln21, .inl (g.2.1 2, 25, .inr (.inl f25))) :: pl)) := hD
        generalize ((r21, .inr (3, [.ref ln21, .int (nI 168), .int (nI 31), .int (nI ps22)])) :: (ln21, .inl (g.2.1 2, 25, .inr (.inl f25))) :: pl) = pl at hO hP hD
        exact mp_vret hx hb hr hlk hP hD hS pl ⟨trivial, hO⟩ [] rfl rfl rfl (by omega) (by omega) dKM_sampleEntry_169
      · refine lv_iload hx hb dKM_sampleEntry_57 (lv_at hl 0 rfl) ?_
        refine lv_ldc (v := 1000000) hx hb hown (hts _ (wg_t kw_651)) dKM_sampleEntry_59 ?_
        refine mi_as (show (1000000 : Int32) = nI 1000000 by decide) ?_
        refine mi_ge (tgt := 169) hx hb dKM_sampleEntry_61 (by decide) (by omega) (by omega) (fun h22 => ?_) (fun h22 => absurd h22 (by omega))
        have hO := close1 (e := .inl (g.2.1 2, 25, .inr (.inl f25))) hO kl21 ⟨_, rfl⟩
        have hO := close1 (e := .inr (3, [.ref ln21, .int (nI 168), .int (nI 31), .int (nI ps22)])) hO kr21 ⟨_, _, _, _, rfl, kl21, by omega, by omega, by omega⟩
        have hO : okx g T xs ((r21, .inr (3, [.ref ln21, .int (nI 168), .int (nI 31), .int (nI ps22)])) :: (ln21, .inl (g.2.1 2, 25, .inr (.inl f25))) :: pl) := hO
        have hP : va_P g.1 vcl ([] ++ ((r21, .inr (3, [.ref ln21, .int (nI 168), .int (nI 31), .int (nI ps22)])) :: (ln21, .inl (g.2.1 2, 25, .inr (.inl f25))) :: pl)) _ := hP
        have hD : va_D _ ([] ++ ((r21, .inr (3, [.ref ln21, .int (nI 168), .int (nI 31), .int (nI ps22)])) :: (ln21, .inl (g.2.1 2, 25, .inr (.inl f25))) :: pl)) := hD
        generalize ((r21, .inr (3, [.ref ln21, .int (nI 168), .int (nI 31), .int (nI ps22)])) :: (ln21, .inl (g.2.1 2, 25, .inr (.inl f25))) :: pl) = pl at hO hP hD
        exact mp_vret hx hb hr hlk hP hD hS pl ⟨trivial, hO⟩ [] rfl rfl rfl (by omega) (by omega) dKM_sampleEntry_169
    | succ n21 ih21 =>
      intro i21 fl21 ps22 f25 pl ls H locs hm21 hi21 hi22 hl hO hP hD hS
      refine lv_iload hx hb dKM_sampleEntry_49 (lv_at hl 1 rfl) ?_
      refine lv_sipush (v := nI 256) hx hb dKM_sampleEntry_51 (by decide) ?_
      refine mi_ge (tgt := 169) hx hb dKM_sampleEntry_54 (by decide) (by omega) (by omega) (fun h23 => ?_) (fun h23 => ?_)
      · have hO := close1 (e := .inl (g.2.1 2, 25, .inr (.inl f25))) hO kl21 ⟨_, rfl⟩
        have hO := close1 (e := .inr (3, [.ref ln21, .int (nI 168), .int (nI 31), .int (nI ps22)])) hO kr21 ⟨_, _, _, _, rfl, kl21, by omega, by omega, by omega⟩
        have hO : okx g T xs ((r21, .inr (3, [.ref ln21, .int (nI 168), .int (nI 31), .int (nI ps22)])) :: (ln21, .inl (g.2.1 2, 25, .inr (.inl f25))) :: pl) := hO
        have hP : va_P g.1 vcl ([] ++ ((r21, .inr (3, [.ref ln21, .int (nI 168), .int (nI 31), .int (nI ps22)])) :: (ln21, .inl (g.2.1 2, 25, .inr (.inl f25))) :: pl)) _ := hP
        have hD : va_D _ ([] ++ ((r21, .inr (3, [.ref ln21, .int (nI 168), .int (nI 31), .int (nI ps22)])) :: (ln21, .inl (g.2.1 2, 25, .inr (.inl f25))) :: pl)) := hD
        generalize ((r21, .inr (3, [.ref ln21, .int (nI 168), .int (nI 31), .int (nI ps22)])) :: (ln21, .inl (g.2.1 2, 25, .inr (.inl f25))) :: pl) = pl at hO hP hD
        exact mp_vret hx hb hr hlk hP hD hS pl ⟨trivial, hO⟩ [] rfl rfl rfl (by omega) (by omega) dKM_sampleEntry_169
      · refine lv_iload hx hb dKM_sampleEntry_57 (lv_at hl 0 rfl) ?_
        refine lv_ldc (v := 1000000) hx hb hown (hts _ (wg_t kw_651)) dKM_sampleEntry_59 ?_
        refine mi_as (show (1000000 : Int32) = nI 1000000 by decide) ?_
        refine mi_ge (tgt := 169) hx hb dKM_sampleEntry_61 (by decide) (by omega) (by omega) (fun h24 => absurd h24 (by omega)) (fun h24 => ?_)
        refine lv_aload_n hx hb dKM_sampleEntry_64 rfl (lv_at hl 2 rfl) ?_
        refine ty_get (ci := 5) (C := "LatticeKeys$Kem") (TT := T_KM) (N := 10) (kd := (13, 0)) hx hb hts (wg_ft i_KM) hown hK hO k_h0 (nxg (clo_cons (clo_cons hc0 kr21 (by decide)) kl21 (by decide)) k_h0 rfl) hP (fun _ h9 => h9) rfl 0 (by decide) (hts _ (wg_t kw_107)) (fun _ h9 => h9) (cd := (3, 10, 1)) rfl dKM_sampleEntry_65 (fun v26 hv26 => ?_)
        obtain ⟨r26, rfl, kr26⟩ := (show ∃ r : Nat, v26 = .ref r ∧ T r = some (10, 1) from hv26)
        obtain rfl : r21 = r26 := hU _ _ _ (by decide) kr21 kr26
        refine mp_i (cx := [(r21, .inr (3, [.ref ln21, .int (nI 168), .int (nI 31), .int (nI ps22)])), (ln21, .inl (g.2.1 2, 25, .inr (.inl f25)))]) (wr := []) hP hD hS hA [0, 1] [] rfl rfl rfl (by decide) (va_runV (As := []) (rest := []) F (t_SP_nextByte l g _ T (ln21 :: (r21 :: xs)) pl hO hU  r21 ln21 168 ps22 (nI 31) f25 (by omega) (by omega)) (cwV 0 hts (wg_app (wg_c kw_652 (wg_c kw_619 (wg_c kw_620 (wg_c kw_2 wg_n)))) kw_621) rfl rfl rfl (by decide +kernel) ⟨by decide, by decide⟩) (pp_V (en_ok g) (q0 := 0) hK hP hD hS hA hE [0, 1] rfl rfl rfl rfl) rfl rfl hl.1 rfl (lv_room (Nat.le_of_ble_eq_true rfl)) dKM_sampleEntry_68 ⟨by omega, by omega⟩) (fun r27 u31 H locs hu26 hP hD hS => ?_)
        obtain ⟨u32, pl⟩ := u31
        obtain ⟨hq26, hO⟩ := hu26
        obtain ⟨k24, f26⟩ := u32
        have hP : va_P g.1 vcl ([(r21, .inr (3, [.ref ln21, .int (nI 168), .int (nI 31), .int (nI k24)])), (ln21, .inl (g.2.1 2, 25, .inr (.inl f26)))] ++ pl) _ := hP
        have hD : va_D _ ([(r21, .inr (3, [.ref ln21, .int (nI 168), .int (nI 31), .int (nI k24)])), (ln21, .inl (g.2.1 2, 25, .inr (.inl f26)))] ++ pl) := hD
        obtain ⟨hq26, z21, hz21, rfl⟩ := (show k24 ≤ 168 ∧ ∃ z : Nat, z < 256 ∧ r27 = nI z from hq26)
        refine W.widen (k := 0) (n := 0) (by omega) (by omega) ?_
        refine lv_istore (lv' := [(7, .int (nI z21)), (6, .int (nI i21)), (5, .int (nI fl21)), (0, .ref h0)]) hx hb dKM_sampleEntry_71 hl (by decide) rfl (fun ls hl => ?_)
        refine lv_aload_n hx hb dKM_sampleEntry_73 rfl (lv_at hl 3 rfl) ?_
        refine ty_get (ci := 5) (C := "LatticeKeys$Kem") (TT := T_KM) (N := 10) (kd := (13, 0)) hx hb hts (wg_ft i_KM) hown hK hO k_h0 (nxg (clo_cons (clo_cons hc0 kr21 (by decide)) kl21 (by decide)) k_h0 rfl) hP (fun _ h9 => h9) rfl 0 (by decide) (hts _ (wg_t kw_107)) (fun _ h9 => h9) (cd := (3, 10, 1)) rfl dKM_sampleEntry_74 (fun v27 hv27 => ?_)
        obtain ⟨r28, rfl, kr27⟩ := (show ∃ r : Nat, v27 = .ref r ∧ T r = some (10, 1) from hv27)
        obtain rfl : r21 = r28 := hU _ _ _ (by decide) kr21 kr27
        refine mp_i (cx := [(r21, .inr (3, [.ref ln21, .int (nI 168), .int (nI 31), .int (nI k24)])), (ln21, .inl (g.2.1 2, 25, .inr (.inl f26)))]) (wr := []) hP hD hS hA [0, 1] [] rfl rfl rfl (by decide) (va_runV (As := []) (rest := []) F (t_SP_nextByte l g _ T (ln21 :: (r21 :: xs)) pl hO hU  r21 ln21 168 k24 (nI 31) f26 (by omega) (by omega)) (cwV 0 hts (wg_app (wg_c kw_652 (wg_c kw_619 (wg_c kw_620 (wg_c kw_2 wg_n)))) kw_621) rfl rfl rfl (by decide +kernel) ⟨by decide, by decide⟩) (pp_V (en_ok g) (q0 := 0) hK hP hD hS hA hE [0, 1] rfl rfl rfl rfl) rfl rfl hl.1 rfl (lv_room (Nat.le_of_ble_eq_true rfl)) dKM_sampleEntry_77 ⟨by omega, by omega⟩) (fun r29 u33 H locs hu27 hP hD hS => ?_)
        obtain ⟨u34, pl⟩ := u33
        obtain ⟨hq27, hO⟩ := hu27
        obtain ⟨k25, f27⟩ := u34
        have hP : va_P g.1 vcl ([(r21, .inr (3, [.ref ln21, .int (nI 168), .int (nI 31), .int (nI k25)])), (ln21, .inl (g.2.1 2, 25, .inr (.inl f27)))] ++ pl) _ := hP
        have hD : va_D _ ([(r21, .inr (3, [.ref ln21, .int (nI 168), .int (nI 31), .int (nI k25)])), (ln21, .inl (g.2.1 2, 25, .inr (.inl f27)))] ++ pl) := hD
        obtain ⟨hq27, z22, hz22, rfl⟩ := (show k25 ≤ 168 ∧ ∃ z : Nat, z < 256 ∧ r29 = nI z from hq27)
        refine W.widen (k := 0) (n := 0) (by omega) (by omega) ?_
        refine lv_istore (lv' := [(8, .int (nI z22)), (7, .int (nI z21)), (6, .int (nI i21)), (5, .int (nI fl21)), (0, .ref h0)]) hx hb dKM_sampleEntry_80 hl (by decide) rfl (fun ls hl => ?_)
        refine lv_aload_n hx hb dKM_sampleEntry_82 rfl (lv_at hl 4 rfl) ?_
        refine ty_get (ci := 5) (C := "LatticeKeys$Kem") (TT := T_KM) (N := 10) (kd := (13, 0)) hx hb hts (wg_ft i_KM) hown hK hO k_h0 (nxg (clo_cons (clo_cons hc0 kr21 (by decide)) kl21 (by decide)) k_h0 rfl) hP (fun _ h9 => h9) rfl 0 (by decide) (hts _ (wg_t kw_107)) (fun _ h9 => h9) (cd := (3, 10, 1)) rfl dKM_sampleEntry_83 (fun v28 hv28 => ?_)
        obtain ⟨r30, rfl, kr28⟩ := (show ∃ r : Nat, v28 = .ref r ∧ T r = some (10, 1) from hv28)
        obtain rfl : r21 = r30 := hU _ _ _ (by decide) kr21 kr28
        refine mp_i (cx := [(r21, .inr (3, [.ref ln21, .int (nI 168), .int (nI 31), .int (nI k25)])), (ln21, .inl (g.2.1 2, 25, .inr (.inl f27)))]) (wr := []) hP hD hS hA [0, 1] [] rfl rfl rfl (by decide) (va_runV (As := []) (rest := []) F (t_SP_nextByte l g _ T (ln21 :: (r21 :: xs)) pl hO hU  r21 ln21 168 k25 (nI 31) f27 (by omega) (by omega)) (cwV 0 hts (wg_app (wg_c kw_652 (wg_c kw_619 (wg_c kw_620 (wg_c kw_2 wg_n)))) kw_621) rfl rfl rfl (by decide +kernel) ⟨by decide, by decide⟩) (pp_V (en_ok g) (q0 := 0) hK hP hD hS hA hE [0, 1] rfl rfl rfl rfl) rfl rfl hl.1 rfl (lv_room (Nat.le_of_ble_eq_true rfl)) dKM_sampleEntry_86 ⟨by omega, by omega⟩) (fun r31 u35 H locs hu28 hP hD hS => ?_)
        obtain ⟨u36, pl⟩ := u35
        obtain ⟨hq28, hO⟩ := hu28
        obtain ⟨k26, f28⟩ := u36
        have hP : va_P g.1 vcl ([(r21, .inr (3, [.ref ln21, .int (nI 168), .int (nI 31), .int (nI k26)])), (ln21, .inl (g.2.1 2, 25, .inr (.inl f28)))] ++ pl) _ := hP
        have hD : va_D _ ([(r21, .inr (3, [.ref ln21, .int (nI 168), .int (nI 31), .int (nI k26)])), (ln21, .inl (g.2.1 2, 25, .inr (.inl f28)))] ++ pl) := hD
        obtain ⟨hq28, z23, hz23, rfl⟩ := (show k26 ≤ 168 ∧ ∃ z : Nat, z < 256 ∧ r31 = nI z from hq28)
        refine W.widen (k := 0) (n := 0) (by omega) (by omega) ?_
        refine lv_istore (lv' := [(9, .int (nI z23)), (8, .int (nI z22)), (7, .int (nI z21)), (6, .int (nI i21)), (5, .int (nI fl21)), (0, .ref h0)]) hx hb dKM_sampleEntry_89 hl (by decide) rfl (fun ls hl => ?_)
        refine lv_iload hx hb dKM_sampleEntry_91 (lv_at hl 2 rfl) ?_
        refine lv_iload hx hb dKM_sampleEntry_93 (lv_at hl 1 rfl) ?_
        refine lv_bipush (v := nI 15) hx hb dKM_sampleEntry_95 (by decide) ?_
        refine mi_iand hx hb 4 dKM_sampleEntry_97 (by decide) (fun z24 hz24 => ?_)
        have hz24 : z24 < 16 := hz24
        refine lv_bipush (v := nI 8) hx hb dKM_sampleEntry_98 (by decide) ?_
        refine lv_ishl hx hb dKM_sampleEntry_100 ?_
        refine mi_any (fun z25 => ?_)
        refine lv_ior hx hb dKM_sampleEntry_101 ?_
        refine mi_any (fun z26 => ?_)
        refine lv_istore (lv' := [(10, .int z26), (9, .int (nI z23)), (8, .int (nI z22)), (7, .int (nI z21)), (6, .int (nI i21)), (5, .int (nI fl21)), (0, .ref h0)]) hx hb dKM_sampleEntry_102 hl (by decide) rfl (fun ls hl => ?_)
        refine lv_iload hx hb dKM_sampleEntry_104 (lv_at hl 2 rfl) ?_
        refine lv_iconst (v := nI 4) hx hb dKM_sampleEntry_106 (by decide) ?_
        refine mi_ishr hx hb dKM_sampleEntry_107 (by omega) (by decide) ?_
        refine mi_as (show nI (z22 / 2 ^ 4) = nI (z22 / 16) from rfl) ?_
        refine lv_iload hx hb dKM_sampleEntry_108 (lv_at hl 1 rfl) ?_
        refine lv_iconst (v := nI 4) hx hb dKM_sampleEntry_110 (by decide) ?_
        refine lv_ishl hx hb dKM_sampleEntry_111 ?_
        refine mi_any (fun z27 => ?_)
        refine lv_ior hx hb dKM_sampleEntry_112 ?_
        refine mi_any (fun z28 => ?_)
        refine lv_istore (lv' := [(11, .int z28), (10, .int z26), (9, .int (nI z23)), (8, .int (nI z22)), (7, .int (nI z21)), (6, .int (nI i21)), (5, .int (nI fl21)), (0, .ref h0)]) hx hb dKM_sampleEntry_113 hl (by decide) rfl (fun ls hl => ?_)
        refine lv_iload hx hb dKM_sampleEntry_115 (lv_at hl 1 rfl) ?_
        refine lv_sipush (v := nI 3329) hx hb dKM_sampleEntry_117 (by decide) ?_
        refine lv_icmp_ge (tgt := 135) hx hb dKM_sampleEntry_120 (by decide) (fun h25 => ?_) (fun h25 => ?_)
        · refine lv_iload hx hb dKM_sampleEntry_135 (lv_at hl 0 rfl) ?_
          refine lv_sipush (v := nI 3329) hx hb dKM_sampleEntry_137 (by decide) ?_
          refine lv_icmp_ge (tgt := 163) hx hb dKM_sampleEntry_140 (by decide) (fun h26 => ?_) (fun h26 => ?_)
          · refine mi_iinc (k := 5) (x := i21) (d := 1) (y := i21 + 1) (lv' := [(6, .int (nI (i21 + 1))), (11, .int z28), (10, .int z26), (9, .int (nI z23)), (8, .int (nI z22)), (7, .int (nI z21)), (5, .int (nI fl21)), (0, .ref h0)]) hx hb dKM_sampleEntry_163 hl rfl (by decide) rfl (by decide) rfl (fun ls hl => ?_)
            refine lv_goto (tgt := 49) hx hb dKM_sampleEntry_166 (by decide) ?_
            exact ih21 (i21 + 1) fl21 k26 f28 pl ls H locs (by omega) (by omega) (by omega) (lv_sub hl [0, 6, 7] rfl) hO hP hD hS
          · refine lv_iload hx hb dKM_sampleEntry_143 (lv_at hl 6 rfl) ?_
            refine lv_sipush (v := nI 256) hx hb dKM_sampleEntry_145 (by decide) ?_
            refine mi_ge (tgt := 163) hx hb dKM_sampleEntry_148 (by decide) (by omega) (by omega) (fun h27 => ?_) (fun h27 => ?_)
            · refine mi_iinc (k := 5) (x := i21) (d := 1) (y := i21 + 1) (lv' := [(6, .int (nI (i21 + 1))), (11, .int z28), (10, .int z26), (9, .int (nI z23)), (8, .int (nI z22)), (7, .int (nI z21)), (5, .int (nI fl21)), (0, .ref h0)]) hx hb dKM_sampleEntry_163 hl rfl (by decide) rfl (by decide) rfl (fun ls hl => ?_)
              refine lv_goto (tgt := 49) hx hb dKM_sampleEntry_166 (by decide) ?_
              exact ih21 (i21 + 1) fl21 k26 f28 pl ls H locs (by omega) (by omega) (by omega) (lv_sub hl [0, 6, 7] rfl) hO hP hD hS
            · refine lv_aload_n hx hb dKM_sampleEntry_151 rfl (lv_at hl 7 rfl) ?_
              refine ty_get (ci := 5) (C := "LatticeKeys$Kem") (TT := T_KM) (N := 10) (kd := (13, 0)) hx hb hts (wg_ft i_KM) hown hK hO k_h0 (nxg (clo_cons (clo_cons hc0 kr21 (by decide)) kl21 (by decide)) k_h0 rfl) hP (fun _ h9 => h9) rfl 4 (by decide) (hts _ (wg_t kw_111)) (fun _ h9 => h9) (cd := (3, 0, 256)) rfl dKM_sampleEntry_152 (fun v29 hv29 => ?_)
              obtain ⟨r32, rfl, kr29⟩ := (show ∃ r : Nat, v29 = .ref r ∧ T r = some (0, 256) from hv29)
              refine lv_iload hx hb dKM_sampleEntry_155 (lv_at hl 6 rfl) ?_
              refine lv_iload hx hb dKM_sampleEntry_157 (lv_at hl 0 rfl) ?_
              refine ty_iast hx hb hK hO kr29 (nxg (clo_cons (clo_cons hc0 kr21 (by decide)) kl21 (by decide)) kr29 rfl) hP hD hS (vp_in_nI (by omega) (by decide)) dKM_sampleEntry_159 (fun pl H locs hO hP hD hS => ?_)
              refine mi_iinc (k := 6) (x := fl21) (d := 1) (y := fl21 + 1) (lv' := [(5, .int (nI (fl21 + 1))), (11, .int z28), (10, .int z26), (9, .int (nI z23)), (8, .int (nI z22)), (7, .int (nI z21)), (6, .int (nI i21)), (0, .ref h0)]) hx hb dKM_sampleEntry_160 hl rfl (by decide) rfl (by decide) rfl (fun ls hl => ?_)
              refine mi_iinc (k := 6) (x := i21) (d := 1) (y := i21 + 1) (lv' := [(6, .int (nI (i21 + 1))), (5, .int (nI (fl21 + 1))), (11, .int z28), (10, .int z26), (9, .int (nI z23)), (8, .int (nI z22)), (7, .int (nI z21)), (0, .ref h0)]) hx hb dKM_sampleEntry_163 hl rfl (by decide) rfl (by decide) rfl (fun ls hl => ?_)
              refine lv_goto (tgt := 49) hx hb dKM_sampleEntry_166 (by decide) ?_
              exact ih21 (i21 + 1) (fl21 + 1) k26 f28 pl ls H locs (by omega) (by omega) (by omega) (lv_sub hl [0, 1, 7] rfl) hO hP hD hS
        · refine lv_aload_n hx hb dKM_sampleEntry_123 rfl (lv_at hl 7 rfl) ?_
          refine ty_get (ci := 5) (C := "LatticeKeys$Kem") (TT := T_KM) (N := 10) (kd := (13, 0)) hx hb hts (wg_ft i_KM) hown hK hO k_h0 (nxg (clo_cons (clo_cons hc0 kr21 (by decide)) kl21 (by decide)) k_h0 rfl) hP (fun _ h9 => h9) rfl 4 (by decide) (hts _ (wg_t kw_111)) (fun _ h9 => h9) (cd := (3, 0, 256)) rfl dKM_sampleEntry_124 (fun v30 hv30 => ?_)
          obtain ⟨r33, rfl, kr30⟩ := (show ∃ r : Nat, v30 = .ref r ∧ T r = some (0, 256) from hv30)
          refine lv_iload hx hb dKM_sampleEntry_127 (lv_at hl 6 rfl) ?_
          refine lv_iload hx hb dKM_sampleEntry_129 (lv_at hl 1 rfl) ?_
          refine ty_iast hx hb hK hO kr30 (nxg (clo_cons (clo_cons hc0 kr21 (by decide)) kl21 (by decide)) kr30 rfl) hP hD hS (vp_in_nI (by omega) (by decide)) dKM_sampleEntry_131 (fun pl H locs hO hP hD hS => ?_)
          refine mi_iinc (k := 6) (x := fl21) (d := 1) (y := fl21 + 1) (lv' := [(5, .int (nI (fl21 + 1))), (11, .int z28), (10, .int z26), (9, .int (nI z23)), (8, .int (nI z22)), (7, .int (nI z21)), (6, .int (nI i21)), (0, .ref h0)]) hx hb dKM_sampleEntry_132 hl rfl (by decide) rfl (by decide) rfl (fun ls hl => ?_)
          refine lv_iload hx hb dKM_sampleEntry_135 (lv_at hl 1 rfl) ?_
          refine lv_sipush (v := nI 3329) hx hb dKM_sampleEntry_137 (by decide) ?_
          refine lv_icmp_ge (tgt := 163) hx hb dKM_sampleEntry_140 (by decide) (fun h28 => ?_) (fun h28 => ?_)
          · refine mi_iinc (k := 6) (x := i21) (d := 1) (y := i21 + 1) (lv' := [(6, .int (nI (i21 + 1))), (5, .int (nI (fl21 + 1))), (11, .int z28), (10, .int z26), (9, .int (nI z23)), (8, .int (nI z22)), (7, .int (nI z21)), (0, .ref h0)]) hx hb dKM_sampleEntry_163 hl rfl (by decide) rfl (by decide) rfl (fun ls hl => ?_)
            refine lv_goto (tgt := 49) hx hb dKM_sampleEntry_166 (by decide) ?_
            exact ih21 (i21 + 1) (fl21 + 1) k26 f28 pl ls H locs (by omega) (by omega) (by omega) (lv_sub hl [0, 1, 7] rfl) hO hP hD hS
          · refine lv_iload hx hb dKM_sampleEntry_143 (lv_at hl 0 rfl) ?_
            refine lv_sipush (v := nI 256) hx hb dKM_sampleEntry_145 (by decide) ?_
            refine mi_ge (tgt := 163) hx hb dKM_sampleEntry_148 (by decide) (by omega) (by omega) (fun h29 => ?_) (fun h29 => ?_)
            · refine mi_iinc (k := 6) (x := i21) (d := 1) (y := i21 + 1) (lv' := [(6, .int (nI (i21 + 1))), (5, .int (nI (fl21 + 1))), (11, .int z28), (10, .int z26), (9, .int (nI z23)), (8, .int (nI z22)), (7, .int (nI z21)), (0, .ref h0)]) hx hb dKM_sampleEntry_163 hl rfl (by decide) rfl (by decide) rfl (fun ls hl => ?_)
              refine lv_goto (tgt := 49) hx hb dKM_sampleEntry_166 (by decide) ?_
              exact ih21 (i21 + 1) (fl21 + 1) k26 f28 pl ls H locs (by omega) (by omega) (by omega) (lv_sub hl [0, 1, 7] rfl) hO hP hD hS
            · refine lv_aload_n hx hb dKM_sampleEntry_151 rfl (lv_at hl 7 rfl) ?_
              refine ty_get (ci := 5) (C := "LatticeKeys$Kem") (TT := T_KM) (N := 10) (kd := (13, 0)) hx hb hts (wg_ft i_KM) hown hK hO k_h0 (nxg (clo_cons (clo_cons hc0 kr21 (by decide)) kl21 (by decide)) k_h0 rfl) hP (fun _ h9 => h9) rfl 4 (by decide) (hts _ (wg_t kw_111)) (fun _ h9 => h9) (cd := (3, 0, 256)) rfl dKM_sampleEntry_152 (fun v31 hv31 => ?_)
              obtain ⟨r34, rfl, kr31⟩ := (show ∃ r : Nat, v31 = .ref r ∧ T r = some (0, 256) from hv31)
              refine lv_iload hx hb dKM_sampleEntry_155 (lv_at hl 0 rfl) ?_
              refine lv_iload hx hb dKM_sampleEntry_157 (lv_at hl 1 rfl) ?_
              refine ty_iast hx hb hK hO kr31 (nxg (clo_cons (clo_cons hc0 kr21 (by decide)) kl21 (by decide)) kr31 rfl) hP hD hS (vp_in_nI (by omega) (by decide)) dKM_sampleEntry_159 (fun pl H locs hO hP hD hS => ?_)
              refine mi_iinc (k := 0) (x := fl21 + 1) (d := 1) (y := fl21 + 1 + 1) (lv' := [(5, .int (nI (fl21 + 1 + 1))), (11, .int z28), (10, .int z26), (9, .int (nI z23)), (8, .int (nI z22)), (7, .int (nI z21)), (6, .int (nI i21)), (0, .ref h0)]) hx hb dKM_sampleEntry_160 hl rfl (by decide) rfl (by decide) rfl (fun ls hl => ?_)
              refine mi_iinc (k := 6) (x := i21) (d := 1) (y := i21 + 1) (lv' := [(6, .int (nI (i21 + 1))), (5, .int (nI (fl21 + 1 + 1))), (11, .int z28), (10, .int z26), (9, .int (nI z23)), (8, .int (nI z22)), (7, .int (nI z21)), (0, .ref h0)]) hx hb dKM_sampleEntry_163 hl rfl (by decide) rfl (by decide) rfl (fun ls hl => ?_)
              refine lv_goto (tgt := 49) hx hb dKM_sampleEntry_166 (by decide) ?_
              exact ih21 (i21 + 1) (fl21 + 1 + 1) k26 f28 pl ls H locs (by omega) (by omega) (by omega) (lv_sub hl [0, 1, 7] rfl) hO hP hD hS
  exact lp21 1000000 0 0 168 u30 pl ls _ _ (by omega) (by omega) (by omega) (lv_sub hl [0, 1, 2] rfl) hO hP hD hS
set_option maxHeartbeats 400000 in
set_option maxRecDepth 100000 in
theorem t_KM_sampleNoise_2 (l : Launch) (g : Gd) (sz : Nat) (T : Ty) (xs : List Nat) (pl : va_W) (hO : okx g T xs pl) (hU : uni T) (hc0 : clo T xs 0) (hc2 : clo T xs 2) (h0 f : Nat) (wh : Int32) (k_h0 : T h0 = some (13, 0)) (k_f : T f = some (0, 256))  : Met l y_KM_sampleNoise w_KM_sampleNoise ({ frames := 3, cells := 0, slots := 0, locals := 100 } : Room) (va_Pc [.ref h0, .ref f, .int (nI 2), .int wh] (pr (en g) g.1 vcl sz ([] ++ pl))) (va_Qv (fun (u : va_W) => (True) ∧ okx g T xs u) (po g.1 vcl (va_A ([] ++ pl) sz) (fun (u : va_W) => [] ++ u)) (va_A ([] ++ pl) sz)) 0 0 (va_A ([] ++ pl) sz) := by
  refine mc_entry (cc := c_KM_sampleNoise) (maxL := 7) (ret := none) (by decide) rfl (Nat.le_of_ble_eq_true rfl) ?_
  intro p e s m args below meth c ls F hr hlk hnm hsz hP hD hE hA hl
  obtain ⟨hx, hb, hml, hown, hts⟩ := id F
  have hK := hE.1
  generalize va_A ([] ++ pl) sz = A at hD hE hA ⊢
  have hS : va_S A s.heap s.heap [] := va_S.rf
  have hl : lv_has ls 7 [(0, .ref h0), (1, .ref f), (2, .int (nI 2)), (3, .int wh)] := hl
  refine lv_aload_n hx hb dKM_sampleNoise_0 rfl (lv_at hl 0 rfl) ?_
  refine ty_get (ci := 5) (C := "LatticeKeys$Kem") (TT := T_KM) (N := 10) (kd := (13, 0)) hx hb hts (wg_ft i_KM) hown hK hO k_h0 (nxg hc0 k_h0 rfl) hP (fun _ h9 => h9) rfl 0 (by decide) (hts _ (wg_t kw_107)) (fun _ h9 => h9) (cd := (3, 10, 1)) rfl dKM_sampleNoise_1 (fun v21 hv21 => ?_)
  obtain ⟨r21, rfl, kr21⟩ := (show ∃ r : Nat, v21 = .ref r ∧ T r = some (10, 1) from hv21)
  refine lv_iconst (v := nI 3) hx hb dKM_sampleNoise_4 (by decide) ?_
  obtain ⟨e21, pl, hP, hD, hk21, hO⟩ := open1 hP hD hO kr21 (nxg hc2 kr21 rfl)
  obtain ⟨ln21, rt21, ps21, x21, rfl, kl21, hr21, hr22, hr23⟩ := hk21
  have kl21 : T ln21 = some (19, 1) := kl21
  obtain ⟨e22, pl, hP, hD, hk22, hO⟩ := open1 hP hD hO kl21 (nmc (knd_ne kl21 kr21 (by decide)) (nxg hc2 kl21 rfl))
  obtain ⟨f21, rfl⟩ := hk22
  have hP : va_P g.1 vcl ([(r21, .inr (3, [.ref ln21, .int (nI rt21), .int x21, .int (nI ps21)])), (ln21, .inl (g.2.1 2, 25, .inr (.inl f21)))] ++ pl) _ := hP
  have hD : va_D _ ([(r21, .inr (3, [.ref ln21, .int (nI rt21), .int x21, .int (nI ps21)])), (ln21, .inl (g.2.1 2, 25, .inr (.inl f21)))] ++ pl) := hD
  refine mp_v (cx := [(r21, .inr (3, [.ref ln21, .int (nI rt21), .int x21, .int (nI ps21)])), (ln21, .inl (g.2.1 2, 25, .inr (.inl f21)))]) (wr := []) hP hD hS hA [0, 1] [] rfl rfl rfl (by decide) (va_runV (As := [.int (nI 3)]) (rest := []) F (t_SP_start_3 l g _ T (ln21 :: (r21 :: xs)) pl hO hU  r21 ln21 rt21 ps21 x21 f21) (cwV 1 hts (wg_app (wg_c kw_578 (wg_c kw_579 (wg_c kw_580 (wg_c kw_2 wg_n)))) kw_581) rfl rfl rfl (by decide +kernel) ⟨by decide, by decide⟩) (pp_V (en_ok g) (q0 := 0) hK hP hD hS hA hE [0, 1] rfl rfl rfl rfl) rfl rfl hl.1 rfl (lv_room (Nat.le_of_ble_eq_true rfl)) dKM_sampleNoise_5 ⟨by omega, by omega⟩) (fun  u21 H locs hu21 hP hD hS => ?_)
  obtain ⟨u22, pl⟩ := u21
  obtain ⟨hq21, hO⟩ := hu21
  have hP : va_P g.1 vcl ([(r21, .inr (3, [.ref ln21, .int (nI 136), .int (nI 31), .int (nI 0)])), (ln21, .inl (g.2.1 2, 25, .inr (.inl u22)))] ++ pl) _ := hP
  have hD : va_D _ ([(r21, .inr (3, [.ref ln21, .int (nI 136), .int (nI 31), .int (nI 0)])), (ln21, .inl (g.2.1 2, 25, .inr (.inl u22)))] ++ pl) := hD
  refine W.widen (k := 0) (n := 0) (by omega) (by omega) ?_
  refine lv_aload_n hx hb dKM_sampleNoise_8 rfl (lv_at hl 0 rfl) ?_
  refine ty_get (ci := 5) (C := "LatticeKeys$Kem") (TT := T_KM) (N := 10) (kd := (13, 0)) hx hb hts (wg_ft i_KM) hown hK hO k_h0 (nxg (clo_cons (clo_cons hc0 kr21 (by decide)) kl21 (by decide)) k_h0 rfl) hP (fun _ h9 => h9) rfl 0 (by decide) (hts _ (wg_t kw_107)) (fun _ h9 => h9) (cd := (3, 10, 1)) rfl dKM_sampleNoise_9 (fun v22 hv22 => ?_)
  obtain ⟨r22, rfl, kr22⟩ := (show ∃ r : Nat, v22 = .ref r ∧ T r = some (10, 1) from hv22)
  obtain rfl : r21 = r22 := hU _ _ _ (by decide) kr21 kr22
  refine lv_aload_n hx hb dKM_sampleNoise_12 rfl (lv_at hl 0 rfl) ?_
  refine ty_get (ci := 5) (C := "LatticeKeys$Kem") (TT := T_KM) (N := 10) (kd := (13, 0)) hx hb hts (wg_ft i_KM) hown hK hO k_h0 (nxg (clo_cons (clo_cons hc0 kr21 (by decide)) kl21 (by decide)) k_h0 rfl) hP (fun _ h9 => h9) rfl 7 (by decide) (hts _ (wg_t kw_114)) (fun _ h9 => h9) (cd := (3, 1, 64)) rfl dKM_sampleNoise_13 (fun v23 hv23 => ?_)
  obtain ⟨r23, rfl, kr23⟩ := (show ∃ r : Nat, v23 = .ref r ∧ T r = some (1, 64) from hv23)
  refine lv_bipush (v := nI 32) hx hb dKM_sampleNoise_16 (by decide) ?_
  refine lv_bipush (v := nI 32) hx hb dKM_sampleNoise_18 (by decide) ?_
  refine mp_v (cx := [(r21, .inr (3, [.ref ln21, .int (nI 136), .int (nI 31), .int (nI 0)])), (ln21, .inl (g.2.1 2, 25, .inr (.inl u22)))]) (wr := []) hP hD hS hA [0, 1] [] rfl rfl rfl (by decide) (va_runV (As := [.ref r23, .int (nI 32), .int (nI 32)]) (rest := []) F (t_SP_absorb l g _ T (ln21 :: (r21 :: xs)) pl hO hU (clo_cons (clo_cons hc0 kr21 (by decide)) kl21 (by decide)) r23 64 32 32 r21 ln21 136 0 (nI 31) u22 kr23 (by omega) (by omega) (by omega) (by omega)) (cwV 3 hts (wg_app (wg_c kw_585 (wg_c kw_586 (wg_c kw_587 (wg_c kw_2 wg_n)))) kw_588) rfl rfl rfl (by decide +kernel) ⟨by decide, by decide⟩) (pp_V (en_ok g) (q0 := 0) hK hP hD hS hA hE [0, 1] rfl rfl rfl rfl) rfl rfl hl.1 rfl (lv_room (Nat.le_of_ble_eq_true rfl)) dKM_sampleNoise_20 ⟨by omega, by omega⟩) (fun  u23 H locs hu22 hP hD hS => ?_)
  obtain ⟨u24, pl⟩ := u23
  obtain ⟨hq22, hO⟩ := hu22
  obtain ⟨k21, f22⟩ := u24
  have hP : va_P g.1 vcl ([(r21, .inr (3, [.ref ln21, .int (nI 136), .int (nI 31), .int (nI k21)])), (ln21, .inl (g.2.1 2, 25, .inr (.inl f22)))] ++ pl) _ := hP
  have hD : va_D _ ([(r21, .inr (3, [.ref ln21, .int (nI 136), .int (nI 31), .int (nI k21)])), (ln21, .inl (g.2.1 2, 25, .inr (.inl f22)))] ++ pl) := hD
  have hq22 : k21 < 136 := hq22
  refine W.widen (k := 0) (n := 0) (by omega) (by omega) ?_
  refine lv_aload_n hx hb dKM_sampleNoise_23 rfl (lv_at hl 0 rfl) ?_
  refine ty_get (ci := 5) (C := "LatticeKeys$Kem") (TT := T_KM) (N := 10) (kd := (13, 0)) hx hb hts (wg_ft i_KM) hown hK hO k_h0 (nxg (clo_cons (clo_cons hc0 kr21 (by decide)) kl21 (by decide)) k_h0 rfl) hP (fun _ h9 => h9) rfl 0 (by decide) (hts _ (wg_t kw_107)) (fun _ h9 => h9) (cd := (3, 10, 1)) rfl dKM_sampleNoise_24 (fun v24 hv24 => ?_)
  obtain ⟨r24, rfl, kr24⟩ := (show ∃ r : Nat, v24 = .ref r ∧ T r = some (10, 1) from hv24)
  obtain rfl : r21 = r24 := hU _ _ _ (by decide) kr21 kr24
  refine lv_iload_n hx hb dKM_sampleNoise_27 rfl (lv_at hl 3 rfl) ?_
  refine mp_v (cx := [(r21, .inr (3, [.ref ln21, .int (nI 136), .int (nI 31), .int (nI k21)])), (ln21, .inl (g.2.1 2, 25, .inr (.inl f22)))]) (wr := []) hP hD hS hA [0, 1] [] rfl rfl rfl (by decide) (va_runV (As := [.int wh]) (rest := []) F (t_SP_absorbByte l g _ T (ln21 :: (r21 :: xs)) pl hO hU  wh r21 ln21 136 k21 (nI 31) f22 (by omega) (by omega)) (cwV 1 hts (wg_app (wg_c kw_609 (wg_c kw_590 (wg_c kw_591 (wg_c kw_2 wg_n)))) kw_592) rfl rfl rfl (by decide +kernel) ⟨by decide, by decide⟩) (pp_V (en_ok g) (q0 := 0) hK hP hD hS hA hE [0, 1] rfl rfl rfl rfl) rfl rfl hl.1 rfl (lv_room (Nat.le_of_ble_eq_true rfl)) dKM_sampleNoise_28 ⟨by omega, by omega⟩) (fun  u25 H locs hu23 hP hD hS => ?_)
  obtain ⟨u26, pl⟩ := u25
  obtain ⟨hq23, hO⟩ := hu23
  obtain ⟨k22, f23⟩ := u26
  have hP : va_P g.1 vcl ([(r21, .inr (3, [.ref ln21, .int (nI 136), .int (nI 31), .int (nI k22)])), (ln21, .inl (g.2.1 2, 25, .inr (.inl f23)))] ++ pl) _ := hP
  have hD : va_D _ ([(r21, .inr (3, [.ref ln21, .int (nI 136), .int (nI 31), .int (nI k22)])), (ln21, .inl (g.2.1 2, 25, .inr (.inl f23)))] ++ pl) := hD
  have hq23 : k22 < 136 := hq23
  refine W.widen (k := 0) (n := 0) (by omega) (by omega) ?_
  refine lv_aload_n hx hb dKM_sampleNoise_31 rfl (lv_at hl 0 rfl) ?_
  refine ty_get (ci := 5) (C := "LatticeKeys$Kem") (TT := T_KM) (N := 10) (kd := (13, 0)) hx hb hts (wg_ft i_KM) hown hK hO k_h0 (nxg (clo_cons (clo_cons hc0 kr21 (by decide)) kl21 (by decide)) k_h0 rfl) hP (fun _ h9 => h9) rfl 0 (by decide) (hts _ (wg_t kw_107)) (fun _ h9 => h9) (cd := (3, 10, 1)) rfl dKM_sampleNoise_32 (fun v25 hv25 => ?_)
  obtain ⟨r25, rfl, kr25⟩ := (show ∃ r : Nat, v25 = .ref r ∧ T r = some (10, 1) from hv25)
  obtain rfl : r21 = r25 := hU _ _ _ (by decide) kr21 kr25
  refine mp_v (cx := [(r21, .inr (3, [.ref ln21, .int (nI 136), .int (nI 31), .int (nI k22)])), (ln21, .inl (g.2.1 2, 25, .inr (.inl f23)))]) (wr := []) hP hD hS hA [0, 1] [] rfl rfl rfl (by decide) (va_runV (As := []) (rest := []) F (t_SP_finish l g _ T (ln21 :: (r21 :: xs)) pl hO hU  r21 ln21 136 k22 (nI 31) f23 (by omega) (by omega)) (cwV 0 hts (wg_app (wg_c kw_610 (wg_c kw_611 (wg_c kw_612 (wg_c kw_2 wg_n)))) kw_613) rfl rfl rfl (by decide +kernel) ⟨by decide, by decide⟩) (pp_V (en_ok g) (q0 := 0) hK hP hD hS hA hE [0, 1] rfl rfl rfl rfl) rfl rfl hl.1 rfl (lv_room (Nat.le_of_ble_eq_true rfl)) dKM_sampleNoise_35 ⟨by omega, by omega⟩) (fun  u27 H locs hu24 hP hD hS => ?_)
  obtain ⟨u28, pl⟩ := u27
  obtain ⟨hq24, hO⟩ := hu24
  have hP : va_P g.1 vcl ([(r21, .inr (3, [.ref ln21, .int (nI 136), .int (nI 31), .int (nI 136)])), (ln21, .inl (g.2.1 2, 25, .inr (.inl u28)))] ++ pl) _ := hP
  have hD : va_D _ ([(r21, .inr (3, [.ref ln21, .int (nI 136), .int (nI 31), .int (nI 136)])), (ln21, .inl (g.2.1 2, 25, .inr (.inl u28)))] ++ pl) := hD
  refine W.widen (k := 0) (n := 0) (by omega) (by omega) ?_
  refine lv_aload_n hx hb dKM_sampleNoise_38 rfl (lv_at hl 0 rfl) ?_
  refine ty_get (ci := 5) (C := "LatticeKeys$Kem") (TT := T_KM) (N := 10) (kd := (13, 0)) hx hb hts (wg_ft i_KM) hown hK hO k_h0 (nxg (clo_cons (clo_cons hc0 kr21 (by decide)) kl21 (by decide)) k_h0 rfl) hP (fun _ h9 => h9) rfl 0 (by decide) (hts _ (wg_t kw_107)) (fun _ h9 => h9) (cd := (3, 10, 1)) rfl dKM_sampleNoise_39 (fun v26 hv26 => ?_)
  obtain ⟨r26, rfl, kr26⟩ := (show ∃ r : Nat, v26 = .ref r ∧ T r = some (10, 1) from hv26)
  obtain rfl : r21 = r26 := hU _ _ _ (by decide) kr21 kr26
  refine lv_aload_n hx hb dKM_sampleNoise_42 rfl (lv_at hl 0 rfl) ?_
  refine ty_get (ci := 5) (C := "LatticeKeys$Kem") (TT := T_KM) (N := 10) (kd := (13, 0)) hx hb hts (wg_ft i_KM) hown hK hO k_h0 (nxg (clo_cons (clo_cons hc0 kr21 (by decide)) kl21 (by decide)) k_h0 rfl) hP (fun _ h9 => h9) rfl 8 (by decide) (hts _ (wg_t kw_115)) (fun _ h9 => h9) (cd := (3, 1, 192)) rfl dKM_sampleNoise_43 (fun v27 hv27 => ?_)
  obtain ⟨r27, rfl, kr27⟩ := (show ∃ r : Nat, v27 = .ref r ∧ T r = some (1, 192) from hv27)
  refine lv_iconst (v := nI 0) hx hb dKM_sampleNoise_46 (by decide) ?_
  refine lv_bipush (v := nI 64) hx hb dKM_sampleNoise_47 (by decide) ?_
  refine lv_iload_n hx hb dKM_sampleNoise_49 rfl (lv_at hl 2 rfl) ?_
  refine mi_imul hx hb dKM_sampleNoise_50 ?_
  refine mi_as (show nI (64 * 2) = nI 128 from rfl) ?_
  refine mp_v (cx := [(r21, .inr (3, [.ref ln21, .int (nI 136), .int (nI 31), .int (nI 136)])), (ln21, .inl (g.2.1 2, 25, .inr (.inl u28)))]) (wr := []) hP hD hS hA [0, 1] [] rfl rfl rfl (by decide) (va_runV (As := [.ref r27, .int (nI 0), .int (nI 128)]) (rest := []) F (t_SP_squeeze l g _ T (ln21 :: (r21 :: xs)) pl hO hU (clo_cons (clo_cons hc0 kr21 (by decide)) kl21 (by decide)) r27 192 0 128 r21 ln21 136 136 (nI 31) u28 kr27 (by omega) (by omega) (by omega) (by omega)) (cwV 3 hts (wg_app (wg_c kw_614 (wg_c kw_615 (wg_c kw_616 (wg_c kw_2 wg_n)))) kw_617) rfl rfl rfl (by decide +kernel) ⟨by decide, by decide⟩) (pp_V (en_ok g) (q0 := 0) hK hP hD hS hA hE [0, 1] rfl rfl rfl rfl) rfl rfl hl.1 rfl (lv_room (Nat.le_of_ble_eq_true rfl)) dKM_sampleNoise_51 ⟨by omega, by omega⟩) (fun  u29 H locs hu25 hP hD hS => ?_)
  obtain ⟨u30, pl⟩ := u29
  obtain ⟨hq25, hO⟩ := hu25
  obtain ⟨k23, f24⟩ := u30
  have hP : va_P g.1 vcl ([(r21, .inr (3, [.ref ln21, .int (nI 136), .int (nI 31), .int (nI k23)])), (ln21, .inl (g.2.1 2, 25, .inr (.inl f24)))] ++ pl) _ := hP
  have hD : va_D _ ([(r21, .inr (3, [.ref ln21, .int (nI 136), .int (nI 31), .int (nI k23)])), (ln21, .inl (g.2.1 2, 25, .inr (.inl f24)))] ++ pl) := hD
  have hq25 : k23 ≤ 136 := hq25
  refine W.widen (k := 0) (n := 0) (by omega) (by omega) ?_
  refine lv_aload_n hx hb dKM_sampleNoise_54 rfl (lv_at hl 1 rfl) ?_
  refine lv_iconst (v := nI 2) hx hb dKM_sampleNoise_55 (by decide) ?_
  refine lv_iload_n hx hb dKM_sampleNoise_56 rfl (lv_at hl 2 rfl) ?_
  refine mi_imul hx hb dKM_sampleNoise_57 ?_
  refine mi_as (show nI (2 * 2) = nI 4 from rfl) ?_
  refine lv_aload_n hx hb dKM_sampleNoise_58 rfl (lv_at hl 0 rfl) ?_
  refine ty_get (ci := 5) (C := "LatticeKeys$Kem") (TT := T_KM) (N := 10) (kd := (13, 0)) hx hb hts (wg_ft i_KM) hown hK hO k_h0 (nxg (clo_cons (clo_cons hc0 kr21 (by decide)) kl21 (by decide)) k_h0 rfl) hP (fun _ h9 => h9) rfl 8 (by decide) (hts _ (wg_t kw_115)) (fun _ h9 => h9) (cd := (3, 1, 192)) rfl dKM_sampleNoise_59 (fun v28 hv28 => ?_)
  obtain ⟨r28, rfl, kr28⟩ := (show ∃ r : Nat, v28 = .ref r ∧ T r = some (1, 192) from hv28)
  refine lv_iconst (v := nI 0) hx hb dKM_sampleNoise_62 (by decide) ?_
  refine mp_v (cx := []) (wr := [(r21, .inr (3, [.ref ln21, .int (nI 136), .int (nI 31), .int (nI k23)])), (ln21, .inl (g.2.1 2, 25, .inr (.inl f24)))]) hP hD hS hA [] [0, 1] rfl rfl rfl (by decide) (va_runS (As := [.ref f, .int (nI 4), .ref r28, .int (nI 0)]) (rest := []) F (t_BT_unpack l g _ T (ln21 :: (r21 :: xs)) pl hO hU (clo_cons (clo_cons hc0 kr21 (by decide)) kl21 (by decide)) f r28 192 4 0 k_f kr28 (by omega) (by omega) (by omega)) (va_cwS 4 hts (wg_app (wg_c kw_627 (wg_c kw_628 (wg_c kw_22 wg_n))) kw_629) rfl rfl rfl (by decide +kernel) ⟨by decide, by decide⟩) (pp_S (en_ok g) hP hD hS hA hE [] rfl rfl) rfl rfl hl.1 rfl (lv_room (Nat.le_of_ble_eq_true rfl)) dKM_sampleNoise_63 ⟨by omega, by omega⟩) (fun  pl H locs hu26 hP hD hS => ?_)
  obtain ⟨hq26, hO⟩ := hu26
  have hP : va_P g.1 vcl ([(r21, .inr (3, [.ref ln21, .int (nI 136), .int (nI 31), .int (nI k23)])), (ln21, .inl (g.2.1 2, 25, .inr (.inl f24)))] ++ pl) _ := hP
  have hD : va_D _ ([(r21, .inr (3, [.ref ln21, .int (nI 136), .int (nI 31), .int (nI k23)])), (ln21, .inl (g.2.1 2, 25, .inr (.inl f24)))] ++ pl) := hD
  refine W.widen (k := 0) (n := 0) (by omega) (by omega) ?_
  refine lv_iconst (v := nI 1) hx hb dKM_sampleNoise_66 (by decide) ?_
  refine lv_iload_n hx hb dKM_sampleNoise_67 rfl (lv_at hl 2 rfl) ?_
  refine mi_ishl hx hb dKM_sampleNoise_68 (by decide) (by decide) ?_
  refine mi_as (show nI (1 * 2 ^ 2) = nI 4 from rfl) ?_
  refine lv_iconst (v := nI 1) hx hb dKM_sampleNoise_69 (by decide) ?_
  refine mi_isub hx hb dKM_sampleNoise_70 (by omega) ?_
  refine mi_as (show nI (4 - 1) = nI 3 from rfl) ?_
  refine lv_istore (lv' := [(4, .int (nI 3)), (0, .ref h0), (1, .ref f), (2, .int (nI 2)), (3, .int wh)]) hx hb dKM_sampleNoise_71 hl (by decide) rfl (fun ls hl => ?_)
  refine lv_iconst (v := nI 0) hx hb dKM_sampleNoise_73 (by decide) ?_
  refine lv_istore (lv' := [(5, .int (nI 0)), (4, .int (nI 3)), (0, .ref h0), (1, .ref f), (2, .int (nI 2)), (3, .int wh)]) hx hb dKM_sampleNoise_74 hl (by decide) rfl (fun ls hl => ?_)
  have hO := close1 (e := .inl (g.2.1 2, 25, .inr (.inl f24))) hO kl21 ⟨_, rfl⟩
  have hO := close1 (e := .inr (3, [.ref ln21, .int (nI 136), .int (nI 31), .int (nI k23)])) hO kr21 ⟨_, _, _, _, rfl, kl21, by omega, by omega, by omega⟩
  have hO : okx g T xs ((r21, .inr (3, [.ref ln21, .int (nI 136), .int (nI 31), .int (nI k23)])) :: (ln21, .inl (g.2.1 2, 25, .inr (.inl f24))) :: pl) := hO
  have hP : va_P g.1 vcl ([] ++ ((r21, .inr (3, [.ref ln21, .int (nI 136), .int (nI 31), .int (nI k23)])) :: (ln21, .inl (g.2.1 2, 25, .inr (.inl f24))) :: pl)) _ := hP
  have hD : va_D _ ([] ++ ((r21, .inr (3, [.ref ln21, .int (nI 136), .int (nI 31), .int (nI k23)])) :: (ln21, .inl (g.2.1 2, 25, .inr (.inl f24))) :: pl)) := hD
  generalize ((r21, .inr (3, [.ref ln21, .int (nI 136), .int (nI 31), .int (nI k23)])) :: (ln21, .inl (g.2.1 2, 25, .inr (.inl f24))) :: pl) = pl at hO hP hD
  have lp21 : ∀ (n21 : Nat) (i21 : Nat) (pl : va_W) (ls : Array Slot) (H : Heap) (locs : List Loc), n21 + i21 = 256 → lv_has ls 7 [(5, .int (nI i21)), (4, .int (nI 3)), (1, .ref f), (2, .int (nI 2))] → okx g T xs pl → va_P g.1 vcl ([] ++ pl) H → va_D A ([] ++ pl) → va_S A s.heap H locs → W p l e ({ frames := 3, cells := 0, slots := 0, locals := 100 } : Room) s m args below meth c H locs 0 0 (MQ below (va_Qv (fun (u : va_W) => (True) ∧ okx g T xs u) (po g.1 vcl A (fun (u : va_W) => [] ++ u)) A) args s 0 0 A) (F0 m 76 ls []) := by
    intro n21
    induction n21 with
    | zero =>
      intro i21 pl ls H locs hm21  hl hO hP hD hS
      refine lv_iload hx hb dKM_sampleNoise_76 (lv_at hl 0 rfl) ?_
      refine lv_sipush (v := nI 256) hx hb dKM_sampleNoise_78 (by decide) ?_
      refine mi_ge (tgt := 132) hx hb dKM_sampleNoise_81 (by decide) (by omega) (by omega) (fun h21 => ?_) (fun h21 => absurd h21 (by omega))
      exact mp_vret hx hb hr hlk hP hD hS pl ⟨trivial, hO⟩ [] rfl rfl rfl (by omega) (by omega) dKM_sampleNoise_132
    | succ n21 ih21 =>
      intro i21 pl ls H locs hm21  hl hO hP hD hS
      refine lv_iload hx hb dKM_sampleNoise_76 (lv_at hl 0 rfl) ?_
      refine lv_sipush (v := nI 256) hx hb dKM_sampleNoise_78 (by decide) ?_
      refine mi_ge (tgt := 132) hx hb dKM_sampleNoise_81 (by decide) (by omega) (by omega) (fun h22 => absurd h22 (by omega)) (fun h22 => ?_)
      refine lv_aload_n hx hb dKM_sampleNoise_84 rfl (lv_at hl 2 rfl) ?_
      refine lv_iload hx hb dKM_sampleNoise_85 (lv_at hl 0 rfl) ?_
      refine ty_iald hx hb hK hO k_f (nxg hc0 k_f rfl) hP (vp_in_nI (by omega) (by decide)) dKM_sampleNoise_87 (fun z21 => ?_)
      refine lv_iload hx hb dKM_sampleNoise_88 (lv_at hl 1 rfl) ?_
      refine mi_iand hx hb 2 dKM_sampleNoise_90 (by decide) (fun z22 hz21 => ?_)
      have hz21 : z22 < 4 := hz21
      refine mp_i (cx := []) (wr := []) hP hD hS hA [] [] rfl rfl rfl (by decide) (va_runS (As := [.int (nI z22)]) (rest := []) F (t_bitCount l g _ T xs pl hO hU  (nI z22)) (va_cwS 1 hts (wg_app (wg_c kw_630 (wg_c kw_631 (wg_c kw_23 wg_n))) kw_632) rfl rfl rfl (by decide +kernel) ⟨by decide, by decide⟩) (pp_S (en_ok g) hP hD hS hA hE [] rfl rfl) rfl rfl hl.1 rfl (lv_room (Nat.le_of_ble_eq_true rfl)) dKM_sampleNoise_91 ⟨by omega, by omega⟩) (fun r29 pl H locs hu27 hP hD hS => ?_)
      obtain ⟨hq27, hO⟩ := hu27
      have hP : va_P g.1 vcl ([] ++ pl) _ := hP
      have hD : va_D _ ([] ++ pl) := hD
      refine W.widen (k := 0) (n := 0) (by omega) (by omega) ?_
      refine lv_aload_n hx hb dKM_sampleNoise_94 rfl (lv_at hl 2 rfl) ?_
      refine lv_iload hx hb dKM_sampleNoise_95 (lv_at hl 0 rfl) ?_
      refine ty_iald hx hb hK hO k_f (nxg hc0 k_f rfl) hP (vp_in_nI (by omega) (by decide)) dKM_sampleNoise_97 (fun z23 => ?_)
      refine lv_iload_n hx hb dKM_sampleNoise_98 rfl (lv_at hl 3 rfl) ?_
      refine lv_ishr hx hb dKM_sampleNoise_99 ?_
      refine mi_any (fun z24 => ?_)
      refine mp_i (cx := []) (wr := []) hP hD hS hA [] [] rfl rfl rfl (by decide) (va_runS (As := [.int z24]) (rest := [.int r29]) F (t_bitCount l g _ T xs pl hO hU  z24) (va_cwS 1 hts (wg_app (wg_c kw_630 (wg_c kw_631 (wg_c kw_23 wg_n))) kw_632) rfl rfl rfl (by decide +kernel) ⟨by decide, by decide⟩) (pp_S (en_ok g) hP hD hS hA hE [] rfl rfl) rfl rfl hl.1 rfl (lv_room (Nat.le_of_ble_eq_true rfl)) dKM_sampleNoise_100 ⟨by omega, by omega⟩) (fun r30 pl H locs hu28 hP hD hS => ?_)
      obtain ⟨hq28, hO⟩ := hu28
      have hP : va_P g.1 vcl ([] ++ pl) _ := hP
      have hD : va_D _ ([] ++ pl) := hD
      refine W.widen (k := 0) (n := 0) (by omega) (by omega) ?_
      refine lv_isub hx hb dKM_sampleNoise_103 ?_
      refine mi_any (fun z25 => ?_)
      refine lv_istore (lv' := [(6, .int z25), (5, .int (nI i21)), (4, .int (nI 3)), (1, .ref f), (2, .int (nI 2))]) hx hb dKM_sampleNoise_104 hl (by decide) rfl (fun ls hl => ?_)
      refine lv_aload_n hx hb dKM_sampleNoise_106 rfl (lv_at hl 3 rfl) ?_
      refine lv_iload hx hb dKM_sampleNoise_107 (lv_at hl 1 rfl) ?_
      refine lv_iload hx hb dKM_sampleNoise_109 (lv_at hl 0 rfl) ?_
      refine lv_if_ge (tgt := 123) hx hb dKM_sampleNoise_111 (by decide) (fun h23 => ?_) (fun h23 => ?_)
      · refine lv_iload hx hb dKM_sampleNoise_123 (lv_at hl 0 rfl) ?_
        refine ty_iast hx hb hK hO k_f (nxg hc0 k_f rfl) hP hD hS (vp_in_nI (by omega) (by decide)) dKM_sampleNoise_125 (fun pl H locs hO hP hD hS => ?_)
        refine mi_iinc (k := 1) (x := i21) (d := 1) (y := i21 + 1) (lv' := [(5, .int (nI (i21 + 1))), (6, .int z25), (4, .int (nI 3)), (1, .ref f), (2, .int (nI 2))]) hx hb dKM_sampleNoise_126 hl rfl (by decide) rfl (by decide) rfl (fun ls hl => ?_)
        refine lv_goto (tgt := 76) hx hb dKM_sampleNoise_129 (by decide) ?_
        exact ih21 (i21 + 1) pl ls H locs (by omega) (lv_sub hl [0, 2, 3, 4] rfl) hO hP hD hS
      · refine lv_iload hx hb dKM_sampleNoise_114 (lv_at hl 0 rfl) ?_
        refine lv_sipush (v := nI 3329) hx hb dKM_sampleNoise_116 (by decide) ?_
        refine lv_iadd hx hb dKM_sampleNoise_119 ?_
        refine mi_any (fun z26 => ?_)
        refine lv_goto (tgt := 125) hx hb dKM_sampleNoise_120 (by decide) ?_
        refine ty_iast hx hb hK hO k_f (nxg hc0 k_f rfl) hP hD hS (vp_in_nI (by omega) (by decide)) dKM_sampleNoise_125 (fun pl H locs hO hP hD hS => ?_)
        refine mi_iinc (k := 1) (x := i21) (d := 1) (y := i21 + 1) (lv' := [(5, .int (nI (i21 + 1))), (6, .int z25), (4, .int (nI 3)), (1, .ref f), (2, .int (nI 2))]) hx hb dKM_sampleNoise_126 hl rfl (by decide) rfl (by decide) rfl (fun ls hl => ?_)
        refine lv_goto (tgt := 76) hx hb dKM_sampleNoise_129 (by decide) ?_
        exact ih21 (i21 + 1) pl ls H locs (by omega) (lv_sub hl [0, 2, 3, 4] rfl) hO hP hD hS
  exact lp21 256 0 pl ls _ _ (by omega) (lv_sub hl [0, 1, 3, 4] rfl) hO hP hD hS
set_option maxHeartbeats 400000 in
set_option maxRecDepth 100000 in
theorem t_KM_sampleNoise_3 (l : Launch) (g : Gd) (sz : Nat) (T : Ty) (xs : List Nat) (pl : va_W) (hO : okx g T xs pl) (hU : uni T) (hc0 : clo T xs 0) (hc2 : clo T xs 2) (h0 f : Nat) (wh : Int32) (k_h0 : T h0 = some (13, 0)) (k_f : T f = some (0, 256))  : Met l y_KM_sampleNoise w_KM_sampleNoise ({ frames := 3, cells := 0, slots := 0, locals := 100 } : Room) (va_Pc [.ref h0, .ref f, .int (nI 3), .int wh] (pr (en g) g.1 vcl sz ([] ++ pl))) (va_Qv (fun (u : va_W) => (True) ∧ okx g T xs u) (po g.1 vcl (va_A ([] ++ pl) sz) (fun (u : va_W) => [] ++ u)) (va_A ([] ++ pl) sz)) 0 0 (va_A ([] ++ pl) sz) := by
  refine mc_entry (cc := c_KM_sampleNoise) (maxL := 7) (ret := none) (by decide) rfl (Nat.le_of_ble_eq_true rfl) ?_
  intro p e s m args below meth c ls F hr hlk hnm hsz hP hD hE hA hl
  obtain ⟨hx, hb, hml, hown, hts⟩ := id F
  have hK := hE.1
  generalize va_A ([] ++ pl) sz = A at hD hE hA ⊢
  have hS : va_S A s.heap s.heap [] := va_S.rf
  have hl : lv_has ls 7 [(0, .ref h0), (1, .ref f), (2, .int (nI 3)), (3, .int wh)] := hl
  refine lv_aload_n hx hb dKM_sampleNoise_0 rfl (lv_at hl 0 rfl) ?_
  refine ty_get (ci := 5) (C := "LatticeKeys$Kem") (TT := T_KM) (N := 10) (kd := (13, 0)) hx hb hts (wg_ft i_KM) hown hK hO k_h0 (nxg hc0 k_h0 rfl) hP (fun _ h9 => h9) rfl 0 (by decide) (hts _ (wg_t kw_107)) (fun _ h9 => h9) (cd := (3, 10, 1)) rfl dKM_sampleNoise_1 (fun v21 hv21 => ?_)
  obtain ⟨r21, rfl, kr21⟩ := (show ∃ r : Nat, v21 = .ref r ∧ T r = some (10, 1) from hv21)
  refine lv_iconst (v := nI 3) hx hb dKM_sampleNoise_4 (by decide) ?_
  obtain ⟨e21, pl, hP, hD, hk21, hO⟩ := open1 hP hD hO kr21 (nxg hc2 kr21 rfl)
  obtain ⟨ln21, rt21, ps21, x21, rfl, kl21, hr21, hr22, hr23⟩ := hk21
  have kl21 : T ln21 = some (19, 1) := kl21
  obtain ⟨e22, pl, hP, hD, hk22, hO⟩ := open1 hP hD hO kl21 (nmc (knd_ne kl21 kr21 (by decide)) (nxg hc2 kl21 rfl))
  obtain ⟨f21, rfl⟩ := hk22
  have hP : va_P g.1 vcl ([(r21, .inr (3, [.ref ln21, .int (nI rt21), .int x21, .int (nI ps21)])), (ln21, .inl (g.2.1 2, 25, .inr (.inl f21)))] ++ pl) _ := hP
  have hD : va_D _ ([(r21, .inr (3, [.ref ln21, .int (nI rt21), .int x21, .int (nI ps21)])), (ln21, .inl (g.2.1 2, 25, .inr (.inl f21)))] ++ pl) := hD
  refine mp_v (cx := [(r21, .inr (3, [.ref ln21, .int (nI rt21), .int x21, .int (nI ps21)])), (ln21, .inl (g.2.1 2, 25, .inr (.inl f21)))]) (wr := []) hP hD hS hA [0, 1] [] rfl rfl rfl (by decide) (va_runV (As := [.int (nI 3)]) (rest := []) F (t_SP_start_3 l g _ T (ln21 :: (r21 :: xs)) pl hO hU  r21 ln21 rt21 ps21 x21 f21) (cwV 1 hts (wg_app (wg_c kw_578 (wg_c kw_579 (wg_c kw_580 (wg_c kw_2 wg_n)))) kw_581) rfl rfl rfl (by decide +kernel) ⟨by decide, by decide⟩) (pp_V (en_ok g) (q0 := 0) hK hP hD hS hA hE [0, 1] rfl rfl rfl rfl) rfl rfl hl.1 rfl (lv_room (Nat.le_of_ble_eq_true rfl)) dKM_sampleNoise_5 ⟨by omega, by omega⟩) (fun  u21 H locs hu21 hP hD hS => ?_)
  obtain ⟨u22, pl⟩ := u21
  obtain ⟨hq21, hO⟩ := hu21
  have hP : va_P g.1 vcl ([(r21, .inr (3, [.ref ln21, .int (nI 136), .int (nI 31), .int (nI 0)])), (ln21, .inl (g.2.1 2, 25, .inr (.inl u22)))] ++ pl) _ := hP
  have hD : va_D _ ([(r21, .inr (3, [.ref ln21, .int (nI 136), .int (nI 31), .int (nI 0)])), (ln21, .inl (g.2.1 2, 25, .inr (.inl u22)))] ++ pl) := hD
  refine W.widen (k := 0) (n := 0) (by omega) (by omega) ?_
  refine lv_aload_n hx hb dKM_sampleNoise_8 rfl (lv_at hl 0 rfl) ?_
  refine ty_get (ci := 5) (C := "LatticeKeys$Kem") (TT := T_KM) (N := 10) (kd := (13, 0)) hx hb hts (wg_ft i_KM) hown hK hO k_h0 (nxg (clo_cons (clo_cons hc0 kr21 (by decide)) kl21 (by decide)) k_h0 rfl) hP (fun _ h9 => h9) rfl 0 (by decide) (hts _ (wg_t kw_107)) (fun _ h9 => h9) (cd := (3, 10, 1)) rfl dKM_sampleNoise_9 (fun v22 hv22 => ?_)
  obtain ⟨r22, rfl, kr22⟩ := (show ∃ r : Nat, v22 = .ref r ∧ T r = some (10, 1) from hv22)
  obtain rfl : r21 = r22 := hU _ _ _ (by decide) kr21 kr22
  refine lv_aload_n hx hb dKM_sampleNoise_12 rfl (lv_at hl 0 rfl) ?_
  refine ty_get (ci := 5) (C := "LatticeKeys$Kem") (TT := T_KM) (N := 10) (kd := (13, 0)) hx hb hts (wg_ft i_KM) hown hK hO k_h0 (nxg (clo_cons (clo_cons hc0 kr21 (by decide)) kl21 (by decide)) k_h0 rfl) hP (fun _ h9 => h9) rfl 7 (by decide) (hts _ (wg_t kw_114)) (fun _ h9 => h9) (cd := (3, 1, 64)) rfl dKM_sampleNoise_13 (fun v23 hv23 => ?_)
  obtain ⟨r23, rfl, kr23⟩ := (show ∃ r : Nat, v23 = .ref r ∧ T r = some (1, 64) from hv23)
  refine lv_bipush (v := nI 32) hx hb dKM_sampleNoise_16 (by decide) ?_
  refine lv_bipush (v := nI 32) hx hb dKM_sampleNoise_18 (by decide) ?_
  refine mp_v (cx := [(r21, .inr (3, [.ref ln21, .int (nI 136), .int (nI 31), .int (nI 0)])), (ln21, .inl (g.2.1 2, 25, .inr (.inl u22)))]) (wr := []) hP hD hS hA [0, 1] [] rfl rfl rfl (by decide) (va_runV (As := [.ref r23, .int (nI 32), .int (nI 32)]) (rest := []) F (t_SP_absorb l g _ T (ln21 :: (r21 :: xs)) pl hO hU (clo_cons (clo_cons hc0 kr21 (by decide)) kl21 (by decide)) r23 64 32 32 r21 ln21 136 0 (nI 31) u22 kr23 (by omega) (by omega) (by omega) (by omega)) (cwV 3 hts (wg_app (wg_c kw_585 (wg_c kw_586 (wg_c kw_587 (wg_c kw_2 wg_n)))) kw_588) rfl rfl rfl (by decide +kernel) ⟨by decide, by decide⟩) (pp_V (en_ok g) (q0 := 0) hK hP hD hS hA hE [0, 1] rfl rfl rfl rfl) rfl rfl hl.1 rfl (lv_room (Nat.le_of_ble_eq_true rfl)) dKM_sampleNoise_20 ⟨by omega, by omega⟩) (fun  u23 H locs hu22 hP hD hS => ?_)
  obtain ⟨u24, pl⟩ := u23
  obtain ⟨hq22, hO⟩ := hu22
  obtain ⟨k21, f22⟩ := u24
  have hP : va_P g.1 vcl ([(r21, .inr (3, [.ref ln21, .int (nI 136), .int (nI 31), .int (nI k21)])), (ln21, .inl (g.2.1 2, 25, .inr (.inl f22)))] ++ pl) _ := hP
  have hD : va_D _ ([(r21, .inr (3, [.ref ln21, .int (nI 136), .int (nI 31), .int (nI k21)])), (ln21, .inl (g.2.1 2, 25, .inr (.inl f22)))] ++ pl) := hD
  have hq22 : k21 < 136 := hq22
  refine W.widen (k := 0) (n := 0) (by omega) (by omega) ?_
  refine lv_aload_n hx hb dKM_sampleNoise_23 rfl (lv_at hl 0 rfl) ?_
  refine ty_get (ci := 5) (C := "LatticeKeys$Kem") (TT := T_KM) (N := 10) (kd := (13, 0)) hx hb hts (wg_ft i_KM) hown hK hO k_h0 (nxg (clo_cons (clo_cons hc0 kr21 (by decide)) kl21 (by decide)) k_h0 rfl) hP (fun _ h9 => h9) rfl 0 (by decide) (hts _ (wg_t kw_107)) (fun _ h9 => h9) (cd := (3, 10, 1)) rfl dKM_sampleNoise_24 (fun v24 hv24 => ?_)
  obtain ⟨r24, rfl, kr24⟩ := (show ∃ r : Nat, v24 = .ref r ∧ T r = some (10, 1) from hv24)
  obtain rfl : r21 = r24 := hU _ _ _ (by decide) kr21 kr24
  refine lv_iload_n hx hb dKM_sampleNoise_27 rfl (lv_at hl 3 rfl) ?_
  refine mp_v (cx := [(r21, .inr (3, [.ref ln21, .int (nI 136), .int (nI 31), .int (nI k21)])), (ln21, .inl (g.2.1 2, 25, .inr (.inl f22)))]) (wr := []) hP hD hS hA [0, 1] [] rfl rfl rfl (by decide) (va_runV (As := [.int wh]) (rest := []) F (t_SP_absorbByte l g _ T (ln21 :: (r21 :: xs)) pl hO hU  wh r21 ln21 136 k21 (nI 31) f22 (by omega) (by omega)) (cwV 1 hts (wg_app (wg_c kw_609 (wg_c kw_590 (wg_c kw_591 (wg_c kw_2 wg_n)))) kw_592) rfl rfl rfl (by decide +kernel) ⟨by decide, by decide⟩) (pp_V (en_ok g) (q0 := 0) hK hP hD hS hA hE [0, 1] rfl rfl rfl rfl) rfl rfl hl.1 rfl (lv_room (Nat.le_of_ble_eq_true rfl)) dKM_sampleNoise_28 ⟨by omega, by omega⟩) (fun  u25 H locs hu23 hP hD hS => ?_)
  obtain ⟨u26, pl⟩ := u25
  obtain ⟨hq23, hO⟩ := hu23
  obtain ⟨k22, f23⟩ := u26
  have hP : va_P g.1 vcl ([(r21, .inr (3, [.ref ln21, .int (nI 136), .int (nI 31), .int (nI k22)])), (ln21, .inl (g.2.1 2, 25, .inr (.inl f23)))] ++ pl) _ := hP
  have hD : va_D _ ([(r21, .inr (3, [.ref ln21, .int (nI 136), .int (nI 31), .int (nI k22)])), (ln21, .inl (g.2.1 2, 25, .inr (.inl f23)))] ++ pl) := hD
  have hq23 : k22 < 136 := hq23
  refine W.widen (k := 0) (n := 0) (by omega) (by omega) ?_
  refine lv_aload_n hx hb dKM_sampleNoise_31 rfl (lv_at hl 0 rfl) ?_
  refine ty_get (ci := 5) (C := "LatticeKeys$Kem") (TT := T_KM) (N := 10) (kd := (13, 0)) hx hb hts (wg_ft i_KM) hown hK hO k_h0 (nxg (clo_cons (clo_cons hc0 kr21 (by decide)) kl21 (by decide)) k_h0 rfl) hP (fun _ h9 => h9) rfl 0 (by decide) (hts _ (wg_t kw_107)) (fun _ h9 => h9) (cd := (3, 10, 1)) rfl dKM_sampleNoise_32 (fun v25 hv25 => ?_)
  obtain ⟨r25, rfl, kr25⟩ := (show ∃ r : Nat, v25 = .ref r ∧ T r = some (10, 1) from hv25)
  obtain rfl : r21 = r25 := hU _ _ _ (by decide) kr21 kr25
  refine mp_v (cx := [(r21, .inr (3, [.ref ln21, .int (nI 136), .int (nI 31), .int (nI k22)])), (ln21, .inl (g.2.1 2, 25, .inr (.inl f23)))]) (wr := []) hP hD hS hA [0, 1] [] rfl rfl rfl (by decide) (va_runV (As := []) (rest := []) F (t_SP_finish l g _ T (ln21 :: (r21 :: xs)) pl hO hU  r21 ln21 136 k22 (nI 31) f23 (by omega) (by omega)) (cwV 0 hts (wg_app (wg_c kw_610 (wg_c kw_611 (wg_c kw_612 (wg_c kw_2 wg_n)))) kw_613) rfl rfl rfl (by decide +kernel) ⟨by decide, by decide⟩) (pp_V (en_ok g) (q0 := 0) hK hP hD hS hA hE [0, 1] rfl rfl rfl rfl) rfl rfl hl.1 rfl (lv_room (Nat.le_of_ble_eq_true rfl)) dKM_sampleNoise_35 ⟨by omega, by omega⟩) (fun  u27 H locs hu24 hP hD hS => ?_)
  obtain ⟨u28, pl⟩ := u27
  obtain ⟨hq24, hO⟩ := hu24
  have hP : va_P g.1 vcl ([(r21, .inr (3, [.ref ln21, .int (nI 136), .int (nI 31), .int (nI 136)])), (ln21, .inl (g.2.1 2, 25, .inr (.inl u28)))] ++ pl) _ := hP
  have hD : va_D _ ([(r21, .inr (3, [.ref ln21, .int (nI 136), .int (nI 31), .int (nI 136)])), (ln21, .inl (g.2.1 2, 25, .inr (.inl u28)))] ++ pl) := hD
  refine W.widen (k := 0) (n := 0) (by omega) (by omega) ?_
  refine lv_aload_n hx hb dKM_sampleNoise_38 rfl (lv_at hl 0 rfl) ?_
  refine ty_get (ci := 5) (C := "LatticeKeys$Kem") (TT := T_KM) (N := 10) (kd := (13, 0)) hx hb hts (wg_ft i_KM) hown hK hO k_h0 (nxg (clo_cons (clo_cons hc0 kr21 (by decide)) kl21 (by decide)) k_h0 rfl) hP (fun _ h9 => h9) rfl 0 (by decide) (hts _ (wg_t kw_107)) (fun _ h9 => h9) (cd := (3, 10, 1)) rfl dKM_sampleNoise_39 (fun v26 hv26 => ?_)
  obtain ⟨r26, rfl, kr26⟩ := (show ∃ r : Nat, v26 = .ref r ∧ T r = some (10, 1) from hv26)
  obtain rfl : r21 = r26 := hU _ _ _ (by decide) kr21 kr26
  refine lv_aload_n hx hb dKM_sampleNoise_42 rfl (lv_at hl 0 rfl) ?_
  refine ty_get (ci := 5) (C := "LatticeKeys$Kem") (TT := T_KM) (N := 10) (kd := (13, 0)) hx hb hts (wg_ft i_KM) hown hK hO k_h0 (nxg (clo_cons (clo_cons hc0 kr21 (by decide)) kl21 (by decide)) k_h0 rfl) hP (fun _ h9 => h9) rfl 8 (by decide) (hts _ (wg_t kw_115)) (fun _ h9 => h9) (cd := (3, 1, 192)) rfl dKM_sampleNoise_43 (fun v27 hv27 => ?_)
  obtain ⟨r27, rfl, kr27⟩ := (show ∃ r : Nat, v27 = .ref r ∧ T r = some (1, 192) from hv27)
  refine lv_iconst (v := nI 0) hx hb dKM_sampleNoise_46 (by decide) ?_
  refine lv_bipush (v := nI 64) hx hb dKM_sampleNoise_47 (by decide) ?_
  refine lv_iload_n hx hb dKM_sampleNoise_49 rfl (lv_at hl 2 rfl) ?_
  refine mi_imul hx hb dKM_sampleNoise_50 ?_
  refine mi_as (show nI (64 * 3) = nI 192 from rfl) ?_
  refine mp_v (cx := [(r21, .inr (3, [.ref ln21, .int (nI 136), .int (nI 31), .int (nI 136)])), (ln21, .inl (g.2.1 2, 25, .inr (.inl u28)))]) (wr := []) hP hD hS hA [0, 1] [] rfl rfl rfl (by decide) (va_runV (As := [.ref r27, .int (nI 0), .int (nI 192)]) (rest := []) F (t_SP_squeeze l g _ T (ln21 :: (r21 :: xs)) pl hO hU (clo_cons (clo_cons hc0 kr21 (by decide)) kl21 (by decide)) r27 192 0 192 r21 ln21 136 136 (nI 31) u28 kr27 (by omega) (by omega) (by omega) (by omega)) (cwV 3 hts (wg_app (wg_c kw_614 (wg_c kw_615 (wg_c kw_616 (wg_c kw_2 wg_n)))) kw_617) rfl rfl rfl (by decide +kernel) ⟨by decide, by decide⟩) (pp_V (en_ok g) (q0 := 0) hK hP hD hS hA hE [0, 1] rfl rfl rfl rfl) rfl rfl hl.1 rfl (lv_room (Nat.le_of_ble_eq_true rfl)) dKM_sampleNoise_51 ⟨by omega, by omega⟩) (fun  u29 H locs hu25 hP hD hS => ?_)
  obtain ⟨u30, pl⟩ := u29
  obtain ⟨hq25, hO⟩ := hu25
  obtain ⟨k23, f24⟩ := u30
  have hP : va_P g.1 vcl ([(r21, .inr (3, [.ref ln21, .int (nI 136), .int (nI 31), .int (nI k23)])), (ln21, .inl (g.2.1 2, 25, .inr (.inl f24)))] ++ pl) _ := hP
  have hD : va_D _ ([(r21, .inr (3, [.ref ln21, .int (nI 136), .int (nI 31), .int (nI k23)])), (ln21, .inl (g.2.1 2, 25, .inr (.inl f24)))] ++ pl) := hD
  have hq25 : k23 ≤ 136 := hq25
  refine W.widen (k := 0) (n := 0) (by omega) (by omega) ?_
  refine lv_aload_n hx hb dKM_sampleNoise_54 rfl (lv_at hl 1 rfl) ?_
  refine lv_iconst (v := nI 2) hx hb dKM_sampleNoise_55 (by decide) ?_
  refine lv_iload_n hx hb dKM_sampleNoise_56 rfl (lv_at hl 2 rfl) ?_
  refine mi_imul hx hb dKM_sampleNoise_57 ?_
  refine mi_as (show nI (2 * 3) = nI 6 from rfl) ?_
  refine lv_aload_n hx hb dKM_sampleNoise_58 rfl (lv_at hl 0 rfl) ?_
  refine ty_get (ci := 5) (C := "LatticeKeys$Kem") (TT := T_KM) (N := 10) (kd := (13, 0)) hx hb hts (wg_ft i_KM) hown hK hO k_h0 (nxg (clo_cons (clo_cons hc0 kr21 (by decide)) kl21 (by decide)) k_h0 rfl) hP (fun _ h9 => h9) rfl 8 (by decide) (hts _ (wg_t kw_115)) (fun _ h9 => h9) (cd := (3, 1, 192)) rfl dKM_sampleNoise_59 (fun v28 hv28 => ?_)
  obtain ⟨r28, rfl, kr28⟩ := (show ∃ r : Nat, v28 = .ref r ∧ T r = some (1, 192) from hv28)
  refine lv_iconst (v := nI 0) hx hb dKM_sampleNoise_62 (by decide) ?_
  refine mp_v (cx := []) (wr := [(r21, .inr (3, [.ref ln21, .int (nI 136), .int (nI 31), .int (nI k23)])), (ln21, .inl (g.2.1 2, 25, .inr (.inl f24)))]) hP hD hS hA [] [0, 1] rfl rfl rfl (by decide) (va_runS (As := [.ref f, .int (nI 6), .ref r28, .int (nI 0)]) (rest := []) F (t_BT_unpack l g _ T (ln21 :: (r21 :: xs)) pl hO hU (clo_cons (clo_cons hc0 kr21 (by decide)) kl21 (by decide)) f r28 192 6 0 k_f kr28 (by omega) (by omega) (by omega)) (va_cwS 4 hts (wg_app (wg_c kw_627 (wg_c kw_628 (wg_c kw_22 wg_n))) kw_629) rfl rfl rfl (by decide +kernel) ⟨by decide, by decide⟩) (pp_S (en_ok g) hP hD hS hA hE [] rfl rfl) rfl rfl hl.1 rfl (lv_room (Nat.le_of_ble_eq_true rfl)) dKM_sampleNoise_63 ⟨by omega, by omega⟩) (fun  pl H locs hu26 hP hD hS => ?_)
  obtain ⟨hq26, hO⟩ := hu26
  have hP : va_P g.1 vcl ([(r21, .inr (3, [.ref ln21, .int (nI 136), .int (nI 31), .int (nI k23)])), (ln21, .inl (g.2.1 2, 25, .inr (.inl f24)))] ++ pl) _ := hP
  have hD : va_D _ ([(r21, .inr (3, [.ref ln21, .int (nI 136), .int (nI 31), .int (nI k23)])), (ln21, .inl (g.2.1 2, 25, .inr (.inl f24)))] ++ pl) := hD
  refine W.widen (k := 0) (n := 0) (by omega) (by omega) ?_
  refine lv_iconst (v := nI 1) hx hb dKM_sampleNoise_66 (by decide) ?_
  refine lv_iload_n hx hb dKM_sampleNoise_67 rfl (lv_at hl 2 rfl) ?_
  refine mi_ishl hx hb dKM_sampleNoise_68 (by decide) (by decide) ?_
  refine mi_as (show nI (1 * 2 ^ 3) = nI 8 from rfl) ?_
  refine lv_iconst (v := nI 1) hx hb dKM_sampleNoise_69 (by decide) ?_
  refine mi_isub hx hb dKM_sampleNoise_70 (by omega) ?_
  refine mi_as (show nI (8 - 1) = nI 7 from rfl) ?_
  refine lv_istore (lv' := [(4, .int (nI 7)), (0, .ref h0), (1, .ref f), (2, .int (nI 3)), (3, .int wh)]) hx hb dKM_sampleNoise_71 hl (by decide) rfl (fun ls hl => ?_)
  refine lv_iconst (v := nI 0) hx hb dKM_sampleNoise_73 (by decide) ?_
  refine lv_istore (lv' := [(5, .int (nI 0)), (4, .int (nI 7)), (0, .ref h0), (1, .ref f), (2, .int (nI 3)), (3, .int wh)]) hx hb dKM_sampleNoise_74 hl (by decide) rfl (fun ls hl => ?_)
  have hO := close1 (e := .inl (g.2.1 2, 25, .inr (.inl f24))) hO kl21 ⟨_, rfl⟩
  have hO := close1 (e := .inr (3, [.ref ln21, .int (nI 136), .int (nI 31), .int (nI k23)])) hO kr21 ⟨_, _, _, _, rfl, kl21, by omega, by omega, by omega⟩
  have hO : okx g T xs ((r21, .inr (3, [.ref ln21, .int (nI 136), .int (nI 31), .int (nI k23)])) :: (ln21, .inl (g.2.1 2, 25, .inr (.inl f24))) :: pl) := hO
  have hP : va_P g.1 vcl ([] ++ ((r21, .inr (3, [.ref ln21, .int (nI 136), .int (nI 31), .int (nI k23)])) :: (ln21, .inl (g.2.1 2, 25, .inr (.inl f24))) :: pl)) _ := hP
  have hD : va_D _ ([] ++ ((r21, .inr (3, [.ref ln21, .int (nI 136), .int (nI 31), .int (nI k23)])) :: (ln21, .inl (g.2.1 2, 25, .inr (.inl f24))) :: pl)) := hD
  generalize ((r21, .inr (3, [.ref ln21, .int (nI 136), .int (nI 31), .int (nI k23)])) :: (ln21, .inl (g.2.1 2, 25, .inr (.inl f24))) :: pl) = pl at hO hP hD
  have lp21 : ∀ (n21 : Nat) (i21 : Nat) (pl : va_W) (ls : Array Slot) (H : Heap) (locs : List Loc), n21 + i21 = 256 → lv_has ls 7 [(5, .int (nI i21)), (4, .int (nI 7)), (1, .ref f), (2, .int (nI 3))] → okx g T xs pl → va_P g.1 vcl ([] ++ pl) H → va_D A ([] ++ pl) → va_S A s.heap H locs → W p l e ({ frames := 3, cells := 0, slots := 0, locals := 100 } : Room) s m args below meth c H locs 0 0 (MQ below (va_Qv (fun (u : va_W) => (True) ∧ okx g T xs u) (po g.1 vcl A (fun (u : va_W) => [] ++ u)) A) args s 0 0 A) (F0 m 76 ls []) := by
    intro n21
    induction n21 with
    | zero =>
      intro i21 pl ls H locs hm21  hl hO hP hD hS
      refine lv_iload hx hb dKM_sampleNoise_76 (lv_at hl 0 rfl) ?_
      refine lv_sipush (v := nI 256) hx hb dKM_sampleNoise_78 (by decide) ?_
      refine mi_ge (tgt := 132) hx hb dKM_sampleNoise_81 (by decide) (by omega) (by omega) (fun h21 => ?_) (fun h21 => absurd h21 (by omega))
      exact mp_vret hx hb hr hlk hP hD hS pl ⟨trivial, hO⟩ [] rfl rfl rfl (by omega) (by omega) dKM_sampleNoise_132
    | succ n21 ih21 =>
      intro i21 pl ls H locs hm21  hl hO hP hD hS
      refine lv_iload hx hb dKM_sampleNoise_76 (lv_at hl 0 rfl) ?_
      refine lv_sipush (v := nI 256) hx hb dKM_sampleNoise_78 (by decide) ?_
      refine mi_ge (tgt := 132) hx hb dKM_sampleNoise_81 (by decide) (by omega) (by omega) (fun h22 => absurd h22 (by omega)) (fun h22 => ?_)
      refine lv_aload_n hx hb dKM_sampleNoise_84 rfl (lv_at hl 2 rfl) ?_
      refine lv_iload hx hb dKM_sampleNoise_85 (lv_at hl 0 rfl) ?_
      refine ty_iald hx hb hK hO k_f (nxg hc0 k_f rfl) hP (vp_in_nI (by omega) (by decide)) dKM_sampleNoise_87 (fun z21 => ?_)
      refine lv_iload hx hb dKM_sampleNoise_88 (lv_at hl 1 rfl) ?_
      refine mi_iand hx hb 3 dKM_sampleNoise_90 (by decide) (fun z22 hz21 => ?_)
      have hz21 : z22 < 8 := hz21
      refine mp_i (cx := []) (wr := []) hP hD hS hA [] [] rfl rfl rfl (by decide) (va_runS (As := [.int (nI z22)]) (rest := []) F (t_bitCount l g _ T xs pl hO hU  (nI z22)) (va_cwS 1 hts (wg_app (wg_c kw_630 (wg_c kw_631 (wg_c kw_23 wg_n))) kw_632) rfl rfl rfl (by decide +kernel) ⟨by decide, by decide⟩) (pp_S (en_ok g) hP hD hS hA hE [] rfl rfl) rfl rfl hl.1 rfl (lv_room (Nat.le_of_ble_eq_true rfl)) dKM_sampleNoise_91 ⟨by omega, by omega⟩) (fun r29 pl H locs hu27 hP hD hS => ?_)
      obtain ⟨hq27, hO⟩ := hu27
      have hP : va_P g.1 vcl ([] ++ pl) _ := hP
      have hD : va_D _ ([] ++ pl) := hD
      refine W.widen (k := 0) (n := 0) (by omega) (by omega) ?_
      refine lv_aload_n hx hb dKM_sampleNoise_94 rfl (lv_at hl 2 rfl) ?_
      refine lv_iload hx hb dKM_sampleNoise_95 (lv_at hl 0 rfl) ?_
      refine ty_iald hx hb hK hO k_f (nxg hc0 k_f rfl) hP (vp_in_nI (by omega) (by decide)) dKM_sampleNoise_97 (fun z23 => ?_)
      refine lv_iload_n hx hb dKM_sampleNoise_98 rfl (lv_at hl 3 rfl) ?_
      refine lv_ishr hx hb dKM_sampleNoise_99 ?_
      refine mi_any (fun z24 => ?_)
      refine mp_i (cx := []) (wr := []) hP hD hS hA [] [] rfl rfl rfl (by decide) (va_runS (As := [.int z24]) (rest := [.int r29]) F (t_bitCount l g _ T xs pl hO hU  z24) (va_cwS 1 hts (wg_app (wg_c kw_630 (wg_c kw_631 (wg_c kw_23 wg_n))) kw_632) rfl rfl rfl (by decide +kernel) ⟨by decide, by decide⟩) (pp_S (en_ok g) hP hD hS hA hE [] rfl rfl) rfl rfl hl.1 rfl (lv_room (Nat.le_of_ble_eq_true rfl)) dKM_sampleNoise_100 ⟨by omega, by omega⟩) (fun r30 pl H locs hu28 hP hD hS => ?_)
      obtain ⟨hq28, hO⟩ := hu28
      have hP : va_P g.1 vcl ([] ++ pl) _ := hP
      have hD : va_D _ ([] ++ pl) := hD
      refine W.widen (k := 0) (n := 0) (by omega) (by omega) ?_
      refine lv_isub hx hb dKM_sampleNoise_103 ?_
      refine mi_any (fun z25 => ?_)
      refine lv_istore (lv' := [(6, .int z25), (5, .int (nI i21)), (4, .int (nI 7)), (1, .ref f), (2, .int (nI 3))]) hx hb dKM_sampleNoise_104 hl (by decide) rfl (fun ls hl => ?_)
      refine lv_aload_n hx hb dKM_sampleNoise_106 rfl (lv_at hl 3 rfl) ?_
      refine lv_iload hx hb dKM_sampleNoise_107 (lv_at hl 1 rfl) ?_
      refine lv_iload hx hb dKM_sampleNoise_109 (lv_at hl 0 rfl) ?_
      refine lv_if_ge (tgt := 123) hx hb dKM_sampleNoise_111 (by decide) (fun h23 => ?_) (fun h23 => ?_)
      · refine lv_iload hx hb dKM_sampleNoise_123 (lv_at hl 0 rfl) ?_
        refine ty_iast hx hb hK hO k_f (nxg hc0 k_f rfl) hP hD hS (vp_in_nI (by omega) (by decide)) dKM_sampleNoise_125 (fun pl H locs hO hP hD hS => ?_)
        refine mi_iinc (k := 1) (x := i21) (d := 1) (y := i21 + 1) (lv' := [(5, .int (nI (i21 + 1))), (6, .int z25), (4, .int (nI 7)), (1, .ref f), (2, .int (nI 3))]) hx hb dKM_sampleNoise_126 hl rfl (by decide) rfl (by decide) rfl (fun ls hl => ?_)
        refine lv_goto (tgt := 76) hx hb dKM_sampleNoise_129 (by decide) ?_
        exact ih21 (i21 + 1) pl ls H locs (by omega) (lv_sub hl [0, 2, 3, 4] rfl) hO hP hD hS
      · refine lv_iload hx hb dKM_sampleNoise_114 (lv_at hl 0 rfl) ?_
        refine lv_sipush (v := nI 3329) hx hb dKM_sampleNoise_116 (by decide) ?_
        refine lv_iadd hx hb dKM_sampleNoise_119 ?_
        refine mi_any (fun z26 => ?_)
        refine lv_goto (tgt := 125) hx hb dKM_sampleNoise_120 (by decide) ?_
        refine ty_iast hx hb hK hO k_f (nxg hc0 k_f rfl) hP hD hS (vp_in_nI (by omega) (by decide)) dKM_sampleNoise_125 (fun pl H locs hO hP hD hS => ?_)
        refine mi_iinc (k := 1) (x := i21) (d := 1) (y := i21 + 1) (lv' := [(5, .int (nI (i21 + 1))), (6, .int z25), (4, .int (nI 7)), (1, .ref f), (2, .int (nI 3))]) hx hb dKM_sampleNoise_126 hl rfl (by decide) rfl (by decide) rfl (fun ls hl => ?_)
        refine lv_goto (tgt := 76) hx hb dKM_sampleNoise_129 (by decide) ?_
        exact ih21 (i21 + 1) pl ls H locs (by omega) (lv_sub hl [0, 2, 3, 4] rfl) hO hP hD hS
  exact lp21 256 0 pl ls _ _ (by omega) (lv_sub hl [0, 1, 3, 4] rfl) hO hP hD hS
set_option maxHeartbeats 400000 in
set_option maxRecDepth 100000 in
theorem t_KM_readReduced (l : Launch) (g : Gd) (sz : Nat) (T : Ty) (xs : List Nat) (pl : va_W) (hO : okx g T xs pl) (hU : uni T) (hc0 : clo T xs 0) (h0 b n at_ : Nat) (k_h0 : T h0 = some (13, 0)) (k_b : T b = some (1, n)) (h1 : at_ + 384 ≤ n) (h2 : n < 65536)  : Met l y_KM_readReduced w_KM_readReduced ({ frames := 1, cells := 0, slots := 0, locals := 28 } : Room) (va_Pc [.ref h0, .ref b, .int (nI at_)] (pr (en g) g.1 vcl sz ([] ++ pl))) (va_Qv (fun (u : va_W) => (True) ∧ okx g T xs u) (po g.1 vcl (va_A ([] ++ pl) sz) (fun (u : va_W) => [] ++ u)) (va_A ([] ++ pl) sz)) 0 0 (va_A ([] ++ pl) sz) := by
  refine mc_entry (cc := c_KM_readReduced) (maxL := 4) (ret := none) (by decide) rfl (Nat.le_of_ble_eq_true rfl) ?_
  intro p e s m args below meth c ls F hr hlk hnm hsz hP hD hE hA hl
  obtain ⟨hx, hb, hml, hown, hts⟩ := id F
  have hK := hE.1
  generalize va_A ([] ++ pl) sz = A at hD hE hA ⊢
  have hS : va_S A s.heap s.heap [] := va_S.rf
  have hl : lv_has ls 4 [(0, .ref h0), (1, .ref b), (2, .int (nI at_))] := hl
  refine lv_aload_n hx hb dKM_readReduced_0 rfl (lv_at hl 0 rfl) ?_
  refine ty_get (ci := 5) (C := "LatticeKeys$Kem") (TT := T_KM) (N := 10) (kd := (13, 0)) hx hb hts (wg_ft i_KM) hown hK hO k_h0 (nxg hc0 k_h0 rfl) hP (fun _ h9 => h9) rfl 4 (by decide) (hts _ (wg_t kw_111)) (fun _ h9 => h9) (cd := (3, 0, 256)) rfl dKM_readReduced_1 (fun v21 hv21 => ?_)
  obtain ⟨r21, rfl, kr21⟩ := (show ∃ r : Nat, v21 = .ref r ∧ T r = some (0, 256) from hv21)
  refine lv_bipush (v := nI 12) hx hb dKM_readReduced_4 (by decide) ?_
  refine lv_aload_n hx hb dKM_readReduced_6 rfl (lv_at hl 1 rfl) ?_
  refine lv_iload_n hx hb dKM_readReduced_7 rfl (lv_at hl 2 rfl) ?_
  refine mp_v (cx := []) (wr := []) hP hD hS hA [] [] rfl rfl rfl (by decide) (va_runS (As := [.ref r21, .int (nI 12), .ref b, .int (nI at_)]) (rest := []) F (t_BT_unpack l g _ T xs pl hO hU hc0 r21 b n 12 at_ kr21 k_b (by omega) (by omega) (by omega)) (va_cwS 4 hts (wg_app (wg_c kw_627 (wg_c kw_628 (wg_c kw_22 wg_n))) kw_629) rfl rfl rfl (by decide +kernel) ⟨by decide, by decide⟩) (pp_S (en_ok g) hP hD hS hA hE [] rfl rfl) rfl rfl hl.1 rfl (lv_room (Nat.le_of_ble_eq_true rfl)) dKM_readReduced_8 ⟨by omega, by omega⟩) (fun  pl H locs hu21 hP hD hS => ?_)
  obtain ⟨hq21, hO⟩ := hu21
  have hP : va_P g.1 vcl ([] ++ pl) _ := hP
  have hD : va_D _ ([] ++ pl) := hD
  refine W.widen (k := 0) (n := 0) (by omega) (by omega) ?_
  refine lv_iconst (v := nI 0) hx hb dKM_readReduced_11 (by decide) ?_
  refine lv_istore_n (lv' := [(3, .int (nI 0)), (0, .ref h0), (1, .ref b), (2, .int (nI at_))]) hx hb dKM_readReduced_12 rfl hl (by decide) rfl (fun ls hl => ?_)
  have lp21 : ∀ (n21 : Nat) (i21 : Nat) (pl : va_W) (ls : Array Slot) (H : Heap) (locs : List Loc), n21 + i21 = 256 → lv_has ls 4 [(3, .int (nI i21)), (0, .ref h0)] → okx g T xs pl → va_P g.1 vcl ([] ++ pl) H → va_D A ([] ++ pl) → va_S A s.heap H locs → W p l e ({ frames := 1, cells := 0, slots := 0, locals := 28 } : Room) s m args below meth c H locs 0 0 (MQ below (va_Qv (fun (u : va_W) => (True) ∧ okx g T xs u) (po g.1 vcl A (fun (u : va_W) => [] ++ u)) A) args s 0 0 A) (F0 m 13 ls []) := by
    intro n21
    induction n21 with
    | zero =>
      intro i21 pl ls H locs hm21  hl hO hP hD hS
      refine lv_iload_n hx hb dKM_readReduced_13 rfl (lv_at hl 0 rfl) ?_
      refine lv_sipush (v := nI 256) hx hb dKM_readReduced_14 (by decide) ?_
      refine mi_ge (tgt := 63) hx hb dKM_readReduced_17 (by decide) (by omega) (by omega) (fun h21 => ?_) (fun h21 => absurd h21 (by omega))
      exact mp_vret hx hb hr hlk hP hD hS pl ⟨trivial, hO⟩ [] rfl rfl rfl (by omega) (by omega) dKM_readReduced_63
    | succ n21 ih21 =>
      intro i21 pl ls H locs hm21  hl hO hP hD hS
      refine lv_iload_n hx hb dKM_readReduced_13 rfl (lv_at hl 0 rfl) ?_
      refine lv_sipush (v := nI 256) hx hb dKM_readReduced_14 (by decide) ?_
      refine mi_ge (tgt := 63) hx hb dKM_readReduced_17 (by decide) (by omega) (by omega) (fun h22 => absurd h22 (by omega)) (fun h22 => ?_)
      refine lv_aload_n hx hb dKM_readReduced_20 rfl (lv_at hl 1 rfl) ?_
      refine ty_get (ci := 5) (C := "LatticeKeys$Kem") (TT := T_KM) (N := 10) (kd := (13, 0)) hx hb hts (wg_ft i_KM) hown hK hO k_h0 (nxg hc0 k_h0 rfl) hP (fun _ h9 => h9) rfl 4 (by decide) (hts _ (wg_t kw_111)) (fun _ h9 => h9) (cd := (3, 0, 256)) rfl dKM_readReduced_21 (fun v22 hv22 => ?_)
      obtain ⟨r22, rfl, kr22⟩ := (show ∃ r : Nat, v22 = .ref r ∧ T r = some (0, 256) from hv22)
      refine lv_iload_n hx hb dKM_readReduced_24 rfl (lv_at hl 0 rfl) ?_
      refine lv_aload_n hx hb dKM_readReduced_25 rfl (lv_at hl 1 rfl) ?_
      refine ty_get (ci := 5) (C := "LatticeKeys$Kem") (TT := T_KM) (N := 10) (kd := (13, 0)) hx hb hts (wg_ft i_KM) hown hK hO k_h0 (nxg hc0 k_h0 rfl) hP (fun _ h9 => h9) rfl 4 (by decide) (hts _ (wg_t kw_111)) (fun _ h9 => h9) (cd := (3, 0, 256)) rfl dKM_readReduced_26 (fun v23 hv23 => ?_)
      obtain ⟨r23, rfl, kr23⟩ := (show ∃ r : Nat, v23 = .ref r ∧ T r = some (0, 256) from hv23)
      refine lv_iload_n hx hb dKM_readReduced_29 rfl (lv_at hl 0 rfl) ?_
      refine ty_iald hx hb hK hO kr23 (nxg hc0 kr23 rfl) hP (vp_in_nI (by omega) (by decide)) dKM_readReduced_30 (fun z21 => ?_)
      refine lv_sipush (v := nI 3329) hx hb dKM_readReduced_31 (by decide) ?_
      refine lv_icmp_lt (tgt := 50) hx hb dKM_readReduced_34 (by decide) (fun h23 => ?_) (fun h23 => ?_)
      · refine lv_aload_n hx hb dKM_readReduced_50 rfl (lv_at hl 1 rfl) ?_
        refine ty_get (ci := 5) (C := "LatticeKeys$Kem") (TT := T_KM) (N := 10) (kd := (13, 0)) hx hb hts (wg_ft i_KM) hown hK hO k_h0 (nxg hc0 k_h0 rfl) hP (fun _ h9 => h9) rfl 4 (by decide) (hts _ (wg_t kw_111)) (fun _ h9 => h9) (cd := (3, 0, 256)) rfl dKM_readReduced_51 (fun v24 hv24 => ?_)
        obtain ⟨r24, rfl, kr24⟩ := (show ∃ r : Nat, v24 = .ref r ∧ T r = some (0, 256) from hv24)
        refine lv_iload_n hx hb dKM_readReduced_54 rfl (lv_at hl 0 rfl) ?_
        refine ty_iald hx hb hK hO kr24 (nxg hc0 kr24 rfl) hP (vp_in_nI (by omega) (by decide)) dKM_readReduced_55 (fun z22 => ?_)
        refine ty_iast hx hb hK hO kr22 (nxg hc0 kr22 rfl) hP hD hS (vp_in_nI (by omega) (by decide)) dKM_readReduced_56 (fun pl H locs hO hP hD hS => ?_)
        refine mi_iinc (k := 0) (x := i21) (d := 1) (y := i21 + 1) (lv' := [(3, .int (nI (i21 + 1))), (0, .ref h0)]) hx hb dKM_readReduced_57 hl rfl (by decide) rfl (by decide) rfl (fun ls hl => ?_)
        refine lv_goto (tgt := 13) hx hb dKM_readReduced_60 (by decide) ?_
        exact ih21 (i21 + 1) pl ls H locs (by omega) (lv_sub hl [0, 1] rfl) hO hP hD hS
      · refine lv_aload_n hx hb dKM_readReduced_37 rfl (lv_at hl 1 rfl) ?_
        refine ty_get (ci := 5) (C := "LatticeKeys$Kem") (TT := T_KM) (N := 10) (kd := (13, 0)) hx hb hts (wg_ft i_KM) hown hK hO k_h0 (nxg hc0 k_h0 rfl) hP (fun _ h9 => h9) rfl 4 (by decide) (hts _ (wg_t kw_111)) (fun _ h9 => h9) (cd := (3, 0, 256)) rfl dKM_readReduced_38 (fun v25 hv25 => ?_)
        obtain ⟨r25, rfl, kr25⟩ := (show ∃ r : Nat, v25 = .ref r ∧ T r = some (0, 256) from hv25)
        refine lv_iload_n hx hb dKM_readReduced_41 rfl (lv_at hl 0 rfl) ?_
        refine ty_iald hx hb hK hO kr25 (nxg hc0 kr25 rfl) hP (vp_in_nI (by omega) (by decide)) dKM_readReduced_42 (fun z23 => ?_)
        refine lv_sipush (v := nI 3329) hx hb dKM_readReduced_43 (by decide) ?_
        refine lv_isub hx hb dKM_readReduced_46 ?_
        refine mi_any (fun z24 => ?_)
        refine lv_goto (tgt := 56) hx hb dKM_readReduced_47 (by decide) ?_
        refine ty_iast hx hb hK hO kr22 (nxg hc0 kr22 rfl) hP hD hS (vp_in_nI (by omega) (by decide)) dKM_readReduced_56 (fun pl H locs hO hP hD hS => ?_)
        refine mi_iinc (k := 0) (x := i21) (d := 1) (y := i21 + 1) (lv' := [(3, .int (nI (i21 + 1))), (0, .ref h0)]) hx hb dKM_readReduced_57 hl rfl (by decide) rfl (by decide) rfl (fun ls hl => ?_)
        refine lv_goto (tgt := 13) hx hb dKM_readReduced_60 (by decide) ?_
        exact ih21 (i21 + 1) pl ls H locs (by omega) (lv_sub hl [0, 1] rfl) hO hP hD hS
  exact lp21 256 0 pl ls _ _ (by omega) (lv_sub hl [0, 1] rfl) hO hP hD hS
set_option maxHeartbeats 400000 in
set_option maxRecDepth 100000 in
theorem t_KM_writeRounded (l : Launch) (g : Gd) (sz : Nat) (T : Ty) (xs : List Nat) (pl : va_W) (hO : okx g T xs pl) (hU : uni T) (hc0 : clo T xs 0) (h0 f to n b at_ : Nat) (k_h0 : T h0 = some (13, 0)) (k_f : T f = some (0, 256)) (k_to : T to = some (1, n)) (h1 : at_ + 32 * b ≤ n) (h2 : n < 65536) (h3 : b < 32)  : Met l y_KM_writeRounded w_KM_writeRounded ({ frames := 1, cells := 0, slots := 0, locals := 27 } : Room) (va_Pc [.ref h0, .ref f, .int (nI b), .ref to, .int (nI at_)] (pr (en g) g.1 vcl sz ([] ++ pl))) (va_Qv (fun (u : va_W) => (True) ∧ okx g T xs u) (po g.1 vcl (va_A ([] ++ pl) sz) (fun (u : va_W) => [] ++ u)) (va_A ([] ++ pl) sz)) 0 0 (va_A ([] ++ pl) sz) := by
  refine mc_entry (cc := c_KM_writeRounded) (maxL := 7) (ret := none) (by decide) rfl (Nat.le_of_ble_eq_true rfl) ?_
  intro p e s m args below meth c ls F hr hlk hnm hsz hP hD hE hA hl
  obtain ⟨hx, hb, hml, hown, hts⟩ := id F
  have hK := hE.1
  generalize va_A ([] ++ pl) sz = A at hD hE hA ⊢
  have hS : va_S A s.heap s.heap [] := va_S.rf
  have hl : lv_has ls 7 [(0, .ref h0), (1, .ref f), (2, .int (nI b)), (3, .ref to), (4, .int (nI at_))] := hl
  refine lv_iconst (v := nI 1) hx hb dKM_writeRounded_0 (by decide) ?_
  refine lv_iload_n hx hb dKM_writeRounded_1 rfl (lv_at hl 2 rfl) ?_
  refine lv_ishl hx hb dKM_writeRounded_2 ?_
  refine mi_any (fun z21 => ?_)
  refine lv_iconst (v := nI 1) hx hb dKM_writeRounded_3 (by decide) ?_
  refine lv_isub hx hb dKM_writeRounded_4 ?_
  refine mi_any (fun z22 => ?_)
  refine lv_istore (lv' := [(5, .int z22), (0, .ref h0), (1, .ref f), (2, .int (nI b)), (3, .ref to), (4, .int (nI at_))]) hx hb dKM_writeRounded_5 hl (by decide) rfl (fun ls hl => ?_)
  refine lv_iconst (v := nI 0) hx hb dKM_writeRounded_7 (by decide) ?_
  refine lv_istore (lv' := [(6, .int (nI 0)), (5, .int z22), (0, .ref h0), (1, .ref f), (2, .int (nI b)), (3, .ref to), (4, .int (nI at_))]) hx hb dKM_writeRounded_8 hl (by decide) rfl (fun ls hl => ?_)
  have lp21 : ∀ (n21 : Nat) (i21 : Nat) (pl : va_W) (ls : Array Slot) (H : Heap) (locs : List Loc), n21 + i21 = 256 → lv_has ls 7 [(6, .int (nI i21)), (5, .int z22), (1, .ref f), (2, .int (nI b)), (3, .ref to), (4, .int (nI at_))] → okx g T xs pl → va_P g.1 vcl ([] ++ pl) H → va_D A ([] ++ pl) → va_S A s.heap H locs → W p l e ({ frames := 1, cells := 0, slots := 0, locals := 27 } : Room) s m args below meth c H locs 0 0 (MQ below (va_Qv (fun (u : va_W) => (True) ∧ okx g T xs u) (po g.1 vcl A (fun (u : va_W) => [] ++ u)) A) args s 0 0 A) (F0 m 10 ls []) := by
    intro n21
    induction n21 with
    | zero =>
      intro i21 pl ls H locs hm21  hl hO hP hD hS
      refine lv_iload hx hb dKM_writeRounded_10 (lv_at hl 0 rfl) ?_
      refine lv_sipush (v := nI 256) hx hb dKM_writeRounded_12 (by decide) ?_
      refine mi_ge (tgt := 45) hx hb dKM_writeRounded_15 (by decide) (by omega) (by omega) (fun h21 => ?_) (fun h21 => absurd h21 (by omega))
      refine lv_aload_n hx hb dKM_writeRounded_45 rfl (lv_at hl 2 rfl) ?_
      refine lv_iload_n hx hb dKM_writeRounded_46 rfl (lv_at hl 3 rfl) ?_
      refine lv_aload_n hx hb dKM_writeRounded_47 rfl (lv_at hl 4 rfl) ?_
      refine lv_iload hx hb dKM_writeRounded_48 (lv_at hl 5 rfl) ?_
      refine mp_v (cx := []) (wr := []) hP hD hS hA [] [] rfl rfl rfl (by decide) (va_runS (As := [.ref f, .int (nI b), .ref to, .int (nI at_)]) (rest := []) F (t_BT_pack l g _ T xs pl hO hU hc0 f to n b at_ k_f k_to (by omega) (by omega) (by omega)) (va_cwS 4 hts (wg_app (wg_c kw_644 (wg_c kw_645 (wg_c kw_22 wg_n))) kw_646) rfl rfl rfl (by decide +kernel) ⟨by decide, by decide⟩) (pp_S (en_ok g) hP hD hS hA hE [] rfl rfl) rfl rfl hl.1 rfl (lv_room (Nat.le_of_ble_eq_true rfl)) dKM_writeRounded_50 ⟨by omega, by omega⟩) (fun  pl H locs hu21 hP hD hS => ?_)
      obtain ⟨hq21, hO⟩ := hu21
      have hP : va_P g.1 vcl ([] ++ pl) _ := hP
      have hD : va_D _ ([] ++ pl) := hD
      refine W.widen (k := 0) (n := 0) (by omega) (by omega) ?_
      exact mp_vret hx hb hr hlk hP hD hS pl ⟨trivial, hO⟩ [] rfl rfl rfl (by omega) (by omega) dKM_writeRounded_53
    | succ n21 ih21 =>
      intro i21 pl ls H locs hm21  hl hO hP hD hS
      refine lv_iload hx hb dKM_writeRounded_10 (lv_at hl 0 rfl) ?_
      refine lv_sipush (v := nI 256) hx hb dKM_writeRounded_12 (by decide) ?_
      refine mi_ge (tgt := 45) hx hb dKM_writeRounded_15 (by decide) (by omega) (by omega) (fun h22 => absurd h22 (by omega)) (fun h22 => ?_)
      refine lv_aload_n hx hb dKM_writeRounded_18 rfl (lv_at hl 2 rfl) ?_
      refine lv_iload hx hb dKM_writeRounded_19 (lv_at hl 0 rfl) ?_
      refine lv_aload_n hx hb dKM_writeRounded_21 rfl (lv_at hl 2 rfl) ?_
      refine lv_iload hx hb dKM_writeRounded_22 (lv_at hl 0 rfl) ?_
      refine ty_iald hx hb hK hO k_f (nxg hc0 k_f rfl) hP (vp_in_nI (by omega) (by decide)) dKM_writeRounded_24 (fun z23 => ?_)
      refine lv_iload_n hx hb dKM_writeRounded_25 rfl (lv_at hl 3 rfl) ?_
      refine lv_ishl hx hb dKM_writeRounded_26 ?_
      refine mi_any (fun z24 => ?_)
      refine lv_sipush (v := nI 1664) hx hb dKM_writeRounded_27 (by decide) ?_
      refine lv_iadd hx hb dKM_writeRounded_30 ?_
      refine mi_any (fun z25 => ?_)
      refine lv_sipush (v := nI 3329) hx hb dKM_writeRounded_31 (by decide) ?_
      refine lv_idiv hx hb dKM_writeRounded_34 (nI_ne0 (by omega) (by omega)) ?_
      refine mi_any (fun z26 => ?_)
      refine lv_iload hx hb dKM_writeRounded_35 (lv_at hl 1 rfl) ?_
      refine lv_iand hx hb dKM_writeRounded_37 ?_
      refine mi_any (fun z27 => ?_)
      refine ty_iast hx hb hK hO k_f (nxg hc0 k_f rfl) hP hD hS (vp_in_nI (by omega) (by decide)) dKM_writeRounded_38 (fun pl H locs hO hP hD hS => ?_)
      refine mi_iinc (k := 0) (x := i21) (d := 1) (y := i21 + 1) (lv' := [(6, .int (nI (i21 + 1))), (5, .int z22), (1, .ref f), (2, .int (nI b)), (3, .ref to), (4, .int (nI at_))]) hx hb dKM_writeRounded_39 hl rfl (by decide) rfl (by decide) rfl (fun ls hl => ?_)
      refine lv_goto (tgt := 10) hx hb dKM_writeRounded_42 (by decide) ?_
      exact ih21 (i21 + 1) pl ls H locs (by omega) (lv_sub hl [0, 1, 2, 3, 4, 5] rfl) hO hP hD hS
  exact lp21 256 0 pl ls _ _ (by omega) (lv_sub hl [0, 1, 3, 4, 5, 6] rfl) hO hP hD hS
set_option maxHeartbeats 400000 in
set_option maxRecDepth 100000 in
theorem t_KM_readRounded (l : Launch) (g : Gd) (sz : Nat) (T : Ty) (xs : List Nat) (pl : va_W) (hO : okx g T xs pl) (hU : uni T) (hc0 : clo T xs 0) (h0 f fr n b at_ : Nat) (k_h0 : T h0 = some (13, 0)) (k_f : T f = some (0, 256)) (k_fr : T fr = some (1, n)) (h1 : at_ + 32 * b ≤ n) (h2 : n < 65536) (h3 : b < 32) (h4 : 1 ≤ b)  : Met l y_KM_readRounded w_KM_readRounded ({ frames := 1, cells := 0, slots := 0, locals := 28 } : Room) (va_Pc [.ref h0, .ref f, .int (nI b), .ref fr, .int (nI at_)] (pr (en g) g.1 vcl sz ([] ++ pl))) (va_Qv (fun (u : va_W) => (True) ∧ okx g T xs u) (po g.1 vcl (va_A ([] ++ pl) sz) (fun (u : va_W) => [] ++ u)) (va_A ([] ++ pl) sz)) 0 0 (va_A ([] ++ pl) sz) := by
  refine mc_entry (cc := c_KM_readRounded) (maxL := 6) (ret := none) (by decide) rfl (Nat.le_of_ble_eq_true rfl) ?_
  intro p e s m args below meth c ls F hr hlk hnm hsz hP hD hE hA hl
  obtain ⟨hx, hb, hml, hown, hts⟩ := id F
  have hK := hE.1
  generalize va_A ([] ++ pl) sz = A at hD hE hA ⊢
  have hS : va_S A s.heap s.heap [] := va_S.rf
  have hl : lv_has ls 6 [(0, .ref h0), (1, .ref f), (2, .int (nI b)), (3, .ref fr), (4, .int (nI at_))] := hl
  refine lv_aload_n hx hb dKM_readRounded_0 rfl (lv_at hl 1 rfl) ?_
  refine lv_iload_n hx hb dKM_readRounded_1 rfl (lv_at hl 2 rfl) ?_
  refine lv_aload_n hx hb dKM_readRounded_2 rfl (lv_at hl 3 rfl) ?_
  refine lv_iload hx hb dKM_readRounded_3 (lv_at hl 4 rfl) ?_
  refine mp_v (cx := []) (wr := []) hP hD hS hA [] [] rfl rfl rfl (by decide) (va_runS (As := [.ref f, .int (nI b), .ref fr, .int (nI at_)]) (rest := []) F (t_BT_unpack l g _ T xs pl hO hU hc0 f fr n b at_ k_f k_fr (by omega) (by omega) (by omega)) (va_cwS 4 hts (wg_app (wg_c kw_627 (wg_c kw_628 (wg_c kw_22 wg_n))) kw_629) rfl rfl rfl (by decide +kernel) ⟨by decide, by decide⟩) (pp_S (en_ok g) hP hD hS hA hE [] rfl rfl) rfl rfl hl.1 rfl (lv_room (Nat.le_of_ble_eq_true rfl)) dKM_readRounded_5 ⟨by omega, by omega⟩) (fun  pl H locs hu21 hP hD hS => ?_)
  obtain ⟨hq21, hO⟩ := hu21
  have hP : va_P g.1 vcl ([] ++ pl) _ := hP
  have hD : va_D _ ([] ++ pl) := hD
  refine W.widen (k := 0) (n := 0) (by omega) (by omega) ?_
  refine lv_iconst (v := nI 0) hx hb dKM_readRounded_8 (by decide) ?_
  refine lv_istore (lv' := [(5, .int (nI 0)), (0, .ref h0), (1, .ref f), (2, .int (nI b)), (3, .ref fr), (4, .int (nI at_))]) hx hb dKM_readRounded_9 hl (by decide) rfl (fun ls hl => ?_)
  have lp21 : ∀ (n21 : Nat) (i21 : Nat) (pl : va_W) (ls : Array Slot) (H : Heap) (locs : List Loc), n21 + i21 = 256 → lv_has ls 6 [(5, .int (nI i21)), (1, .ref f), (2, .int (nI b))] → okx g T xs pl → va_P g.1 vcl ([] ++ pl) H → va_D A ([] ++ pl) → va_S A s.heap H locs → W p l e ({ frames := 1, cells := 0, slots := 0, locals := 28 } : Room) s m args below meth c H locs 0 0 (MQ below (va_Qv (fun (u : va_W) => (True) ∧ okx g T xs u) (po g.1 vcl A (fun (u : va_W) => [] ++ u)) A) args s 0 0 A) (F0 m 11 ls []) := by
    intro n21
    induction n21 with
    | zero =>
      intro i21 pl ls H locs hm21  hl hO hP hD hS
      refine lv_iload hx hb dKM_readRounded_11 (lv_at hl 0 rfl) ?_
      refine lv_sipush (v := nI 256) hx hb dKM_readRounded_13 (by decide) ?_
      refine mi_ge (tgt := 45) hx hb dKM_readRounded_16 (by decide) (by omega) (by omega) (fun h21 => ?_) (fun h21 => absurd h21 (by omega))
      exact mp_vret hx hb hr hlk hP hD hS pl ⟨trivial, hO⟩ [] rfl rfl rfl (by omega) (by omega) dKM_readRounded_45
    | succ n21 ih21 =>
      intro i21 pl ls H locs hm21  hl hO hP hD hS
      refine lv_iload hx hb dKM_readRounded_11 (lv_at hl 0 rfl) ?_
      refine lv_sipush (v := nI 256) hx hb dKM_readRounded_13 (by decide) ?_
      refine mi_ge (tgt := 45) hx hb dKM_readRounded_16 (by decide) (by omega) (by omega) (fun h22 => absurd h22 (by omega)) (fun h22 => ?_)
      refine lv_aload_n hx hb dKM_readRounded_19 rfl (lv_at hl 1 rfl) ?_
      refine lv_iload hx hb dKM_readRounded_20 (lv_at hl 0 rfl) ?_
      refine lv_aload_n hx hb dKM_readRounded_22 rfl (lv_at hl 1 rfl) ?_
      refine lv_iload hx hb dKM_readRounded_23 (lv_at hl 0 rfl) ?_
      refine ty_iald hx hb hK hO k_f (nxg hc0 k_f rfl) hP (vp_in_nI (by omega) (by decide)) dKM_readRounded_25 (fun z21 => ?_)
      refine lv_sipush (v := nI 3329) hx hb dKM_readRounded_26 (by decide) ?_
      refine lv_imul hx hb dKM_readRounded_29 ?_
      refine mi_any (fun z22 => ?_)
      refine lv_iconst (v := nI 1) hx hb dKM_readRounded_30 (by decide) ?_
      refine lv_iload_n hx hb dKM_readRounded_31 rfl (lv_at hl 2 rfl) ?_
      refine lv_iconst (v := nI 1) hx hb dKM_readRounded_32 (by decide) ?_
      refine mi_isub hx hb dKM_readRounded_33 (by omega) ?_
      refine lv_ishl hx hb dKM_readRounded_34 ?_
      refine mi_any (fun z23 => ?_)
      refine lv_iadd hx hb dKM_readRounded_35 ?_
      refine mi_any (fun z24 => ?_)
      refine lv_iload_n hx hb dKM_readRounded_36 rfl (lv_at hl 2 rfl) ?_
      refine lv_ishr hx hb dKM_readRounded_37 ?_
      refine mi_any (fun z25 => ?_)
      refine ty_iast hx hb hK hO k_f (nxg hc0 k_f rfl) hP hD hS (vp_in_nI (by omega) (by decide)) dKM_readRounded_38 (fun pl H locs hO hP hD hS => ?_)
      refine mi_iinc (k := 0) (x := i21) (d := 1) (y := i21 + 1) (lv' := [(5, .int (nI (i21 + 1))), (1, .ref f), (2, .int (nI b))]) hx hb dKM_readRounded_39 hl rfl (by decide) rfl (by decide) rfl (fun ls hl => ?_)
      refine lv_goto (tgt := 11) hx hb dKM_readRounded_42 (by decide) ?_
      exact ih21 (i21 + 1) pl ls H locs (by omega) (lv_sub hl [0, 1, 2] rfl) hO hP hD hS
  exact lp21 256 0 pl ls _ _ (by omega) (lv_sub hl [0, 2, 3] rfl) hO hP hD hS
