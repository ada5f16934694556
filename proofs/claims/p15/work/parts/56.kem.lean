abbrev c_KM_digestOf : ByteArray := prog_6_method_7_code
abbrev y_KM_digestOf : MethodName := ⟨"LatticeKeys$Kem", "digestOf", "([BII)V"⟩
abbrev w_KM_digestOf : List Cond := Cond.code y_KM_digestOf c_KM_digestOf 4 none :: WG
theorem dKM_digestOf_0 : decode c_KM_digestOf 0 = .ok (.aload_n 0, 1) := by decide +kernel
theorem dKM_digestOf_1 : decode c_KM_digestOf 1 = .ok (.getfield 10, 3) := by decide +kernel
theorem dKM_digestOf_4 : decode c_KM_digestOf 4 = .ok (.iconst 0, 1) := by decide +kernel
theorem dKM_digestOf_5 : decode c_KM_digestOf 5 = .ok (.invokevirtual 53, 3) := by decide +kernel
theorem dKM_digestOf_8 : decode c_KM_digestOf 8 = .ok (.aload_n 0, 1) := by decide +kernel
theorem dKM_digestOf_9 : decode c_KM_digestOf 9 = .ok (.getfield 10, 3) := by decide +kernel
theorem dKM_digestOf_12 : decode c_KM_digestOf 12 = .ok (.aload_n 1, 1) := by decide +kernel
theorem dKM_digestOf_13 : decode c_KM_digestOf 13 = .ok (.iload_n 2, 1) := by decide +kernel
theorem dKM_digestOf_14 : decode c_KM_digestOf 14 = .ok (.iload_n 3, 1) := by decide +kernel
theorem dKM_digestOf_15 : decode c_KM_digestOf 15 = .ok (.invokevirtual 57, 3) := by decide +kernel
theorem dKM_digestOf_18 : decode c_KM_digestOf 18 = .ok (.aload_n 0, 1) := by decide +kernel
theorem dKM_digestOf_19 : decode c_KM_digestOf 19 = .ok (.getfield 10, 3) := by decide +kernel
theorem dKM_digestOf_22 : decode c_KM_digestOf 22 = .ok (.invokevirtual 70, 3) := by decide +kernel
theorem dKM_digestOf_25 : decode c_KM_digestOf 25 = .ok (.aload_n 0, 1) := by decide +kernel
theorem dKM_digestOf_26 : decode c_KM_digestOf 26 = .ok (.getfield 10, 3) := by decide +kernel
theorem dKM_digestOf_29 : decode c_KM_digestOf 29 = .ok (.aload_n 0, 1) := by decide +kernel
theorem dKM_digestOf_30 : decode c_KM_digestOf 30 = .ok (.getfield 41, 3) := by decide +kernel
theorem dKM_digestOf_33 : decode c_KM_digestOf 33 = .ok (.iconst 0, 1) := by decide +kernel
theorem dKM_digestOf_34 : decode c_KM_digestOf 34 = .ok (.bipush 32, 2) := by decide +kernel
theorem dKM_digestOf_36 : decode c_KM_digestOf 36 = .ok (.invokevirtual 73, 3) := by decide +kernel
theorem dKM_digestOf_39 : decode c_KM_digestOf 39 = .ok (.return_, 1) := by decide +kernel
abbrev c_KM_deriveSeeds : ByteArray := prog_6_method_8_code
abbrev y_KM_deriveSeeds : MethodName := ⟨"LatticeKeys$Kem", "deriveSeeds", "([BI)V"⟩
abbrev w_KM_deriveSeeds : List Cond := Cond.code y_KM_deriveSeeds c_KM_deriveSeeds 3 none :: WG
theorem dKM_deriveSeeds_0 : decode c_KM_deriveSeeds 0 = .ok (.aload_n 0, 1) := by decide +kernel
theorem dKM_deriveSeeds_1 : decode c_KM_deriveSeeds 1 = .ok (.getfield 10, 3) := by decide +kernel
theorem dKM_deriveSeeds_4 : decode c_KM_deriveSeeds 4 = .ok (.iconst 1, 1) := by decide +kernel
theorem dKM_deriveSeeds_5 : decode c_KM_deriveSeeds 5 = .ok (.invokevirtual 53, 3) := by decide +kernel
theorem dKM_deriveSeeds_8 : decode c_KM_deriveSeeds 8 = .ok (.aload_n 0, 1) := by decide +kernel
theorem dKM_deriveSeeds_9 : decode c_KM_deriveSeeds 9 = .ok (.getfield 10, 3) := by decide +kernel
theorem dKM_deriveSeeds_12 : decode c_KM_deriveSeeds 12 = .ok (.aload_n 0, 1) := by decide +kernel
theorem dKM_deriveSeeds_13 : decode c_KM_deriveSeeds 13 = .ok (.getfield 37, 3) := by decide +kernel
theorem dKM_deriveSeeds_16 : decode c_KM_deriveSeeds 16 = .ok (.iconst 0, 1) := by decide +kernel
theorem dKM_deriveSeeds_17 : decode c_KM_deriveSeeds 17 = .ok (.bipush 32, 2) := by decide +kernel
theorem dKM_deriveSeeds_19 : decode c_KM_deriveSeeds 19 = .ok (.invokevirtual 57, 3) := by decide +kernel
theorem dKM_deriveSeeds_22 : decode c_KM_deriveSeeds 22 = .ok (.aload_n 0, 1) := by decide +kernel
theorem dKM_deriveSeeds_23 : decode c_KM_deriveSeeds 23 = .ok (.getfield 10, 3) := by decide +kernel
theorem dKM_deriveSeeds_26 : decode c_KM_deriveSeeds 26 = .ok (.aload_n 1, 1) := by decide +kernel
theorem dKM_deriveSeeds_27 : decode c_KM_deriveSeeds 27 = .ok (.iload_n 2, 1) := by decide +kernel
theorem dKM_deriveSeeds_28 : decode c_KM_deriveSeeds 28 = .ok (.bipush 32, 2) := by decide +kernel
theorem dKM_deriveSeeds_30 : decode c_KM_deriveSeeds 30 = .ok (.invokevirtual 57, 3) := by decide +kernel
theorem dKM_deriveSeeds_33 : decode c_KM_deriveSeeds 33 = .ok (.aload_n 0, 1) := by decide +kernel
theorem dKM_deriveSeeds_34 : decode c_KM_deriveSeeds 34 = .ok (.getfield 10, 3) := by decide +kernel
theorem dKM_deriveSeeds_37 : decode c_KM_deriveSeeds 37 = .ok (.invokevirtual 70, 3) := by decide +kernel
theorem dKM_deriveSeeds_40 : decode c_KM_deriveSeeds 40 = .ok (.aload_n 0, 1) := by decide +kernel
theorem dKM_deriveSeeds_41 : decode c_KM_deriveSeeds 41 = .ok (.getfield 10, 3) := by decide +kernel
theorem dKM_deriveSeeds_44 : decode c_KM_deriveSeeds 44 = .ok (.aload_n 0, 1) := by decide +kernel
theorem dKM_deriveSeeds_45 : decode c_KM_deriveSeeds 45 = .ok (.getfield 44, 3) := by decide +kernel
theorem dKM_deriveSeeds_48 : decode c_KM_deriveSeeds 48 = .ok (.iconst 0, 1) := by decide +kernel
theorem dKM_deriveSeeds_49 : decode c_KM_deriveSeeds 49 = .ok (.bipush 64, 2) := by decide +kernel
theorem dKM_deriveSeeds_51 : decode c_KM_deriveSeeds 51 = .ok (.invokevirtual 73, 3) := by decide +kernel
theorem dKM_deriveSeeds_54 : decode c_KM_deriveSeeds 54 = .ok (.return_, 1) := by decide +kernel
abbrev c_KM_sampleEntry : ByteArray := prog_6_method_11_code
abbrev y_KM_sampleEntry : MethodName := ⟨"LatticeKeys$Kem", "sampleEntry", "([BIII)V"⟩
abbrev w_KM_sampleEntry : List Cond := Cond.code y_KM_sampleEntry c_KM_sampleEntry 12 none :: WG
theorem dKM_sampleEntry_0 : decode c_KM_sampleEntry 0 = .ok (.aload_n 0, 1) := by decide +kernel
theorem dKM_sampleEntry_1 : decode c_KM_sampleEntry 1 = .ok (.getfield 10, 3) := by decide +kernel
theorem dKM_sampleEntry_4 : decode c_KM_sampleEntry 4 = .ok (.iconst 2, 1) := by decide +kernel
theorem dKM_sampleEntry_5 : decode c_KM_sampleEntry 5 = .ok (.invokevirtual 53, 3) := by decide +kernel
theorem dKM_sampleEntry_8 : decode c_KM_sampleEntry 8 = .ok (.aload_n 0, 1) := by decide +kernel
theorem dKM_sampleEntry_9 : decode c_KM_sampleEntry 9 = .ok (.getfield 10, 3) := by decide +kernel
theorem dKM_sampleEntry_12 : decode c_KM_sampleEntry 12 = .ok (.aload_n 1, 1) := by decide +kernel
theorem dKM_sampleEntry_13 : decode c_KM_sampleEntry 13 = .ok (.iload_n 2, 1) := by decide +kernel
theorem dKM_sampleEntry_14 : decode c_KM_sampleEntry 14 = .ok (.bipush 32, 2) := by decide +kernel
theorem dKM_sampleEntry_16 : decode c_KM_sampleEntry 16 = .ok (.invokevirtual 57, 3) := by decide +kernel
theorem dKM_sampleEntry_19 : decode c_KM_sampleEntry 19 = .ok (.aload_n 0, 1) := by decide +kernel
theorem dKM_sampleEntry_20 : decode c_KM_sampleEntry 20 = .ok (.getfield 10, 3) := by decide +kernel
theorem dKM_sampleEntry_23 : decode c_KM_sampleEntry 23 = .ok (.iload_n 3, 1) := by decide +kernel
theorem dKM_sampleEntry_24 : decode c_KM_sampleEntry 24 = .ok (.invokevirtual 67, 3) := by decide +kernel
theorem dKM_sampleEntry_27 : decode c_KM_sampleEntry 27 = .ok (.aload_n 0, 1) := by decide +kernel
theorem dKM_sampleEntry_28 : decode c_KM_sampleEntry 28 = .ok (.getfield 10, 3) := by decide +kernel
theorem dKM_sampleEntry_31 : decode c_KM_sampleEntry 31 = .ok (.iload 4, 2) := by decide +kernel
theorem dKM_sampleEntry_33 : decode c_KM_sampleEntry 33 = .ok (.invokevirtual 67, 3) := by decide +kernel
theorem dKM_sampleEntry_36 : decode c_KM_sampleEntry 36 = .ok (.aload_n 0, 1) := by decide +kernel
theorem dKM_sampleEntry_37 : decode c_KM_sampleEntry 37 = .ok (.getfield 10, 3) := by decide +kernel
theorem dKM_sampleEntry_40 : decode c_KM_sampleEntry 40 = .ok (.invokevirtual 70, 3) := by decide +kernel
theorem dKM_sampleEntry_43 : decode c_KM_sampleEntry 43 = .ok (.iconst 0, 1) := by decide +kernel
theorem dKM_sampleEntry_44 : decode c_KM_sampleEntry 44 = .ok (.istore 5, 2) := by decide +kernel
theorem dKM_sampleEntry_46 : decode c_KM_sampleEntry 46 = .ok (.iconst 0, 1) := by decide +kernel
theorem dKM_sampleEntry_47 : decode c_KM_sampleEntry 47 = .ok (.istore 6, 2) := by decide +kernel
theorem dKM_sampleEntry_49 : decode c_KM_sampleEntry 49 = .ok (.iload 5, 2) := by decide +kernel
theorem dKM_sampleEntry_51 : decode c_KM_sampleEntry 51 = .ok (.sipush 256, 3) := by decide +kernel
theorem dKM_sampleEntry_54 : decode c_KM_sampleEntry 54 = .ok (.if_icmp .ge 115, 3) := by decide +kernel
theorem dKM_sampleEntry_57 : decode c_KM_sampleEntry 57 = .ok (.iload 6, 2) := by decide +kernel
theorem dKM_sampleEntry_59 : decode c_KM_sampleEntry 59 = .ok (.ldc 178, 2) := by decide +kernel
theorem dKM_sampleEntry_61 : decode c_KM_sampleEntry 61 = .ok (.if_icmp .ge 108, 3) := by decide +kernel
theorem dKM_sampleEntry_64 : decode c_KM_sampleEntry 64 = .ok (.aload_n 0, 1) := by decide +kernel
theorem dKM_sampleEntry_65 : decode c_KM_sampleEntry 65 = .ok (.getfield 10, 3) := by decide +kernel
theorem dKM_sampleEntry_68 : decode c_KM_sampleEntry 68 = .ok (.invokevirtual 179, 3) := by decide +kernel
theorem dKM_sampleEntry_71 : decode c_KM_sampleEntry 71 = .ok (.istore 7, 2) := by decide +kernel
theorem dKM_sampleEntry_73 : decode c_KM_sampleEntry 73 = .ok (.aload_n 0, 1) := by decide +kernel
theorem dKM_sampleEntry_74 : decode c_KM_sampleEntry 74 = .ok (.getfield 10, 3) := by decide +kernel
theorem dKM_sampleEntry_77 : decode c_KM_sampleEntry 77 = .ok (.invokevirtual 179, 3) := by decide +kernel
theorem dKM_sampleEntry_80 : decode c_KM_sampleEntry 80 = .ok (.istore 8, 2) := by decide +kernel
theorem dKM_sampleEntry_82 : decode c_KM_sampleEntry 82 = .ok (.aload_n 0, 1) := by decide +kernel
theorem dKM_sampleEntry_83 : decode c_KM_sampleEntry 83 = .ok (.getfield 10, 3) := by decide +kernel
theorem dKM_sampleEntry_86 : decode c_KM_sampleEntry 86 = .ok (.invokevirtual 179, 3) := by decide +kernel
theorem dKM_sampleEntry_89 : decode c_KM_sampleEntry 89 = .ok (.istore 9, 2) := by decide +kernel
theorem dKM_sampleEntry_91 : decode c_KM_sampleEntry 91 = .ok (.iload 7, 2) := by decide +kernel
theorem dKM_sampleEntry_93 : decode c_KM_sampleEntry 93 = .ok (.iload 8, 2) := by decide +kernel
theorem dKM_sampleEntry_95 : decode c_KM_sampleEntry 95 = .ok (.bipush 15, 2) := by decide +kernel
theorem dKM_sampleEntry_97 : decode c_KM_sampleEntry 97 = .ok (.iand, 1) := by decide +kernel
theorem dKM_sampleEntry_98 : decode c_KM_sampleEntry 98 = .ok (.bipush 8, 2) := by decide +kernel
theorem dKM_sampleEntry_100 : decode c_KM_sampleEntry 100 = .ok (.ishl, 1) := by decide +kernel
theorem dKM_sampleEntry_101 : decode c_KM_sampleEntry 101 = .ok (.ior, 1) := by decide +kernel
theorem dKM_sampleEntry_102 : decode c_KM_sampleEntry 102 = .ok (.istore 10, 2) := by decide +kernel
theorem dKM_sampleEntry_104 : decode c_KM_sampleEntry 104 = .ok (.iload 8, 2) := by decide +kernel
theorem dKM_sampleEntry_106 : decode c_KM_sampleEntry 106 = .ok (.iconst 4, 1) := by decide +kernel
theorem dKM_sampleEntry_107 : decode c_KM_sampleEntry 107 = .ok (.ishr, 1) := by decide +kernel
theorem dKM_sampleEntry_108 : decode c_KM_sampleEntry 108 = .ok (.iload 9, 2) := by decide +kernel
theorem dKM_sampleEntry_110 : decode c_KM_sampleEntry 110 = .ok (.iconst 4, 1) := by decide +kernel
theorem dKM_sampleEntry_111 : decode c_KM_sampleEntry 111 = .ok (.ishl, 1) := by decide +kernel
theorem dKM_sampleEntry_112 : decode c_KM_sampleEntry 112 = .ok (.ior, 1) := by decide +kernel
theorem dKM_sampleEntry_113 : decode c_KM_sampleEntry 113 = .ok (.istore 11, 2) := by decide +kernel
theorem dKM_sampleEntry_115 : decode c_KM_sampleEntry 115 = .ok (.iload 10, 2) := by decide +kernel
theorem dKM_sampleEntry_117 : decode c_KM_sampleEntry 117 = .ok (.sipush 3329, 3) := by decide +kernel
theorem dKM_sampleEntry_120 : decode c_KM_sampleEntry 120 = .ok (.if_icmp .ge 15, 3) := by decide +kernel
theorem dKM_sampleEntry_123 : decode c_KM_sampleEntry 123 = .ok (.aload_n 0, 1) := by decide +kernel
theorem dKM_sampleEntry_124 : decode c_KM_sampleEntry 124 = .ok (.getfield 34, 3) := by decide +kernel
theorem dKM_sampleEntry_127 : decode c_KM_sampleEntry 127 = .ok (.iload 5, 2) := by decide +kernel
theorem dKM_sampleEntry_129 : decode c_KM_sampleEntry 129 = .ok (.iload 10, 2) := by decide +kernel
theorem dKM_sampleEntry_131 : decode c_KM_sampleEntry 131 = .ok (.iastore, 1) := by decide +kernel
theorem dKM_sampleEntry_132 : decode c_KM_sampleEntry 132 = .ok (.iinc 5 1, 3) := by decide +kernel
theorem dKM_sampleEntry_135 : decode c_KM_sampleEntry 135 = .ok (.iload 11, 2) := by decide +kernel
theorem dKM_sampleEntry_137 : decode c_KM_sampleEntry 137 = .ok (.sipush 3329, 3) := by decide +kernel
theorem dKM_sampleEntry_140 : decode c_KM_sampleEntry 140 = .ok (.if_icmp .ge 23, 3) := by decide +kernel
theorem dKM_sampleEntry_143 : decode c_KM_sampleEntry 143 = .ok (.iload 5, 2) := by decide +kernel
theorem dKM_sampleEntry_145 : decode c_KM_sampleEntry 145 = .ok (.sipush 256, 3) := by decide +kernel
theorem dKM_sampleEntry_148 : decode c_KM_sampleEntry 148 = .ok (.if_icmp .ge 15, 3) := by decide +kernel
theorem dKM_sampleEntry_151 : decode c_KM_sampleEntry 151 = .ok (.aload_n 0, 1) := by decide +kernel
theorem dKM_sampleEntry_152 : decode c_KM_sampleEntry 152 = .ok (.getfield 34, 3) := by decide +kernel
theorem dKM_sampleEntry_155 : decode c_KM_sampleEntry 155 = .ok (.iload 5, 2) := by decide +kernel
theorem dKM_sampleEntry_157 : decode c_KM_sampleEntry 157 = .ok (.iload 11, 2) := by decide +kernel
theorem dKM_sampleEntry_159 : decode c_KM_sampleEntry 159 = .ok (.iastore, 1) := by decide +kernel
theorem dKM_sampleEntry_160 : decode c_KM_sampleEntry 160 = .ok (.iinc 5 1, 3) := by decide +kernel
theorem dKM_sampleEntry_163 : decode c_KM_sampleEntry 163 = .ok (.iinc 6 1, 3) := by decide +kernel
theorem dKM_sampleEntry_166 : decode c_KM_sampleEntry 166 = .ok (.goto (-117), 3) := by decide +kernel
theorem dKM_sampleEntry_169 : decode c_KM_sampleEntry 169 = .ok (.return_, 1) := by decide +kernel
abbrev c_KM_sampleNoise : ByteArray := prog_6_method_12_code
abbrev y_KM_sampleNoise : MethodName := ⟨"LatticeKeys$Kem", "sampleNoise", "([III)V"⟩
abbrev w_KM_sampleNoise : List Cond := Cond.code y_KM_sampleNoise c_KM_sampleNoise 7 none :: WG
theorem dKM_sampleNoise_0 : decode c_KM_sampleNoise 0 = .ok (.aload_n 0, 1) := by decide +kernel
theorem dKM_sampleNoise_1 : decode c_KM_sampleNoise 1 = .ok (.getfield 10, 3) := by decide +kernel
theorem dKM_sampleNoise_4 : decode c_KM_sampleNoise 4 = .ok (.iconst 3, 1) := by decide +kernel
theorem dKM_sampleNoise_5 : decode c_KM_sampleNoise 5 = .ok (.invokevirtual 53, 3) := by decide +kernel
theorem dKM_sampleNoise_8 : decode c_KM_sampleNoise 8 = .ok (.aload_n 0, 1) := by decide +kernel
theorem dKM_sampleNoise_9 : decode c_KM_sampleNoise 9 = .ok (.getfield 10, 3) := by decide +kernel
theorem dKM_sampleNoise_12 : decode c_KM_sampleNoise 12 = .ok (.aload_n 0, 1) := by decide +kernel
theorem dKM_sampleNoise_13 : decode c_KM_sampleNoise 13 = .ok (.getfield 44, 3) := by decide +kernel
theorem dKM_sampleNoise_16 : decode c_KM_sampleNoise 16 = .ok (.bipush 32, 2) := by decide +kernel
theorem dKM_sampleNoise_18 : decode c_KM_sampleNoise 18 = .ok (.bipush 32, 2) := by decide +kernel
theorem dKM_sampleNoise_20 : decode c_KM_sampleNoise 20 = .ok (.invokevirtual 57, 3) := by decide +kernel
theorem dKM_sampleNoise_23 : decode c_KM_sampleNoise 23 = .ok (.aload_n 0, 1) := by decide +kernel
theorem dKM_sampleNoise_24 : decode c_KM_sampleNoise 24 = .ok (.getfield 10, 3) := by decide +kernel
theorem dKM_sampleNoise_27 : decode c_KM_sampleNoise 27 = .ok (.iload_n 3, 1) := by decide +kernel
theorem dKM_sampleNoise_28 : decode c_KM_sampleNoise 28 = .ok (.invokevirtual 67, 3) := by decide +kernel
theorem dKM_sampleNoise_31 : decode c_KM_sampleNoise 31 = .ok (.aload_n 0, 1) := by decide +kernel
theorem dKM_sampleNoise_32 : decode c_KM_sampleNoise 32 = .ok (.getfield 10, 3) := by decide +kernel
theorem dKM_sampleNoise_35 : decode c_KM_sampleNoise 35 = .ok (.invokevirtual 70, 3) := by decide +kernel
theorem dKM_sampleNoise_38 : decode c_KM_sampleNoise 38 = .ok (.aload_n 0, 1) := by decide +kernel
theorem dKM_sampleNoise_39 : decode c_KM_sampleNoise 39 = .ok (.getfield 10, 3) := by decide +kernel
theorem dKM_sampleNoise_42 : decode c_KM_sampleNoise 42 = .ok (.aload_n 0, 1) := by decide +kernel
theorem dKM_sampleNoise_43 : decode c_KM_sampleNoise 43 = .ok (.getfield 47, 3) := by decide +kernel
theorem dKM_sampleNoise_46 : decode c_KM_sampleNoise 46 = .ok (.iconst 0, 1) := by decide +kernel
theorem dKM_sampleNoise_47 : decode c_KM_sampleNoise 47 = .ok (.bipush 64, 2) := by decide +kernel
theorem dKM_sampleNoise_49 : decode c_KM_sampleNoise 49 = .ok (.iload_n 2, 1) := by decide +kernel
theorem dKM_sampleNoise_50 : decode c_KM_sampleNoise 50 = .ok (.imul, 1) := by decide +kernel
theorem dKM_sampleNoise_51 : decode c_KM_sampleNoise 51 = .ok (.invokevirtual 73, 3) := by decide +kernel
theorem dKM_sampleNoise_54 : decode c_KM_sampleNoise 54 = .ok (.aload_n 1, 1) := by decide +kernel
theorem dKM_sampleNoise_55 : decode c_KM_sampleNoise 55 = .ok (.iconst 2, 1) := by decide +kernel
theorem dKM_sampleNoise_56 : decode c_KM_sampleNoise 56 = .ok (.iload_n 2, 1) := by decide +kernel
theorem dKM_sampleNoise_57 : decode c_KM_sampleNoise 57 = .ok (.imul, 1) := by decide +kernel
theorem dKM_sampleNoise_58 : decode c_KM_sampleNoise 58 = .ok (.aload_n 0, 1) := by decide +kernel
theorem dKM_sampleNoise_59 : decode c_KM_sampleNoise 59 = .ok (.getfield 47, 3) := by decide +kernel
theorem dKM_sampleNoise_62 : decode c_KM_sampleNoise 62 = .ok (.iconst 0, 1) := by decide +kernel
theorem dKM_sampleNoise_63 : decode c_KM_sampleNoise 63 = .ok (.invokestatic 144, 3) := by decide +kernel
theorem dKM_sampleNoise_66 : decode c_KM_sampleNoise 66 = .ok (.iconst 1, 1) := by decide +kernel
theorem dKM_sampleNoise_67 : decode c_KM_sampleNoise 67 = .ok (.iload_n 2, 1) := by decide +kernel
theorem dKM_sampleNoise_68 : decode c_KM_sampleNoise 68 = .ok (.ishl, 1) := by decide +kernel
theorem dKM_sampleNoise_69 : decode c_KM_sampleNoise 69 = .ok (.iconst 1, 1) := by decide +kernel
theorem dKM_sampleNoise_70 : decode c_KM_sampleNoise 70 = .ok (.isub, 1) := by decide +kernel
theorem dKM_sampleNoise_71 : decode c_KM_sampleNoise 71 = .ok (.istore 4, 2) := by decide +kernel
theorem dKM_sampleNoise_73 : decode c_KM_sampleNoise 73 = .ok (.iconst 0, 1) := by decide +kernel
theorem dKM_sampleNoise_74 : decode c_KM_sampleNoise 74 = .ok (.istore 5, 2) := by decide +kernel
theorem dKM_sampleNoise_76 : decode c_KM_sampleNoise 76 = .ok (.iload 5, 2) := by decide +kernel
theorem dKM_sampleNoise_78 : decode c_KM_sampleNoise 78 = .ok (.sipush 256, 3) := by decide +kernel
theorem dKM_sampleNoise_81 : decode c_KM_sampleNoise 81 = .ok (.if_icmp .ge 51, 3) := by decide +kernel
theorem dKM_sampleNoise_84 : decode c_KM_sampleNoise 84 = .ok (.aload_n 1, 1) := by decide +kernel
theorem dKM_sampleNoise_85 : decode c_KM_sampleNoise 85 = .ok (.iload 5, 2) := by decide +kernel
theorem dKM_sampleNoise_87 : decode c_KM_sampleNoise 87 = .ok (.iaload, 1) := by decide +kernel
theorem dKM_sampleNoise_88 : decode c_KM_sampleNoise 88 = .ok (.iload 4, 2) := by decide +kernel
theorem dKM_sampleNoise_90 : decode c_KM_sampleNoise 90 = .ok (.iand, 1) := by decide +kernel
theorem dKM_sampleNoise_91 : decode c_KM_sampleNoise 91 = .ok (.invokestatic 183, 3) := by decide +kernel
theorem dKM_sampleNoise_94 : decode c_KM_sampleNoise 94 = .ok (.aload_n 1, 1) := by decide +kernel
theorem dKM_sampleNoise_95 : decode c_KM_sampleNoise 95 = .ok (.iload 5, 2) := by decide +kernel
theorem dKM_sampleNoise_97 : decode c_KM_sampleNoise 97 = .ok (.iaload, 1) := by decide +kernel
theorem dKM_sampleNoise_98 : decode c_KM_sampleNoise 98 = .ok (.iload_n 2, 1) := by decide +kernel
theorem dKM_sampleNoise_99 : decode c_KM_sampleNoise 99 = .ok (.ishr, 1) := by decide +kernel
theorem dKM_sampleNoise_100 : decode c_KM_sampleNoise 100 = .ok (.invokestatic 183, 3) := by decide +kernel
theorem dKM_sampleNoise_103 : decode c_KM_sampleNoise 103 = .ok (.isub, 1) := by decide +kernel
theorem dKM_sampleNoise_104 : decode c_KM_sampleNoise 104 = .ok (.istore 6, 2) := by decide +kernel
theorem dKM_sampleNoise_106 : decode c_KM_sampleNoise 106 = .ok (.aload_n 1, 1) := by decide +kernel
theorem dKM_sampleNoise_107 : decode c_KM_sampleNoise 107 = .ok (.iload 5, 2) := by decide +kernel
theorem dKM_sampleNoise_109 : decode c_KM_sampleNoise 109 = .ok (.iload 6, 2) := by decide +kernel
theorem dKM_sampleNoise_111 : decode c_KM_sampleNoise 111 = .ok (.ifCond .ge 12, 3) := by decide +kernel
theorem dKM_sampleNoise_114 : decode c_KM_sampleNoise 114 = .ok (.iload 6, 2) := by decide +kernel
theorem dKM_sampleNoise_116 : decode c_KM_sampleNoise 116 = .ok (.sipush 3329, 3) := by decide +kernel
theorem dKM_sampleNoise_119 : decode c_KM_sampleNoise 119 = .ok (.iadd, 1) := by decide +kernel
theorem dKM_sampleNoise_120 : decode c_KM_sampleNoise 120 = .ok (.goto 5, 3) := by decide +kernel
theorem dKM_sampleNoise_123 : decode c_KM_sampleNoise 123 = .ok (.iload 6, 2) := by decide +kernel
theorem dKM_sampleNoise_125 : decode c_KM_sampleNoise 125 = .ok (.iastore, 1) := by decide +kernel
theorem dKM_sampleNoise_126 : decode c_KM_sampleNoise 126 = .ok (.iinc 5 1, 3) := by decide +kernel
theorem dKM_sampleNoise_129 : decode c_KM_sampleNoise 129 = .ok (.goto (-53), 3) := by decide +kernel
theorem dKM_sampleNoise_132 : decode c_KM_sampleNoise 132 = .ok (.return_, 1) := by decide +kernel
abbrev c_KM_readReduced : ByteArray := prog_6_method_13_code
abbrev y_KM_readReduced : MethodName := ⟨"LatticeKeys$Kem", "readReduced", "([BI)V"⟩
abbrev w_KM_readReduced : List Cond := Cond.code y_KM_readReduced c_KM_readReduced 4 none :: WG
theorem dKM_readReduced_0 : decode c_KM_readReduced 0 = .ok (.aload_n 0, 1) := by decide +kernel
theorem dKM_readReduced_1 : decode c_KM_readReduced 1 = .ok (.getfield 34, 3) := by decide +kernel
theorem dKM_readReduced_4 : decode c_KM_readReduced 4 = .ok (.bipush 12, 2) := by decide +kernel
theorem dKM_readReduced_6 : decode c_KM_readReduced 6 = .ok (.aload_n 1, 1) := by decide +kernel
theorem dKM_readReduced_7 : decode c_KM_readReduced 7 = .ok (.iload_n 2, 1) := by decide +kernel
theorem dKM_readReduced_8 : decode c_KM_readReduced 8 = .ok (.invokestatic 144, 3) := by decide +kernel
theorem dKM_readReduced_11 : decode c_KM_readReduced 11 = .ok (.iconst 0, 1) := by decide +kernel
theorem dKM_readReduced_12 : decode c_KM_readReduced 12 = .ok (.istore_n 3, 1) := by decide +kernel
theorem dKM_readReduced_13 : decode c_KM_readReduced 13 = .ok (.iload_n 3, 1) := by decide +kernel
theorem dKM_readReduced_14 : decode c_KM_readReduced 14 = .ok (.sipush 256, 3) := by decide +kernel
theorem dKM_readReduced_17 : decode c_KM_readReduced 17 = .ok (.if_icmp .ge 46, 3) := by decide +kernel
theorem dKM_readReduced_20 : decode c_KM_readReduced 20 = .ok (.aload_n 0, 1) := by decide +kernel
theorem dKM_readReduced_21 : decode c_KM_readReduced 21 = .ok (.getfield 34, 3) := by decide +kernel
theorem dKM_readReduced_24 : decode c_KM_readReduced 24 = .ok (.iload_n 3, 1) := by decide +kernel
theorem dKM_readReduced_25 : decode c_KM_readReduced 25 = .ok (.aload_n 0, 1) := by decide +kernel
theorem dKM_readReduced_26 : decode c_KM_readReduced 26 = .ok (.getfield 34, 3) := by decide +kernel
theorem dKM_readReduced_29 : decode c_KM_readReduced 29 = .ok (.iload_n 3, 1) := by decide +kernel
theorem dKM_readReduced_30 : decode c_KM_readReduced 30 = .ok (.iaload, 1) := by decide +kernel
theorem dKM_readReduced_31 : decode c_KM_readReduced 31 = .ok (.sipush 3329, 3) := by decide +kernel
theorem dKM_readReduced_34 : decode c_KM_readReduced 34 = .ok (.if_icmp .lt 16, 3) := by decide +kernel
theorem dKM_readReduced_37 : decode c_KM_readReduced 37 = .ok (.aload_n 0, 1) := by decide +kernel
theorem dKM_readReduced_38 : decode c_KM_readReduced 38 = .ok (.getfield 34, 3) := by decide +kernel
theorem dKM_readReduced_41 : decode c_KM_readReduced 41 = .ok (.iload_n 3, 1) := by decide +kernel
theorem dKM_readReduced_42 : decode c_KM_readReduced 42 = .ok (.iaload, 1) := by decide +kernel
theorem dKM_readReduced_43 : decode c_KM_readReduced 43 = .ok (.sipush 3329, 3) := by decide +kernel
theorem dKM_readReduced_46 : decode c_KM_readReduced 46 = .ok (.isub, 1) := by decide +kernel
theorem dKM_readReduced_47 : decode c_KM_readReduced 47 = .ok (.goto 9, 3) := by decide +kernel
theorem dKM_readReduced_50 : decode c_KM_readReduced 50 = .ok (.aload_n 0, 1) := by decide +kernel
theorem dKM_readReduced_51 : decode c_KM_readReduced 51 = .ok (.getfield 34, 3) := by decide +kernel
theorem dKM_readReduced_54 : decode c_KM_readReduced 54 = .ok (.iload_n 3, 1) := by decide +kernel
theorem dKM_readReduced_55 : decode c_KM_readReduced 55 = .ok (.iaload, 1) := by decide +kernel
theorem dKM_readReduced_56 : decode c_KM_readReduced 56 = .ok (.iastore, 1) := by decide +kernel
theorem dKM_readReduced_57 : decode c_KM_readReduced 57 = .ok (.iinc 3 1, 3) := by decide +kernel
theorem dKM_readReduced_60 : decode c_KM_readReduced 60 = .ok (.goto (-47), 3) := by decide +kernel
theorem dKM_readReduced_63 : decode c_KM_readReduced 63 = .ok (.return_, 1) := by decide +kernel
abbrev c_KM_writeRounded : ByteArray := prog_6_method_14_code
abbrev y_KM_writeRounded : MethodName := ⟨"LatticeKeys$Kem", "writeRounded", "([II[BI)V"⟩
abbrev w_KM_writeRounded : List Cond := Cond.code y_KM_writeRounded c_KM_writeRounded 7 none :: WG
theorem dKM_writeRounded_0 : decode c_KM_writeRounded 0 = .ok (.iconst 1, 1) := by decide +kernel
theorem dKM_writeRounded_1 : decode c_KM_writeRounded 1 = .ok (.iload_n 2, 1) := by decide +kernel
theorem dKM_writeRounded_2 : decode c_KM_writeRounded 2 = .ok (.ishl, 1) := by decide +kernel
theorem dKM_writeRounded_3 : decode c_KM_writeRounded 3 = .ok (.iconst 1, 1) := by decide +kernel
theorem dKM_writeRounded_4 : decode c_KM_writeRounded 4 = .ok (.isub, 1) := by decide +kernel
theorem dKM_writeRounded_5 : decode c_KM_writeRounded 5 = .ok (.istore 5, 2) := by decide +kernel
theorem dKM_writeRounded_7 : decode c_KM_writeRounded 7 = .ok (.iconst 0, 1) := by decide +kernel
theorem dKM_writeRounded_8 : decode c_KM_writeRounded 8 = .ok (.istore 6, 2) := by decide +kernel
theorem dKM_writeRounded_10 : decode c_KM_writeRounded 10 = .ok (.iload 6, 2) := by decide +kernel
theorem dKM_writeRounded_12 : decode c_KM_writeRounded 12 = .ok (.sipush 256, 3) := by decide +kernel
theorem dKM_writeRounded_15 : decode c_KM_writeRounded 15 = .ok (.if_icmp .ge 30, 3) := by decide +kernel
theorem dKM_writeRounded_18 : decode c_KM_writeRounded 18 = .ok (.aload_n 1, 1) := by decide +kernel
theorem dKM_writeRounded_19 : decode c_KM_writeRounded 19 = .ok (.iload 6, 2) := by decide +kernel
theorem dKM_writeRounded_21 : decode c_KM_writeRounded 21 = .ok (.aload_n 1, 1) := by decide +kernel
theorem dKM_writeRounded_22 : decode c_KM_writeRounded 22 = .ok (.iload 6, 2) := by decide +kernel
theorem dKM_writeRounded_24 : decode c_KM_writeRounded 24 = .ok (.iaload, 1) := by decide +kernel
theorem dKM_writeRounded_25 : decode c_KM_writeRounded 25 = .ok (.iload_n 2, 1) := by decide +kernel
theorem dKM_writeRounded_26 : decode c_KM_writeRounded 26 = .ok (.ishl, 1) := by decide +kernel
theorem dKM_writeRounded_27 : decode c_KM_writeRounded 27 = .ok (.sipush 1664, 3) := by decide +kernel
theorem dKM_writeRounded_30 : decode c_KM_writeRounded 30 = .ok (.iadd, 1) := by decide +kernel
theorem dKM_writeRounded_31 : decode c_KM_writeRounded 31 = .ok (.sipush 3329, 3) := by decide +kernel
theorem dKM_writeRounded_34 : decode c_KM_writeRounded 34 = .ok (.idiv, 1) := by decide +kernel
theorem dKM_writeRounded_35 : decode c_KM_writeRounded 35 = .ok (.iload 5, 2) := by decide +kernel
theorem dKM_writeRounded_37 : decode c_KM_writeRounded 37 = .ok (.iand, 1) := by decide +kernel
theorem dKM_writeRounded_38 : decode c_KM_writeRounded 38 = .ok (.iastore, 1) := by decide +kernel
theorem dKM_writeRounded_39 : decode c_KM_writeRounded 39 = .ok (.iinc 6 1, 3) := by decide +kernel
theorem dKM_writeRounded_42 : decode c_KM_writeRounded 42 = .ok (.goto (-32), 3) := by decide +kernel
theorem dKM_writeRounded_45 : decode c_KM_writeRounded 45 = .ok (.aload_n 1, 1) := by decide +kernel
theorem dKM_writeRounded_46 : decode c_KM_writeRounded 46 = .ok (.iload_n 2, 1) := by decide +kernel
theorem dKM_writeRounded_47 : decode c_KM_writeRounded 47 = .ok (.aload_n 3, 1) := by decide +kernel
theorem dKM_writeRounded_48 : decode c_KM_writeRounded 48 = .ok (.iload 4, 2) := by decide +kernel
theorem dKM_writeRounded_50 : decode c_KM_writeRounded 50 = .ok (.invokestatic 96, 3) := by decide +kernel
theorem dKM_writeRounded_53 : decode c_KM_writeRounded 53 = .ok (.return_, 1) := by decide +kernel
abbrev c_KM_readRounded : ByteArray := prog_6_method_15_code
abbrev y_KM_readRounded : MethodName := ⟨"LatticeKeys$Kem", "readRounded", "([II[BI)V"⟩
abbrev w_KM_readRounded : List Cond := Cond.code y_KM_readRounded c_KM_readRounded 6 none :: WG
theorem dKM_readRounded_0 : decode c_KM_readRounded 0 = .ok (.aload_n 1, 1) := by decide +kernel
theorem dKM_readRounded_1 : decode c_KM_readRounded 1 = .ok (.iload_n 2, 1) := by decide +kernel
theorem dKM_readRounded_2 : decode c_KM_readRounded 2 = .ok (.aload_n 3, 1) := by decide +kernel
theorem dKM_readRounded_3 : decode c_KM_readRounded 3 = .ok (.iload 4, 2) := by decide +kernel
theorem dKM_readRounded_5 : decode c_KM_readRounded 5 = .ok (.invokestatic 144, 3) := by decide +kernel
theorem dKM_readRounded_8 : decode c_KM_readRounded 8 = .ok (.iconst 0, 1) := by decide +kernel
theorem dKM_readRounded_9 : decode c_KM_readRounded 9 = .ok (.istore 5, 2) := by decide +kernel
theorem dKM_readRounded_11 : decode c_KM_readRounded 11 = .ok (.iload 5, 2) := by decide +kernel
theorem dKM_readRounded_13 : decode c_KM_readRounded 13 = .ok (.sipush 256, 3) := by decide +kernel
theorem dKM_readRounded_16 : decode c_KM_readRounded 16 = .ok (.if_icmp .ge 29, 3) := by decide +kernel
theorem dKM_readRounded_19 : decode c_KM_readRounded 19 = .ok (.aload_n 1, 1) := by decide +kernel
theorem dKM_readRounded_20 : decode c_KM_readRounded 20 = .ok (.iload 5, 2) := by decide +kernel
theorem dKM_readRounded_22 : decode c_KM_readRounded 22 = .ok (.aload_n 1, 1) := by decide +kernel
theorem dKM_readRounded_23 : decode c_KM_readRounded 23 = .ok (.iload 5, 2) := by decide +kernel
theorem dKM_readRounded_25 : decode c_KM_readRounded 25 = .ok (.iaload, 1) := by decide +kernel
theorem dKM_readRounded_26 : decode c_KM_readRounded 26 = .ok (.sipush 3329, 3) := by decide +kernel
theorem dKM_readRounded_29 : decode c_KM_readRounded 29 = .ok (.imul, 1) := by decide +kernel
theorem dKM_readRounded_30 : decode c_KM_readRounded 30 = .ok (.iconst 1, 1) := by decide +kernel
theorem dKM_readRounded_31 : decode c_KM_readRounded 31 = .ok (.iload_n 2, 1) := by decide +kernel
theorem dKM_readRounded_32 : decode c_KM_readRounded 32 = .ok (.iconst 1, 1) := by decide +kernel
theorem dKM_readRounded_33 : decode c_KM_readRounded 33 = .ok (.isub, 1) := by decide +kernel
theorem dKM_readRounded_34 : decode c_KM_readRounded 34 = .ok (.ishl, 1) := by decide +kernel
theorem dKM_readRounded_35 : decode c_KM_readRounded 35 = .ok (.iadd, 1) := by decide +kernel
theorem dKM_readRounded_36 : decode c_KM_readRounded 36 = .ok (.iload_n 2, 1) := by decide +kernel
theorem dKM_readRounded_37 : decode c_KM_readRounded 37 = .ok (.ishr, 1) := by decide +kernel
theorem dKM_readRounded_38 : decode c_KM_readRounded 38 = .ok (.iastore, 1) := by decide +kernel
theorem dKM_readRounded_39 : decode c_KM_readRounded 39 = .ok (.iinc 5 1, 3) := by decide +kernel
theorem dKM_readRounded_42 : decode c_KM_readRounded 42 = .ok (.goto (-31), 3) := by decide +kernel
theorem dKM_readRounded_45 : decode c_KM_readRounded 45 = .ok (.return_, 1) := by decide +kernel
set_option maxHeartbeats 400000 in
set_option maxRecDepth 100000 in
theorem t_KM_digestOf (l : Launch) (g : Gd) (sz : Nat) (T : Ty) (xs : List Nat) (pl : va_W) (hO : okx g T xs pl) (hU : uni T) (hc0 : clo T xs 0) (hc2 : clo T xs 2) (h0 b n at_ len : Nat) (k_h0 : T h0 = some (13, 0)) (k_b : T b = some (1, n)) (h1 : at_ + len ≤ n) (h2 : n < 65536)  : Met l y_KM_digestOf w_KM_digestOf ({ frames := 3, cells := 0, slots := 0, locals := 100 } : Room) (va_Pc [.ref h0, .ref b, .int (nI at_), .int (nI len)] (pr (en g) g.1 vcl sz ([] ++ pl))) (va_Qv (fun (u : va_W) => (True) ∧ okx g T xs u) (po g.1 vcl (va_A ([] ++ pl) sz) (fun (u : va_W) => [] ++ u)) (va_A ([] ++ pl) sz)) 0 0 (va_A ([] ++ pl) sz) := by
  sorry
set_option maxHeartbeats 400000 in
set_option maxRecDepth 100000 in
theorem t_KM_deriveSeeds (l : Launch) (g : Gd) (sz : Nat) (T : Ty) (xs : List Nat) (pl : va_W) (hO : okx g T xs pl) (hU : uni T) (hc0 : clo T xs 0) (hc2 : clo T xs 2) (h0 b n at_ : Nat) (k_h0 : T h0 = some (13, 0)) (k_b : T b = some (1, n)) (h1 : at_ + 32 ≤ n) (h2 : n < 65536)  : Met l y_KM_deriveSeeds w_KM_deriveSeeds ({ frames := 3, cells := 0, slots := 0, locals := 100 } : Room) (va_Pc [.ref h0, .ref b, .int (nI at_)] (pr (en g) g.1 vcl sz ([] ++ pl))) (va_Qv (fun (u : va_W) => (True) ∧ okx g T xs u) (po g.1 vcl (va_A ([] ++ pl) sz) (fun (u : va_W) => [] ++ u)) (va_A ([] ++ pl) sz)) 0 0 (va_A ([] ++ pl) sz) := by
  sorry
set_option maxHeartbeats 400000 in
set_option maxRecDepth 100000 in
theorem t_KM_sampleEntry (l : Launch) (g : Gd) (sz : Nat) (T : Ty) (xs : List Nat) (pl : va_W) (hO : okx g T xs pl) (hU : uni T) (hc0 : clo T xs 0) (hc2 : clo T xs 2) (h0 b n at_ : Nat) (v1 : Int32) (v2 : Int32) (k_h0 : T h0 = some (13, 0)) (k_b : T b = some (1, n)) (h1 : at_ + 32 ≤ n) (h2 : n < 65536)  : Met l y_KM_sampleEntry w_KM_sampleEntry ({ frames := 3, cells := 0, slots := 0, locals := 100 } : Room) (va_Pc [.ref h0, .ref b, .int (nI at_), .int v1, .int v2] (pr (en g) g.1 vcl sz ([] ++ pl))) (va_Qv (fun (u : va_W) => (True) ∧ okx g T xs u) (po g.1 vcl (va_A ([] ++ pl) sz) (fun (u : va_W) => [] ++ u)) (va_A ([] ++ pl) sz)) 0 0 (va_A ([] ++ pl) sz) := by
  sorry
set_option maxHeartbeats 400000 in
set_option maxRecDepth 100000 in
theorem t_KM_sampleNoise_2 (l : Launch) (g : Gd) (sz : Nat) (T : Ty) (xs : List Nat) (pl : va_W) (hO : okx g T xs pl) (hU : uni T) (hc0 : clo T xs 0) (hc2 : clo T xs 2) (h0 f : Nat) (wh : Int32) (k_h0 : T h0 = some (13, 0)) (k_f : T f = some (0, 256))  : Met l y_KM_sampleNoise w_KM_sampleNoise ({ frames := 3, cells := 0, slots := 0, locals := 100 } : Room) (va_Pc [.ref h0, .ref f, .int (nI 2), .int wh] (pr (en g) g.1 vcl sz ([] ++ pl))) (va_Qv (fun (u : va_W) => (True) ∧ okx g T xs u) (po g.1 vcl (va_A ([] ++ pl) sz) (fun (u : va_W) => [] ++ u)) (va_A ([] ++ pl) sz)) 0 0 (va_A ([] ++ pl) sz) := by
  sorry
set_option maxHeartbeats 400000 in
set_option maxRecDepth 100000 in
theorem t_KM_sampleNoise_3 (l : Launch) (g : Gd) (sz : Nat) (T : Ty) (xs : List Nat) (pl : va_W) (hO : okx g T xs pl) (hU : uni T) (hc0 : clo T xs 0) (hc2 : clo T xs 2) (h0 f : Nat) (wh : Int32) (k_h0 : T h0 = some (13, 0)) (k_f : T f = some (0, 256))  : Met l y_KM_sampleNoise w_KM_sampleNoise ({ frames := 3, cells := 0, slots := 0, locals := 100 } : Room) (va_Pc [.ref h0, .ref f, .int (nI 3), .int wh] (pr (en g) g.1 vcl sz ([] ++ pl))) (va_Qv (fun (u : va_W) => (True) ∧ okx g T xs u) (po g.1 vcl (va_A ([] ++ pl) sz) (fun (u : va_W) => [] ++ u)) (va_A ([] ++ pl) sz)) 0 0 (va_A ([] ++ pl) sz) := by
  sorry
set_option maxHeartbeats 400000 in
set_option maxRecDepth 100000 in
theorem t_KM_readReduced (l : Launch) (g : Gd) (sz : Nat) (T : Ty) (xs : List Nat) (pl : va_W) (hO : okx g T xs pl) (hU : uni T) (hc0 : clo T xs 0) (h0 b n at_ : Nat) (k_h0 : T h0 = some (13, 0)) (k_b : T b = some (1, n)) (h1 : at_ + 384 ≤ n) (h2 : n < 65536)  : Met l y_KM_readReduced w_KM_readReduced ({ frames := 1, cells := 0, slots := 0, locals := 28 } : Room) (va_Pc [.ref h0, .ref b, .int (nI at_)] (pr (en g) g.1 vcl sz ([] ++ pl))) (va_Qv (fun (u : va_W) => (True) ∧ okx g T xs u) (po g.1 vcl (va_A ([] ++ pl) sz) (fun (u : va_W) => [] ++ u)) (va_A ([] ++ pl) sz)) 0 0 (va_A ([] ++ pl) sz) := by
  sorry
set_option maxHeartbeats 400000 in
set_option maxRecDepth 100000 in
theorem t_KM_writeRounded (l : Launch) (g : Gd) (sz : Nat) (T : Ty) (xs : List Nat) (pl : va_W) (hO : okx g T xs pl) (hU : uni T) (hc0 : clo T xs 0) (h0 f to n b at_ : Nat) (k_h0 : T h0 = some (13, 0)) (k_f : T f = some (0, 256)) (k_to : T to = some (1, n)) (h1 : at_ + 32 * b ≤ n) (h2 : n < 65536) (h3 : b < 32)  : Met l y_KM_writeRounded w_KM_writeRounded ({ frames := 1, cells := 0, slots := 0, locals := 27 } : Room) (va_Pc [.ref h0, .ref f, .int (nI b), .ref to, .int (nI at_)] (pr (en g) g.1 vcl sz ([] ++ pl))) (va_Qv (fun (u : va_W) => (True) ∧ okx g T xs u) (po g.1 vcl (va_A ([] ++ pl) sz) (fun (u : va_W) => [] ++ u)) (va_A ([] ++ pl) sz)) 0 0 (va_A ([] ++ pl) sz) := by
  sorry
set_option maxHeartbeats 400000 in
set_option maxRecDepth 100000 in
theorem t_KM_readRounded (l : Launch) (g : Gd) (sz : Nat) (T : Ty) (xs : List Nat) (pl : va_W) (hO : okx g T xs pl) (hU : uni T) (hc0 : clo T xs 0) (h0 f fr n b at_ : Nat) (k_h0 : T h0 = some (13, 0)) (k_f : T f = some (0, 256)) (k_fr : T fr = some (1, n)) (h1 : at_ + 32 * b ≤ n) (h2 : n < 65536) (h3 : b < 32) (h4 : 1 ≤ b)  : Met l y_KM_readRounded w_KM_readRounded ({ frames := 1, cells := 0, slots := 0, locals := 28 } : Room) (va_Pc [.ref h0, .ref f, .int (nI b), .ref fr, .int (nI at_)] (pr (en g) g.1 vcl sz ([] ++ pl))) (va_Qv (fun (u : va_W) => (True) ∧ okx g T xs u) (po g.1 vcl (va_A ([] ++ pl) sz) (fun (u : va_W) => [] ++ u)) (va_A ([] ++ pl) sz)) 0 0 (va_A ([] ++ pl) sz) := by
  sorry
