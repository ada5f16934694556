set_option linter.all false
abbrev c_SA_startNumbered : ByteArray := prog_4_method_7_code
abbrev y_SA_startNumbered : MethodName := ⟨"LatticeKeys$DsaSampler", "startNumbered", "([BII)V"⟩
abbrev w_SA_startNumbered : List Cond := Cond.code y_SA_startNumbered c_SA_startNumbered 4 none :: WG
theorem dSA_startNumbered_0 : decode c_SA_startNumbered 0 = .ok (.aload_n 0, 1) := by decide +kernel
theorem dSA_startNumbered_1 : decode c_SA_startNumbered 1 = .ok (.getfield 10, 3) := by decide +kernel
theorem dSA_startNumbered_4 : decode c_SA_startNumbered 4 = .ok (.iconst 3, 1) := by decide +kernel
theorem dSA_startNumbered_5 : decode c_SA_startNumbered 5 = .ok (.invokevirtual 33, 3) := by decide +kernel
theorem dSA_startNumbered_8 : decode c_SA_startNumbered 8 = .ok (.aload_n 0, 1) := by decide +kernel
theorem dSA_startNumbered_9 : decode c_SA_startNumbered 9 = .ok (.getfield 10, 3) := by decide +kernel
theorem dSA_startNumbered_12 : decode c_SA_startNumbered 12 = .ok (.aload_n 1, 1) := by decide +kernel
theorem dSA_startNumbered_13 : decode c_SA_startNumbered 13 = .ok (.iload_n 2, 1) := by decide +kernel
theorem dSA_startNumbered_14 : decode c_SA_startNumbered 14 = .ok (.bipush 64, 2) := by decide +kernel
theorem dSA_startNumbered_16 : decode c_SA_startNumbered 16 = .ok (.invokevirtual 37, 3) := by decide +kernel
theorem dSA_startNumbered_19 : decode c_SA_startNumbered 19 = .ok (.aload_n 0, 1) := by decide +kernel
theorem dSA_startNumbered_20 : decode c_SA_startNumbered 20 = .ok (.getfield 10, 3) := by decide +kernel
theorem dSA_startNumbered_23 : decode c_SA_startNumbered 23 = .ok (.iload_n 3, 1) := by decide +kernel
theorem dSA_startNumbered_24 : decode c_SA_startNumbered 24 = .ok (.invokevirtual 41, 3) := by decide +kernel
theorem dSA_startNumbered_27 : decode c_SA_startNumbered 27 = .ok (.aload_n 0, 1) := by decide +kernel
theorem dSA_startNumbered_28 : decode c_SA_startNumbered 28 = .ok (.getfield 10, 3) := by decide +kernel
theorem dSA_startNumbered_31 : decode c_SA_startNumbered 31 = .ok (.iload_n 3, 1) := by decide +kernel
theorem dSA_startNumbered_32 : decode c_SA_startNumbered 32 = .ok (.bipush 8, 2) := by decide +kernel
theorem dSA_startNumbered_34 : decode c_SA_startNumbered 34 = .ok (.ishr, 1) := by decide +kernel
theorem dSA_startNumbered_35 : decode c_SA_startNumbered 35 = .ok (.invokevirtual 41, 3) := by decide +kernel
theorem dSA_startNumbered_38 : decode c_SA_startNumbered 38 = .ok (.aload_n 0, 1) := by decide +kernel
theorem dSA_startNumbered_39 : decode c_SA_startNumbered 39 = .ok (.getfield 10, 3) := by decide +kernel
theorem dSA_startNumbered_42 : decode c_SA_startNumbered 42 = .ok (.invokevirtual 44, 3) := by decide +kernel
theorem dSA_startNumbered_45 : decode c_SA_startNumbered 45 = .ok (.return_, 1) := by decide +kernel
abbrev c_SA_sampleEntry : ByteArray := prog_4_method_3_code
abbrev y_SA_sampleEntry : MethodName := ⟨"LatticeKeys$DsaSampler", "sampleEntry", "([I[BII)V"⟩
abbrev w_SA_sampleEntry : List Cond := Cond.code y_SA_sampleEntry c_SA_sampleEntry 8 none :: WG
theorem dSA_sampleEntry_0 : decode c_SA_sampleEntry 0 = .ok (.aload_n 0, 1) := by decide +kernel
theorem dSA_sampleEntry_1 : decode c_SA_sampleEntry 1 = .ok (.getfield 10, 3) := by decide +kernel
theorem dSA_sampleEntry_4 : decode c_SA_sampleEntry 4 = .ok (.iconst 2, 1) := by decide +kernel
theorem dSA_sampleEntry_5 : decode c_SA_sampleEntry 5 = .ok (.invokevirtual 33, 3) := by decide +kernel
theorem dSA_sampleEntry_8 : decode c_SA_sampleEntry 8 = .ok (.aload_n 0, 1) := by decide +kernel
theorem dSA_sampleEntry_9 : decode c_SA_sampleEntry 9 = .ok (.getfield 10, 3) := by decide +kernel
theorem dSA_sampleEntry_12 : decode c_SA_sampleEntry 12 = .ok (.aload_n 2, 1) := by decide +kernel
theorem dSA_sampleEntry_13 : decode c_SA_sampleEntry 13 = .ok (.iconst 0, 1) := by decide +kernel
theorem dSA_sampleEntry_14 : decode c_SA_sampleEntry 14 = .ok (.bipush 32, 2) := by decide +kernel
theorem dSA_sampleEntry_16 : decode c_SA_sampleEntry 16 = .ok (.invokevirtual 37, 3) := by decide +kernel
theorem dSA_sampleEntry_19 : decode c_SA_sampleEntry 19 = .ok (.aload_n 0, 1) := by decide +kernel
theorem dSA_sampleEntry_20 : decode c_SA_sampleEntry 20 = .ok (.getfield 10, 3) := by decide +kernel
theorem dSA_sampleEntry_23 : decode c_SA_sampleEntry 23 = .ok (.iload_n 3, 1) := by decide +kernel
theorem dSA_sampleEntry_24 : decode c_SA_sampleEntry 24 = .ok (.invokevirtual 41, 3) := by decide +kernel
theorem dSA_sampleEntry_27 : decode c_SA_sampleEntry 27 = .ok (.aload_n 0, 1) := by decide +kernel
theorem dSA_sampleEntry_28 : decode c_SA_sampleEntry 28 = .ok (.getfield 10, 3) := by decide +kernel
theorem dSA_sampleEntry_31 : decode c_SA_sampleEntry 31 = .ok (.iload 4, 2) := by decide +kernel
theorem dSA_sampleEntry_33 : decode c_SA_sampleEntry 33 = .ok (.invokevirtual 41, 3) := by decide +kernel
theorem dSA_sampleEntry_36 : decode c_SA_sampleEntry 36 = .ok (.aload_n 0, 1) := by decide +kernel
theorem dSA_sampleEntry_37 : decode c_SA_sampleEntry 37 = .ok (.getfield 10, 3) := by decide +kernel
theorem dSA_sampleEntry_40 : decode c_SA_sampleEntry 40 = .ok (.invokevirtual 44, 3) := by decide +kernel
theorem dSA_sampleEntry_43 : decode c_SA_sampleEntry 43 = .ok (.iconst 0, 1) := by decide +kernel
theorem dSA_sampleEntry_44 : decode c_SA_sampleEntry 44 = .ok (.istore 5, 2) := by decide +kernel
theorem dSA_sampleEntry_46 : decode c_SA_sampleEntry 46 = .ok (.iconst 0, 1) := by decide +kernel
theorem dSA_sampleEntry_47 : decode c_SA_sampleEntry 47 = .ok (.istore 6, 2) := by decide +kernel
theorem dSA_sampleEntry_49 : decode c_SA_sampleEntry 49 = .ok (.iload 5, 2) := by decide +kernel
theorem dSA_sampleEntry_51 : decode c_SA_sampleEntry 51 = .ok (.sipush 256, 3) := by decide +kernel
theorem dSA_sampleEntry_54 : decode c_SA_sampleEntry 54 = .ok (.if_icmp .ge 74, 3) := by decide +kernel
theorem dSA_sampleEntry_57 : decode c_SA_sampleEntry 57 = .ok (.iload 6, 2) := by decide +kernel
theorem dSA_sampleEntry_59 : decode c_SA_sampleEntry 59 = .ok (.ldc 49, 2) := by decide +kernel
theorem dSA_sampleEntry_61 : decode c_SA_sampleEntry 61 = .ok (.if_icmp .ge 67, 3) := by decide +kernel
theorem dSA_sampleEntry_64 : decode c_SA_sampleEntry 64 = .ok (.aload_n 0, 1) := by decide +kernel
theorem dSA_sampleEntry_65 : decode c_SA_sampleEntry 65 = .ok (.getfield 10, 3) := by decide +kernel
theorem dSA_sampleEntry_68 : decode c_SA_sampleEntry 68 = .ok (.invokevirtual 50, 3) := by decide +kernel
theorem dSA_sampleEntry_71 : decode c_SA_sampleEntry 71 = .ok (.istore 7, 2) := by decide +kernel
theorem dSA_sampleEntry_73 : decode c_SA_sampleEntry 73 = .ok (.iload 7, 2) := by decide +kernel
theorem dSA_sampleEntry_75 : decode c_SA_sampleEntry 75 = .ok (.aload_n 0, 1) := by decide +kernel
theorem dSA_sampleEntry_76 : decode c_SA_sampleEntry 76 = .ok (.getfield 10, 3) := by decide +kernel
theorem dSA_sampleEntry_79 : decode c_SA_sampleEntry 79 = .ok (.invokevirtual 50, 3) := by decide +kernel
theorem dSA_sampleEntry_82 : decode c_SA_sampleEntry 82 = .ok (.bipush 8, 2) := by decide +kernel
theorem dSA_sampleEntry_84 : decode c_SA_sampleEntry 84 = .ok (.ishl, 1) := by decide +kernel
theorem dSA_sampleEntry_85 : decode c_SA_sampleEntry 85 = .ok (.ior, 1) := by decide +kernel
theorem dSA_sampleEntry_86 : decode c_SA_sampleEntry 86 = .ok (.istore 7, 2) := by decide +kernel
theorem dSA_sampleEntry_88 : decode c_SA_sampleEntry 88 = .ok (.iload 7, 2) := by decide +kernel
theorem dSA_sampleEntry_90 : decode c_SA_sampleEntry 90 = .ok (.aload_n 0, 1) := by decide +kernel
theorem dSA_sampleEntry_91 : decode c_SA_sampleEntry 91 = .ok (.getfield 10, 3) := by decide +kernel
theorem dSA_sampleEntry_94 : decode c_SA_sampleEntry 94 = .ok (.invokevirtual 50, 3) := by decide +kernel
theorem dSA_sampleEntry_97 : decode c_SA_sampleEntry 97 = .ok (.bipush 127, 2) := by decide +kernel
theorem dSA_sampleEntry_99 : decode c_SA_sampleEntry 99 = .ok (.iand, 1) := by decide +kernel
theorem dSA_sampleEntry_100 : decode c_SA_sampleEntry 100 = .ok (.bipush 16, 2) := by decide +kernel
theorem dSA_sampleEntry_102 : decode c_SA_sampleEntry 102 = .ok (.ishl, 1) := by decide +kernel
theorem dSA_sampleEntry_103 : decode c_SA_sampleEntry 103 = .ok (.ior, 1) := by decide +kernel
theorem dSA_sampleEntry_104 : decode c_SA_sampleEntry 104 = .ok (.istore 7, 2) := by decide +kernel
theorem dSA_sampleEntry_106 : decode c_SA_sampleEntry 106 = .ok (.iload 7, 2) := by decide +kernel
theorem dSA_sampleEntry_108 : decode c_SA_sampleEntry 108 = .ok (.ldc 56, 2) := by decide +kernel
theorem dSA_sampleEntry_110 : decode c_SA_sampleEntry 110 = .ok (.if_icmp .ge 12, 3) := by decide +kernel
theorem dSA_sampleEntry_113 : decode c_SA_sampleEntry 113 = .ok (.aload_n 1, 1) := by decide +kernel
theorem dSA_sampleEntry_114 : decode c_SA_sampleEntry 114 = .ok (.iload 5, 2) := by decide +kernel
theorem dSA_sampleEntry_116 : decode c_SA_sampleEntry 116 = .ok (.iload 7, 2) := by decide +kernel
theorem dSA_sampleEntry_118 : decode c_SA_sampleEntry 118 = .ok (.iastore, 1) := by decide +kernel
theorem dSA_sampleEntry_119 : decode c_SA_sampleEntry 119 = .ok (.iinc 5 1, 3) := by decide +kernel
theorem dSA_sampleEntry_122 : decode c_SA_sampleEntry 122 = .ok (.iinc 6 1, 3) := by decide +kernel
theorem dSA_sampleEntry_125 : decode c_SA_sampleEntry 125 = .ok (.goto (-76), 3) := by decide +kernel
theorem dSA_sampleEntry_128 : decode c_SA_sampleEntry 128 = .ok (.return_, 1) := by decide +kernel
abbrev c_SA_expandMatrix : ByteArray := prog_4_method_2_code
abbrev y_SA_expandMatrix : MethodName := ⟨"LatticeKeys$DsaSampler", "expandMatrix", "(LLatticeKeys$DsaSet;[B[[I)V"⟩
abbrev w_SA_expandMatrix : List Cond := Cond.code y_SA_expandMatrix c_SA_expandMatrix 6 none :: WG
theorem dSA_expandMatrix_0 : decode c_SA_expandMatrix 0 = .ok (.iconst 0, 1) := by decide +kernel
theorem dSA_expandMatrix_1 : decode c_SA_expandMatrix 1 = .ok (.istore 4, 2) := by decide +kernel
theorem dSA_expandMatrix_3 : decode c_SA_expandMatrix 3 = .ok (.iload 4, 2) := by decide +kernel
theorem dSA_expandMatrix_5 : decode c_SA_expandMatrix 5 = .ok (.aload_n 1, 1) := by decide +kernel
theorem dSA_expandMatrix_6 : decode c_SA_expandMatrix 6 = .ok (.getfield 20, 3) := by decide +kernel
theorem dSA_expandMatrix_9 : decode c_SA_expandMatrix 9 = .ok (.if_icmp .ge 48, 3) := by decide +kernel
theorem dSA_expandMatrix_12 : decode c_SA_expandMatrix 12 = .ok (.iconst 0, 1) := by decide +kernel
theorem dSA_expandMatrix_13 : decode c_SA_expandMatrix 13 = .ok (.istore 5, 2) := by decide +kernel
theorem dSA_expandMatrix_15 : decode c_SA_expandMatrix 15 = .ok (.iload 5, 2) := by decide +kernel
theorem dSA_expandMatrix_17 : decode c_SA_expandMatrix 17 = .ok (.aload_n 1, 1) := by decide +kernel
theorem dSA_expandMatrix_18 : decode c_SA_expandMatrix 18 = .ok (.getfield 26, 3) := by decide +kernel
theorem dSA_expandMatrix_21 : decode c_SA_expandMatrix 21 = .ok (.if_icmp .ge 30, 3) := by decide +kernel
theorem dSA_expandMatrix_24 : decode c_SA_expandMatrix 24 = .ok (.aload_n 0, 1) := by decide +kernel
theorem dSA_expandMatrix_25 : decode c_SA_expandMatrix 25 = .ok (.aload_n 3, 1) := by decide +kernel
theorem dSA_expandMatrix_26 : decode c_SA_expandMatrix 26 = .ok (.aload_n 1, 1) := by decide +kernel
theorem dSA_expandMatrix_27 : decode c_SA_expandMatrix 27 = .ok (.getfield 26, 3) := by decide +kernel
theorem dSA_expandMatrix_30 : decode c_SA_expandMatrix 30 = .ok (.iload 4, 2) := by decide +kernel
theorem dSA_expandMatrix_32 : decode c_SA_expandMatrix 32 = .ok (.imul, 1) := by decide +kernel
theorem dSA_expandMatrix_33 : decode c_SA_expandMatrix 33 = .ok (.iload 5, 2) := by decide +kernel
theorem dSA_expandMatrix_35 : decode c_SA_expandMatrix 35 = .ok (.iadd, 1) := by decide +kernel
theorem dSA_expandMatrix_36 : decode c_SA_expandMatrix 36 = .ok (.aaload, 1) := by decide +kernel
theorem dSA_expandMatrix_37 : decode c_SA_expandMatrix 37 = .ok (.aload_n 2, 1) := by decide +kernel
theorem dSA_expandMatrix_38 : decode c_SA_expandMatrix 38 = .ok (.iload 5, 2) := by decide +kernel
theorem dSA_expandMatrix_40 : decode c_SA_expandMatrix 40 = .ok (.iload 4, 2) := by decide +kernel
theorem dSA_expandMatrix_42 : decode c_SA_expandMatrix 42 = .ok (.invokevirtual 29, 3) := by decide +kernel
theorem dSA_expandMatrix_45 : decode c_SA_expandMatrix 45 = .ok (.iinc 5 1, 3) := by decide +kernel
theorem dSA_expandMatrix_48 : decode c_SA_expandMatrix 48 = .ok (.goto (-33), 3) := by decide +kernel
theorem dSA_expandMatrix_51 : decode c_SA_expandMatrix 51 = .ok (.iinc 4 1, 3) := by decide +kernel
theorem dSA_expandMatrix_54 : decode c_SA_expandMatrix 54 = .ok (.goto (-51), 3) := by decide +kernel
theorem dSA_expandMatrix_57 : decode c_SA_expandMatrix 57 = .ok (.return_, 1) := by decide +kernel
abbrev c_SA_putSmall : ByteArray := prog_4_method_5_code
abbrev y_SA_putSmall : MethodName := ⟨"LatticeKeys$DsaSampler", "putSmall", "(I[III)I"⟩
abbrev w_SA_putSmall : List Cond := Cond.code y_SA_putSmall c_SA_putSmall 7 (some .int) :: WG
theorem dSA_putSmall_0 : decode c_SA_putSmall 0 = .ok (.iload_n 1, 1) := by decide +kernel
theorem dSA_putSmall_1 : decode c_SA_putSmall 1 = .ok (.iconst 2, 1) := by decide +kernel
theorem dSA_putSmall_2 : decode c_SA_putSmall 2 = .ok (.if_icmp .ne 8, 3) := by decide +kernel
theorem dSA_putSmall_5 : decode c_SA_putSmall 5 = .ok (.bipush 15, 2) := by decide +kernel
theorem dSA_putSmall_7 : decode c_SA_putSmall 7 = .ok (.goto 5, 3) := by decide +kernel
theorem dSA_putSmall_10 : decode c_SA_putSmall 10 = .ok (.bipush 9, 2) := by decide +kernel
theorem dSA_putSmall_12 : decode c_SA_putSmall 12 = .ok (.istore 5, 2) := by decide +kernel
theorem dSA_putSmall_14 : decode c_SA_putSmall 14 = .ok (.iload 4, 2) := by decide +kernel
theorem dSA_putSmall_16 : decode c_SA_putSmall 16 = .ok (.iload 5, 2) := by decide +kernel
theorem dSA_putSmall_18 : decode c_SA_putSmall 18 = .ok (.if_icmp .ge 10, 3) := by decide +kernel
theorem dSA_putSmall_21 : decode c_SA_putSmall 21 = .ok (.iload_n 3, 1) := by decide +kernel
theorem dSA_putSmall_22 : decode c_SA_putSmall 22 = .ok (.sipush 256, 3) := by decide +kernel
theorem dSA_putSmall_25 : decode c_SA_putSmall 25 = .ok (.if_icmp .lt 5, 3) := by decide +kernel
theorem dSA_putSmall_28 : decode c_SA_putSmall 28 = .ok (.iload_n 3, 1) := by decide +kernel
theorem dSA_putSmall_29 : decode c_SA_putSmall 29 = .ok (.ireturn, 1) := by decide +kernel
theorem dSA_putSmall_30 : decode c_SA_putSmall 30 = .ok (.iload_n 1, 1) := by decide +kernel
theorem dSA_putSmall_31 : decode c_SA_putSmall 31 = .ok (.iload_n 1, 1) := by decide +kernel
theorem dSA_putSmall_32 : decode c_SA_putSmall 32 = .ok (.iconst 2, 1) := by decide +kernel
theorem dSA_putSmall_33 : decode c_SA_putSmall 33 = .ok (.if_icmp .ne 10, 3) := by decide +kernel
theorem dSA_putSmall_36 : decode c_SA_putSmall 36 = .ok (.iload 4, 2) := by decide +kernel
theorem dSA_putSmall_38 : decode c_SA_putSmall 38 = .ok (.iconst 5, 1) := by decide +kernel
theorem dSA_putSmall_39 : decode c_SA_putSmall 39 = .ok (.irem, 1) := by decide +kernel
theorem dSA_putSmall_40 : decode c_SA_putSmall 40 = .ok (.goto 5, 3) := by decide +kernel
theorem dSA_putSmall_43 : decode c_SA_putSmall 43 = .ok (.iload 4, 2) := by decide +kernel
theorem dSA_putSmall_45 : decode c_SA_putSmall 45 = .ok (.isub, 1) := by decide +kernel
theorem dSA_putSmall_46 : decode c_SA_putSmall 46 = .ok (.istore 6, 2) := by decide +kernel
theorem dSA_putSmall_48 : decode c_SA_putSmall 48 = .ok (.aload_n 2, 1) := by decide +kernel
theorem dSA_putSmall_49 : decode c_SA_putSmall 49 = .ok (.iload_n 3, 1) := by decide +kernel
theorem dSA_putSmall_50 : decode c_SA_putSmall 50 = .ok (.iload 6, 2) := by decide +kernel
theorem dSA_putSmall_52 : decode c_SA_putSmall 52 = .ok (.ifCond .ge 11, 3) := by decide +kernel
theorem dSA_putSmall_55 : decode c_SA_putSmall 55 = .ok (.iload 6, 2) := by decide +kernel
theorem dSA_putSmall_57 : decode c_SA_putSmall 57 = .ok (.ldc 56, 2) := by decide +kernel
theorem dSA_putSmall_59 : decode c_SA_putSmall 59 = .ok (.iadd, 1) := by decide +kernel
theorem dSA_putSmall_60 : decode c_SA_putSmall 60 = .ok (.goto 5, 3) := by decide +kernel
theorem dSA_putSmall_63 : decode c_SA_putSmall 63 = .ok (.iload 6, 2) := by decide +kernel
theorem dSA_putSmall_65 : decode c_SA_putSmall 65 = .ok (.iastore, 1) := by decide +kernel
theorem dSA_putSmall_66 : decode c_SA_putSmall 66 = .ok (.iload_n 3, 1) := by decide +kernel
theorem dSA_putSmall_67 : decode c_SA_putSmall 67 = .ok (.iconst 1, 1) := by decide +kernel
theorem dSA_putSmall_68 : decode c_SA_putSmall 68 = .ok (.iadd, 1) := by decide +kernel
theorem dSA_putSmall_69 : decode c_SA_putSmall 69 = .ok (.ireturn, 1) := by decide +kernel
abbrev c_SA_sampleSmall : ByteArray := prog_4_method_4_code
abbrev y_SA_sampleSmall : MethodName := ⟨"LatticeKeys$DsaSampler", "sampleSmall", "(LLatticeKeys$DsaSet;[I[BII)V"⟩
abbrev w_SA_sampleSmall : List Cond := Cond.code y_SA_sampleSmall c_SA_sampleSmall 9 none :: WG
theorem dSA_sampleSmall_0 : decode c_SA_sampleSmall 0 = .ok (.aload_n 0, 1) := by decide +kernel
theorem dSA_sampleSmall_1 : decode c_SA_sampleSmall 1 = .ok (.aload_n 3, 1) := by decide +kernel
theorem dSA_sampleSmall_2 : decode c_SA_sampleSmall 2 = .ok (.iload 4, 2) := by decide +kernel
theorem dSA_sampleSmall_4 : decode c_SA_sampleSmall 4 = .ok (.iload 5, 2) := by decide +kernel
theorem dSA_sampleSmall_6 : decode c_SA_sampleSmall 6 = .ok (.invokevirtual 57, 3) := by decide +kernel
theorem dSA_sampleSmall_9 : decode c_SA_sampleSmall 9 = .ok (.iconst 0, 1) := by decide +kernel
theorem dSA_sampleSmall_10 : decode c_SA_sampleSmall 10 = .ok (.istore 6, 2) := by decide +kernel
theorem dSA_sampleSmall_12 : decode c_SA_sampleSmall 12 = .ok (.iconst 0, 1) := by decide +kernel
theorem dSA_sampleSmall_13 : decode c_SA_sampleSmall 13 = .ok (.istore 7, 2) := by decide +kernel
theorem dSA_sampleSmall_15 : decode c_SA_sampleSmall 15 = .ok (.iload 6, 2) := by decide +kernel
theorem dSA_sampleSmall_17 : decode c_SA_sampleSmall 17 = .ok (.sipush 256, 3) := by decide +kernel
theorem dSA_sampleSmall_20 : decode c_SA_sampleSmall 20 = .ok (.if_icmp .ge 60, 3) := by decide +kernel
theorem dSA_sampleSmall_23 : decode c_SA_sampleSmall 23 = .ok (.iload 7, 2) := by decide +kernel
theorem dSA_sampleSmall_25 : decode c_SA_sampleSmall 25 = .ok (.ldc 49, 2) := by decide +kernel
theorem dSA_sampleSmall_27 : decode c_SA_sampleSmall 27 = .ok (.if_icmp .ge 53, 3) := by decide +kernel
theorem dSA_sampleSmall_30 : decode c_SA_sampleSmall 30 = .ok (.aload_n 0, 1) := by decide +kernel
theorem dSA_sampleSmall_31 : decode c_SA_sampleSmall 31 = .ok (.getfield 10, 3) := by decide +kernel
theorem dSA_sampleSmall_34 : decode c_SA_sampleSmall 34 = .ok (.invokevirtual 50, 3) := by decide +kernel
theorem dSA_sampleSmall_37 : decode c_SA_sampleSmall 37 = .ok (.istore 8, 2) := by decide +kernel
theorem dSA_sampleSmall_39 : decode c_SA_sampleSmall 39 = .ok (.aload_n 0, 1) := by decide +kernel
theorem dSA_sampleSmall_40 : decode c_SA_sampleSmall 40 = .ok (.aload_n 1, 1) := by decide +kernel
theorem dSA_sampleSmall_41 : decode c_SA_sampleSmall 41 = .ok (.getfield 60, 3) := by decide +kernel
theorem dSA_sampleSmall_44 : decode c_SA_sampleSmall 44 = .ok (.aload_n 2, 1) := by decide +kernel
theorem dSA_sampleSmall_45 : decode c_SA_sampleSmall 45 = .ok (.iload 6, 2) := by decide +kernel
theorem dSA_sampleSmall_47 : decode c_SA_sampleSmall 47 = .ok (.iload 8, 2) := by decide +kernel
theorem dSA_sampleSmall_49 : decode c_SA_sampleSmall 49 = .ok (.bipush 15, 2) := by decide +kernel
theorem dSA_sampleSmall_51 : decode c_SA_sampleSmall 51 = .ok (.iand, 1) := by decide +kernel
theorem dSA_sampleSmall_52 : decode c_SA_sampleSmall 52 = .ok (.invokevirtual 63, 3) := by decide +kernel
theorem dSA_sampleSmall_55 : decode c_SA_sampleSmall 55 = .ok (.istore 6, 2) := by decide +kernel
theorem dSA_sampleSmall_57 : decode c_SA_sampleSmall 57 = .ok (.aload_n 0, 1) := by decide +kernel
theorem dSA_sampleSmall_58 : decode c_SA_sampleSmall 58 = .ok (.aload_n 1, 1) := by decide +kernel
theorem dSA_sampleSmall_59 : decode c_SA_sampleSmall 59 = .ok (.getfield 60, 3) := by decide +kernel
theorem dSA_sampleSmall_62 : decode c_SA_sampleSmall 62 = .ok (.aload_n 2, 1) := by decide +kernel
theorem dSA_sampleSmall_63 : decode c_SA_sampleSmall 63 = .ok (.iload 6, 2) := by decide +kernel
theorem dSA_sampleSmall_65 : decode c_SA_sampleSmall 65 = .ok (.iload 8, 2) := by decide +kernel
theorem dSA_sampleSmall_67 : decode c_SA_sampleSmall 67 = .ok (.iconst 4, 1) := by decide +kernel
theorem dSA_sampleSmall_68 : decode c_SA_sampleSmall 68 = .ok (.ishr, 1) := by decide +kernel
theorem dSA_sampleSmall_69 : decode c_SA_sampleSmall 69 = .ok (.invokevirtual 63, 3) := by decide +kernel
theorem dSA_sampleSmall_72 : decode c_SA_sampleSmall 72 = .ok (.istore 6, 2) := by decide +kernel
theorem dSA_sampleSmall_74 : decode c_SA_sampleSmall 74 = .ok (.iinc 7 1, 3) := by decide +kernel
theorem dSA_sampleSmall_77 : decode c_SA_sampleSmall 77 = .ok (.goto (-62), 3) := by decide +kernel
theorem dSA_sampleSmall_80 : decode c_SA_sampleSmall 80 = .ok (.return_, 1) := by decide +kernel
abbrev c_SA_sampleMask : ByteArray := prog_4_method_6_code
abbrev y_SA_sampleMask : MethodName := ⟨"LatticeKeys$DsaSampler", "sampleMask", "(LLatticeKeys$DsaSet;[I[BI)V"⟩
abbrev w_SA_sampleMask : List Cond := Cond.code y_SA_sampleMask c_SA_sampleMask 5 none :: WG
theorem dSA_sampleMask_0 : decode c_SA_sampleMask 0 = .ok (.aload_n 0, 1) := by decide +kernel
theorem dSA_sampleMask_1 : decode c_SA_sampleMask 1 = .ok (.aload_n 3, 1) := by decide +kernel
theorem dSA_sampleMask_2 : decode c_SA_sampleMask 2 = .ok (.iconst 0, 1) := by decide +kernel
theorem dSA_sampleMask_3 : decode c_SA_sampleMask 3 = .ok (.iload 4, 2) := by decide +kernel
theorem dSA_sampleMask_5 : decode c_SA_sampleMask 5 = .ok (.invokevirtual 57, 3) := by decide +kernel
theorem dSA_sampleMask_8 : decode c_SA_sampleMask 8 = .ok (.aload_n 0, 1) := by decide +kernel
theorem dSA_sampleMask_9 : decode c_SA_sampleMask 9 = .ok (.getfield 10, 3) := by decide +kernel
theorem dSA_sampleMask_12 : decode c_SA_sampleMask 12 = .ok (.aload_n 0, 1) := by decide +kernel
theorem dSA_sampleMask_13 : decode c_SA_sampleMask 13 = .ok (.getfield 16, 3) := by decide +kernel
theorem dSA_sampleMask_16 : decode c_SA_sampleMask 16 = .ok (.iconst 0, 1) := by decide +kernel
theorem dSA_sampleMask_17 : decode c_SA_sampleMask 17 = .ok (.bipush 32, 2) := by decide +kernel
theorem dSA_sampleMask_19 : decode c_SA_sampleMask 19 = .ok (.aload_n 1, 1) := by decide +kernel
theorem dSA_sampleMask_20 : decode c_SA_sampleMask 20 = .ok (.getfield 67, 3) := by decide +kernel
theorem dSA_sampleMask_23 : decode c_SA_sampleMask 23 = .ok (.imul, 1) := by decide +kernel
theorem dSA_sampleMask_24 : decode c_SA_sampleMask 24 = .ok (.invokevirtual 70, 3) := by decide +kernel
theorem dSA_sampleMask_27 : decode c_SA_sampleMask 27 = .ok (.aload_n 2, 1) := by decide +kernel
theorem dSA_sampleMask_28 : decode c_SA_sampleMask 28 = .ok (.aload_n 1, 1) := by decide +kernel
theorem dSA_sampleMask_29 : decode c_SA_sampleMask 29 = .ok (.getfield 67, 3) := by decide +kernel
theorem dSA_sampleMask_32 : decode c_SA_sampleMask 32 = .ok (.aload_n 0, 1) := by decide +kernel
theorem dSA_sampleMask_33 : decode c_SA_sampleMask 33 = .ok (.getfield 16, 3) := by decide +kernel
theorem dSA_sampleMask_36 : decode c_SA_sampleMask 36 = .ok (.iconst 0, 1) := by decide +kernel
theorem dSA_sampleMask_37 : decode c_SA_sampleMask 37 = .ok (.invokestatic 73, 3) := by decide +kernel
theorem dSA_sampleMask_40 : decode c_SA_sampleMask 40 = .ok (.return_, 1) := by decide +kernel
abbrev c_SA_sampleBall : ByteArray := prog_4_method_8_code
abbrev y_SA_sampleBall : MethodName := ⟨"LatticeKeys$DsaSampler", "sampleBall", "(LLatticeKeys$DsaSet;[I[B)V"⟩
abbrev w_SA_sampleBall : List Cond := Cond.code y_SA_sampleBall c_SA_sampleBall 9 none :: WG
theorem dSA_sampleBall_0 : decode c_SA_sampleBall 0 = .ok (.aload_n 0, 1) := by decide +kernel
theorem dSA_sampleBall_1 : decode c_SA_sampleBall 1 = .ok (.getfield 10, 3) := by decide +kernel
theorem dSA_sampleBall_4 : decode c_SA_sampleBall 4 = .ok (.iconst 3, 1) := by decide +kernel
theorem dSA_sampleBall_5 : decode c_SA_sampleBall 5 = .ok (.invokevirtual 33, 3) := by decide +kernel
theorem dSA_sampleBall_8 : decode c_SA_sampleBall 8 = .ok (.aload_n 0, 1) := by decide +kernel
theorem dSA_sampleBall_9 : decode c_SA_sampleBall 9 = .ok (.getfield 10, 3) := by decide +kernel
theorem dSA_sampleBall_12 : decode c_SA_sampleBall 12 = .ok (.aload_n 3, 1) := by decide +kernel
theorem dSA_sampleBall_13 : decode c_SA_sampleBall 13 = .ok (.iconst 0, 1) := by decide +kernel
theorem dSA_sampleBall_14 : decode c_SA_sampleBall 14 = .ok (.aload_n 1, 1) := by decide +kernel
theorem dSA_sampleBall_15 : decode c_SA_sampleBall 15 = .ok (.getfield 79, 3) := by decide +kernel
theorem dSA_sampleBall_18 : decode c_SA_sampleBall 18 = .ok (.invokevirtual 37, 3) := by decide +kernel
theorem dSA_sampleBall_21 : decode c_SA_sampleBall 21 = .ok (.aload_n 0, 1) := by decide +kernel
theorem dSA_sampleBall_22 : decode c_SA_sampleBall 22 = .ok (.getfield 10, 3) := by decide +kernel
theorem dSA_sampleBall_25 : decode c_SA_sampleBall 25 = .ok (.invokevirtual 44, 3) := by decide +kernel
theorem dSA_sampleBall_28 : decode c_SA_sampleBall 28 = .ok (.lconst 0, 1) := by decide +kernel
theorem dSA_sampleBall_29 : decode c_SA_sampleBall 29 = .ok (.lstore 4, 2) := by decide +kernel
theorem dSA_sampleBall_31 : decode c_SA_sampleBall 31 = .ok (.iconst 0, 1) := by decide +kernel
theorem dSA_sampleBall_32 : decode c_SA_sampleBall 32 = .ok (.istore 6, 2) := by decide +kernel
theorem dSA_sampleBall_34 : decode c_SA_sampleBall 34 = .ok (.iload 6, 2) := by decide +kernel
theorem dSA_sampleBall_36 : decode c_SA_sampleBall 36 = .ok (.bipush 8, 2) := by decide +kernel
theorem dSA_sampleBall_38 : decode c_SA_sampleBall 38 = .ok (.if_icmp .ge 28, 3) := by decide +kernel
theorem dSA_sampleBall_41 : decode c_SA_sampleBall 41 = .ok (.lload 4, 2) := by decide +kernel
theorem dSA_sampleBall_43 : decode c_SA_sampleBall 43 = .ok (.aload_n 0, 1) := by decide +kernel
theorem dSA_sampleBall_44 : decode c_SA_sampleBall 44 = .ok (.getfield 10, 3) := by decide +kernel
theorem dSA_sampleBall_47 : decode c_SA_sampleBall 47 = .ok (.invokevirtual 50, 3) := by decide +kernel
theorem dSA_sampleBall_50 : decode c_SA_sampleBall 50 = .ok (.i2l, 1) := by decide +kernel
theorem dSA_sampleBall_51 : decode c_SA_sampleBall 51 = .ok (.bipush 8, 2) := by decide +kernel
theorem dSA_sampleBall_53 : decode c_SA_sampleBall 53 = .ok (.iload 6, 2) := by decide +kernel
theorem dSA_sampleBall_55 : decode c_SA_sampleBall 55 = .ok (.imul, 1) := by decide +kernel
theorem dSA_sampleBall_56 : decode c_SA_sampleBall 56 = .ok (.lshl, 1) := by decide +kernel
theorem dSA_sampleBall_57 : decode c_SA_sampleBall 57 = .ok (.lor, 1) := by decide +kernel
theorem dSA_sampleBall_58 : decode c_SA_sampleBall 58 = .ok (.lstore 4, 2) := by decide +kernel
theorem dSA_sampleBall_60 : decode c_SA_sampleBall 60 = .ok (.iinc 6 1, 3) := by decide +kernel
theorem dSA_sampleBall_63 : decode c_SA_sampleBall 63 = .ok (.goto (-29), 3) := by decide +kernel
theorem dSA_sampleBall_66 : decode c_SA_sampleBall 66 = .ok (.aload_n 2, 1) := by decide +kernel
theorem dSA_sampleBall_67 : decode c_SA_sampleBall 67 = .ok (.iconst 0, 1) := by decide +kernel
theorem dSA_sampleBall_68 : decode c_SA_sampleBall 68 = .ok (.invokestatic 82, 3) := by decide +kernel
theorem dSA_sampleBall_71 : decode c_SA_sampleBall 71 = .ok (.sipush 256, 3) := by decide +kernel
theorem dSA_sampleBall_74 : decode c_SA_sampleBall 74 = .ok (.aload_n 1, 1) := by decide +kernel
theorem dSA_sampleBall_75 : decode c_SA_sampleBall 75 = .ok (.getfield 88, 3) := by decide +kernel
theorem dSA_sampleBall_78 : decode c_SA_sampleBall 78 = .ok (.isub, 1) := by decide +kernel
theorem dSA_sampleBall_79 : decode c_SA_sampleBall 79 = .ok (.istore 6, 2) := by decide +kernel
theorem dSA_sampleBall_81 : decode c_SA_sampleBall 81 = .ok (.iload 6, 2) := by decide +kernel
theorem dSA_sampleBall_83 : decode c_SA_sampleBall 83 = .ok (.sipush 256, 3) := by decide +kernel
theorem dSA_sampleBall_86 : decode c_SA_sampleBall 86 = .ok (.if_icmp .ge 83, 3) := by decide +kernel
theorem dSA_sampleBall_89 : decode c_SA_sampleBall 89 = .ok (.aload_n 0, 1) := by decide +kernel
theorem dSA_sampleBall_90 : decode c_SA_sampleBall 90 = .ok (.getfield 10, 3) := by decide +kernel
theorem dSA_sampleBall_93 : decode c_SA_sampleBall 93 = .ok (.invokevirtual 50, 3) := by decide +kernel
theorem dSA_sampleBall_96 : decode c_SA_sampleBall 96 = .ok (.istore 7, 2) := by decide +kernel
theorem dSA_sampleBall_98 : decode c_SA_sampleBall 98 = .ok (.iconst 0, 1) := by decide +kernel
theorem dSA_sampleBall_99 : decode c_SA_sampleBall 99 = .ok (.istore 8, 2) := by decide +kernel
theorem dSA_sampleBall_101 : decode c_SA_sampleBall 101 = .ok (.iload 7, 2) := by decide +kernel
theorem dSA_sampleBall_103 : decode c_SA_sampleBall 103 = .ok (.iload 6, 2) := by decide +kernel
theorem dSA_sampleBall_105 : decode c_SA_sampleBall 105 = .ok (.if_icmp .le 25, 3) := by decide +kernel
theorem dSA_sampleBall_108 : decode c_SA_sampleBall 108 = .ok (.iload 8, 2) := by decide +kernel
theorem dSA_sampleBall_110 : decode c_SA_sampleBall 110 = .ok (.ldc 49, 2) := by decide +kernel
theorem dSA_sampleBall_112 : decode c_SA_sampleBall 112 = .ok (.if_icmp .ge 18, 3) := by decide +kernel
theorem dSA_sampleBall_115 : decode c_SA_sampleBall 115 = .ok (.aload_n 0, 1) := by decide +kernel
theorem dSA_sampleBall_116 : decode c_SA_sampleBall 116 = .ok (.getfield 10, 3) := by decide +kernel
theorem dSA_sampleBall_119 : decode c_SA_sampleBall 119 = .ok (.invokevirtual 50, 3) := by decide +kernel
theorem dSA_sampleBall_122 : decode c_SA_sampleBall 122 = .ok (.istore 7, 2) := by decide +kernel
theorem dSA_sampleBall_124 : decode c_SA_sampleBall 124 = .ok (.iinc 8 1, 3) := by decide +kernel
theorem dSA_sampleBall_127 : decode c_SA_sampleBall 127 = .ok (.goto (-26), 3) := by decide +kernel
theorem dSA_sampleBall_130 : decode c_SA_sampleBall 130 = .ok (.aload_n 2, 1) := by decide +kernel
theorem dSA_sampleBall_131 : decode c_SA_sampleBall 131 = .ok (.iload 6, 2) := by decide +kernel
theorem dSA_sampleBall_133 : decode c_SA_sampleBall 133 = .ok (.aload_n 2, 1) := by decide +kernel
theorem dSA_sampleBall_134 : decode c_SA_sampleBall 134 = .ok (.iload 7, 2) := by decide +kernel
theorem dSA_sampleBall_136 : decode c_SA_sampleBall 136 = .ok (.iaload, 1) := by decide +kernel
theorem dSA_sampleBall_137 : decode c_SA_sampleBall 137 = .ok (.iastore, 1) := by decide +kernel
theorem dSA_sampleBall_138 : decode c_SA_sampleBall 138 = .ok (.aload_n 2, 1) := by decide +kernel
theorem dSA_sampleBall_139 : decode c_SA_sampleBall 139 = .ok (.iload 7, 2) := by decide +kernel
theorem dSA_sampleBall_141 : decode c_SA_sampleBall 141 = .ok (.lload 4, 2) := by decide +kernel
theorem dSA_sampleBall_143 : decode c_SA_sampleBall 143 = .ok (.lconst 1, 1) := by decide +kernel
theorem dSA_sampleBall_144 : decode c_SA_sampleBall 144 = .ok (.land, 1) := by decide +kernel
theorem dSA_sampleBall_145 : decode c_SA_sampleBall 145 = .ok (.lconst 0, 1) := by decide +kernel
theorem dSA_sampleBall_146 : decode c_SA_sampleBall 146 = .ok (.lcmp, 1) := by decide +kernel
theorem dSA_sampleBall_147 : decode c_SA_sampleBall 147 = .ok (.ifCond .ne 7, 3) := by decide +kernel
theorem dSA_sampleBall_150 : decode c_SA_sampleBall 150 = .ok (.iconst 1, 1) := by decide +kernel
theorem dSA_sampleBall_151 : decode c_SA_sampleBall 151 = .ok (.goto 5, 3) := by decide +kernel
theorem dSA_sampleBall_154 : decode c_SA_sampleBall 154 = .ok (.ldc 91, 2) := by decide +kernel
theorem dSA_sampleBall_156 : decode c_SA_sampleBall 156 = .ok (.iastore, 1) := by decide +kernel
theorem dSA_sampleBall_157 : decode c_SA_sampleBall 157 = .ok (.lload 4, 2) := by decide +kernel
theorem dSA_sampleBall_159 : decode c_SA_sampleBall 159 = .ok (.iconst 1, 1) := by decide +kernel
theorem dSA_sampleBall_160 : decode c_SA_sampleBall 160 = .ok (.lushr, 1) := by decide +kernel
theorem dSA_sampleBall_161 : decode c_SA_sampleBall 161 = .ok (.lstore 4, 2) := by decide +kernel
theorem dSA_sampleBall_163 : decode c_SA_sampleBall 163 = .ok (.iinc 6 1, 3) := by decide +kernel
theorem dSA_sampleBall_166 : decode c_SA_sampleBall 166 = .ok (.goto (-85), 3) := by decide +kernel
theorem dSA_sampleBall_169 : decode c_SA_sampleBall 169 = .ok (.return_, 1) := by decide +kernel
def M_SA_startNumbered (k : Nat) : Prop := k = 18 ∨ (0 : Nat) = 1
noncomputable def F_SA_startNumbered (pb : Nat) (n : Nat) (at_ : Nat) (wh : Int32) (s : Sto) : Sto := bnd (F_SP_start_3 18 19 s) fun s21 => bnd (F_SP_absorb 18 19 pb n at_ 64 s21) fun s22 => bnd (F_SP_absorbByte 18 19 wh s22) fun s23 => bnd (F_SP_absorbByte 18 19 (wh >>> ((nI 8) &&& 31)) s23) fun s24 => bnd (F_SP_finish 18 19 s24) fun s25 => s25
set_option maxHeartbeats 400000 in
set_option maxRecDepth 100000 in
theorem N_SA_startNumbered (l : Launch) (g : Gd) (sz : Nat) (T : TyN) (s : Sto) (pl : va_W) (hO : okn g T s pl) (hU : inj T) (h0 b : Nat) (pb : Nat) (n : Nat) (at_ : Nat) (wh : Int32) (k_h0 : T h0 = some 37) (k_b : T b = some pb) (n_b : nsp pb = (1, n, [])) (h1 : at_ + 64 ≤ n) (h2 : n < 65536)  : Met l y_SA_startNumbered w_SA_startNumbered ({ frames := 3, cells := 0, slots := 0, locals := 100 } : Room) (va_Pc [.ref h0, .ref b, .int (nI at_), .int wh] (pr (en g) g.1 vcl sz ([] ++ pl))) (va_Qv (fun (u : (Sto) × va_W) => (u.1 = F_SA_startNumbered pb n at_ wh s ∧ frm (M_SA_startNumbered) s u.1 ∧ (∃ x : Nat, u.1.1 18 3 = nI x ∧ x = 136) ∧ (∃ x : Nat, u.1.1 18 1 = nI x ∧ x = 136) ∧ True) ∧ okn g T u.1 u.2) (po g.1 vcl (va_A ([] ++ pl) sz) (fun (u : (Sto) × va_W) => [] ++ u.2)) (va_A ([] ++ pl) sz)) 0 0 (va_A ([] ++ pl) sz) := by
  refine mc_entry (cc := c_SA_startNumbered) (maxL := 4) (ret := none) (by decide) rfl (Nat.le_of_ble_eq_true rfl) ?_
  intro p e s0 m args below meth c ls F hr hlk hnm hsz hP hD hE hA hl
  obtain ⟨hx, hb, hml, hown, hts⟩ := id F
  have hK := hE.1
  generalize va_A ([] ++ pl) sz = A at hD hE hA ⊢
  have hS : va_S A s0.heap s0.heap [] := va_S.rf
  have hl : lv_has ls 4 [(0, .ref h0), (1, .ref b), (2, .int (nI at_)), (3, .int wh)] := hl
  have hR : F_SA_startNumbered pb n at_ wh s = F_SA_startNumbered pb n at_ wh s := rfl
  have hF : frm (M_SA_startNumbered) s s := frm_rf
  refine lv_aload_n hx hb dSA_startNumbered_0 rfl (lv_at hl 0 rfl) ?_
  refine nw_get (C := "LatticeKeys$DsaSampler") (TT := T_SA) (N := 2) hx hb hts (wg_ft i_SA) hown hK hO k_h0 (kn := 37) (ci := 7) (fl := [(3, 18), (3, 38)]) rfl hP rfl 0 (by decide) (hts _ (wg_t kw_157)) (fun _ h9 => h9) (cd := (3, 18)) rfl dSA_startNumbered_1 (fun v21 hv21 => ?_)
  obtain ⟨r21, rfl, kr21⟩ := (show ∃ r : Nat, v21 = .ref r ∧ T r = some 18 from hv21)
  refine lv_iconst (v := nI 3) hx hb dSA_startNumbered_4 (by decide) ?_
  refine mp_v (cx := []) (wr := []) hP hD hS hA [] [] rfl rfl rfl (by decide) (va_runV (As := [.int (nI 3)]) (rest := []) F (N_SP_start_3 l g _ T s pl hO hU r21 18 19 kr21 rfl rfl) (cwV 1 hts (wg_app (wg_c kw_687 (wg_c kw_579 (wg_c kw_580 (wg_c kw_2 wg_n)))) kw_581) rfl rfl rfl (by decide +kernel) ⟨by decide, by decide⟩) (pn_W "LatticeKeys$Sponge" (en_ok g) (ci := 3) (kn := 18) (fl := [(3, 19), (0, 0), (0, 0), (0, 0)]) hK hO kr21 rfl hP hD hS hA hE [] rfl rfl rfl) rfl rfl hl.1 rfl (lv_room (Nat.le_of_ble_eq_true rfl)) dSA_startNumbered_5 ⟨by omega, by omega⟩) (fun  u21 H locs hu21 hP hD hS => ?_)
  obtain ⟨s21, pl⟩ := u21
  obtain ⟨⟨eq21, hFc21, ⟨x21, hx_21, hb_21⟩, ⟨x22, hx_22, hb_22⟩, -⟩, hO⟩ := hu21
  have hO : okn g T s21 pl := hO
  have hP : va_P g.1 vcl ([] ++ pl) _ := hP
  have hD : va_D _ ([] ++ pl) := hD
  have hFc21 : frm (M_SP_start_3 18) s s21 := hFc21
  have hb_21 : x21 = 0 := hb_21
  have hb_22 : x22 = 136 := hb_22
  replace hR := bnd_step hR eq21
  have hF := frm_tr hF hFc21 (fun k hk => by unfold M_SP_start_3 at hk; unfold M_SA_startNumbered; omega)
  refine W.widen (k := 0) (n := 0) (by omega) (by omega) ?_
  refine lv_aload_n hx hb dSA_startNumbered_8 rfl (lv_at hl 0 rfl) ?_
  refine nw_get (C := "LatticeKeys$DsaSampler") (TT := T_SA) (N := 2) hx hb hts (wg_ft i_SA) hown hK hO k_h0 (kn := 37) (ci := 7) (fl := [(3, 18), (3, 38)]) rfl hP rfl 0 (by decide) (hts _ (wg_t kw_157)) (fun _ h9 => h9) (cd := (3, 18)) rfl dSA_startNumbered_9 (fun v22 hv22 => ?_)
  obtain ⟨r22, rfl, kr22⟩ := (show ∃ r : Nat, v22 = .ref r ∧ T r = some 18 from hv22)
  refine lv_aload_n hx hb dSA_startNumbered_12 rfl (lv_at hl 1 rfl) ?_
  refine lv_iload_n hx hb dSA_startNumbered_13 rfl (lv_at hl 2 rfl) ?_
  refine lv_bipush (v := nI 64) hx hb dSA_startNumbered_14 (by decide) ?_
  refine mp_v (cx := []) (wr := []) hP hD hS hA [] [] rfl rfl rfl (by decide) (va_runV (As := [.ref b, .int (nI at_), .int (nI 64)]) (rest := []) F (N_SP_absorb l g _ T s21 pl hO hU r22 b 18 19 pb n at_ 64 x21 x22 kr22 rfl rfl k_b n_b hx_21 hx_22 (by omega) (by omega) (by omega) (by omega)) (cwV 3 hts (wg_app (wg_c kw_688 (wg_c kw_586 (wg_c kw_587 (wg_c kw_2 wg_n)))) kw_588) rfl rfl rfl (by decide +kernel) ⟨by decide, by decide⟩) (pn_W "LatticeKeys$Sponge" (en_ok g) (ci := 3) (kn := 18) (fl := [(3, 19), (0, 0), (0, 0), (0, 0)]) hK hO kr22 rfl hP hD hS hA hE [] rfl rfl rfl) rfl rfl hl.1 rfl (lv_room (Nat.le_of_ble_eq_true rfl)) dSA_startNumbered_16 ⟨by omega, by omega⟩) (fun  u22 H locs hu22 hP hD hS => ?_)
  obtain ⟨s22, pl⟩ := u22
  obtain ⟨⟨eq22, hFc22, ⟨x24, hx_24, hb_24⟩, ⟨x25, hx_25, hb_25⟩, -⟩, hO⟩ := hu22
  have hO : okn g T s22 pl := hO
  have hP : va_P g.1 vcl ([] ++ pl) _ := hP
  have hD : va_D _ ([] ++ pl) := hD
  have hFc22 : frm (M_SP_absorb 18) s21 s22 := hFc22
  have hb_24 : x24 < x22 := hb_24
  have hb_25 : x25 = x22 := hb_25
  replace hR := bnd_step hR eq22
  have hF := frm_tr hF hFc22 (fun k hk => by unfold M_SP_absorb at hk; unfold M_SA_startNumbered; omega)
  refine W.widen (k := 0) (n := 0) (by omega) (by omega) ?_
  refine lv_aload_n hx hb dSA_startNumbered_19 rfl (lv_at hl 0 rfl) ?_
  refine nw_get (C := "LatticeKeys$DsaSampler") (TT := T_SA) (N := 2) hx hb hts (wg_ft i_SA) hown hK hO k_h0 (kn := 37) (ci := 7) (fl := [(3, 18), (3, 38)]) rfl hP rfl 0 (by decide) (hts _ (wg_t kw_157)) (fun _ h9 => h9) (cd := (3, 18)) rfl dSA_startNumbered_20 (fun v23 hv23 => ?_)
  obtain ⟨r23, rfl, kr23⟩ := (show ∃ r : Nat, v23 = .ref r ∧ T r = some 18 from hv23)
  refine lv_iload_n hx hb dSA_startNumbered_23 rfl (lv_at hl 3 rfl) ?_
  refine mp_v (cx := []) (wr := []) hP hD hS hA [] [] rfl rfl rfl (by decide) (va_runV (As := [.int wh]) (rest := []) F (N_SP_absorbByte l g _ T s22 pl hO hU r23 18 19 wh x24 x25 kr23 rfl rfl hx_24 hx_25 (by omega) (by omega)) (cwV 1 hts (wg_app (wg_c kw_689 (wg_c kw_590 (wg_c kw_591 (wg_c kw_2 wg_n)))) kw_592) rfl rfl rfl (by decide +kernel) ⟨by decide, by decide⟩) (pn_W "LatticeKeys$Sponge" (en_ok g) (ci := 3) (kn := 18) (fl := [(3, 19), (0, 0), (0, 0), (0, 0)]) hK hO kr23 rfl hP hD hS hA hE [] rfl rfl rfl) rfl rfl hl.1 rfl (lv_room (Nat.le_of_ble_eq_true rfl)) dSA_startNumbered_24 ⟨by omega, by omega⟩) (fun  u23 H locs hu23 hP hD hS => ?_)
  obtain ⟨s23, pl⟩ := u23
  obtain ⟨⟨eq23, hFc23, ⟨x27, hx_27, hb_27⟩, ⟨x28, hx_28, hb_28⟩, -⟩, hO⟩ := hu23
  have hO : okn g T s23 pl := hO
  have hP : va_P g.1 vcl ([] ++ pl) _ := hP
  have hD : va_D _ ([] ++ pl) := hD
  have hFc23 : frm (M_SP_absorbByte 18) s22 s23 := hFc23
  have hb_27 : x27 < x25 := hb_27
  have hb_28 : x28 = x25 := hb_28
  replace hR := bnd_step hR eq23
  have hF := frm_tr hF hFc23 (fun k hk => by unfold M_SP_absorbByte at hk; unfold M_SA_startNumbered; omega)
  refine W.widen (k := 0) (n := 0) (by omega) (by omega) ?_
  refine lv_aload_n hx hb dSA_startNumbered_27 rfl (lv_at hl 0 rfl) ?_
  refine nw_get (C := "LatticeKeys$DsaSampler") (TT := T_SA) (N := 2) hx hb hts (wg_ft i_SA) hown hK hO k_h0 (kn := 37) (ci := 7) (fl := [(3, 18), (3, 38)]) rfl hP rfl 0 (by decide) (hts _ (wg_t kw_157)) (fun _ h9 => h9) (cd := (3, 18)) rfl dSA_startNumbered_28 (fun v24 hv24 => ?_)
  obtain ⟨r24, rfl, kr24⟩ := (show ∃ r : Nat, v24 = .ref r ∧ T r = some 18 from hv24)
  refine lv_iload_n hx hb dSA_startNumbered_31 rfl (lv_at hl 3 rfl) ?_
  refine lv_bipush (v := nI 8) hx hb dSA_startNumbered_32 (by decide) ?_
  refine lv_ishr hx hb dSA_startNumbered_34 ?_
  refine mp_v (cx := []) (wr := []) hP hD hS hA [] [] rfl rfl rfl (by decide) (va_runV (As := [.int ((wh >>> ((nI 8) &&& 31)))]) (rest := []) F (N_SP_absorbByte l g _ T s23 pl hO hU r24 18 19 (wh >>> ((nI 8) &&& 31)) x27 x28 kr24 rfl rfl hx_27 hx_28 (by omega) (by omega)) (cwV 1 hts (wg_app (wg_c kw_689 (wg_c kw_590 (wg_c kw_591 (wg_c kw_2 wg_n)))) kw_592) rfl rfl rfl (by decide +kernel) ⟨by decide, by decide⟩) (pn_W "LatticeKeys$Sponge" (en_ok g) (ci := 3) (kn := 18) (fl := [(3, 19), (0, 0), (0, 0), (0, 0)]) hK hO kr24 rfl hP hD hS hA hE [] rfl rfl rfl) rfl rfl hl.1 rfl (lv_room (Nat.le_of_ble_eq_true rfl)) dSA_startNumbered_35 ⟨by omega, by omega⟩) (fun  u24 H locs hu24 hP hD hS => ?_)
  obtain ⟨s24, pl⟩ := u24
  obtain ⟨⟨eq24, hFc24, ⟨x30, hx_30, hb_30⟩, ⟨x31, hx_31, hb_31⟩, -⟩, hO⟩ := hu24
  have hO : okn g T s24 pl := hO
  have hP : va_P g.1 vcl ([] ++ pl) _ := hP
  have hD : va_D _ ([] ++ pl) := hD
  have hFc24 : frm (M_SP_absorbByte 18) s23 s24 := hFc24
  have hb_30 : x30 < x28 := hb_30
  have hb_31 : x31 = x28 := hb_31
  replace hR := bnd_step hR eq24
  have hF := frm_tr hF hFc24 (fun k hk => by unfold M_SP_absorbByte at hk; unfold M_SA_startNumbered; omega)
  refine W.widen (k := 0) (n := 0) (by omega) (by omega) ?_
  refine lv_aload_n hx hb dSA_startNumbered_38 rfl (lv_at hl 0 rfl) ?_
  refine nw_get (C := "LatticeKeys$DsaSampler") (TT := T_SA) (N := 2) hx hb hts (wg_ft i_SA) hown hK hO k_h0 (kn := 37) (ci := 7) (fl := [(3, 18), (3, 38)]) rfl hP rfl 0 (by decide) (hts _ (wg_t kw_157)) (fun _ h9 => h9) (cd := (3, 18)) rfl dSA_startNumbered_39 (fun v25 hv25 => ?_)
  obtain ⟨r25, rfl, kr25⟩ := (show ∃ r : Nat, v25 = .ref r ∧ T r = some 18 from hv25)
  refine mp_v (cx := []) (wr := []) hP hD hS hA [] [] rfl rfl rfl (by decide) (va_runV (As := []) (rest := []) F (N_SP_finish l g _ T s24 pl hO hU r25 18 19 x30 x31 kr25 rfl rfl hx_30 hx_31 (by omega) (by omega)) (cwV 0 hts (wg_app (wg_c kw_690 (wg_c kw_611 (wg_c kw_612 (wg_c kw_2 wg_n)))) kw_613) rfl rfl rfl (by decide +kernel) ⟨by decide, by decide⟩) (pn_W "LatticeKeys$Sponge" (en_ok g) (ci := 3) (kn := 18) (fl := [(3, 19), (0, 0), (0, 0), (0, 0)]) hK hO kr25 rfl hP hD hS hA hE [] rfl rfl rfl) rfl rfl hl.1 rfl (lv_room (Nat.le_of_ble_eq_true rfl)) dSA_startNumbered_42 ⟨by omega, by omega⟩) (fun  u25 H locs hu25 hP hD hS => ?_)
  obtain ⟨s25, pl⟩ := u25
  obtain ⟨⟨eq25, hFc25, ⟨x33, hx_33, hb_33⟩, ⟨x34, hx_34, hb_34⟩, -⟩, hO⟩ := hu25
  have hO : okn g T s25 pl := hO
  have hP : va_P g.1 vcl ([] ++ pl) _ := hP
  have hD : va_D _ ([] ++ pl) := hD
  have hFc25 : frm (M_SP_finish 18) s24 s25 := hFc25
  have hb_33 : x33 = x31 := hb_33
  have hb_34 : x34 = x31 := hb_34
  replace hR := bnd_step hR eq25
  have hF := frm_tr hF hFc25 (fun k hk => by unfold M_SP_finish at hk; unfold M_SA_startNumbered; omega)
  refine W.widen (k := 0) (n := 0) (by omega) (by omega) ?_
  exact mp_vret hx hb hr hlk hP hD hS (s25, pl) ⟨⟨hR.symm, hF, ⟨x33, hx_33, by omega⟩, ⟨x34, hx_34, by omega⟩, trivial⟩, hO⟩ [] rfl rfl rfl (by omega) (by omega) dSA_startNumbered_45
def M_SA_sampleEntry (pf : Nat) (k : Nat) : Prop := k = 18 ∨ k = pf ∨ (0 : Nat) = 1
noncomputable def F_SA_sampleEntry_L0 (pf : Nat) : Nat → Nat → Nat → Sto → Sto
  | 0, i21, fl21, s26 => if 256 ≤ fl21 then s26 else s26
  | n21 + 1, i21, fl21, s26 => if 256 ≤ fl21 then s26 else bnd (F_SP_nextByte 18 19 s26) fun q21 => bnd (q21.1.toNatClampNeg) fun z21 => bnd (F_SP_nextByte 18 19 q21.2) fun q22 => bnd (q22.1.toNatClampNeg) fun z22 => bnd (((nI z21) ||| ((nI z22) <<< ((nI 8) &&& 31)))) fun z23 => bnd (F_SP_nextByte 18 19 q22.2) fun q23 => bnd (q23.1.toNatClampNeg) fun z24 => bnd ((z23 ||| (((nI z24) &&& (nI 127)) <<< ((nI 16) &&& 31)))) fun z25 => if (nI 8380417) ≤ z25 then F_SA_sampleEntry_L0 pf n21 (i21 + 1) fl21 q23.2 else bnd (sI q23.2 pf fl21 z25) fun s27 => F_SA_sampleEntry_L0 pf n21 (i21 + 1) (fl21 + 1) s27
noncomputable def F_SA_sampleEntry (pf : Nat) (pb : Nat) (n : Nat) (v1 : Int32) (v2 : Int32) (s : Sto) : Sto := bnd (F_SP_start_2 18 19 s) fun s21 => bnd (F_SP_absorb 18 19 pb n 0 32 s21) fun s22 => bnd (F_SP_absorbByte 18 19 v1 s22) fun s23 => bnd (F_SP_absorbByte 18 19 v2 s23) fun s24 => bnd (F_SP_finish 18 19 s24) fun s25 => F_SA_sampleEntry_L0 pf 1000000 0 0 s25
set_option maxHeartbeats 400000 in
set_option maxRecDepth 100000 in
theorem N_SA_sampleEntry (l : Launch) (g : Gd) (sz : Nat) (T : TyN) (s : Sto) (pl : va_W) (hO : okn g T s pl) (hU : inj T) (h0 f b : Nat) (pf : Nat) (pb : Nat) (n : Nat) (v1 : Int32) (v2 : Int32) (k_h0 : T h0 = some 37) (k_f : T f = some pf) (n_f : nsp pf = (0, 256, [])) (k_b : T b = some pb) (n_b : nsp pb = (1, n, [])) (h1 : 32 ≤ n) (h2 : n < 65536)  : Met l y_SA_sampleEntry w_SA_sampleEntry ({ frames := 3, cells := 0, slots := 0, locals := 100 } : Room) (va_Pc [.ref h0, .ref f, .ref b, .int v1, .int v2] (pr (en g) g.1 vcl sz ([] ++ pl))) (va_Qv (fun (u : (Sto) × va_W) => (u.1 = F_SA_sampleEntry pf pb n v1 v2 s ∧ frm (M_SA_sampleEntry pf) s u.1 ∧ True) ∧ okn g T u.1 u.2) (po g.1 vcl (va_A ([] ++ pl) sz) (fun (u : (Sto) × va_W) => [] ++ u.2)) (va_A ([] ++ pl) sz)) 0 0 (va_A ([] ++ pl) sz) := by
  refine mc_entry (cc := c_SA_sampleEntry) (maxL := 8) (ret := none) (by decide) rfl (Nat.le_of_ble_eq_true rfl) ?_
  intro p e s0 m args below meth c ls F hr hlk hnm hsz hP hD hE hA hl
  obtain ⟨hx, hb, hml, hown, hts⟩ := id F
  have hK := hE.1
  generalize va_A ([] ++ pl) sz = A at hD hE hA ⊢
  have hS : va_S A s0.heap s0.heap [] := va_S.rf
  have hl : lv_has ls 8 [(0, .ref h0), (1, .ref f), (2, .ref b), (3, .int v1), (4, .int v2)] := hl
  have hR : F_SA_sampleEntry pf pb n v1 v2 s = F_SA_sampleEntry pf pb n v1 v2 s := rfl
  have hF : frm (M_SA_sampleEntry pf) s s := frm_rf
  have ne_18_pf : 18 ≠ pf := nsp_ne (p := 18) rfl n_f (show (5 : Nat) ≠ 0 by decide)
  have ne_18_pb : 18 ≠ pb := nsp_ne (p := 18) rfl n_b (show (5 : Nat) ≠ 1 by decide)
  refine lv_aload_n hx hb dSA_sampleEntry_0 rfl (lv_at hl 0 rfl) ?_
  refine nw_get (C := "LatticeKeys$DsaSampler") (TT := T_SA) (N := 2) hx hb hts (wg_ft i_SA) hown hK hO k_h0 (kn := 37) (ci := 7) (fl := [(3, 18), (3, 38)]) rfl hP rfl 0 (by decide) (hts _ (wg_t kw_157)) (fun _ h9 => h9) (cd := (3, 18)) rfl dSA_sampleEntry_1 (fun v21 hv21 => ?_)
  obtain ⟨r21, rfl, kr21⟩ := (show ∃ r : Nat, v21 = .ref r ∧ T r = some 18 from hv21)
  refine lv_iconst (v := nI 2) hx hb dSA_sampleEntry_4 (by decide) ?_
  refine mp_v (cx := []) (wr := []) hP hD hS hA [] [] rfl rfl rfl (by decide) (va_runV (As := [.int (nI 2)]) (rest := []) F (N_SP_start_2 l g _ T s pl hO hU r21 18 19 kr21 rfl rfl) (cwV 1 hts (wg_app (wg_c kw_687 (wg_c kw_579 (wg_c kw_580 (wg_c kw_2 wg_n)))) kw_581) rfl rfl rfl (by decide +kernel) ⟨by decide, by decide⟩) (pn_W "LatticeKeys$Sponge" (en_ok g) (ci := 3) (kn := 18) (fl := [(3, 19), (0, 0), (0, 0), (0, 0)]) hK hO kr21 rfl hP hD hS hA hE [] rfl rfl rfl) rfl rfl hl.1 rfl (lv_room (Nat.le_of_ble_eq_true rfl)) dSA_sampleEntry_5 ⟨by omega, by omega⟩) (fun  u21 H locs hu21 hP hD hS => ?_)
  obtain ⟨s21, pl⟩ := u21
  obtain ⟨⟨eq21, hFc21, ⟨x21, hx_21, hb_21⟩, ⟨x22, hx_22, hb_22⟩, -⟩, hO⟩ := hu21
  have hO : okn g T s21 pl := hO
  have hP : va_P g.1 vcl ([] ++ pl) _ := hP
  have hD : va_D _ ([] ++ pl) := hD
  have hFc21 : frm (M_SP_start_2 18) s s21 := hFc21
  have hb_21 : x21 = 0 := hb_21
  have hb_22 : x22 = 168 := hb_22
  replace hR := bnd_step hR eq21
  have hF := frm_tr hF hFc21 (fun k hk => by unfold M_SP_start_2 at hk; unfold M_SA_sampleEntry; omega)
  refine W.widen (k := 0) (n := 0) (by omega) (by omega) ?_
  refine lv_aload_n hx hb dSA_sampleEntry_8 rfl (lv_at hl 0 rfl) ?_
  refine nw_get (C := "LatticeKeys$DsaSampler") (TT := T_SA) (N := 2) hx hb hts (wg_ft i_SA) hown hK hO k_h0 (kn := 37) (ci := 7) (fl := [(3, 18), (3, 38)]) rfl hP rfl 0 (by decide) (hts _ (wg_t kw_157)) (fun _ h9 => h9) (cd := (3, 18)) rfl dSA_sampleEntry_9 (fun v22 hv22 => ?_)
  obtain ⟨r22, rfl, kr22⟩ := (show ∃ r : Nat, v22 = .ref r ∧ T r = some 18 from hv22)
  refine lv_aload_n hx hb dSA_sampleEntry_12 rfl (lv_at hl 2 rfl) ?_
  refine lv_iconst (v := nI 0) hx hb dSA_sampleEntry_13 (by decide) ?_
  refine lv_bipush (v := nI 32) hx hb dSA_sampleEntry_14 (by decide) ?_
  refine mp_v (cx := []) (wr := []) hP hD hS hA [] [] rfl rfl rfl (by decide) (va_runV (As := [.ref b, .int (nI 0), .int (nI 32)]) (rest := []) F (N_SP_absorb l g _ T s21 pl hO hU r22 b 18 19 pb n 0 32 x21 x22 kr22 rfl rfl k_b n_b hx_21 hx_22 (by omega) (by omega) (by omega) (by omega)) (cwV 3 hts (wg_app (wg_c kw_688 (wg_c kw_586 (wg_c kw_587 (wg_c kw_2 wg_n)))) kw_588) rfl rfl rfl (by decide +kernel) ⟨by decide, by decide⟩) (pn_W "LatticeKeys$Sponge" (en_ok g) (ci := 3) (kn := 18) (fl := [(3, 19), (0, 0), (0, 0), (0, 0)]) hK hO kr22 rfl hP hD hS hA hE [] rfl rfl rfl) rfl rfl hl.1 rfl (lv_room (Nat.le_of_ble_eq_true rfl)) dSA_sampleEntry_16 ⟨by omega, by omega⟩) (fun  u22 H locs hu22 hP hD hS => ?_)
  obtain ⟨s22, pl⟩ := u22
  obtain ⟨⟨eq22, hFc22, ⟨x24, hx_24, hb_24⟩, ⟨x25, hx_25, hb_25⟩, -⟩, hO⟩ := hu22
  have hO : okn g T s22 pl := hO
  have hP : va_P g.1 vcl ([] ++ pl) _ := hP
  have hD : va_D _ ([] ++ pl) := hD
  have hFc22 : frm (M_SP_absorb 18) s21 s22 := hFc22
  have hb_24 : x24 < x22 := hb_24
  have hb_25 : x25 = x22 := hb_25
  replace hR := bnd_step hR eq22
  have hF := frm_tr hF hFc22 (fun k hk => by unfold M_SP_absorb at hk; unfold M_SA_sampleEntry; omega)
  refine W.widen (k := 0) (n := 0) (by omega) (by omega) ?_
  refine lv_aload_n hx hb dSA_sampleEntry_19 rfl (lv_at hl 0 rfl) ?_
  refine nw_get (C := "LatticeKeys$DsaSampler") (TT := T_SA) (N := 2) hx hb hts (wg_ft i_SA) hown hK hO k_h0 (kn := 37) (ci := 7) (fl := [(3, 18), (3, 38)]) rfl hP rfl 0 (by decide) (hts _ (wg_t kw_157)) (fun _ h9 => h9) (cd := (3, 18)) rfl dSA_sampleEntry_20 (fun v23 hv23 => ?_)
  obtain ⟨r23, rfl, kr23⟩ := (show ∃ r : Nat, v23 = .ref r ∧ T r = some 18 from hv23)
  refine lv_iload_n hx hb dSA_sampleEntry_23 rfl (lv_at hl 3 rfl) ?_
  refine mp_v (cx := []) (wr := []) hP hD hS hA [] [] rfl rfl rfl (by decide) (va_runV (As := [.int v1]) (rest := []) F (N_SP_absorbByte l g _ T s22 pl hO hU r23 18 19 v1 x24 x25 kr23 rfl rfl hx_24 hx_25 (by omega) (by omega)) (cwV 1 hts (wg_app (wg_c kw_689 (wg_c kw_590 (wg_c kw_591 (wg_c kw_2 wg_n)))) kw_592) rfl rfl rfl (by decide +kernel) ⟨by decide, by decide⟩) (pn_W "LatticeKeys$Sponge" (en_ok g) (ci := 3) (kn := 18) (fl := [(3, 19), (0, 0), (0, 0), (0, 0)]) hK hO kr23 rfl hP hD hS hA hE [] rfl rfl rfl) rfl rfl hl.1 rfl (lv_room (Nat.le_of_ble_eq_true rfl)) dSA_sampleEntry_24 ⟨by omega, by omega⟩) (fun  u23 H locs hu23 hP hD hS => ?_)
  obtain ⟨s23, pl⟩ := u23
  obtain ⟨⟨eq23, hFc23, ⟨x27, hx_27, hb_27⟩, ⟨x28, hx_28, hb_28⟩, -⟩, hO⟩ := hu23
  have hO : okn g T s23 pl := hO
  have hP : va_P g.1 vcl ([] ++ pl) _ := hP
  have hD : va_D _ ([] ++ pl) := hD
  have hFc23 : frm (M_SP_absorbByte 18) s22 s23 := hFc23
  have hb_27 : x27 < x25 := hb_27
  have hb_28 : x28 = x25 := hb_28
  replace hR := bnd_step hR eq23
  have hF := frm_tr hF hFc23 (fun k hk => by unfold M_SP_absorbByte at hk; unfold M_SA_sampleEntry; omega)
  refine W.widen (k := 0) (n := 0) (by omega) (by omega) ?_
  refine lv_aload_n hx hb dSA_sampleEntry_27 rfl (lv_at hl 0 rfl) ?_
  refine nw_get (C := "LatticeKeys$DsaSampler") (TT := T_SA) (N := 2) hx hb hts (wg_ft i_SA) hown hK hO k_h0 (kn := 37) (ci := 7) (fl := [(3, 18), (3, 38)]) rfl hP rfl 0 (by decide) (hts _ (wg_t kw_157)) (fun _ h9 => h9) (cd := (3, 18)) rfl dSA_sampleEntry_28 (fun v24 hv24 => ?_)
  obtain ⟨r24, rfl, kr24⟩ := (show ∃ r : Nat, v24 = .ref r ∧ T r = some 18 from hv24)
  refine lv_iload hx hb dSA_sampleEntry_31 (lv_at hl 4 rfl) ?_
  refine mp_v (cx := []) (wr := []) hP hD hS hA [] [] rfl rfl rfl (by decide) (va_runV (As := [.int v2]) (rest := []) F (N_SP_absorbByte l g _ T s23 pl hO hU r24 18 19 v2 x27 x28 kr24 rfl rfl hx_27 hx_28 (by omega) (by omega)) (cwV 1 hts (wg_app (wg_c kw_689 (wg_c kw_590 (wg_c kw_591 (wg_c kw_2 wg_n)))) kw_592) rfl rfl rfl (by decide +kernel) ⟨by decide, by decide⟩) (pn_W "LatticeKeys$Sponge" (en_ok g) (ci := 3) (kn := 18) (fl := [(3, 19), (0, 0), (0, 0), (0, 0)]) hK hO kr24 rfl hP hD hS hA hE [] rfl rfl rfl) rfl rfl hl.1 rfl (lv_room (Nat.le_of_ble_eq_true rfl)) dSA_sampleEntry_33 ⟨by omega, by omega⟩) (fun  u24 H locs hu24 hP hD hS => ?_)
  obtain ⟨s24, pl⟩ := u24
  obtain ⟨⟨eq24, hFc24, ⟨x30, hx_30, hb_30⟩, ⟨x31, hx_31, hb_31⟩, -⟩, hO⟩ := hu24
  have hO : okn g T s24 pl := hO
  have hP : va_P g.1 vcl ([] ++ pl) _ := hP
  have hD : va_D _ ([] ++ pl) := hD
  have hFc24 : frm (M_SP_absorbByte 18) s23 s24 := hFc24
  have hb_30 : x30 < x28 := hb_30
  have hb_31 : x31 = x28 := hb_31
  replace hR := bnd_step hR eq24
  have hF := frm_tr hF hFc24 (fun k hk => by unfold M_SP_absorbByte at hk; unfold M_SA_sampleEntry; omega)
  refine W.widen (k := 0) (n := 0) (by omega) (by omega) ?_
  refine lv_aload_n hx hb dSA_sampleEntry_36 rfl (lv_at hl 0 rfl) ?_
  refine nw_get (C := "LatticeKeys$DsaSampler") (TT := T_SA) (N := 2) hx hb hts (wg_ft i_SA) hown hK hO k_h0 (kn := 37) (ci := 7) (fl := [(3, 18), (3, 38)]) rfl hP rfl 0 (by decide) (hts _ (wg_t kw_157)) (fun _ h9 => h9) (cd := (3, 18)) rfl dSA_sampleEntry_37 (fun v25 hv25 => ?_)
  obtain ⟨r25, rfl, kr25⟩ := (show ∃ r : Nat, v25 = .ref r ∧ T r = some 18 from hv25)
  refine mp_v (cx := []) (wr := []) hP hD hS hA [] [] rfl rfl rfl (by decide) (va_runV (As := []) (rest := []) F (N_SP_finish l g _ T s24 pl hO hU r25 18 19 x30 x31 kr25 rfl rfl hx_30 hx_31 (by omega) (by omega)) (cwV 0 hts (wg_app (wg_c kw_690 (wg_c kw_611 (wg_c kw_612 (wg_c kw_2 wg_n)))) kw_613) rfl rfl rfl (by decide +kernel) ⟨by decide, by decide⟩) (pn_W "LatticeKeys$Sponge" (en_ok g) (ci := 3) (kn := 18) (fl := [(3, 19), (0, 0), (0, 0), (0, 0)]) hK hO kr25 rfl hP hD hS hA hE [] rfl rfl rfl) rfl rfl hl.1 rfl (lv_room (Nat.le_of_ble_eq_true rfl)) dSA_sampleEntry_40 ⟨by omega, by omega⟩) (fun  u25 H locs hu25 hP hD hS => ?_)
  obtain ⟨s25, pl⟩ := u25
  obtain ⟨⟨eq25, hFc25, ⟨x33, hx_33, hb_33⟩, ⟨x34, hx_34, hb_34⟩, -⟩, hO⟩ := hu25
  have hO : okn g T s25 pl := hO
  have hP : va_P g.1 vcl ([] ++ pl) _ := hP
  have hD : va_D _ ([] ++ pl) := hD
  have hFc25 : frm (M_SP_finish 18) s24 s25 := hFc25
  have hb_33 : x33 = x31 := hb_33
  have hb_34 : x34 = x31 := hb_34
  replace hR := bnd_step hR eq25
  have hF := frm_tr hF hFc25 (fun k hk => by unfold M_SP_finish at hk; unfold M_SA_sampleEntry; omega)
  refine W.widen (k := 0) (n := 0) (by omega) (by omega) ?_
  refine lv_iconst (v := nI 0) hx hb dSA_sampleEntry_43 (by decide) ?_
  refine lv_istore (lv' := [(5, .int (nI 0)), (0, .ref h0), (1, .ref f), (2, .ref b), (3, .int v1), (4, .int v2)]) hx hb dSA_sampleEntry_44 hl (by decide) rfl (fun ls hl => ?_)
  refine lv_iconst (v := nI 0) hx hb dSA_sampleEntry_46 (by decide) ?_
  refine lv_istore (lv' := [(6, .int (nI 0)), (5, .int (nI 0)), (0, .ref h0), (1, .ref f), (2, .ref b), (3, .int v1), (4, .int v2)]) hx hb dSA_sampleEntry_47 hl (by decide) rfl (fun ls hl => ?_)
  have lp21 : ∀ (n21 : Nat) (i21 : Nat) (fl21 : Nat) (s26 : Sto) (ps21 : Nat) (pl : va_W) (ls : Array Slot) (H : Heap) (locs : List Loc), n21 + i21 = 1000000 → (fl21 ≤ 256) → (ps21 ≤ 168) → frm (M_SA_sampleEntry pf) s s26 → s26.1 18 3 = nI ps21 → s26.1 18 1 = nI x34 → F_SA_sampleEntry pf pb n v1 v2 s = F_SA_sampleEntry_L0 pf n21 i21 fl21 s26 → lv_has ls 8 [(6, .int (nI i21)), (5, .int (nI fl21)), (0, .ref h0), (1, .ref f)] → okn g T s26 pl → va_P g.1 vcl ([] ++ pl) H → va_D A ([] ++ pl) → va_S A s0.heap H locs → W p l e ({ frames := 3, cells := 0, slots := 0, locals := 100 } : Room) s0 m args below meth c H locs 0 0 (MQ below (va_Qv (fun (u : (Sto) × va_W) => (u.1 = F_SA_sampleEntry pf pb n v1 v2 s ∧ frm (M_SA_sampleEntry pf) s u.1 ∧ True) ∧ okn g T u.1 u.2) (po g.1 vcl A (fun (u : (Sto) × va_W) => [] ++ u.2)) A) args s0 0 0 A) (F0 m 49 ls []) := by
    intro n21
    induction n21 with
    | zero =>
      intro i21 fl21 s26 ps21 pl ls H locs hm21 hi21 hi22 hF hf21 hf22 hR hl hO hP hD hS
      refine lv_iload hx hb dSA_sampleEntry_49 (lv_at hl 1 rfl) ?_
      refine lv_sipush (v := nI 256) hx hb dSA_sampleEntry_51 (by decide) ?_
      refine mi_ge (tgt := 128) hx hb dSA_sampleEntry_54 (by decide) (by omega) (by omega) (fun h21 => ?_) (fun h21 => ?_)
      · replace hR := hR.trans (if_pos h21)
        exact mp_vret hx hb hr hlk hP hD hS (s26, pl) ⟨⟨hR.symm, hF, trivial⟩, hO⟩ [] rfl rfl rfl (by omega) (by omega) dSA_sampleEntry_128
      · replace hR := hR.trans (if_neg (Nat.not_le.mpr h21))
        refine lv_iload hx hb dSA_sampleEntry_57 (lv_at hl 0 rfl) ?_
        refine lv_ldc (v := 1000000) hx hb hown (hts _ (wg_t kw_691)) dSA_sampleEntry_59 ?_
        refine mi_as (show (1000000 : Int32) = nI 1000000 by decide) ?_
        refine mi_ge (tgt := 128) hx hb dSA_sampleEntry_61 (by decide) (by omega) (by omega) (fun h22 => ?_) (fun h22 => absurd h22 (by omega))
        exact mp_vret hx hb hr hlk hP hD hS (s26, pl) ⟨⟨hR.symm, hF, trivial⟩, hO⟩ [] rfl rfl rfl (by omega) (by omega) dSA_sampleEntry_128
    | succ n21 ih21 =>
      intro i21 fl21 s26 ps21 pl ls H locs hm21 hi21 hi22 hF hf23 hf24 hR hl hO hP hD hS
      refine lv_iload hx hb dSA_sampleEntry_49 (lv_at hl 1 rfl) ?_
      refine lv_sipush (v := nI 256) hx hb dSA_sampleEntry_51 (by decide) ?_
      refine mi_ge (tgt := 128) hx hb dSA_sampleEntry_54 (by decide) (by omega) (by omega) (fun h23 => ?_) (fun h23 => ?_)
      · replace hR := hR.trans (if_pos h23)
        exact mp_vret hx hb hr hlk hP hD hS (s26, pl) ⟨⟨hR.symm, hF, trivial⟩, hO⟩ [] rfl rfl rfl (by omega) (by omega) dSA_sampleEntry_128
      · replace hR := hR.trans (if_neg (Nat.not_le.mpr h23))
        refine lv_iload hx hb dSA_sampleEntry_57 (lv_at hl 0 rfl) ?_
        refine lv_ldc (v := 1000000) hx hb hown (hts _ (wg_t kw_691)) dSA_sampleEntry_59 ?_
        refine mi_as (show (1000000 : Int32) = nI 1000000 by decide) ?_
        refine mi_ge (tgt := 128) hx hb dSA_sampleEntry_61 (by decide) (by omega) (by omega) (fun h24 => absurd h24 (by omega)) (fun h24 => ?_)
        refine lv_aload_n hx hb dSA_sampleEntry_64 rfl (lv_at hl 2 rfl) ?_
        refine nw_get (C := "LatticeKeys$DsaSampler") (TT := T_SA) (N := 2) hx hb hts (wg_ft i_SA) hown hK hO k_h0 (kn := 37) (ci := 7) (fl := [(3, 18), (3, 38)]) rfl hP rfl 0 (by decide) (hts _ (wg_t kw_157)) (fun _ h9 => h9) (cd := (3, 18)) rfl dSA_sampleEntry_65 (fun v26 hv26 => ?_)
        obtain ⟨r26, rfl, kr26⟩ := (show ∃ r : Nat, v26 = .ref r ∧ T r = some 18 from hv26)
        refine mp_i (cx := []) (wr := []) hP hD hS hA [] [] rfl rfl rfl (by decide) (va_runV (As := []) (rest := []) F (N_SP_nextByte l g _ T s26 pl hO hU r26 18 19 ps21 x34 kr26 rfl rfl hf23 hf24 (by omega) (by omega)) (cwV 0 hts (wg_app (wg_c kw_692 (wg_c kw_619 (wg_c kw_620 (wg_c kw_2 wg_n)))) kw_621) rfl rfl rfl (by decide +kernel) ⟨by decide, by decide⟩) (pn_W "LatticeKeys$Sponge" (en_ok g) (ci := 3) (kn := 18) (fl := [(3, 19), (0, 0), (0, 0), (0, 0)]) hK hO kr26 rfl hP hD hS hA hE [] rfl rfl rfl) rfl rfl hl.1 rfl (lv_room (Nat.le_of_ble_eq_true rfl)) dSA_sampleEntry_68 ⟨by omega, by omega⟩) (fun r27 u26 H locs hu26 hP hD hS => ?_)
        obtain ⟨q21, pl⟩ := u26
        obtain ⟨⟨eq26, rfl, hFc26, ⟨x38, hx_38, hb_38⟩, ⟨x36, hx_36, hb_36⟩, ⟨x37, hx_37, hb_37⟩, -⟩, hO⟩ := hu26
        have hO : okn g T q21.2 pl := hO
        have hP : va_P g.1 vcl ([] ++ pl) _ := hP
        have hD : va_D _ ([] ++ pl) := hD
        have hFc26 : frm (M_SP_nextByte 18) s26 q21.2 := hFc26
        have hb_36 : x36 ≤ x34 := hb_36
        have hb_37 : x37 = x34 := hb_37
        have hb_38 : x38 < 256 := hb_38
        replace hR := bnd_step hR eq26
        have hF := frm_tr hF hFc26 (fun k hk => by unfold M_SP_nextByte at hk; unfold M_SA_sampleEntry; omega)
        obtain ⟨z21, ez21, hz21, hz22⟩ := cl_of (b := 2147483648) hx_38 (by omega) (by decide)
        replace hR := bnd_step hR ez21
        refine mi_as hz21 ?_
        refine W.widen (k := 0) (n := 0) (by omega) (by omega) ?_
        refine lv_istore (lv' := [(7, .int (nI z21)), (6, .int (nI i21)), (5, .int (nI fl21)), (0, .ref h0), (1, .ref f)]) hx hb dSA_sampleEntry_71 hl (by decide) rfl (fun ls hl => ?_)
        refine lv_iload hx hb dSA_sampleEntry_73 (lv_at hl 0 rfl) ?_
        refine lv_aload_n hx hb dSA_sampleEntry_75 rfl (lv_at hl 3 rfl) ?_
        refine nw_get (C := "LatticeKeys$DsaSampler") (TT := T_SA) (N := 2) hx hb hts (wg_ft i_SA) hown hK hO k_h0 (kn := 37) (ci := 7) (fl := [(3, 18), (3, 38)]) rfl hP rfl 0 (by decide) (hts _ (wg_t kw_157)) (fun _ h9 => h9) (cd := (3, 18)) rfl dSA_sampleEntry_76 (fun v27 hv27 => ?_)
        obtain ⟨r28, rfl, kr27⟩ := (show ∃ r : Nat, v27 = .ref r ∧ T r = some 18 from hv27)
        refine mp_i (cx := []) (wr := []) hP hD hS hA [] [] rfl rfl rfl (by decide) (va_runV (As := []) (rest := [.int (nI z21)]) F (N_SP_nextByte l g _ T q21.2 pl hO hU r28 18 19 x36 x37 kr27 rfl rfl hx_36 hx_37 (by omega) (by omega)) (cwV 0 hts (wg_app (wg_c kw_692 (wg_c kw_619 (wg_c kw_620 (wg_c kw_2 wg_n)))) kw_621) rfl rfl rfl (by decide +kernel) ⟨by decide, by decide⟩) (pn_W "LatticeKeys$Sponge" (en_ok g) (ci := 3) (kn := 18) (fl := [(3, 19), (0, 0), (0, 0), (0, 0)]) hK hO kr27 rfl hP hD hS hA hE [] rfl rfl rfl) rfl rfl hl.1 rfl (lv_room (Nat.le_of_ble_eq_true rfl)) dSA_sampleEntry_79 ⟨by omega, by omega⟩) (fun r29 u27 H locs hu27 hP hD hS => ?_)
        obtain ⟨q22, pl⟩ := u27
        obtain ⟨⟨eq27, rfl, hFc27, ⟨x41, hx_41, hb_41⟩, ⟨x39, hx_39, hb_39⟩, ⟨x40, hx_40, hb_40⟩, -⟩, hO⟩ := hu27
        have hO : okn g T q22.2 pl := hO
        have hP : va_P g.1 vcl ([] ++ pl) _ := hP
        have hD : va_D _ ([] ++ pl) := hD
        have hFc27 : frm (M_SP_nextByte 18) q21.2 q22.2 := hFc27
        have hb_39 : x39 ≤ x37 := hb_39
        have hb_40 : x40 = x37 := hb_40
        have hb_41 : x41 < 256 := hb_41
        replace hR := bnd_step hR eq27
        have hF := frm_tr hF hFc27 (fun k hk => by unfold M_SP_nextByte at hk; unfold M_SA_sampleEntry; omega)
        obtain ⟨z22, ez22, hz23, hz24⟩ := cl_of (b := 2147483648) hx_41 (by omega) (by decide)
        replace hR := bnd_step hR ez22
        refine mi_as hz23 ?_
        refine W.widen (k := 0) (n := 0) (by omega) (by omega) ?_
        refine lv_bipush (v := nI 8) hx hb dSA_sampleEntry_82 (by decide) ?_
        refine lv_ishl hx hb dSA_sampleEntry_84 ?_
        refine lv_ior hx hb dSA_sampleEntry_85 ?_
        refine mi_eqv (fun z23 ez23 => ?_)
        replace hR := bnd_step hR ez23
        refine lv_istore (lv' := [(7, .int z23), (6, .int (nI i21)), (5, .int (nI fl21)), (0, .ref h0), (1, .ref f)]) hx hb dSA_sampleEntry_86 hl (by decide) rfl (fun ls hl => ?_)
        refine lv_iload hx hb dSA_sampleEntry_88 (lv_at hl 0 rfl) ?_
        refine lv_aload_n hx hb dSA_sampleEntry_90 rfl (lv_at hl 3 rfl) ?_
        refine nw_get (C := "LatticeKeys$DsaSampler") (TT := T_SA) (N := 2) hx hb hts (wg_ft i_SA) hown hK hO k_h0 (kn := 37) (ci := 7) (fl := [(3, 18), (3, 38)]) rfl hP rfl 0 (by decide) (hts _ (wg_t kw_157)) (fun _ h9 => h9) (cd := (3, 18)) rfl dSA_sampleEntry_91 (fun v28 hv28 => ?_)
        obtain ⟨r30, rfl, kr28⟩ := (show ∃ r : Nat, v28 = .ref r ∧ T r = some 18 from hv28)
        refine mp_i (cx := []) (wr := []) hP hD hS hA [] [] rfl rfl rfl (by decide) (va_runV (As := []) (rest := [.int z23]) F (N_SP_nextByte l g _ T q22.2 pl hO hU r30 18 19 x39 x40 kr28 rfl rfl hx_39 hx_40 (by omega) (by omega)) (cwV 0 hts (wg_app (wg_c kw_692 (wg_c kw_619 (wg_c kw_620 (wg_c kw_2 wg_n)))) kw_621) rfl rfl rfl (by decide +kernel) ⟨by decide, by decide⟩) (pn_W "LatticeKeys$Sponge" (en_ok g) (ci := 3) (kn := 18) (fl := [(3, 19), (0, 0), (0, 0), (0, 0)]) hK hO kr28 rfl hP hD hS hA hE [] rfl rfl rfl) rfl rfl hl.1 rfl (lv_room (Nat.le_of_ble_eq_true rfl)) dSA_sampleEntry_94 ⟨by omega, by omega⟩) (fun r31 u28 H locs hu28 hP hD hS => ?_)
        obtain ⟨q23, pl⟩ := u28
        obtain ⟨⟨eq28, rfl, hFc28, ⟨x44, hx_44, hb_44⟩, ⟨x42, hx_42, hb_42⟩, ⟨x43, hx_43, hb_43⟩, -⟩, hO⟩ := hu28
        have hO : okn g T q23.2 pl := hO
        have hP : va_P g.1 vcl ([] ++ pl) _ := hP
        have hD : va_D _ ([] ++ pl) := hD
        have hFc28 : frm (M_SP_nextByte 18) q22.2 q23.2 := hFc28
        have hb_42 : x42 ≤ x40 := hb_42
        have hb_43 : x43 = x40 := hb_43
        have hb_44 : x44 < 256 := hb_44
        replace hR := bnd_step hR eq28
        have hF := frm_tr hF hFc28 (fun k hk => by unfold M_SP_nextByte at hk; unfold M_SA_sampleEntry; omega)
        obtain ⟨z24, ez24, hz25, hz26⟩ := cl_of (b := 2147483648) hx_44 (by omega) (by decide)
        replace hR := bnd_step hR ez24
        refine mi_as hz25 ?_
        refine W.widen (k := 0) (n := 0) (by omega) (by omega) ?_
        refine lv_bipush (v := nI 127) hx hb dSA_sampleEntry_97 (by decide) ?_
        refine lv_iand hx hb dSA_sampleEntry_99 ?_
        refine lv_bipush (v := nI 16) hx hb dSA_sampleEntry_100 (by decide) ?_
        refine lv_ishl hx hb dSA_sampleEntry_102 ?_
        refine lv_ior hx hb dSA_sampleEntry_103 ?_
        refine mi_eqv (fun z25 ez25 => ?_)
        replace hR := bnd_step hR ez25
        refine lv_istore (lv' := [(7, .int z25), (6, .int (nI i21)), (5, .int (nI fl21)), (0, .ref h0), (1, .ref f)]) hx hb dSA_sampleEntry_104 hl (by decide) rfl (fun ls hl => ?_)
        refine lv_iload hx hb dSA_sampleEntry_106 (lv_at hl 0 rfl) ?_
        refine lv_ldc (v := 8380417) hx hb hown (hts _ (wg_t kw_697)) dSA_sampleEntry_108 ?_
        refine mi_as (show (8380417 : Int32) = nI 8380417 by decide) ?_
        refine lv_icmp_ge (tgt := 122) hx hb dSA_sampleEntry_110 (by decide) (fun h25 => ?_) (fun h25 => ?_)
        · replace hR := hR.trans (if_pos h25)
          refine mi_iinc (k := 1) (x := i21) (d := 1) (y := i21 + 1) (lv' := [(6, .int (nI (i21 + 1))), (7, .int z25), (5, .int (nI fl21)), (0, .ref h0), (1, .ref f)]) hx hb dSA_sampleEntry_122 hl rfl (by decide) rfl (by decide) rfl (fun ls hl => ?_)
          refine lv_goto (tgt := 49) hx hb dSA_sampleEntry_125 (by decide) ?_
          exact ih21 (i21 + 1) fl21 q23.2 x42 pl ls H locs (by omega) (by omega) (by omega) hF hx_42 (by have h9 := hx_43; rw [show x43 = x34 by omega] at h9; exact h9) hR (lv_sub hl [0, 2, 3, 4] rfl) hO hP hD hS
        · replace hR := hR.trans (if_neg h25)
          refine lv_aload_n hx hb dSA_sampleEntry_113 rfl (lv_at hl 4 rfl) ?_
          refine lv_iload hx hb dSA_sampleEntry_114 (lv_at hl 2 rfl) ?_
          refine lv_iload hx hb dSA_sampleEntry_116 (lv_at hl 0 rfl) ?_
          refine nw_iast hx hb hK hO hU k_f (k := pf) n_f hP hD hS (by omega) (by omega) dSA_sampleEntry_118 (fun s27 pl H locs es21 hO hP hD hS => ?_)
          replace hR := bnd_step hR es21
          have hF := frm_sI hF es21 (by unfold M_SA_sampleEntry; omega)
          have hf25 : s27.1 18 3 = nI x42 := fc_ne hx_42 es21 (by omega)
          have hf26 : s27.1 18 1 = nI x43 := fc_ne hx_43 es21 (by omega)
          refine mi_iinc (k := 2) (x := fl21) (d := 1) (y := fl21 + 1) (lv' := [(5, .int (nI (fl21 + 1))), (7, .int z25), (6, .int (nI i21)), (0, .ref h0), (1, .ref f)]) hx hb dSA_sampleEntry_119 hl rfl (by decide) rfl (by decide) rfl (fun ls hl => ?_)
          refine mi_iinc (k := 2) (x := i21) (d := 1) (y := i21 + 1) (lv' := [(6, .int (nI (i21 + 1))), (5, .int (nI (fl21 + 1))), (7, .int z25), (0, .ref h0), (1, .ref f)]) hx hb dSA_sampleEntry_122 hl rfl (by decide) rfl (by decide) rfl (fun ls hl => ?_)
          refine lv_goto (tgt := 49) hx hb dSA_sampleEntry_125 (by decide) ?_
          exact ih21 (i21 + 1) (fl21 + 1) s27 x42 pl ls H locs (by omega) (by omega) (by omega) hF hf25 (by have h9 := hf26; rw [show x43 = x34 by omega] at h9; exact h9) hR (lv_sub hl [0, 1, 3, 4] rfl) hO hP hD hS
  exact lp21 1000000 0 0 s25 x33 pl ls _ _ (by omega) (by omega) (by omega) hF hx_33 hx_34 hR (lv_sub hl [0, 1, 2, 3] rfl) hO hP hD hS
def M_SA_expandMatrix_0 (k : Nat) : Prop := (41 ≤ k ∧ k < 97) ∨ k = 18 ∨ (0 : Nat) = 1
noncomputable def F_SA_expandMatrix_0_L1 (pb : Nat) (n : Nat) (i21 : Nat) (kk : Nat → Sto → Sto) : Nat → Nat → Sto → Sto
  | 0, i22, s22 => kk (i21 + 1) s22
  | n22 + 1, i22, s22 => bnd (F_SA_sampleEntry (41 + ((4 * i21) + i22)) pb n (nI i22) (nI i21) s22) fun s23 => F_SA_expandMatrix_0_L1 pb n i21 kk n22 (i22 + 1) s23
noncomputable def F_SA_expandMatrix_0_L0 (pb : Nat) (n : Nat) : Nat → Nat → Sto → Sto
  | 0, i21, s21 => s21
  | n21 + 1, i21, s21 => F_SA_expandMatrix_0_L1 pb n i21 (F_SA_expandMatrix_0_L0 pb n n21) 4 0 s21
noncomputable def F_SA_expandMatrix_0 (pb : Nat) (n : Nat) (s : Sto) : Sto := F_SA_expandMatrix_0_L0 pb n 4 0 s
set_option maxHeartbeats 400000 in
set_option maxRecDepth 100000 in
theorem N_SA_expandMatrix_0 (l : Launch) (g : Gd) (sz : Nat) (T : TyN) (s : Sto) (pl : va_W) (hO : okn g T s pl) (hU : inj T) (h0 st b mx : Nat) (pb : Nat) (n : Nat) (k_h0 : T h0 = some 37) (k_st : T st = some 9) (k_b : T b = some pb) (n_b : nsp pb = (1, n, [])) (k_mx : T mx = some 40) (h1 : 32 ≤ n) (h2 : n < 65536)  : Met l y_SA_expandMatrix w_SA_expandMatrix ({ frames := 4, cells := 0, slots := 0, locals := 127 } : Room) (va_Pc [.ref h0, .ref st, .ref b, .ref mx] (pr (en g) g.1 vcl sz ([] ++ pl))) (va_Qv (fun (u : (Sto) × va_W) => (u.1 = F_SA_expandMatrix_0 pb n s ∧ frm (M_SA_expandMatrix_0) s u.1 ∧ True) ∧ okn g T u.1 u.2) (po g.1 vcl (va_A ([] ++ pl) sz) (fun (u : (Sto) × va_W) => [] ++ u.2)) (va_A ([] ++ pl) sz)) 0 0 (va_A ([] ++ pl) sz) := by
  refine mc_entry (cc := c_SA_expandMatrix) (maxL := 6) (ret := none) (by decide) rfl (Nat.le_of_ble_eq_true rfl) ?_
  intro p e s0 m args below meth c ls F hr hlk hnm hsz hP hD hE hA hl
  obtain ⟨hx, hb, hml, hown, hts⟩ := id F
  have hK := hE.1
  generalize va_A ([] ++ pl) sz = A at hD hE hA ⊢
  have hS : va_S A s0.heap s0.heap [] := va_S.rf
  have hl : lv_has ls 6 [(0, .ref h0), (1, .ref st), (2, .ref b), (3, .ref mx)] := hl
  have hR : F_SA_expandMatrix_0 pb n s = F_SA_expandMatrix_0 pb n s := rfl
  have hF : frm (M_SA_expandMatrix_0) s s := frm_rf
  refine lv_iconst (v := nI 0) hx hb dSA_expandMatrix_0 (by decide) ?_
  refine lv_istore (lv' := [(4, .int (nI 0)), (0, .ref h0), (1, .ref st), (2, .ref b), (3, .ref mx)]) hx hb dSA_expandMatrix_1 hl (by decide) rfl (fun ls hl => ?_)
  have lp21 : ∀ (n21 : Nat) (i21 : Nat) (s21 : Sto) (pl : va_W) (ls : Array Slot) (H : Heap) (locs : List Loc), n21 + i21 = 4 → frm (M_SA_expandMatrix_0) s s21 → F_SA_expandMatrix_0 pb n s = F_SA_expandMatrix_0_L0 pb n n21 i21 s21 → lv_has ls 6 [(4, .int (nI i21)), (0, .ref h0), (1, .ref st), (2, .ref b), (3, .ref mx)] → okn g T s21 pl → va_P g.1 vcl ([] ++ pl) H → va_D A ([] ++ pl) → va_S A s0.heap H locs → W p l e ({ frames := 4, cells := 0, slots := 0, locals := 127 } : Room) s0 m args below meth c H locs 0 0 (MQ below (va_Qv (fun (u : (Sto) × va_W) => (u.1 = F_SA_expandMatrix_0 pb n s ∧ frm (M_SA_expandMatrix_0) s u.1 ∧ True) ∧ okn g T u.1 u.2) (po g.1 vcl A (fun (u : (Sto) × va_W) => [] ++ u.2)) A) args s0 0 0 A) (F0 m 3 ls []) := by
    intro n21
    induction n21 with
    | zero =>
      intro i21 s21 pl ls H locs hm21 hF hR hl hO hP hD hS
      refine lv_iload hx hb dSA_expandMatrix_3 (lv_at hl 0 rfl) ?_
      refine lv_aload_n hx hb dSA_expandMatrix_5 rfl (lv_at hl 2 rfl) ?_
      refine nw_get (C := "LatticeKeys$DsaSet") (TT := T_DS) (N := 17) hx hb hts (wg_ft i_DS) hown hK hO k_st (kn := 9) (ci := 2) (fl := [(1, 4), (1, 4), (1, 2), (1, 3), (1, 39), (1, 32), (1, 18), (1, 131072), (1, 44), (1, 6), (1, 95232), (1, 80), (1, 78), (1, 1312), (1, 2560), (1, 2336), (1, 2420)]) rfl hP rfl 0 (by decide) (hts _ (wg_t kw_301)) (fun _ h9 => h9) (cd := (1, 4)) rfl dSA_expandMatrix_6 (fun v21 hv21 => ?_)
      obtain rfl := (show v21 = .int (nI 4) from hv21)
      refine mi_ge (tgt := 57) hx hb dSA_expandMatrix_9 (by decide) (by omega) (by omega) (fun h21 => ?_) (fun h21 => absurd h21 (by omega))
      exact mp_vret hx hb hr hlk hP hD hS (s21, pl) ⟨⟨hR.symm, hF, trivial⟩, hO⟩ [] rfl rfl rfl (by omega) (by omega) dSA_expandMatrix_57
    | succ n21 ih21 =>
      intro i21 s21 pl ls H locs hm21 hF hR hl hO hP hD hS
      refine lv_iload hx hb dSA_expandMatrix_3 (lv_at hl 0 rfl) ?_
      refine lv_aload_n hx hb dSA_expandMatrix_5 rfl (lv_at hl 2 rfl) ?_
      refine nw_get (C := "LatticeKeys$DsaSet") (TT := T_DS) (N := 17) hx hb hts (wg_ft i_DS) hown hK hO k_st (kn := 9) (ci := 2) (fl := [(1, 4), (1, 4), (1, 2), (1, 3), (1, 39), (1, 32), (1, 18), (1, 131072), (1, 44), (1, 6), (1, 95232), (1, 80), (1, 78), (1, 1312), (1, 2560), (1, 2336), (1, 2420)]) rfl hP rfl 0 (by decide) (hts _ (wg_t kw_301)) (fun _ h9 => h9) (cd := (1, 4)) rfl dSA_expandMatrix_6 (fun v22 hv22 => ?_)
      obtain rfl := (show v22 = .int (nI 4) from hv22)
      refine mi_ge (tgt := 57) hx hb dSA_expandMatrix_9 (by decide) (by omega) (by omega) (fun h22 => absurd h22 (by omega)) (fun h22 => ?_)
      refine lv_iconst (v := nI 0) hx hb dSA_expandMatrix_12 (by decide) ?_
      refine lv_istore (lv' := [(5, .int (nI 0)), (4, .int (nI i21)), (0, .ref h0), (1, .ref st), (2, .ref b), (3, .ref mx)]) hx hb dSA_expandMatrix_13 hl (by decide) rfl (fun ls hl => ?_)
      have lp22 : ∀ (n22 : Nat) (i22 : Nat) (s22 : Sto) (pl : va_W) (ls : Array Slot) (H : Heap) (locs : List Loc), n22 + i22 = 4 → frm (M_SA_expandMatrix_0) s s22 → F_SA_expandMatrix_0 pb n s = F_SA_expandMatrix_0_L1 pb n i21 (F_SA_expandMatrix_0_L0 pb n n21) n22 i22 s22 → lv_has ls 6 [(5, .int (nI i22)), (4, .int (nI i21)), (0, .ref h0), (1, .ref st), (2, .ref b), (3, .ref mx)] → okn g T s22 pl → va_P g.1 vcl ([] ++ pl) H → va_D A ([] ++ pl) → va_S A s0.heap H locs → W p l e ({ frames := 4, cells := 0, slots := 0, locals := 127 } : Room) s0 m args below meth c H locs 0 0 (MQ below (va_Qv (fun (u : (Sto) × va_W) => (u.1 = F_SA_expandMatrix_0 pb n s ∧ frm (M_SA_expandMatrix_0) s u.1 ∧ True) ∧ okn g T u.1 u.2) (po g.1 vcl A (fun (u : (Sto) × va_W) => [] ++ u.2)) A) args s0 0 0 A) (F0 m 15 ls []) := by
        intro n22
        induction n22 with
        | zero =>
          intro i22 s22 pl ls H locs hm22 hF hR hl hO hP hD hS
          refine lv_iload hx hb dSA_expandMatrix_15 (lv_at hl 0 rfl) ?_
          refine lv_aload_n hx hb dSA_expandMatrix_17 rfl (lv_at hl 3 rfl) ?_
          refine nw_get (C := "LatticeKeys$DsaSet") (TT := T_DS) (N := 17) hx hb hts (wg_ft i_DS) hown hK hO k_st (kn := 9) (ci := 2) (fl := [(1, 4), (1, 4), (1, 2), (1, 3), (1, 39), (1, 32), (1, 18), (1, 131072), (1, 44), (1, 6), (1, 95232), (1, 80), (1, 78), (1, 1312), (1, 2560), (1, 2336), (1, 2420)]) rfl hP rfl 1 (by decide) (hts _ (wg_t kw_304)) (fun _ h9 => h9) (cd := (1, 4)) rfl dSA_expandMatrix_18 (fun v23 hv23 => ?_)
          obtain rfl := (show v23 = .int (nI 4) from hv23)
          refine mi_ge (tgt := 51) hx hb dSA_expandMatrix_21 (by decide) (by omega) (by omega) (fun h23 => ?_) (fun h23 => absurd h23 (by omega))
          refine mi_iinc (k := 1) (x := i21) (d := 1) (y := i21 + 1) (lv' := [(4, .int (nI (i21 + 1))), (5, .int (nI i22)), (0, .ref h0), (1, .ref st), (2, .ref b), (3, .ref mx)]) hx hb dSA_expandMatrix_51 hl rfl (by decide) rfl (by decide) rfl (fun ls hl => ?_)
          refine lv_goto (tgt := 3) hx hb dSA_expandMatrix_54 (by decide) ?_
          exact ih21 (i21 + 1) s22 pl ls H locs (by omega) hF hR (lv_sub hl [0, 2, 3, 4, 5] rfl) hO hP hD hS
        | succ n22 ih22 =>
          intro i22 s22 pl ls H locs hm22 hF hR hl hO hP hD hS
          refine lv_iload hx hb dSA_expandMatrix_15 (lv_at hl 0 rfl) ?_
          refine lv_aload_n hx hb dSA_expandMatrix_17 rfl (lv_at hl 3 rfl) ?_
          refine nw_get (C := "LatticeKeys$DsaSet") (TT := T_DS) (N := 17) hx hb hts (wg_ft i_DS) hown hK hO k_st (kn := 9) (ci := 2) (fl := [(1, 4), (1, 4), (1, 2), (1, 3), (1, 39), (1, 32), (1, 18), (1, 131072), (1, 44), (1, 6), (1, 95232), (1, 80), (1, 78), (1, 1312), (1, 2560), (1, 2336), (1, 2420)]) rfl hP rfl 1 (by decide) (hts _ (wg_t kw_304)) (fun _ h9 => h9) (cd := (1, 4)) rfl dSA_expandMatrix_18 (fun v24 hv24 => ?_)
          obtain rfl := (show v24 = .int (nI 4) from hv24)
          refine mi_ge (tgt := 51) hx hb dSA_expandMatrix_21 (by decide) (by omega) (by omega) (fun h24 => absurd h24 (by omega)) (fun h24 => ?_)
          refine lv_aload_n hx hb dSA_expandMatrix_24 rfl (lv_at hl 2 rfl) ?_
          refine lv_aload_n hx hb dSA_expandMatrix_25 rfl (lv_at hl 5 rfl) ?_
          refine lv_aload_n hx hb dSA_expandMatrix_26 rfl (lv_at hl 3 rfl) ?_
          refine nw_get (C := "LatticeKeys$DsaSet") (TT := T_DS) (N := 17) hx hb hts (wg_ft i_DS) hown hK hO k_st (kn := 9) (ci := 2) (fl := [(1, 4), (1, 4), (1, 2), (1, 3), (1, 39), (1, 32), (1, 18), (1, 131072), (1, 44), (1, 6), (1, 95232), (1, 80), (1, 78), (1, 1312), (1, 2560), (1, 2336), (1, 2420)]) rfl hP rfl 1 (by decide) (hts _ (wg_t kw_304)) (fun _ h9 => h9) (cd := (1, 4)) rfl dSA_expandMatrix_27 (fun v25 hv25 => ?_)
          obtain rfl := (show v25 = .int (nI 4) from hv25)
          refine lv_iload hx hb dSA_expandMatrix_30 (lv_at hl 1 rfl) ?_
          refine mi_imul hx hb dSA_expandMatrix_32 ?_
          refine lv_iload hx hb dSA_expandMatrix_33 (lv_at hl 0 rfl) ?_
          refine mi_iadd hx hb dSA_expandMatrix_35 ?_
          refine nw_aald3 hx hb hK hO k_mx (k := 40) (b := 41) rfl hP (by omega) (by omega) dSA_expandMatrix_36 (fun r21 kr21 => ?_)
          have hn21 : nsp (41 + ((4 * i21) + i22)) = (0, 256, []) := rows_ok 41 56 (by decide) _ (by omega)
          refine lv_aload_n hx hb dSA_expandMatrix_37 rfl (lv_at hl 4 rfl) ?_
          refine lv_iload hx hb dSA_expandMatrix_38 (lv_at hl 0 rfl) ?_
          refine lv_iload hx hb dSA_expandMatrix_40 (lv_at hl 1 rfl) ?_
          refine mp_v (cx := []) (wr := []) hP hD hS hA [] [] rfl rfl rfl (by decide) (va_runV (As := [.ref r21, .ref b, .int (nI i22), .int (nI i21)]) (rest := []) F (N_SA_sampleEntry l g _ T s22 pl hO hU h0 r21 b (41 + ((4 * i21) + i22)) pb n (nI i22) (nI i21) k_h0 kr21 hn21 k_b n_b (by omega) (by omega)) (cwV 4 hts (wg_app (wg_c kw_707 (wg_c kw_709 (wg_c ks_14 (wg_c kw_6 wg_n)))) kw_710) rfl rfl rfl (by decide +kernel) ⟨by decide, by decide⟩) (pn_W "LatticeKeys$DsaSampler" (en_ok g) (ci := 7) (kn := 37) (fl := [(3, 18), (3, 38)]) hK hO k_h0 rfl hP hD hS hA hE [] rfl rfl rfl) rfl rfl hl.1 rfl (lv_room (Nat.le_of_ble_eq_true rfl)) dSA_expandMatrix_42 ⟨by omega, by omega⟩) (fun  u21 H locs hu21 hP hD hS => ?_)
          obtain ⟨s23, pl⟩ := u21
          obtain ⟨⟨eq21, hFc21, -⟩, hO⟩ := hu21
          have hO : okn g T s23 pl := hO
          have hP : va_P g.1 vcl ([] ++ pl) _ := hP
          have hD : va_D _ ([] ++ pl) := hD
          have hFc21 : frm (M_SA_sampleEntry (41 + ((4 * i21) + i22))) s22 s23 := hFc21
          replace hR := bnd_step hR eq21
          have hF := frm_tr hF hFc21 (fun k hk => by unfold M_SA_sampleEntry at hk; unfold M_SA_expandMatrix_0; omega)
          refine W.widen (k := 0) (n := 0) (by omega) (by omega) ?_
          refine mi_iinc (k := 0) (x := i22) (d := 1) (y := i22 + 1) (lv' := [(5, .int (nI (i22 + 1))), (4, .int (nI i21)), (0, .ref h0), (1, .ref st), (2, .ref b), (3, .ref mx)]) hx hb dSA_expandMatrix_45 hl rfl (by decide) rfl (by decide) rfl (fun ls hl => ?_)
          refine lv_goto (tgt := 15) hx hb dSA_expandMatrix_48 (by decide) ?_
          exact ih22 (i22 + 1) s23 pl ls H locs (by omega) hF hR (lv_sub hl [0, 1, 2, 3, 4, 5] rfl) hO hP hD hS
      exact lp22 4 0 s21 pl ls _ _ (by omega) hF hR (lv_sub hl [0, 1, 2, 3, 4, 5] rfl) hO hP hD hS
  exact lp21 4 0 s pl ls _ _ (by omega) hF hR (lv_sub hl [0, 1, 2, 3, 4] rfl) hO hP hD hS
def M_SA_expandMatrix_1 (k : Nat) : Prop := (41 ≤ k ∧ k < 97) ∨ k = 18 ∨ (0 : Nat) = 1
noncomputable def F_SA_expandMatrix_1_L1 (pb : Nat) (n : Nat) (i21 : Nat) (kk : Nat → Sto → Sto) : Nat → Nat → Sto → Sto
  | 0, i22, s22 => kk (i21 + 1) s22
  | n22 + 1, i22, s22 => bnd (F_SA_sampleEntry (41 + ((5 * i21) + i22)) pb n (nI i22) (nI i21) s22) fun s23 => F_SA_expandMatrix_1_L1 pb n i21 kk n22 (i22 + 1) s23
noncomputable def F_SA_expandMatrix_1_L0 (pb : Nat) (n : Nat) : Nat → Nat → Sto → Sto
  | 0, i21, s21 => s21
  | n21 + 1, i21, s21 => F_SA_expandMatrix_1_L1 pb n i21 (F_SA_expandMatrix_1_L0 pb n n21) 5 0 s21
noncomputable def F_SA_expandMatrix_1 (pb : Nat) (n : Nat) (s : Sto) : Sto := F_SA_expandMatrix_1_L0 pb n 6 0 s
set_option maxHeartbeats 400000 in
set_option maxRecDepth 100000 in
theorem N_SA_expandMatrix_1 (l : Launch) (g : Gd) (sz : Nat) (T : TyN) (s : Sto) (pl : va_W) (hO : okn g T s pl) (hU : inj T) (h0 st b mx : Nat) (pb : Nat) (n : Nat) (k_h0 : T h0 = some 37) (k_st : T st = some 10) (k_b : T b = some pb) (n_b : nsp pb = (1, n, [])) (k_mx : T mx = some 40) (h1 : 32 ≤ n) (h2 : n < 65536)  : Met l y_SA_expandMatrix w_SA_expandMatrix ({ frames := 4, cells := 0, slots := 0, locals := 127 } : Room) (va_Pc [.ref h0, .ref st, .ref b, .ref mx] (pr (en g) g.1 vcl sz ([] ++ pl))) (va_Qv (fun (u : (Sto) × va_W) => (u.1 = F_SA_expandMatrix_1 pb n s ∧ frm (M_SA_expandMatrix_1) s u.1 ∧ True) ∧ okn g T u.1 u.2) (po g.1 vcl (va_A ([] ++ pl) sz) (fun (u : (Sto) × va_W) => [] ++ u.2)) (va_A ([] ++ pl) sz)) 0 0 (va_A ([] ++ pl) sz) := by
  refine mc_entry (cc := c_SA_expandMatrix) (maxL := 6) (ret := none) (by decide) rfl (Nat.le_of_ble_eq_true rfl) ?_
  intro p e s0 m args below meth c ls F hr hlk hnm hsz hP hD hE hA hl
  obtain ⟨hx, hb, hml, hown, hts⟩ := id F
  have hK := hE.1
  generalize va_A ([] ++ pl) sz = A at hD hE hA ⊢
  have hS : va_S A s0.heap s0.heap [] := va_S.rf
  have hl : lv_has ls 6 [(0, .ref h0), (1, .ref st), (2, .ref b), (3, .ref mx)] := hl
  have hR : F_SA_expandMatrix_1 pb n s = F_SA_expandMatrix_1 pb n s := rfl
  have hF : frm (M_SA_expandMatrix_1) s s := frm_rf
  refine lv_iconst (v := nI 0) hx hb dSA_expandMatrix_0 (by decide) ?_
  refine lv_istore (lv' := [(4, .int (nI 0)), (0, .ref h0), (1, .ref st), (2, .ref b), (3, .ref mx)]) hx hb dSA_expandMatrix_1 hl (by decide) rfl (fun ls hl => ?_)
  have lp21 : ∀ (n21 : Nat) (i21 : Nat) (s21 : Sto) (pl : va_W) (ls : Array Slot) (H : Heap) (locs : List Loc), n21 + i21 = 6 → frm (M_SA_expandMatrix_1) s s21 → F_SA_expandMatrix_1 pb n s = F_SA_expandMatrix_1_L0 pb n n21 i21 s21 → lv_has ls 6 [(4, .int (nI i21)), (0, .ref h0), (1, .ref st), (2, .ref b), (3, .ref mx)] → okn g T s21 pl → va_P g.1 vcl ([] ++ pl) H → va_D A ([] ++ pl) → va_S A s0.heap H locs → W p l e ({ frames := 4, cells := 0, slots := 0, locals := 127 } : Room) s0 m args below meth c H locs 0 0 (MQ below (va_Qv (fun (u : (Sto) × va_W) => (u.1 = F_SA_expandMatrix_1 pb n s ∧ frm (M_SA_expandMatrix_1) s u.1 ∧ True) ∧ okn g T u.1 u.2) (po g.1 vcl A (fun (u : (Sto) × va_W) => [] ++ u.2)) A) args s0 0 0 A) (F0 m 3 ls []) := by
    intro n21
    induction n21 with
    | zero =>
      intro i21 s21 pl ls H locs hm21 hF hR hl hO hP hD hS
      refine lv_iload hx hb dSA_expandMatrix_3 (lv_at hl 0 rfl) ?_
      refine lv_aload_n hx hb dSA_expandMatrix_5 rfl (lv_at hl 2 rfl) ?_
      refine nw_get (C := "LatticeKeys$DsaSet") (TT := T_DS) (N := 17) hx hb hts (wg_ft i_DS) hown hK hO k_st (kn := 10) (ci := 2) (fl := [(1, 6), (1, 5), (1, 4), (1, 4), (1, 49), (1, 48), (1, 20), (1, 524288), (1, 16), (1, 4), (1, 261888), (1, 55), (1, 196), (1, 1952), (1, 4032), (1, 3248), (1, 3309)]) rfl hP rfl 0 (by decide) (hts _ (wg_t kw_301)) (fun _ h9 => h9) (cd := (1, 6)) rfl dSA_expandMatrix_6 (fun v21 hv21 => ?_)
      obtain rfl := (show v21 = .int (nI 6) from hv21)
      refine mi_ge (tgt := 57) hx hb dSA_expandMatrix_9 (by decide) (by omega) (by omega) (fun h21 => ?_) (fun h21 => absurd h21 (by omega))
      exact mp_vret hx hb hr hlk hP hD hS (s21, pl) ⟨⟨hR.symm, hF, trivial⟩, hO⟩ [] rfl rfl rfl (by omega) (by omega) dSA_expandMatrix_57
    | succ n21 ih21 =>
      intro i21 s21 pl ls H locs hm21 hF hR hl hO hP hD hS
      refine lv_iload hx hb dSA_expandMatrix_3 (lv_at hl 0 rfl) ?_
      refine lv_aload_n hx hb dSA_expandMatrix_5 rfl (lv_at hl 2 rfl) ?_
      refine nw_get (C := "LatticeKeys$DsaSet") (TT := T_DS) (N := 17) hx hb hts (wg_ft i_DS) hown hK hO k_st (kn := 10) (ci := 2) (fl := [(1, 6), (1, 5), (1, 4), (1, 4), (1, 49), (1, 48), (1, 20), (1, 524288), (1, 16), (1, 4), (1, 261888), (1, 55), (1, 196), (1, 1952), (1, 4032), (1, 3248), (1, 3309)]) rfl hP rfl 0 (by decide) (hts _ (wg_t kw_301)) (fun _ h9 => h9) (cd := (1, 6)) rfl dSA_expandMatrix_6 (fun v22 hv22 => ?_)
      obtain rfl := (show v22 = .int (nI 6) from hv22)
      refine mi_ge (tgt := 57) hx hb dSA_expandMatrix_9 (by decide) (by omega) (by omega) (fun h22 => absurd h22 (by omega)) (fun h22 => ?_)
      refine lv_iconst (v := nI 0) hx hb dSA_expandMatrix_12 (by decide) ?_
      refine lv_istore (lv' := [(5, .int (nI 0)), (4, .int (nI i21)), (0, .ref h0), (1, .ref st), (2, .ref b), (3, .ref mx)]) hx hb dSA_expandMatrix_13 hl (by decide) rfl (fun ls hl => ?_)
      have lp22 : ∀ (n22 : Nat) (i22 : Nat) (s22 : Sto) (pl : va_W) (ls : Array Slot) (H : Heap) (locs : List Loc), n22 + i22 = 5 → frm (M_SA_expandMatrix_1) s s22 → F_SA_expandMatrix_1 pb n s = F_SA_expandMatrix_1_L1 pb n i21 (F_SA_expandMatrix_1_L0 pb n n21) n22 i22 s22 → lv_has ls 6 [(5, .int (nI i22)), (4, .int (nI i21)), (0, .ref h0), (1, .ref st), (2, .ref b), (3, .ref mx)] → okn g T s22 pl → va_P g.1 vcl ([] ++ pl) H → va_D A ([] ++ pl) → va_S A s0.heap H locs → W p l e ({ frames := 4, cells := 0, slots := 0, locals := 127 } : Room) s0 m args below meth c H locs 0 0 (MQ below (va_Qv (fun (u : (Sto) × va_W) => (u.1 = F_SA_expandMatrix_1 pb n s ∧ frm (M_SA_expandMatrix_1) s u.1 ∧ True) ∧ okn g T u.1 u.2) (po g.1 vcl A (fun (u : (Sto) × va_W) => [] ++ u.2)) A) args s0 0 0 A) (F0 m 15 ls []) := by
        intro n22
        induction n22 with
        | zero =>
          intro i22 s22 pl ls H locs hm22 hF hR hl hO hP hD hS
          refine lv_iload hx hb dSA_expandMatrix_15 (lv_at hl 0 rfl) ?_
          refine lv_aload_n hx hb dSA_expandMatrix_17 rfl (lv_at hl 3 rfl) ?_
          refine nw_get (C := "LatticeKeys$DsaSet") (TT := T_DS) (N := 17) hx hb hts (wg_ft i_DS) hown hK hO k_st (kn := 10) (ci := 2) (fl := [(1, 6), (1, 5), (1, 4), (1, 4), (1, 49), (1, 48), (1, 20), (1, 524288), (1, 16), (1, 4), (1, 261888), (1, 55), (1, 196), (1, 1952), (1, 4032), (1, 3248), (1, 3309)]) rfl hP rfl 1 (by decide) (hts _ (wg_t kw_304)) (fun _ h9 => h9) (cd := (1, 5)) rfl dSA_expandMatrix_18 (fun v23 hv23 => ?_)
          obtain rfl := (show v23 = .int (nI 5) from hv23)
          refine mi_ge (tgt := 51) hx hb dSA_expandMatrix_21 (by decide) (by omega) (by omega) (fun h23 => ?_) (fun h23 => absurd h23 (by omega))
          refine mi_iinc (k := 1) (x := i21) (d := 1) (y := i21 + 1) (lv' := [(4, .int (nI (i21 + 1))), (5, .int (nI i22)), (0, .ref h0), (1, .ref st), (2, .ref b), (3, .ref mx)]) hx hb dSA_expandMatrix_51 hl rfl (by decide) rfl (by decide) rfl (fun ls hl => ?_)
          refine lv_goto (tgt := 3) hx hb dSA_expandMatrix_54 (by decide) ?_
          exact ih21 (i21 + 1) s22 pl ls H locs (by omega) hF hR (lv_sub hl [0, 2, 3, 4, 5] rfl) hO hP hD hS
        | succ n22 ih22 =>
          intro i22 s22 pl ls H locs hm22 hF hR hl hO hP hD hS
          refine lv_iload hx hb dSA_expandMatrix_15 (lv_at hl 0 rfl) ?_
          refine lv_aload_n hx hb dSA_expandMatrix_17 rfl (lv_at hl 3 rfl) ?_
          refine nw_get (C := "LatticeKeys$DsaSet") (TT := T_DS) (N := 17) hx hb hts (wg_ft i_DS) hown hK hO k_st (kn := 10) (ci := 2) (fl := [(1, 6), (1, 5), (1, 4), (1, 4), (1, 49), (1, 48), (1, 20), (1, 524288), (1, 16), (1, 4), (1, 261888), (1, 55), (1, 196), (1, 1952), (1, 4032), (1, 3248), (1, 3309)]) rfl hP rfl 1 (by decide) (hts _ (wg_t kw_304)) (fun _ h9 => h9) (cd := (1, 5)) rfl dSA_expandMatrix_18 (fun v24 hv24 => ?_)
          obtain rfl := (show v24 = .int (nI 5) from hv24)
          refine mi_ge (tgt := 51) hx hb dSA_expandMatrix_21 (by decide) (by omega) (by omega) (fun h24 => absurd h24 (by omega)) (fun h24 => ?_)
          refine lv_aload_n hx hb dSA_expandMatrix_24 rfl (lv_at hl 2 rfl) ?_
          refine lv_aload_n hx hb dSA_expandMatrix_25 rfl (lv_at hl 5 rfl) ?_
          refine lv_aload_n hx hb dSA_expandMatrix_26 rfl (lv_at hl 3 rfl) ?_
          refine nw_get (C := "LatticeKeys$DsaSet") (TT := T_DS) (N := 17) hx hb hts (wg_ft i_DS) hown hK hO k_st (kn := 10) (ci := 2) (fl := [(1, 6), (1, 5), (1, 4), (1, 4), (1, 49), (1, 48), (1, 20), (1, 524288), (1, 16), (1, 4), (1, 261888), (1, 55), (1, 196), (1, 1952), (1, 4032), (1, 3248), (1, 3309)]) rfl hP rfl 1 (by decide) (hts _ (wg_t kw_304)) (fun _ h9 => h9) (cd := (1, 5)) rfl dSA_expandMatrix_27 (fun v25 hv25 => ?_)
          obtain rfl := (show v25 = .int (nI 5) from hv25)
          refine lv_iload hx hb dSA_expandMatrix_30 (lv_at hl 1 rfl) ?_
          refine mi_imul hx hb dSA_expandMatrix_32 ?_
          refine lv_iload hx hb dSA_expandMatrix_33 (lv_at hl 0 rfl) ?_
          refine mi_iadd hx hb dSA_expandMatrix_35 ?_
          refine nw_aald3 hx hb hK hO k_mx (k := 40) (b := 41) rfl hP (by omega) (by omega) dSA_expandMatrix_36 (fun r21 kr21 => ?_)
          have hn21 : nsp (41 + ((5 * i21) + i22)) = (0, 256, []) := rows_ok 41 56 (by decide) _ (by omega)
          refine lv_aload_n hx hb dSA_expandMatrix_37 rfl (lv_at hl 4 rfl) ?_
          refine lv_iload hx hb dSA_expandMatrix_38 (lv_at hl 0 rfl) ?_
          refine lv_iload hx hb dSA_expandMatrix_40 (lv_at hl 1 rfl) ?_
          refine mp_v (cx := []) (wr := []) hP hD hS hA [] [] rfl rfl rfl (by decide) (va_runV (As := [.ref r21, .ref b, .int (nI i22), .int (nI i21)]) (rest := []) F (N_SA_sampleEntry l g _ T s22 pl hO hU h0 r21 b (41 + ((5 * i21) + i22)) pb n (nI i22) (nI i21) k_h0 kr21 hn21 k_b n_b (by omega) (by omega)) (cwV 4 hts (wg_app (wg_c kw_707 (wg_c kw_709 (wg_c ks_14 (wg_c kw_6 wg_n)))) kw_710) rfl rfl rfl (by decide +kernel) ⟨by decide, by decide⟩) (pn_W "LatticeKeys$DsaSampler" (en_ok g) (ci := 7) (kn := 37) (fl := [(3, 18), (3, 38)]) hK hO k_h0 rfl hP hD hS hA hE [] rfl rfl rfl) rfl rfl hl.1 rfl (lv_room (Nat.le_of_ble_eq_true rfl)) dSA_expandMatrix_42 ⟨by omega, by omega⟩) (fun  u21 H locs hu21 hP hD hS => ?_)
          obtain ⟨s23, pl⟩ := u21
          obtain ⟨⟨eq21, hFc21, -⟩, hO⟩ := hu21
          have hO : okn g T s23 pl := hO
          have hP : va_P g.1 vcl ([] ++ pl) _ := hP
          have hD : va_D _ ([] ++ pl) := hD
          have hFc21 : frm (M_SA_sampleEntry (41 + ((5 * i21) + i22))) s22 s23 := hFc21
          replace hR := bnd_step hR eq21
          have hF := frm_tr hF hFc21 (fun k hk => by unfold M_SA_sampleEntry at hk; unfold M_SA_expandMatrix_1; omega)
          refine W.widen (k := 0) (n := 0) (by omega) (by omega) ?_
          refine mi_iinc (k := 0) (x := i22) (d := 1) (y := i22 + 1) (lv' := [(5, .int (nI (i22 + 1))), (4, .int (nI i21)), (0, .ref h0), (1, .ref st), (2, .ref b), (3, .ref mx)]) hx hb dSA_expandMatrix_45 hl rfl (by decide) rfl (by decide) rfl (fun ls hl => ?_)
          refine lv_goto (tgt := 15) hx hb dSA_expandMatrix_48 (by decide) ?_
          exact ih22 (i22 + 1) s23 pl ls H locs (by omega) hF hR (lv_sub hl [0, 1, 2, 3, 4, 5] rfl) hO hP hD hS
      exact lp22 5 0 s21 pl ls _ _ (by omega) hF hR (lv_sub hl [0, 1, 2, 3, 4, 5] rfl) hO hP hD hS
  exact lp21 6 0 s pl ls _ _ (by omega) hF hR (lv_sub hl [0, 1, 2, 3, 4] rfl) hO hP hD hS
def M_SA_expandMatrix_2 (k : Nat) : Prop := (41 ≤ k ∧ k < 97) ∨ k = 18 ∨ (0 : Nat) = 1
noncomputable def F_SA_expandMatrix_2_L1 (pb : Nat) (n : Nat) (i21 : Nat) (kk : Nat → Sto → Sto) : Nat → Nat → Sto → Sto
  | 0, i22, s22 => kk (i21 + 1) s22
  | n22 + 1, i22, s22 => bnd (F_SA_sampleEntry (41 + ((7 * i21) + i22)) pb n (nI i22) (nI i21) s22) fun s23 => F_SA_expandMatrix_2_L1 pb n i21 kk n22 (i22 + 1) s23
noncomputable def F_SA_expandMatrix_2_L0 (pb : Nat) (n : Nat) : Nat → Nat → Sto → Sto
  | 0, i21, s21 => s21
  | n21 + 1, i21, s21 => F_SA_expandMatrix_2_L1 pb n i21 (F_SA_expandMatrix_2_L0 pb n n21) 7 0 s21
noncomputable def F_SA_expandMatrix_2 (pb : Nat) (n : Nat) (s : Sto) : Sto := F_SA_expandMatrix_2_L0 pb n 8 0 s
set_option maxHeartbeats 400000 in
set_option maxRecDepth 100000 in
theorem N_SA_expandMatrix_2 (l : Launch) (g : Gd) (sz : Nat) (T : TyN) (s : Sto) (pl : va_W) (hO : okn g T s pl) (hU : inj T) (h0 st b mx : Nat) (pb : Nat) (n : Nat) (k_h0 : T h0 = some 37) (k_st : T st = some 11) (k_b : T b = some pb) (n_b : nsp pb = (1, n, [])) (k_mx : T mx = some 40) (h1 : 32 ≤ n) (h2 : n < 65536)  : Met l y_SA_expandMatrix w_SA_expandMatrix ({ frames := 4, cells := 0, slots := 0, locals := 127 } : Room) (va_Pc [.ref h0, .ref st, .ref b, .ref mx] (pr (en g) g.1 vcl sz ([] ++ pl))) (va_Qv (fun (u : (Sto) × va_W) => (u.1 = F_SA_expandMatrix_2 pb n s ∧ frm (M_SA_expandMatrix_2) s u.1 ∧ True) ∧ okn g T u.1 u.2) (po g.1 vcl (va_A ([] ++ pl) sz) (fun (u : (Sto) × va_W) => [] ++ u.2)) (va_A ([] ++ pl) sz)) 0 0 (va_A ([] ++ pl) sz) := by
  refine mc_entry (cc := c_SA_expandMatrix) (maxL := 6) (ret := none) (by decide) rfl (Nat.le_of_ble_eq_true rfl) ?_
  intro p e s0 m args below meth c ls F hr hlk hnm hsz hP hD hE hA hl
  obtain ⟨hx, hb, hml, hown, hts⟩ := id F
  have hK := hE.1
  generalize va_A ([] ++ pl) sz = A at hD hE hA ⊢
  have hS : va_S A s0.heap s0.heap [] := va_S.rf
  have hl : lv_has ls 6 [(0, .ref h0), (1, .ref st), (2, .ref b), (3, .ref mx)] := hl
  have hR : F_SA_expandMatrix_2 pb n s = F_SA_expandMatrix_2 pb n s := rfl
  have hF : frm (M_SA_expandMatrix_2) s s := frm_rf
  refine lv_iconst (v := nI 0) hx hb dSA_expandMatrix_0 (by decide) ?_
  refine lv_istore (lv' := [(4, .int (nI 0)), (0, .ref h0), (1, .ref st), (2, .ref b), (3, .ref mx)]) hx hb dSA_expandMatrix_1 hl (by decide) rfl (fun ls hl => ?_)
  have lp21 : ∀ (n21 : Nat) (i21 : Nat) (s21 : Sto) (pl : va_W) (ls : Array Slot) (H : Heap) (locs : List Loc), n21 + i21 = 8 → frm (M_SA_expandMatrix_2) s s21 → F_SA_expandMatrix_2 pb n s = F_SA_expandMatrix_2_L0 pb n n21 i21 s21 → lv_has ls 6 [(4, .int (nI i21)), (0, .ref h0), (1, .ref st), (2, .ref b), (3, .ref mx)] → okn g T s21 pl → va_P g.1 vcl ([] ++ pl) H → va_D A ([] ++ pl) → va_S A s0.heap H locs → W p l e ({ frames := 4, cells := 0, slots := 0, locals := 127 } : Room) s0 m args below meth c H locs 0 0 (MQ below (va_Qv (fun (u : (Sto) × va_W) => (u.1 = F_SA_expandMatrix_2 pb n s ∧ frm (M_SA_expandMatrix_2) s u.1 ∧ True) ∧ okn g T u.1 u.2) (po g.1 vcl A (fun (u : (Sto) × va_W) => [] ++ u.2)) A) args s0 0 0 A) (F0 m 3 ls []) := by
    intro n21
    induction n21 with
    | zero =>
      intro i21 s21 pl ls H locs hm21 hF hR hl hO hP hD hS
      refine lv_iload hx hb dSA_expandMatrix_3 (lv_at hl 0 rfl) ?_
      refine lv_aload_n hx hb dSA_expandMatrix_5 rfl (lv_at hl 2 rfl) ?_
      refine nw_get (C := "LatticeKeys$DsaSet") (TT := T_DS) (N := 17) hx hb hts (wg_ft i_DS) hown hK hO k_st (kn := 11) (ci := 2) (fl := [(1, 8), (1, 7), (1, 2), (1, 3), (1, 60), (1, 64), (1, 20), (1, 524288), (1, 16), (1, 4), (1, 261888), (1, 75), (1, 120), (1, 2592), (1, 4896), (1, 4544), (1, 4627)]) rfl hP rfl 0 (by decide) (hts _ (wg_t kw_301)) (fun _ h9 => h9) (cd := (1, 8)) rfl dSA_expandMatrix_6 (fun v21 hv21 => ?_)
      obtain rfl := (show v21 = .int (nI 8) from hv21)
      refine mi_ge (tgt := 57) hx hb dSA_expandMatrix_9 (by decide) (by omega) (by omega) (fun h21 => ?_) (fun h21 => absurd h21 (by omega))
      exact mp_vret hx hb hr hlk hP hD hS (s21, pl) ⟨⟨hR.symm, hF, trivial⟩, hO⟩ [] rfl rfl rfl (by omega) (by omega) dSA_expandMatrix_57
    | succ n21 ih21 =>
      intro i21 s21 pl ls H locs hm21 hF hR hl hO hP hD hS
      refine lv_iload hx hb dSA_expandMatrix_3 (lv_at hl 0 rfl) ?_
      refine lv_aload_n hx hb dSA_expandMatrix_5 rfl (lv_at hl 2 rfl) ?_
      refine nw_get (C := "LatticeKeys$DsaSet") (TT := T_DS) (N := 17) hx hb hts (wg_ft i_DS) hown hK hO k_st (kn := 11) (ci := 2) (fl := [(1, 8), (1, 7), (1, 2), (1, 3), (1, 60), (1, 64), (1, 20), (1, 524288), (1, 16), (1, 4), (1, 261888), (1, 75), (1, 120), (1, 2592), (1, 4896), (1, 4544), (1, 4627)]) rfl hP rfl 0 (by decide) (hts _ (wg_t kw_301)) (fun _ h9 => h9) (cd := (1, 8)) rfl dSA_expandMatrix_6 (fun v22 hv22 => ?_)
      obtain rfl := (show v22 = .int (nI 8) from hv22)
      refine mi_ge (tgt := 57) hx hb dSA_expandMatrix_9 (by decide) (by omega) (by omega) (fun h22 => absurd h22 (by omega)) (fun h22 => ?_)
      refine lv_iconst (v := nI 0) hx hb dSA_expandMatrix_12 (by decide) ?_
      refine lv_istore (lv' := [(5, .int (nI 0)), (4, .int (nI i21)), (0, .ref h0), (1, .ref st), (2, .ref b), (3, .ref mx)]) hx hb dSA_expandMatrix_13 hl (by decide) rfl (fun ls hl => ?_)
      have lp22 : ∀ (n22 : Nat) (i22 : Nat) (s22 : Sto) (pl : va_W) (ls : Array Slot) (H : Heap) (locs : List Loc), n22 + i22 = 7 → frm (M_SA_expandMatrix_2) s s22 → F_SA_expandMatrix_2 pb n s = F_SA_expandMatrix_2_L1 pb n i21 (F_SA_expandMatrix_2_L0 pb n n21) n22 i22 s22 → lv_has ls 6 [(5, .int (nI i22)), (4, .int (nI i21)), (0, .ref h0), (1, .ref st), (2, .ref b), (3, .ref mx)] → okn g T s22 pl → va_P g.1 vcl ([] ++ pl) H → va_D A ([] ++ pl) → va_S A s0.heap H locs → W p l e ({ frames := 4, cells := 0, slots := 0, locals := 127 } : Room) s0 m args below meth c H locs 0 0 (MQ below (va_Qv (fun (u : (Sto) × va_W) => (u.1 = F_SA_expandMatrix_2 pb n s ∧ frm (M_SA_expandMatrix_2) s u.1 ∧ True) ∧ okn g T u.1 u.2) (po g.1 vcl A (fun (u : (Sto) × va_W) => [] ++ u.2)) A) args s0 0 0 A) (F0 m 15 ls []) := by
        intro n22
        induction n22 with
        | zero =>
          intro i22 s22 pl ls H locs hm22 hF hR hl hO hP hD hS
          refine lv_iload hx hb dSA_expandMatrix_15 (lv_at hl 0 rfl) ?_
          refine lv_aload_n hx hb dSA_expandMatrix_17 rfl (lv_at hl 3 rfl) ?_
          refine nw_get (C := "LatticeKeys$DsaSet") (TT := T_DS) (N := 17) hx hb hts (wg_ft i_DS) hown hK hO k_st (kn := 11) (ci := 2) (fl := [(1, 8), (1, 7), (1, 2), (1, 3), (1, 60), (1, 64), (1, 20), (1, 524288), (1, 16), (1, 4), (1, 261888), (1, 75), (1, 120), (1, 2592), (1, 4896), (1, 4544), (1, 4627)]) rfl hP rfl 1 (by decide) (hts _ (wg_t kw_304)) (fun _ h9 => h9) (cd := (1, 7)) rfl dSA_expandMatrix_18 (fun v23 hv23 => ?_)
          obtain rfl := (show v23 = .int (nI 7) from hv23)
          refine mi_ge (tgt := 51) hx hb dSA_expandMatrix_21 (by decide) (by omega) (by omega) (fun h23 => ?_) (fun h23 => absurd h23 (by omega))
          refine mi_iinc (k := 1) (x := i21) (d := 1) (y := i21 + 1) (lv' := [(4, .int (nI (i21 + 1))), (5, .int (nI i22)), (0, .ref h0), (1, .ref st), (2, .ref b), (3, .ref mx)]) hx hb dSA_expandMatrix_51 hl rfl (by decide) rfl (by decide) rfl (fun ls hl => ?_)
          refine lv_goto (tgt := 3) hx hb dSA_expandMatrix_54 (by decide) ?_
          exact ih21 (i21 + 1) s22 pl ls H locs (by omega) hF hR (lv_sub hl [0, 2, 3, 4, 5] rfl) hO hP hD hS
        | succ n22 ih22 =>
          intro i22 s22 pl ls H locs hm22 hF hR hl hO hP hD hS
          refine lv_iload hx hb dSA_expandMatrix_15 (lv_at hl 0 rfl) ?_
          refine lv_aload_n hx hb dSA_expandMatrix_17 rfl (lv_at hl 3 rfl) ?_
          refine nw_get (C := "LatticeKeys$DsaSet") (TT := T_DS) (N := 17) hx hb hts (wg_ft i_DS) hown hK hO k_st (kn := 11) (ci := 2) (fl := [(1, 8), (1, 7), (1, 2), (1, 3), (1, 60), (1, 64), (1, 20), (1, 524288), (1, 16), (1, 4), (1, 261888), (1, 75), (1, 120), (1, 2592), (1, 4896), (1, 4544), (1, 4627)]) rfl hP rfl 1 (by decide) (hts _ (wg_t kw_304)) (fun _ h9 => h9) (cd := (1, 7)) rfl dSA_expandMatrix_18 (fun v24 hv24 => ?_)
          obtain rfl := (show v24 = .int (nI 7) from hv24)
          refine mi_ge (tgt := 51) hx hb dSA_expandMatrix_21 (by decide) (by omega) (by omega) (fun h24 => absurd h24 (by omega)) (fun h24 => ?_)
          refine lv_aload_n hx hb dSA_expandMatrix_24 rfl (lv_at hl 2 rfl) ?_
          refine lv_aload_n hx hb dSA_expandMatrix_25 rfl (lv_at hl 5 rfl) ?_
          refine lv_aload_n hx hb dSA_expandMatrix_26 rfl (lv_at hl 3 rfl) ?_
          refine nw_get (C := "LatticeKeys$DsaSet") (TT := T_DS) (N := 17) hx hb hts (wg_ft i_DS) hown hK hO k_st (kn := 11) (ci := 2) (fl := [(1, 8), (1, 7), (1, 2), (1, 3), (1, 60), (1, 64), (1, 20), (1, 524288), (1, 16), (1, 4), (1, 261888), (1, 75), (1, 120), (1, 2592), (1, 4896), (1, 4544), (1, 4627)]) rfl hP rfl 1 (by decide) (hts _ (wg_t kw_304)) (fun _ h9 => h9) (cd := (1, 7)) rfl dSA_expandMatrix_27 (fun v25 hv25 => ?_)
          obtain rfl := (show v25 = .int (nI 7) from hv25)
          refine lv_iload hx hb dSA_expandMatrix_30 (lv_at hl 1 rfl) ?_
          refine mi_imul hx hb dSA_expandMatrix_32 ?_
          refine lv_iload hx hb dSA_expandMatrix_33 (lv_at hl 0 rfl) ?_
          refine mi_iadd hx hb dSA_expandMatrix_35 ?_
          refine nw_aald3 hx hb hK hO k_mx (k := 40) (b := 41) rfl hP (by omega) (by omega) dSA_expandMatrix_36 (fun r21 kr21 => ?_)
          have hn21 : nsp (41 + ((7 * i21) + i22)) = (0, 256, []) := rows_ok 41 56 (by decide) _ (by omega)
          refine lv_aload_n hx hb dSA_expandMatrix_37 rfl (lv_at hl 4 rfl) ?_
          refine lv_iload hx hb dSA_expandMatrix_38 (lv_at hl 0 rfl) ?_
          refine lv_iload hx hb dSA_expandMatrix_40 (lv_at hl 1 rfl) ?_
          refine mp_v (cx := []) (wr := []) hP hD hS hA [] [] rfl rfl rfl (by decide) (va_runV (As := [.ref r21, .ref b, .int (nI i22), .int (nI i21)]) (rest := []) F (N_SA_sampleEntry l g _ T s22 pl hO hU h0 r21 b (41 + ((7 * i21) + i22)) pb n (nI i22) (nI i21) k_h0 kr21 hn21 k_b n_b (by omega) (by omega)) (cwV 4 hts (wg_app (wg_c kw_707 (wg_c kw_709 (wg_c ks_14 (wg_c kw_6 wg_n)))) kw_710) rfl rfl rfl (by decide +kernel) ⟨by decide, by decide⟩) (pn_W "LatticeKeys$DsaSampler" (en_ok g) (ci := 7) (kn := 37) (fl := [(3, 18), (3, 38)]) hK hO k_h0 rfl hP hD hS hA hE [] rfl rfl rfl) rfl rfl hl.1 rfl (lv_room (Nat.le_of_ble_eq_true rfl)) dSA_expandMatrix_42 ⟨by omega, by omega⟩) (fun  u21 H locs hu21 hP hD hS => ?_)
          obtain ⟨s23, pl⟩ := u21
          obtain ⟨⟨eq21, hFc21, -⟩, hO⟩ := hu21
          have hO : okn g T s23 pl := hO
          have hP : va_P g.1 vcl ([] ++ pl) _ := hP
          have hD : va_D _ ([] ++ pl) := hD
          have hFc21 : frm (M_SA_sampleEntry (41 + ((7 * i21) + i22))) s22 s23 := hFc21
          replace hR := bnd_step hR eq21
          have hF := frm_tr hF hFc21 (fun k hk => by unfold M_SA_sampleEntry at hk; unfold M_SA_expandMatrix_2; omega)
          refine W.widen (k := 0) (n := 0) (by omega) (by omega) ?_
          refine mi_iinc (k := 0) (x := i22) (d := 1) (y := i22 + 1) (lv' := [(5, .int (nI (i22 + 1))), (4, .int (nI i21)), (0, .ref h0), (1, .ref st), (2, .ref b), (3, .ref mx)]) hx hb dSA_expandMatrix_45 hl rfl (by decide) rfl (by decide) rfl (fun ls hl => ?_)
          refine lv_goto (tgt := 15) hx hb dSA_expandMatrix_48 (by decide) ?_
          exact ih22 (i22 + 1) s23 pl ls H locs (by omega) hF hR (lv_sub hl [0, 1, 2, 3, 4, 5] rfl) hO hP hD hS
      exact lp22 7 0 s21 pl ls _ _ (by omega) hF hR (lv_sub hl [0, 1, 2, 3, 4, 5] rfl) hO hP hD hS
  exact lp21 8 0 s pl ls _ _ (by omega) hF hR (lv_sub hl [0, 1, 2, 3, 4] rfl) hO hP hD hS
def M_SA_putSmall_2 (pf : Nat) (k : Nat) : Prop := k = pf ∨ (0 : Nat) = 1
noncomputable def F_SA_putSmall_2 (pf : Nat) (fl : Nat) (hf : Int32) (s : Sto) : Int32 × Sto := if (nI 15) ≤ hf then (nI fl, s) else if fl < 256 then bnd (((nI 2) - (hf - hf / (nI 5) * (nI 5)))) fun z21 => if 0 ≤ z21 then bnd (sI s pf fl z21) fun s21 => (nI (fl + 1), s21) else bnd (sI s pf fl (z21 + (nI 8380417))) fun s22 => (nI (fl + 1), s22) else (nI fl, s)
set_option maxHeartbeats 400000 in
set_option maxRecDepth 100000 in
theorem N_SA_putSmall_2 (l : Launch) (g : Gd) (sz : Nat) (T : TyN) (s : Sto) (pl : va_W) (hO : okn g T s pl) (hU : inj T) (h0 f : Nat) (pf : Nat) (fl : Nat) (hf : Int32) (k_h0 : T h0 = some 37) (k_f : T f = some pf) (n_f : nsp pf = (0, 256, [])) (h1 : fl ≤ 256)  : Met l y_SA_putSmall w_SA_putSmall ({ frames := 0, cells := 0, slots := 0, locals := 0 } : Room) (va_Pc [.ref h0, .int (nI 2), .ref f, .int (nI fl), .int hf] (pr (en g) g.1 vcl sz ([] ++ pl))) (va_Qi (fun (r : Int32) (u : (Int32 × Sto) × va_W) => (u.1 = F_SA_putSmall_2 pf fl hf s ∧ r = u.1.1 ∧ frm (M_SA_putSmall_2 pf) s u.1.2 ∧ (∃ x : Nat, u.1.1 = nI x ∧ x < 257) ∧ True) ∧ okn g T u.1.2 u.2) (po g.1 vcl (va_A ([] ++ pl) sz) (fun (u : (Int32 × Sto) × va_W) => [] ++ u.2)) (va_A ([] ++ pl) sz)) 0 0 (va_A ([] ++ pl) sz) := by
  refine mc_entry (cc := c_SA_putSmall) (maxL := 7) (ret := (some .int)) (by decide) rfl (Nat.le_of_ble_eq_true rfl) ?_
  intro p e s0 m args below meth c ls F hr hlk hnm hsz hP hD hE hA hl
  obtain ⟨hx, hb, hml, hown, hts⟩ := id F
  have hK := hE.1
  generalize va_A ([] ++ pl) sz = A at hD hE hA ⊢
  have hS : va_S A s0.heap s0.heap [] := va_S.rf
  have hl : lv_has ls 7 [(0, .ref h0), (1, .int (nI 2)), (2, .ref f), (3, .int (nI fl)), (4, .int hf)] := hl
  have hR : F_SA_putSmall_2 pf fl hf s = F_SA_putSmall_2 pf fl hf s := rfl
  have hF : frm (M_SA_putSmall_2 pf) s s := frm_rf
  refine lv_iload_n hx hb dSA_putSmall_0 rfl (lv_at hl 1 rfl) ?_
  refine lv_iconst (v := nI 2) hx hb dSA_putSmall_1 (by decide) ?_
  refine mi_ne (tgt := 10) hx hb dSA_putSmall_2 (by decide) (by omega) (by omega) (fun h21 => absurd h21 (by omega)) (fun h21 => ?_)
  refine lv_bipush (v := nI 15) hx hb dSA_putSmall_5 (by decide) ?_
  refine lv_goto (tgt := 12) hx hb dSA_putSmall_7 (by decide) ?_
  refine lv_istore (lv' := [(5, .int (nI 15)), (0, .ref h0), (1, .int (nI 2)), (2, .ref f), (3, .int (nI fl)), (4, .int hf)]) hx hb dSA_putSmall_12 hl (by decide) rfl (fun ls hl => ?_)
  refine lv_iload hx hb dSA_putSmall_14 (lv_at hl 5 rfl) ?_
  refine lv_iload hx hb dSA_putSmall_16 (lv_at hl 0 rfl) ?_
  refine lv_icmp_ge (tgt := 28) hx hb dSA_putSmall_18 (by decide) (fun h22 => ?_) (fun h22 => ?_)
  · replace hR := hR.trans (if_pos h22)
    refine lv_iload_n hx hb dSA_putSmall_28 rfl (lv_at hl 4 rfl) ?_
    exact mp_iret hx hb hr hlk hP hD hS ((nI fl, s), pl) ⟨⟨hR.symm, rfl, hF, ⟨fl, rfl, by omega⟩, trivial⟩, hO⟩ [] rfl rfl rfl (by omega) (by omega) dSA_putSmall_29
  · replace hR := hR.trans (if_neg h22)
    refine lv_iload_n hx hb dSA_putSmall_21 rfl (lv_at hl 4 rfl) ?_
    refine lv_sipush (v := nI 256) hx hb dSA_putSmall_22 (by decide) ?_
    refine mi_lt (tgt := 30) hx hb dSA_putSmall_25 (by decide) (by omega) (by omega) (fun h23 => ?_) (fun h23 => ?_)
    · replace hR := hR.trans (if_pos h23)
      refine lv_iload_n hx hb dSA_putSmall_30 rfl (lv_at hl 2 rfl) ?_
      refine lv_iload_n hx hb dSA_putSmall_31 rfl (lv_at hl 2 rfl) ?_
      refine lv_iconst (v := nI 2) hx hb dSA_putSmall_32 (by decide) ?_
      refine mi_ne (tgt := 43) hx hb dSA_putSmall_33 (by decide) (by omega) (by omega) (fun h24 => absurd h24 (by omega)) (fun h24 => ?_)
      refine lv_iload hx hb dSA_putSmall_36 (lv_at hl 5 rfl) ?_
      refine lv_iconst (v := nI 5) hx hb dSA_putSmall_38 (by decide) ?_
      refine lv_irem hx hb dSA_putSmall_39 (nI_ne0 (by omega) (by omega)) ?_
      refine lv_goto (tgt := 45) hx hb dSA_putSmall_40 (by decide) ?_
      refine lv_isub hx hb dSA_putSmall_45 ?_
      refine mi_eqv (fun z21 ez21 => ?_)
      replace hR := bnd_step hR ez21
      refine lv_istore (lv' := [(6, .int z21), (5, .int (nI 15)), (0, .ref h0), (1, .int (nI 2)), (2, .ref f), (3, .int (nI fl)), (4, .int hf)]) hx hb dSA_putSmall_46 hl (by decide) rfl (fun ls hl => ?_)
      refine lv_aload_n hx hb dSA_putSmall_48 rfl (lv_at hl 4 rfl) ?_
      refine lv_iload_n hx hb dSA_putSmall_49 rfl (lv_at hl 5 rfl) ?_
      refine lv_iload hx hb dSA_putSmall_50 (lv_at hl 0 rfl) ?_
      refine lv_if_ge (tgt := 63) hx hb dSA_putSmall_52 (by decide) (fun h25 => ?_) (fun h25 => ?_)
      · replace hR := hR.trans (if_pos h25)
        refine lv_iload hx hb dSA_putSmall_63 (lv_at hl 0 rfl) ?_
        refine nw_iast hx hb hK hO hU k_f (k := pf) n_f hP hD hS (by omega) (by omega) dSA_putSmall_65 (fun s21 pl H locs es21 hO hP hD hS => ?_)
        replace hR := bnd_step hR es21
        have hF := frm_sI hF es21 (by unfold M_SA_putSmall_2; omega)
        refine lv_iload_n hx hb dSA_putSmall_66 rfl (lv_at hl 5 rfl) ?_
        refine lv_iconst (v := nI 1) hx hb dSA_putSmall_67 (by decide) ?_
        refine mi_iadd hx hb dSA_putSmall_68 ?_
        exact mp_iret hx hb hr hlk hP hD hS ((nI (fl + 1), s21), pl) ⟨⟨hR.symm, rfl, hF, ⟨fl + 1, rfl, by omega⟩, trivial⟩, hO⟩ [] rfl rfl rfl (by omega) (by omega) dSA_putSmall_69
      · replace hR := hR.trans (if_neg h25)
        refine lv_iload hx hb dSA_putSmall_55 (lv_at hl 0 rfl) ?_
        refine lv_ldc (v := 8380417) hx hb hown (hts _ (wg_t kw_697)) dSA_putSmall_57 ?_
        refine mi_as (show (8380417 : Int32) = nI 8380417 by decide) ?_
        refine lv_iadd hx hb dSA_putSmall_59 ?_
        refine lv_goto (tgt := 65) hx hb dSA_putSmall_60 (by decide) ?_
        refine nw_iast hx hb hK hO hU k_f (k := pf) n_f hP hD hS (by omega) (by omega) dSA_putSmall_65 (fun s22 pl H locs es22 hO hP hD hS => ?_)
        replace hR := bnd_step hR es22
        have hF := frm_sI hF es22 (by unfold M_SA_putSmall_2; omega)
        refine lv_iload_n hx hb dSA_putSmall_66 rfl (lv_at hl 5 rfl) ?_
        refine lv_iconst (v := nI 1) hx hb dSA_putSmall_67 (by decide) ?_
        refine mi_iadd hx hb dSA_putSmall_68 ?_
        exact mp_iret hx hb hr hlk hP hD hS ((nI (fl + 1), s22), pl) ⟨⟨hR.symm, rfl, hF, ⟨fl + 1, rfl, by omega⟩, trivial⟩, hO⟩ [] rfl rfl rfl (by omega) (by omega) dSA_putSmall_69
    · replace hR := hR.trans (if_neg (Nat.not_lt.mpr h23))
      refine lv_iload_n hx hb dSA_putSmall_28 rfl (lv_at hl 4 rfl) ?_
      exact mp_iret hx hb hr hlk hP hD hS ((nI fl, s), pl) ⟨⟨hR.symm, rfl, hF, ⟨fl, rfl, by omega⟩, trivial⟩, hO⟩ [] rfl rfl rfl (by omega) (by omega) dSA_putSmall_29
def M_SA_putSmall_4 (pf : Nat) (k : Nat) : Prop := k = pf ∨ (0 : Nat) = 1
noncomputable def F_SA_putSmall_4 (pf : Nat) (fl : Nat) (hf : Int32) (s : Sto) : Int32 × Sto := if (nI 9) ≤ hf then (nI fl, s) else if fl < 256 then bnd (((nI 4) - hf)) fun z21 => if 0 ≤ z21 then bnd (sI s pf fl z21) fun s21 => (nI (fl + 1), s21) else bnd (sI s pf fl (z21 + (nI 8380417))) fun s22 => (nI (fl + 1), s22) else (nI fl, s)
set_option maxHeartbeats 400000 in
set_option maxRecDepth 100000 in
theorem N_SA_putSmall_4 (l : Launch) (g : Gd) (sz : Nat) (T : TyN) (s : Sto) (pl : va_W) (hO : okn g T s pl) (hU : inj T) (h0 f : Nat) (pf : Nat) (fl : Nat) (hf : Int32) (k_h0 : T h0 = some 37) (k_f : T f = some pf) (n_f : nsp pf = (0, 256, [])) (h1 : fl ≤ 256)  : Met l y_SA_putSmall w_SA_putSmall ({ frames := 0, cells := 0, slots := 0, locals := 0 } : Room) (va_Pc [.ref h0, .int (nI 4), .ref f, .int (nI fl), .int hf] (pr (en g) g.1 vcl sz ([] ++ pl))) (va_Qi (fun (r : Int32) (u : (Int32 × Sto) × va_W) => (u.1 = F_SA_putSmall_4 pf fl hf s ∧ r = u.1.1 ∧ frm (M_SA_putSmall_4 pf) s u.1.2 ∧ (∃ x : Nat, u.1.1 = nI x ∧ x < 257) ∧ True) ∧ okn g T u.1.2 u.2) (po g.1 vcl (va_A ([] ++ pl) sz) (fun (u : (Int32 × Sto) × va_W) => [] ++ u.2)) (va_A ([] ++ pl) sz)) 0 0 (va_A ([] ++ pl) sz) := by
  refine mc_entry (cc := c_SA_putSmall) (maxL := 7) (ret := (some .int)) (by decide) rfl (Nat.le_of_ble_eq_true rfl) ?_
  intro p e s0 m args below meth c ls F hr hlk hnm hsz hP hD hE hA hl
  obtain ⟨hx, hb, hml, hown, hts⟩ := id F
  have hK := hE.1
  generalize va_A ([] ++ pl) sz = A at hD hE hA ⊢
  have hS : va_S A s0.heap s0.heap [] := va_S.rf
  have hl : lv_has ls 7 [(0, .ref h0), (1, .int (nI 4)), (2, .ref f), (3, .int (nI fl)), (4, .int hf)] := hl
  have hR : F_SA_putSmall_4 pf fl hf s = F_SA_putSmall_4 pf fl hf s := rfl
  have hF : frm (M_SA_putSmall_4 pf) s s := frm_rf
  refine lv_iload_n hx hb dSA_putSmall_0 rfl (lv_at hl 1 rfl) ?_
  refine lv_iconst (v := nI 2) hx hb dSA_putSmall_1 (by decide) ?_
  refine mi_ne (tgt := 10) hx hb dSA_putSmall_2 (by decide) (by omega) (by omega) (fun h21 => ?_) (fun h21 => absurd h21 (by omega))
  refine lv_bipush (v := nI 9) hx hb dSA_putSmall_10 (by decide) ?_
  refine lv_istore (lv' := [(5, .int (nI 9)), (0, .ref h0), (1, .int (nI 4)), (2, .ref f), (3, .int (nI fl)), (4, .int hf)]) hx hb dSA_putSmall_12 hl (by decide) rfl (fun ls hl => ?_)
  refine lv_iload hx hb dSA_putSmall_14 (lv_at hl 5 rfl) ?_
  refine lv_iload hx hb dSA_putSmall_16 (lv_at hl 0 rfl) ?_
  refine lv_icmp_ge (tgt := 28) hx hb dSA_putSmall_18 (by decide) (fun h22 => ?_) (fun h22 => ?_)
  · replace hR := hR.trans (if_pos h22)
    refine lv_iload_n hx hb dSA_putSmall_28 rfl (lv_at hl 4 rfl) ?_
    exact mp_iret hx hb hr hlk hP hD hS ((nI fl, s), pl) ⟨⟨hR.symm, rfl, hF, ⟨fl, rfl, by omega⟩, trivial⟩, hO⟩ [] rfl rfl rfl (by omega) (by omega) dSA_putSmall_29
  · replace hR := hR.trans (if_neg h22)
    refine lv_iload_n hx hb dSA_putSmall_21 rfl (lv_at hl 4 rfl) ?_
    refine lv_sipush (v := nI 256) hx hb dSA_putSmall_22 (by decide) ?_
    refine mi_lt (tgt := 30) hx hb dSA_putSmall_25 (by decide) (by omega) (by omega) (fun h23 => ?_) (fun h23 => ?_)
    · replace hR := hR.trans (if_pos h23)
      refine lv_iload_n hx hb dSA_putSmall_30 rfl (lv_at hl 2 rfl) ?_
      refine lv_iload_n hx hb dSA_putSmall_31 rfl (lv_at hl 2 rfl) ?_
      refine lv_iconst (v := nI 2) hx hb dSA_putSmall_32 (by decide) ?_
      refine mi_ne (tgt := 43) hx hb dSA_putSmall_33 (by decide) (by omega) (by omega) (fun h24 => ?_) (fun h24 => absurd h24 (by omega))
      refine lv_iload hx hb dSA_putSmall_43 (lv_at hl 5 rfl) ?_
      refine lv_isub hx hb dSA_putSmall_45 ?_
      refine mi_eqv (fun z21 ez21 => ?_)
      replace hR := bnd_step hR ez21
      refine lv_istore (lv' := [(6, .int z21), (5, .int (nI 9)), (0, .ref h0), (1, .int (nI 4)), (2, .ref f), (3, .int (nI fl)), (4, .int hf)]) hx hb dSA_putSmall_46 hl (by decide) rfl (fun ls hl => ?_)
      refine lv_aload_n hx hb dSA_putSmall_48 rfl (lv_at hl 4 rfl) ?_
      refine lv_iload_n hx hb dSA_putSmall_49 rfl (lv_at hl 5 rfl) ?_
      refine lv_iload hx hb dSA_putSmall_50 (lv_at hl 0 rfl) ?_
      refine lv_if_ge (tgt := 63) hx hb dSA_putSmall_52 (by decide) (fun h25 => ?_) (fun h25 => ?_)
      · replace hR := hR.trans (if_pos h25)
        refine lv_iload hx hb dSA_putSmall_63 (lv_at hl 0 rfl) ?_
        refine nw_iast hx hb hK hO hU k_f (k := pf) n_f hP hD hS (by omega) (by omega) dSA_putSmall_65 (fun s21 pl H locs es21 hO hP hD hS => ?_)
        replace hR := bnd_step hR es21
        have hF := frm_sI hF es21 (by unfold M_SA_putSmall_4; omega)
        refine lv_iload_n hx hb dSA_putSmall_66 rfl (lv_at hl 5 rfl) ?_
        refine lv_iconst (v := nI 1) hx hb dSA_putSmall_67 (by decide) ?_
        refine mi_iadd hx hb dSA_putSmall_68 ?_
        exact mp_iret hx hb hr hlk hP hD hS ((nI (fl + 1), s21), pl) ⟨⟨hR.symm, rfl, hF, ⟨fl + 1, rfl, by omega⟩, trivial⟩, hO⟩ [] rfl rfl rfl (by omega) (by omega) dSA_putSmall_69
      · replace hR := hR.trans (if_neg h25)
        refine lv_iload hx hb dSA_putSmall_55 (lv_at hl 0 rfl) ?_
        refine lv_ldc (v := 8380417) hx hb hown (hts _ (wg_t kw_697)) dSA_putSmall_57 ?_
        refine mi_as (show (8380417 : Int32) = nI 8380417 by decide) ?_
        refine lv_iadd hx hb dSA_putSmall_59 ?_
        refine lv_goto (tgt := 65) hx hb dSA_putSmall_60 (by decide) ?_
        refine nw_iast hx hb hK hO hU k_f (k := pf) n_f hP hD hS (by omega) (by omega) dSA_putSmall_65 (fun s22 pl H locs es22 hO hP hD hS => ?_)
        replace hR := bnd_step hR es22
        have hF := frm_sI hF es22 (by unfold M_SA_putSmall_4; omega)
        refine lv_iload_n hx hb dSA_putSmall_66 rfl (lv_at hl 5 rfl) ?_
        refine lv_iconst (v := nI 1) hx hb dSA_putSmall_67 (by decide) ?_
        refine mi_iadd hx hb dSA_putSmall_68 ?_
        exact mp_iret hx hb hr hlk hP hD hS ((nI (fl + 1), s22), pl) ⟨⟨hR.symm, rfl, hF, ⟨fl + 1, rfl, by omega⟩, trivial⟩, hO⟩ [] rfl rfl rfl (by omega) (by omega) dSA_putSmall_69
    · replace hR := hR.trans (if_neg (Nat.not_lt.mpr h23))
      refine lv_iload_n hx hb dSA_putSmall_28 rfl (lv_at hl 4 rfl) ?_
      exact mp_iret hx hb hr hlk hP hD hS ((nI fl, s), pl) ⟨⟨hR.symm, rfl, hF, ⟨fl, rfl, by omega⟩, trivial⟩, hO⟩ [] rfl rfl rfl (by omega) (by omega) dSA_putSmall_29
def M_SA_sampleSmall_0 (pf : Nat) (k : Nat) : Prop := k = 18 ∨ k = pf ∨ (0 : Nat) = 1
noncomputable def F_SA_sampleSmall_0_L0 (pf : Nat) : Nat → Nat → Nat → Sto → Sto
  | 0, i21, fl21, s22 => if 256 ≤ fl21 then s22 else s22
  | n21 + 1, i21, fl21, s22 => if 256 ≤ fl21 then s22 else bnd (F_SP_nextByte 18 19 s22) fun q21 => bnd (q21.1.toNatClampNeg) fun z21 => bnd (F_SA_putSmall_2 pf fl21 ((nI z21) &&& (nI 15)) q21.2) fun q22 => bnd (q22.1.toNatClampNeg) fun z22 => bnd (F_SA_putSmall_2 pf z22 (nI (z21 / 16)) q22.2) fun q23 => bnd (q23.1.toNatClampNeg) fun z23 => F_SA_sampleSmall_0_L0 pf n21 (i21 + 1) z23 q23.2
noncomputable def F_SA_sampleSmall_0 (pf : Nat) (pb : Nat) (n : Nat) (at_ : Nat) (wh : Int32) (s : Sto) : Sto := bnd (F_SA_startNumbered pb n at_ wh s) fun s21 => F_SA_sampleSmall_0_L0 pf 1000000 0 0 s21
set_option maxHeartbeats 400000 in
set_option maxRecDepth 100000 in
theorem N_SA_sampleSmall_0 (l : Launch) (g : Gd) (sz : Nat) (T : TyN) (s : Sto) (pl : va_W) (hO : okn g T s pl) (hU : inj T) (h0 st f b : Nat) (pf : Nat) (pb : Nat) (n : Nat) (at_ : Nat) (wh : Int32) (k_h0 : T h0 = some 37) (k_st : T st = some 9) (k_f : T f = some pf) (n_f : nsp pf = (0, 256, [])) (k_b : T b = some pb) (n_b : nsp pb = (1, n, [])) (h1 : at_ + 64 ≤ n) (h2 : n < 65536)  : Met l y_SA_sampleSmall w_SA_sampleSmall ({ frames := 4, cells := 0, slots := 0, locals := 123 } : Room) (va_Pc [.ref h0, .ref st, .ref f, .ref b, .int (nI at_), .int wh] (pr (en g) g.1 vcl sz ([] ++ pl))) (va_Qv (fun (u : (Sto) × va_W) => (u.1 = F_SA_sampleSmall_0 pf pb n at_ wh s ∧ frm (M_SA_sampleSmall_0 pf) s u.1 ∧ True) ∧ okn g T u.1 u.2) (po g.1 vcl (va_A ([] ++ pl) sz) (fun (u : (Sto) × va_W) => [] ++ u.2)) (va_A ([] ++ pl) sz)) 0 0 (va_A ([] ++ pl) sz) := by
  refine mc_entry (cc := c_SA_sampleSmall) (maxL := 9) (ret := none) (by decide) rfl (Nat.le_of_ble_eq_true rfl) ?_
  intro p e s0 m args below meth c ls F hr hlk hnm hsz hP hD hE hA hl
  obtain ⟨hx, hb, hml, hown, hts⟩ := id F
  have hK := hE.1
  generalize va_A ([] ++ pl) sz = A at hD hE hA ⊢
  have hS : va_S A s0.heap s0.heap [] := va_S.rf
  have hl : lv_has ls 9 [(0, .ref h0), (1, .ref st), (2, .ref f), (3, .ref b), (4, .int (nI at_)), (5, .int wh)] := hl
  have hR : F_SA_sampleSmall_0 pf pb n at_ wh s = F_SA_sampleSmall_0 pf pb n at_ wh s := rfl
  have hF : frm (M_SA_sampleSmall_0 pf) s s := frm_rf
  have ne_18_pf : 18 ≠ pf := nsp_ne (p := 18) rfl n_f (show (5 : Nat) ≠ 0 by decide)
  have ne_18_pb : 18 ≠ pb := nsp_ne (p := 18) rfl n_b (show (5 : Nat) ≠ 1 by decide)
  refine lv_aload_n hx hb dSA_sampleSmall_0 rfl (lv_at hl 0 rfl) ?_
  refine lv_aload_n hx hb dSA_sampleSmall_1 rfl (lv_at hl 3 rfl) ?_
  refine lv_iload hx hb dSA_sampleSmall_2 (lv_at hl 4 rfl) ?_
  refine lv_iload hx hb dSA_sampleSmall_4 (lv_at hl 5 rfl) ?_
  refine mp_v (cx := []) (wr := []) hP hD hS hA [] [] rfl rfl rfl (by decide) (va_runV (As := [.ref b, .int (nI at_), .int wh]) (rest := []) F (N_SA_startNumbered l g _ T s pl hO hU h0 b pb n at_ wh k_h0 k_b n_b (by omega) (by omega)) (cwV 3 hts (wg_app (wg_c kw_683 (wg_c kw_685 (wg_c ks_12 (wg_c kw_6 wg_n)))) kw_686) rfl rfl rfl (by decide +kernel) ⟨by decide, by decide⟩) (pn_W "LatticeKeys$DsaSampler" (en_ok g) (ci := 7) (kn := 37) (fl := [(3, 18), (3, 38)]) hK hO k_h0 rfl hP hD hS hA hE [] rfl rfl rfl) rfl rfl hl.1 rfl (lv_room (Nat.le_of_ble_eq_true rfl)) dSA_sampleSmall_6 ⟨by omega, by omega⟩) (fun  u21 H locs hu21 hP hD hS => ?_)
  obtain ⟨s21, pl⟩ := u21
  obtain ⟨⟨eq21, hFc21, ⟨x21, hx_21, hb_21⟩, ⟨x22, hx_22, hb_22⟩, -⟩, hO⟩ := hu21
  have hO : okn g T s21 pl := hO
  have hP : va_P g.1 vcl ([] ++ pl) _ := hP
  have hD : va_D _ ([] ++ pl) := hD
  have hFc21 : frm (M_SA_startNumbered) s s21 := hFc21
  have hb_21 : x21 = 136 := hb_21
  have hb_22 : x22 = 136 := hb_22
  replace hR := bnd_step hR eq21
  have hF := frm_tr hF hFc21 (fun k hk => by unfold M_SA_startNumbered at hk; unfold M_SA_sampleSmall_0; omega)
  refine W.widen (k := 0) (n := 0) (by omega) (by omega) ?_
  refine lv_iconst (v := nI 0) hx hb dSA_sampleSmall_9 (by decide) ?_
  refine lv_istore (lv' := [(6, .int (nI 0)), (0, .ref h0), (1, .ref st), (2, .ref f), (3, .ref b), (4, .int (nI at_)), (5, .int wh)]) hx hb dSA_sampleSmall_10 hl (by decide) rfl (fun ls hl => ?_)
  refine lv_iconst (v := nI 0) hx hb dSA_sampleSmall_12 (by decide) ?_
  refine lv_istore (lv' := [(7, .int (nI 0)), (6, .int (nI 0)), (0, .ref h0), (1, .ref st), (2, .ref f), (3, .ref b), (4, .int (nI at_)), (5, .int wh)]) hx hb dSA_sampleSmall_13 hl (by decide) rfl (fun ls hl => ?_)
  have lp21 : ∀ (n21 : Nat) (i21 : Nat) (fl21 : Nat) (s22 : Sto) (ps21 : Nat) (pl : va_W) (ls : Array Slot) (H : Heap) (locs : List Loc), n21 + i21 = 1000000 → (fl21 ≤ 256) → (ps21 ≤ 136) → frm (M_SA_sampleSmall_0 pf) s s22 → s22.1 18 3 = nI ps21 → s22.1 18 1 = nI x22 → F_SA_sampleSmall_0 pf pb n at_ wh s = F_SA_sampleSmall_0_L0 pf n21 i21 fl21 s22 → lv_has ls 9 [(7, .int (nI i21)), (6, .int (nI fl21)), (0, .ref h0), (1, .ref st), (2, .ref f)] → okn g T s22 pl → va_P g.1 vcl ([] ++ pl) H → va_D A ([] ++ pl) → va_S A s0.heap H locs → W p l e ({ frames := 4, cells := 0, slots := 0, locals := 123 } : Room) s0 m args below meth c H locs 0 0 (MQ below (va_Qv (fun (u : (Sto) × va_W) => (u.1 = F_SA_sampleSmall_0 pf pb n at_ wh s ∧ frm (M_SA_sampleSmall_0 pf) s u.1 ∧ True) ∧ okn g T u.1 u.2) (po g.1 vcl A (fun (u : (Sto) × va_W) => [] ++ u.2)) A) args s0 0 0 A) (F0 m 15 ls []) := by
    intro n21
    induction n21 with
    | zero =>
      intro i21 fl21 s22 ps21 pl ls H locs hm21 hi21 hi22 hF hf21 hf22 hR hl hO hP hD hS
      refine lv_iload hx hb dSA_sampleSmall_15 (lv_at hl 1 rfl) ?_
      refine lv_sipush (v := nI 256) hx hb dSA_sampleSmall_17 (by decide) ?_
      refine mi_ge (tgt := 80) hx hb dSA_sampleSmall_20 (by decide) (by omega) (by omega) (fun h21 => ?_) (fun h21 => ?_)
      · replace hR := hR.trans (if_pos h21)
        exact mp_vret hx hb hr hlk hP hD hS (s22, pl) ⟨⟨hR.symm, hF, trivial⟩, hO⟩ [] rfl rfl rfl (by omega) (by omega) dSA_sampleSmall_80
      · replace hR := hR.trans (if_neg (Nat.not_le.mpr h21))
        refine lv_iload hx hb dSA_sampleSmall_23 (lv_at hl 0 rfl) ?_
        refine lv_ldc (v := 1000000) hx hb hown (hts _ (wg_t kw_691)) dSA_sampleSmall_25 ?_
        refine mi_as (show (1000000 : Int32) = nI 1000000 by decide) ?_
        refine mi_ge (tgt := 80) hx hb dSA_sampleSmall_27 (by decide) (by omega) (by omega) (fun h22 => ?_) (fun h22 => absurd h22 (by omega))
        exact mp_vret hx hb hr hlk hP hD hS (s22, pl) ⟨⟨hR.symm, hF, trivial⟩, hO⟩ [] rfl rfl rfl (by omega) (by omega) dSA_sampleSmall_80
    | succ n21 ih21 =>
      intro i21 fl21 s22 ps21 pl ls H locs hm21 hi21 hi22 hF hf23 hf24 hR hl hO hP hD hS
      refine lv_iload hx hb dSA_sampleSmall_15 (lv_at hl 1 rfl) ?_
      refine lv_sipush (v := nI 256) hx hb dSA_sampleSmall_17 (by decide) ?_
      refine mi_ge (tgt := 80) hx hb dSA_sampleSmall_20 (by decide) (by omega) (by omega) (fun h23 => ?_) (fun h23 => ?_)
      · replace hR := hR.trans (if_pos h23)
        exact mp_vret hx hb hr hlk hP hD hS (s22, pl) ⟨⟨hR.symm, hF, trivial⟩, hO⟩ [] rfl rfl rfl (by omega) (by omega) dSA_sampleSmall_80
      · replace hR := hR.trans (if_neg (Nat.not_le.mpr h23))
        refine lv_iload hx hb dSA_sampleSmall_23 (lv_at hl 0 rfl) ?_
        refine lv_ldc (v := 1000000) hx hb hown (hts _ (wg_t kw_691)) dSA_sampleSmall_25 ?_
        refine mi_as (show (1000000 : Int32) = nI 1000000 by decide) ?_
        refine mi_ge (tgt := 80) hx hb dSA_sampleSmall_27 (by decide) (by omega) (by omega) (fun h24 => absurd h24 (by omega)) (fun h24 => ?_)
        refine lv_aload_n hx hb dSA_sampleSmall_30 rfl (lv_at hl 2 rfl) ?_
        refine nw_get (C := "LatticeKeys$DsaSampler") (TT := T_SA) (N := 2) hx hb hts (wg_ft i_SA) hown hK hO k_h0 (kn := 37) (ci := 7) (fl := [(3, 18), (3, 38)]) rfl hP rfl 0 (by decide) (hts _ (wg_t kw_157)) (fun _ h9 => h9) (cd := (3, 18)) rfl dSA_sampleSmall_31 (fun v21 hv21 => ?_)
        obtain ⟨r21, rfl, kr21⟩ := (show ∃ r : Nat, v21 = .ref r ∧ T r = some 18 from hv21)
        refine mp_i (cx := []) (wr := []) hP hD hS hA [] [] rfl rfl rfl (by decide) (va_runV (As := []) (rest := []) F (N_SP_nextByte l g _ T s22 pl hO hU r21 18 19 ps21 x22 kr21 rfl rfl hf23 hf24 (by omega) (by omega)) (cwV 0 hts (wg_app (wg_c kw_692 (wg_c kw_619 (wg_c kw_620 (wg_c kw_2 wg_n)))) kw_621) rfl rfl rfl (by decide +kernel) ⟨by decide, by decide⟩) (pn_W "LatticeKeys$Sponge" (en_ok g) (ci := 3) (kn := 18) (fl := [(3, 19), (0, 0), (0, 0), (0, 0)]) hK hO kr21 rfl hP hD hS hA hE [] rfl rfl rfl) rfl rfl hl.1 rfl (lv_room (Nat.le_of_ble_eq_true rfl)) dSA_sampleSmall_34 ⟨by omega, by omega⟩) (fun r22 u22 H locs hu22 hP hD hS => ?_)
        obtain ⟨q21, pl⟩ := u22
        obtain ⟨⟨eq22, rfl, hFc22, ⟨x26, hx_26, hb_26⟩, ⟨x24, hx_24, hb_24⟩, ⟨x25, hx_25, hb_25⟩, -⟩, hO⟩ := hu22
        have hO : okn g T q21.2 pl := hO
        have hP : va_P g.1 vcl ([] ++ pl) _ := hP
        have hD : va_D _ ([] ++ pl) := hD
        have hFc22 : frm (M_SP_nextByte 18) s22 q21.2 := hFc22
        have hb_24 : x24 ≤ x22 := hb_24
        have hb_25 : x25 = x22 := hb_25
        have hb_26 : x26 < 256 := hb_26
        replace hR := bnd_step hR eq22
        have hF := frm_tr hF hFc22 (fun k hk => by unfold M_SP_nextByte at hk; unfold M_SA_sampleSmall_0; omega)
        obtain ⟨z21, ez21, hz21, hz22⟩ := cl_of (b := 2147483648) hx_26 (by omega) (by decide)
        replace hR := bnd_step hR ez21
        refine mi_as hz21 ?_
        refine W.widen (k := 0) (n := 0) (by omega) (by omega) ?_
        refine lv_istore (lv' := [(8, .int (nI z21)), (7, .int (nI i21)), (6, .int (nI fl21)), (0, .ref h0), (1, .ref st), (2, .ref f)]) hx hb dSA_sampleSmall_37 hl (by decide) rfl (fun ls hl => ?_)
        refine lv_aload_n hx hb dSA_sampleSmall_39 rfl (lv_at hl 3 rfl) ?_
        refine lv_aload_n hx hb dSA_sampleSmall_40 rfl (lv_at hl 4 rfl) ?_
        refine nw_get (C := "LatticeKeys$DsaSet") (TT := T_DS) (N := 17) hx hb hts (wg_ft i_DS) hown hK hO k_st (kn := 9) (ci := 2) (fl := [(1, 4), (1, 4), (1, 2), (1, 3), (1, 39), (1, 32), (1, 18), (1, 131072), (1, 44), (1, 6), (1, 95232), (1, 80), (1, 78), (1, 1312), (1, 2560), (1, 2336), (1, 2420)]) rfl hP rfl 2 (by decide) (hts _ (wg_t kw_308)) (fun _ h9 => h9) (cd := (1, 2)) rfl dSA_sampleSmall_41 (fun v22 hv22 => ?_)
        obtain rfl := (show v22 = .int (nI 2) from hv22)
        refine lv_aload_n hx hb dSA_sampleSmall_44 rfl (lv_at hl 5 rfl) ?_
        refine lv_iload hx hb dSA_sampleSmall_45 (lv_at hl 2 rfl) ?_
        refine lv_iload hx hb dSA_sampleSmall_47 (lv_at hl 0 rfl) ?_
        refine lv_bipush (v := nI 15) hx hb dSA_sampleSmall_49 (by decide) ?_
        refine lv_iand hx hb dSA_sampleSmall_51 ?_
        refine mp_i (cx := []) (wr := []) hP hD hS hA [] [] rfl rfl rfl (by decide) (va_runV (As := [.int (nI 2), .ref f, .int (nI fl21), .int (((nI z21) &&& (nI 15)))]) (rest := []) F (N_SA_putSmall_2 l g _ T q21.2 pl hO hU h0 f pf fl21 ((nI z21) &&& (nI 15)) k_h0 k_f n_f (by omega)) (cwV 4 hts (wg_app (wg_c kw_693 (wg_c kw_695 (wg_c ks_13 (wg_c kw_6 wg_n)))) kw_696) rfl rfl rfl (by decide +kernel) ⟨by decide, by decide⟩) (pn_W "LatticeKeys$DsaSampler" (en_ok g) (ci := 7) (kn := 37) (fl := [(3, 18), (3, 38)]) hK hO k_h0 rfl hP hD hS hA hE [] rfl rfl rfl) rfl rfl hl.1 rfl (lv_room (Nat.le_of_ble_eq_true rfl)) dSA_sampleSmall_52 ⟨by omega, by omega⟩) (fun r23 u23 H locs hu23 hP hD hS => ?_)
        obtain ⟨q22, pl⟩ := u23
        obtain ⟨⟨eq23, rfl, hFc23, ⟨x27, hx_27, hb_27⟩, -⟩, hO⟩ := hu23
        have hO : okn g T q22.2 pl := hO
        have hP : va_P g.1 vcl ([] ++ pl) _ := hP
        have hD : va_D _ ([] ++ pl) := hD
        have hFc23 : frm (M_SA_putSmall_2 pf) q21.2 q22.2 := hFc23
        have hb_27 : x27 < 257 := hb_27
        replace hR := bnd_step hR eq23
        have hF := frm_tr hF hFc23 (fun k hk => by unfold M_SA_putSmall_2 at hk; unfold M_SA_sampleSmall_0; omega)
        have hf25 : q22.2.1 18 3 = nI x24 := fc_F hx_24 hFc23 (by unfold M_SA_putSmall_2; omega)
        have hf26 : q22.2.1 18 1 = nI x25 := fc_F hx_25 hFc23 (by unfold M_SA_putSmall_2; omega)
        obtain ⟨z22, ez22, hz23, hz24⟩ := cl_of (b := 2147483648) hx_27 (by omega) (by decide)
        replace hR := bnd_step hR ez22
        refine mi_as hz23 ?_
        refine W.widen (k := 0) (n := 0) (by omega) (by omega) ?_
        refine lv_istore (lv' := [(6, .int (nI z22)), (8, .int (nI z21)), (7, .int (nI i21)), (0, .ref h0), (1, .ref st), (2, .ref f)]) hx hb dSA_sampleSmall_55 hl (by decide) rfl (fun ls hl => ?_)
        refine lv_aload_n hx hb dSA_sampleSmall_57 rfl (lv_at hl 3 rfl) ?_
        refine lv_aload_n hx hb dSA_sampleSmall_58 rfl (lv_at hl 4 rfl) ?_
        refine nw_get (C := "LatticeKeys$DsaSet") (TT := T_DS) (N := 17) hx hb hts (wg_ft i_DS) hown hK hO k_st (kn := 9) (ci := 2) (fl := [(1, 4), (1, 4), (1, 2), (1, 3), (1, 39), (1, 32), (1, 18), (1, 131072), (1, 44), (1, 6), (1, 95232), (1, 80), (1, 78), (1, 1312), (1, 2560), (1, 2336), (1, 2420)]) rfl hP rfl 2 (by decide) (hts _ (wg_t kw_308)) (fun _ h9 => h9) (cd := (1, 2)) rfl dSA_sampleSmall_59 (fun v23 hv23 => ?_)
        obtain rfl := (show v23 = .int (nI 2) from hv23)
        refine lv_aload_n hx hb dSA_sampleSmall_62 rfl (lv_at hl 5 rfl) ?_
        refine lv_iload hx hb dSA_sampleSmall_63 (lv_at hl 0 rfl) ?_
        refine lv_iload hx hb dSA_sampleSmall_65 (lv_at hl 1 rfl) ?_
        refine lv_iconst (v := nI 4) hx hb dSA_sampleSmall_67 (by decide) ?_
        refine mi_ishr hx hb dSA_sampleSmall_68 (by omega) (by decide) ?_
        refine mi_as (show nI (z21 / 2 ^ 4) = nI (z21 / 16) from rfl) ?_
        refine mp_i (cx := []) (wr := []) hP hD hS hA [] [] rfl rfl rfl (by decide) (va_runV (As := [.int (nI 2), .ref f, .int (nI z22), .int (nI (z21 / 16))]) (rest := []) F (N_SA_putSmall_2 l g _ T q22.2 pl hO hU h0 f pf z22 (nI (z21 / 16)) k_h0 k_f n_f (by omega)) (cwV 4 hts (wg_app (wg_c kw_693 (wg_c kw_695 (wg_c ks_13 (wg_c kw_6 wg_n)))) kw_696) rfl rfl rfl (by decide +kernel) ⟨by decide, by decide⟩) (pn_W "LatticeKeys$DsaSampler" (en_ok g) (ci := 7) (kn := 37) (fl := [(3, 18), (3, 38)]) hK hO k_h0 rfl hP hD hS hA hE [] rfl rfl rfl) rfl rfl hl.1 rfl (lv_room (Nat.le_of_ble_eq_true rfl)) dSA_sampleSmall_69 ⟨by omega, by omega⟩) (fun r24 u24 H locs hu24 hP hD hS => ?_)
        obtain ⟨q23, pl⟩ := u24
        obtain ⟨⟨eq24, rfl, hFc24, ⟨x28, hx_28, hb_28⟩, -⟩, hO⟩ := hu24
        have hO : okn g T q23.2 pl := hO
        have hP : va_P g.1 vcl ([] ++ pl) _ := hP
        have hD : va_D _ ([] ++ pl) := hD
        have hFc24 : frm (M_SA_putSmall_2 pf) q22.2 q23.2 := hFc24
        have hb_28 : x28 < 257 := hb_28
        replace hR := bnd_step hR eq24
        have hF := frm_tr hF hFc24 (fun k hk => by unfold M_SA_putSmall_2 at hk; unfold M_SA_sampleSmall_0; omega)
        have hf27 : q23.2.1 18 3 = nI x24 := fc_F hf25 hFc24 (by unfold M_SA_putSmall_2; omega)
        have hf28 : q23.2.1 18 1 = nI x25 := fc_F hf26 hFc24 (by unfold M_SA_putSmall_2; omega)
        obtain ⟨z23, ez23, hz25, hz26⟩ := cl_of (b := 2147483648) hx_28 (by omega) (by decide)
        replace hR := bnd_step hR ez23
        refine mi_as hz25 ?_
        refine W.widen (k := 0) (n := 0) (by omega) (by omega) ?_
        refine lv_istore (lv' := [(6, .int (nI z23)), (8, .int (nI z21)), (7, .int (nI i21)), (0, .ref h0), (1, .ref st), (2, .ref f)]) hx hb dSA_sampleSmall_72 hl (by decide) rfl (fun ls hl => ?_)
        refine mi_iinc (k := 2) (x := i21) (d := 1) (y := i21 + 1) (lv' := [(7, .int (nI (i21 + 1))), (6, .int (nI z23)), (8, .int (nI z21)), (0, .ref h0), (1, .ref st), (2, .ref f)]) hx hb dSA_sampleSmall_74 hl rfl (by decide) rfl (by decide) rfl (fun ls hl => ?_)
        refine lv_goto (tgt := 15) hx hb dSA_sampleSmall_77 (by decide) ?_
        exact ih21 (i21 + 1) z23 q23.2 x24 pl ls H locs (by omega) (by omega) (by omega) hF hf27 (by have h9 := hf28; rw [show x25 = x22 by omega] at h9; exact h9) hR (lv_sub hl [0, 1, 3, 4, 5] rfl) hO hP hD hS
  exact lp21 1000000 0 0 s21 x21 pl ls _ _ (by omega) (by omega) (by omega) hF hx_21 hx_22 hR (lv_sub hl [0, 1, 2, 3, 4] rfl) hO hP hD hS
def M_SA_sampleSmall_1 (pf : Nat) (k : Nat) : Prop := k = 18 ∨ k = pf ∨ (0 : Nat) = 1
noncomputable def F_SA_sampleSmall_1_L0 (pf : Nat) : Nat → Nat → Nat → Sto → Sto
  | 0, i21, fl21, s22 => if 256 ≤ fl21 then s22 else s22
  | n21 + 1, i21, fl21, s22 => if 256 ≤ fl21 then s22 else bnd (F_SP_nextByte 18 19 s22) fun q21 => bnd (q21.1.toNatClampNeg) fun z21 => bnd (F_SA_putSmall_4 pf fl21 ((nI z21) &&& (nI 15)) q21.2) fun q22 => bnd (q22.1.toNatClampNeg) fun z22 => bnd (F_SA_putSmall_4 pf z22 (nI (z21 / 16)) q22.2) fun q23 => bnd (q23.1.toNatClampNeg) fun z23 => F_SA_sampleSmall_1_L0 pf n21 (i21 + 1) z23 q23.2
noncomputable def F_SA_sampleSmall_1 (pf : Nat) (pb : Nat) (n : Nat) (at_ : Nat) (wh : Int32) (s : Sto) : Sto := bnd (F_SA_startNumbered pb n at_ wh s) fun s21 => F_SA_sampleSmall_1_L0 pf 1000000 0 0 s21
set_option maxHeartbeats 400000 in
set_option maxRecDepth 100000 in
theorem N_SA_sampleSmall_1 (l : Launch) (g : Gd) (sz : Nat) (T : TyN) (s : Sto) (pl : va_W) (hO : okn g T s pl) (hU : inj T) (h0 st f b : Nat) (pf : Nat) (pb : Nat) (n : Nat) (at_ : Nat) (wh : Int32) (k_h0 : T h0 = some 37) (k_st : T st = some 10) (k_f : T f = some pf) (n_f : nsp pf = (0, 256, [])) (k_b : T b = some pb) (n_b : nsp pb = (1, n, [])) (h1 : at_ + 64 ≤ n) (h2 : n < 65536)  : Met l y_SA_sampleSmall w_SA_sampleSmall ({ frames := 4, cells := 0, slots := 0, locals := 123 } : Room) (va_Pc [.ref h0, .ref st, .ref f, .ref b, .int (nI at_), .int wh] (pr (en g) g.1 vcl sz ([] ++ pl))) (va_Qv (fun (u : (Sto) × va_W) => (u.1 = F_SA_sampleSmall_1 pf pb n at_ wh s ∧ frm (M_SA_sampleSmall_1 pf) s u.1 ∧ True) ∧ okn g T u.1 u.2) (po g.1 vcl (va_A ([] ++ pl) sz) (fun (u : (Sto) × va_W) => [] ++ u.2)) (va_A ([] ++ pl) sz)) 0 0 (va_A ([] ++ pl) sz) := by
  refine mc_entry (cc := c_SA_sampleSmall) (maxL := 9) (ret := none) (by decide) rfl (Nat.le_of_ble_eq_true rfl) ?_
  intro p e s0 m args below meth c ls F hr hlk hnm hsz hP hD hE hA hl
  obtain ⟨hx, hb, hml, hown, hts⟩ := id F
  have hK := hE.1
  generalize va_A ([] ++ pl) sz = A at hD hE hA ⊢
  have hS : va_S A s0.heap s0.heap [] := va_S.rf
  have hl : lv_has ls 9 [(0, .ref h0), (1, .ref st), (2, .ref f), (3, .ref b), (4, .int (nI at_)), (5, .int wh)] := hl
  have hR : F_SA_sampleSmall_1 pf pb n at_ wh s = F_SA_sampleSmall_1 pf pb n at_ wh s := rfl
  have hF : frm (M_SA_sampleSmall_1 pf) s s := frm_rf
  have ne_18_pf : 18 ≠ pf := nsp_ne (p := 18) rfl n_f (show (5 : Nat) ≠ 0 by decide)
  have ne_18_pb : 18 ≠ pb := nsp_ne (p := 18) rfl n_b (show (5 : Nat) ≠ 1 by decide)
  refine lv_aload_n hx hb dSA_sampleSmall_0 rfl (lv_at hl 0 rfl) ?_
  refine lv_aload_n hx hb dSA_sampleSmall_1 rfl (lv_at hl 3 rfl) ?_
  refine lv_iload hx hb dSA_sampleSmall_2 (lv_at hl 4 rfl) ?_
  refine lv_iload hx hb dSA_sampleSmall_4 (lv_at hl 5 rfl) ?_
  refine mp_v (cx := []) (wr := []) hP hD hS hA [] [] rfl rfl rfl (by decide) (va_runV (As := [.ref b, .int (nI at_), .int wh]) (rest := []) F (N_SA_startNumbered l g _ T s pl hO hU h0 b pb n at_ wh k_h0 k_b n_b (by omega) (by omega)) (cwV 3 hts (wg_app (wg_c kw_683 (wg_c kw_685 (wg_c ks_12 (wg_c kw_6 wg_n)))) kw_686) rfl rfl rfl (by decide +kernel) ⟨by decide, by decide⟩) (pn_W "LatticeKeys$DsaSampler" (en_ok g) (ci := 7) (kn := 37) (fl := [(3, 18), (3, 38)]) hK hO k_h0 rfl hP hD hS hA hE [] rfl rfl rfl) rfl rfl hl.1 rfl (lv_room (Nat.le_of_ble_eq_true rfl)) dSA_sampleSmall_6 ⟨by omega, by omega⟩) (fun  u21 H locs hu21 hP hD hS => ?_)
  obtain ⟨s21, pl⟩ := u21
  obtain ⟨⟨eq21, hFc21, ⟨x21, hx_21, hb_21⟩, ⟨x22, hx_22, hb_22⟩, -⟩, hO⟩ := hu21
  have hO : okn g T s21 pl := hO
  have hP : va_P g.1 vcl ([] ++ pl) _ := hP
  have hD : va_D _ ([] ++ pl) := hD
  have hFc21 : frm (M_SA_startNumbered) s s21 := hFc21
  have hb_21 : x21 = 136 := hb_21
  have hb_22 : x22 = 136 := hb_22
  replace hR := bnd_step hR eq21
  have hF := frm_tr hF hFc21 (fun k hk => by unfold M_SA_startNumbered at hk; unfold M_SA_sampleSmall_1; omega)
  refine W.widen (k := 0) (n := 0) (by omega) (by omega) ?_
  refine lv_iconst (v := nI 0) hx hb dSA_sampleSmall_9 (by decide) ?_
  refine lv_istore (lv' := [(6, .int (nI 0)), (0, .ref h0), (1, .ref st), (2, .ref f), (3, .ref b), (4, .int (nI at_)), (5, .int wh)]) hx hb dSA_sampleSmall_10 hl (by decide) rfl (fun ls hl => ?_)
  refine lv_iconst (v := nI 0) hx hb dSA_sampleSmall_12 (by decide) ?_
  refine lv_istore (lv' := [(7, .int (nI 0)), (6, .int (nI 0)), (0, .ref h0), (1, .ref st), (2, .ref f), (3, .ref b), (4, .int (nI at_)), (5, .int wh)]) hx hb dSA_sampleSmall_13 hl (by decide) rfl (fun ls hl => ?_)
  have lp21 : ∀ (n21 : Nat) (i21 : Nat) (fl21 : Nat) (s22 : Sto) (ps21 : Nat) (pl : va_W) (ls : Array Slot) (H : Heap) (locs : List Loc), n21 + i21 = 1000000 → (fl21 ≤ 256) → (ps21 ≤ 136) → frm (M_SA_sampleSmall_1 pf) s s22 → s22.1 18 3 = nI ps21 → s22.1 18 1 = nI x22 → F_SA_sampleSmall_1 pf pb n at_ wh s = F_SA_sampleSmall_1_L0 pf n21 i21 fl21 s22 → lv_has ls 9 [(7, .int (nI i21)), (6, .int (nI fl21)), (0, .ref h0), (1, .ref st), (2, .ref f)] → okn g T s22 pl → va_P g.1 vcl ([] ++ pl) H → va_D A ([] ++ pl) → va_S A s0.heap H locs → W p l e ({ frames := 4, cells := 0, slots := 0, locals := 123 } : Room) s0 m args below meth c H locs 0 0 (MQ below (va_Qv (fun (u : (Sto) × va_W) => (u.1 = F_SA_sampleSmall_1 pf pb n at_ wh s ∧ frm (M_SA_sampleSmall_1 pf) s u.1 ∧ True) ∧ okn g T u.1 u.2) (po g.1 vcl A (fun (u : (Sto) × va_W) => [] ++ u.2)) A) args s0 0 0 A) (F0 m 15 ls []) := by
    intro n21
    induction n21 with
    | zero =>
      intro i21 fl21 s22 ps21 pl ls H locs hm21 hi21 hi22 hF hf21 hf22 hR hl hO hP hD hS
      refine lv_iload hx hb dSA_sampleSmall_15 (lv_at hl 1 rfl) ?_
      refine lv_sipush (v := nI 256) hx hb dSA_sampleSmall_17 (by decide) ?_
      refine mi_ge (tgt := 80) hx hb dSA_sampleSmall_20 (by decide) (by omega) (by omega) (fun h21 => ?_) (fun h21 => ?_)
      · replace hR := hR.trans (if_pos h21)
        exact mp_vret hx hb hr hlk hP hD hS (s22, pl) ⟨⟨hR.symm, hF, trivial⟩, hO⟩ [] rfl rfl rfl (by omega) (by omega) dSA_sampleSmall_80
      · replace hR := hR.trans (if_neg (Nat.not_le.mpr h21))
        refine lv_iload hx hb dSA_sampleSmall_23 (lv_at hl 0 rfl) ?_
        refine lv_ldc (v := 1000000) hx hb hown (hts _ (wg_t kw_691)) dSA_sampleSmall_25 ?_
        refine mi_as (show (1000000 : Int32) = nI 1000000 by decide) ?_
        refine mi_ge (tgt := 80) hx hb dSA_sampleSmall_27 (by decide) (by omega) (by omega) (fun h22 => ?_) (fun h22 => absurd h22 (by omega))
        exact mp_vret hx hb hr hlk hP hD hS (s22, pl) ⟨⟨hR.symm, hF, trivial⟩, hO⟩ [] rfl rfl rfl (by omega) (by omega) dSA_sampleSmall_80
    | succ n21 ih21 =>
      intro i21 fl21 s22 ps21 pl ls H locs hm21 hi21 hi22 hF hf23 hf24 hR hl hO hP hD hS
      refine lv_iload hx hb dSA_sampleSmall_15 (lv_at hl 1 rfl) ?_
      refine lv_sipush (v := nI 256) hx hb dSA_sampleSmall_17 (by decide) ?_
      refine mi_ge (tgt := 80) hx hb dSA_sampleSmall_20 (by decide) (by omega) (by omega) (fun h23 => ?_) (fun h23 => ?_)
      · replace hR := hR.trans (if_pos h23)
        exact mp_vret hx hb hr hlk hP hD hS (s22, pl) ⟨⟨hR.symm, hF, trivial⟩, hO⟩ [] rfl rfl rfl (by omega) (by omega) dSA_sampleSmall_80
      · replace hR := hR.trans (if_neg (Nat.not_le.mpr h23))
        refine lv_iload hx hb dSA_sampleSmall_23 (lv_at hl 0 rfl) ?_
        refine lv_ldc (v := 1000000) hx hb hown (hts _ (wg_t kw_691)) dSA_sampleSmall_25 ?_
        refine mi_as (show (1000000 : Int32) = nI 1000000 by decide) ?_
        refine mi_ge (tgt := 80) hx hb dSA_sampleSmall_27 (by decide) (by omega) (by omega) (fun h24 => absurd h24 (by omega)) (fun h24 => ?_)
        refine lv_aload_n hx hb dSA_sampleSmall_30 rfl (lv_at hl 2 rfl) ?_
        refine nw_get (C := "LatticeKeys$DsaSampler") (TT := T_SA) (N := 2) hx hb hts (wg_ft i_SA) hown hK hO k_h0 (kn := 37) (ci := 7) (fl := [(3, 18), (3, 38)]) rfl hP rfl 0 (by decide) (hts _ (wg_t kw_157)) (fun _ h9 => h9) (cd := (3, 18)) rfl dSA_sampleSmall_31 (fun v21 hv21 => ?_)
        obtain ⟨r21, rfl, kr21⟩ := (show ∃ r : Nat, v21 = .ref r ∧ T r = some 18 from hv21)
        refine mp_i (cx := []) (wr := []) hP hD hS hA [] [] rfl rfl rfl (by decide) (va_runV (As := []) (rest := []) F (N_SP_nextByte l g _ T s22 pl hO hU r21 18 19 ps21 x22 kr21 rfl rfl hf23 hf24 (by omega) (by omega)) (cwV 0 hts (wg_app (wg_c kw_692 (wg_c kw_619 (wg_c kw_620 (wg_c kw_2 wg_n)))) kw_621) rfl rfl rfl (by decide +kernel) ⟨by decide, by decide⟩) (pn_W "LatticeKeys$Sponge" (en_ok g) (ci := 3) (kn := 18) (fl := [(3, 19), (0, 0), (0, 0), (0, 0)]) hK hO kr21 rfl hP hD hS hA hE [] rfl rfl rfl) rfl rfl hl.1 rfl (lv_room (Nat.le_of_ble_eq_true rfl)) dSA_sampleSmall_34 ⟨by omega, by omega⟩) (fun r22 u22 H locs hu22 hP hD hS => ?_)
        obtain ⟨q21, pl⟩ := u22
        obtain ⟨⟨eq22, rfl, hFc22, ⟨x26, hx_26, hb_26⟩, ⟨x24, hx_24, hb_24⟩, ⟨x25, hx_25, hb_25⟩, -⟩, hO⟩ := hu22
        have hO : okn g T q21.2 pl := hO
        have hP : va_P g.1 vcl ([] ++ pl) _ := hP
        have hD : va_D _ ([] ++ pl) := hD
        have hFc22 : frm (M_SP_nextByte 18) s22 q21.2 := hFc22
        have hb_24 : x24 ≤ x22 := hb_24
        have hb_25 : x25 = x22 := hb_25
        have hb_26 : x26 < 256 := hb_26
        replace hR := bnd_step hR eq22
        have hF := frm_tr hF hFc22 (fun k hk => by unfold M_SP_nextByte at hk; unfold M_SA_sampleSmall_1; omega)
        obtain ⟨z21, ez21, hz21, hz22⟩ := cl_of (b := 2147483648) hx_26 (by omega) (by decide)
        replace hR := bnd_step hR ez21
        refine mi_as hz21 ?_
        refine W.widen (k := 0) (n := 0) (by omega) (by omega) ?_
        refine lv_istore (lv' := [(8, .int (nI z21)), (7, .int (nI i21)), (6, .int (nI fl21)), (0, .ref h0), (1, .ref st), (2, .ref f)]) hx hb dSA_sampleSmall_37 hl (by decide) rfl (fun ls hl => ?_)
        refine lv_aload_n hx hb dSA_sampleSmall_39 rfl (lv_at hl 3 rfl) ?_
        refine lv_aload_n hx hb dSA_sampleSmall_40 rfl (lv_at hl 4 rfl) ?_
        refine nw_get (C := "LatticeKeys$DsaSet") (TT := T_DS) (N := 17) hx hb hts (wg_ft i_DS) hown hK hO k_st (kn := 10) (ci := 2) (fl := [(1, 6), (1, 5), (1, 4), (1, 4), (1, 49), (1, 48), (1, 20), (1, 524288), (1, 16), (1, 4), (1, 261888), (1, 55), (1, 196), (1, 1952), (1, 4032), (1, 3248), (1, 3309)]) rfl hP rfl 2 (by decide) (hts _ (wg_t kw_308)) (fun _ h9 => h9) (cd := (1, 4)) rfl dSA_sampleSmall_41 (fun v22 hv22 => ?_)
        obtain rfl := (show v22 = .int (nI 4) from hv22)
        refine lv_aload_n hx hb dSA_sampleSmall_44 rfl (lv_at hl 5 rfl) ?_
        refine lv_iload hx hb dSA_sampleSmall_45 (lv_at hl 2 rfl) ?_
        refine lv_iload hx hb dSA_sampleSmall_47 (lv_at hl 0 rfl) ?_
        refine lv_bipush (v := nI 15) hx hb dSA_sampleSmall_49 (by decide) ?_
        refine lv_iand hx hb dSA_sampleSmall_51 ?_
        refine mp_i (cx := []) (wr := []) hP hD hS hA [] [] rfl rfl rfl (by decide) (va_runV (As := [.int (nI 4), .ref f, .int (nI fl21), .int (((nI z21) &&& (nI 15)))]) (rest := []) F (N_SA_putSmall_4 l g _ T q21.2 pl hO hU h0 f pf fl21 ((nI z21) &&& (nI 15)) k_h0 k_f n_f (by omega)) (cwV 4 hts (wg_app (wg_c kw_693 (wg_c kw_695 (wg_c ks_13 (wg_c kw_6 wg_n)))) kw_696) rfl rfl rfl (by decide +kernel) ⟨by decide, by decide⟩) (pn_W "LatticeKeys$DsaSampler" (en_ok g) (ci := 7) (kn := 37) (fl := [(3, 18), (3, 38)]) hK hO k_h0 rfl hP hD hS hA hE [] rfl rfl rfl) rfl rfl hl.1 rfl (lv_room (Nat.le_of_ble_eq_true rfl)) dSA_sampleSmall_52 ⟨by omega, by omega⟩) (fun r23 u23 H locs hu23 hP hD hS => ?_)
        obtain ⟨q22, pl⟩ := u23
        obtain ⟨⟨eq23, rfl, hFc23, ⟨x27, hx_27, hb_27⟩, -⟩, hO⟩ := hu23
        have hO : okn g T q22.2 pl := hO
        have hP : va_P g.1 vcl ([] ++ pl) _ := hP
        have hD : va_D _ ([] ++ pl) := hD
        have hFc23 : frm (M_SA_putSmall_4 pf) q21.2 q22.2 := hFc23
        have hb_27 : x27 < 257 := hb_27
        replace hR := bnd_step hR eq23
        have hF := frm_tr hF hFc23 (fun k hk => by unfold M_SA_putSmall_4 at hk; unfold M_SA_sampleSmall_1; omega)
        have hf25 : q22.2.1 18 3 = nI x24 := fc_F hx_24 hFc23 (by unfold M_SA_putSmall_4; omega)
        have hf26 : q22.2.1 18 1 = nI x25 := fc_F hx_25 hFc23 (by unfold M_SA_putSmall_4; omega)
        obtain ⟨z22, ez22, hz23, hz24⟩ := cl_of (b := 2147483648) hx_27 (by omega) (by decide)
        replace hR := bnd_step hR ez22
        refine mi_as hz23 ?_
        refine W.widen (k := 0) (n := 0) (by omega) (by omega) ?_
        refine lv_istore (lv' := [(6, .int (nI z22)), (8, .int (nI z21)), (7, .int (nI i21)), (0, .ref h0), (1, .ref st), (2, .ref f)]) hx hb dSA_sampleSmall_55 hl (by decide) rfl (fun ls hl => ?_)
        refine lv_aload_n hx hb dSA_sampleSmall_57 rfl (lv_at hl 3 rfl) ?_
        refine lv_aload_n hx hb dSA_sampleSmall_58 rfl (lv_at hl 4 rfl) ?_
        refine nw_get (C := "LatticeKeys$DsaSet") (TT := T_DS) (N := 17) hx hb hts (wg_ft i_DS) hown hK hO k_st (kn := 10) (ci := 2) (fl := [(1, 6), (1, 5), (1, 4), (1, 4), (1, 49), (1, 48), (1, 20), (1, 524288), (1, 16), (1, 4), (1, 261888), (1, 55), (1, 196), (1, 1952), (1, 4032), (1, 3248), (1, 3309)]) rfl hP rfl 2 (by decide) (hts _ (wg_t kw_308)) (fun _ h9 => h9) (cd := (1, 4)) rfl dSA_sampleSmall_59 (fun v23 hv23 => ?_)
        obtain rfl := (show v23 = .int (nI 4) from hv23)
        refine lv_aload_n hx hb dSA_sampleSmall_62 rfl (lv_at hl 5 rfl) ?_
        refine lv_iload hx hb dSA_sampleSmall_63 (lv_at hl 0 rfl) ?_
        refine lv_iload hx hb dSA_sampleSmall_65 (lv_at hl 1 rfl) ?_
        refine lv_iconst (v := nI 4) hx hb dSA_sampleSmall_67 (by decide) ?_
        refine mi_ishr hx hb dSA_sampleSmall_68 (by omega) (by decide) ?_
        refine mi_as (show nI (z21 / 2 ^ 4) = nI (z21 / 16) from rfl) ?_
        refine mp_i (cx := []) (wr := []) hP hD hS hA [] [] rfl rfl rfl (by decide) (va_runV (As := [.int (nI 4), .ref f, .int (nI z22), .int (nI (z21 / 16))]) (rest := []) F (N_SA_putSmall_4 l g _ T q22.2 pl hO hU h0 f pf z22 (nI (z21 / 16)) k_h0 k_f n_f (by omega)) (cwV 4 hts (wg_app (wg_c kw_693 (wg_c kw_695 (wg_c ks_13 (wg_c kw_6 wg_n)))) kw_696) rfl rfl rfl (by decide +kernel) ⟨by decide, by decide⟩) (pn_W "LatticeKeys$DsaSampler" (en_ok g) (ci := 7) (kn := 37) (fl := [(3, 18), (3, 38)]) hK hO k_h0 rfl hP hD hS hA hE [] rfl rfl rfl) rfl rfl hl.1 rfl (lv_room (Nat.le_of_ble_eq_true rfl)) dSA_sampleSmall_69 ⟨by omega, by omega⟩) (fun r24 u24 H locs hu24 hP hD hS => ?_)
        obtain ⟨q23, pl⟩ := u24
        obtain ⟨⟨eq24, rfl, hFc24, ⟨x28, hx_28, hb_28⟩, -⟩, hO⟩ := hu24
        have hO : okn g T q23.2 pl := hO
        have hP : va_P g.1 vcl ([] ++ pl) _ := hP
        have hD : va_D _ ([] ++ pl) := hD
        have hFc24 : frm (M_SA_putSmall_4 pf) q22.2 q23.2 := hFc24
        have hb_28 : x28 < 257 := hb_28
        replace hR := bnd_step hR eq24
        have hF := frm_tr hF hFc24 (fun k hk => by unfold M_SA_putSmall_4 at hk; unfold M_SA_sampleSmall_1; omega)
        have hf27 : q23.2.1 18 3 = nI x24 := fc_F hf25 hFc24 (by unfold M_SA_putSmall_4; omega)
        have hf28 : q23.2.1 18 1 = nI x25 := fc_F hf26 hFc24 (by unfold M_SA_putSmall_4; omega)
        obtain ⟨z23, ez23, hz25, hz26⟩ := cl_of (b := 2147483648) hx_28 (by omega) (by decide)
        replace hR := bnd_step hR ez23
        refine mi_as hz25 ?_
        refine W.widen (k := 0) (n := 0) (by omega) (by omega) ?_
        refine lv_istore (lv' := [(6, .int (nI z23)), (8, .int (nI z21)), (7, .int (nI i21)), (0, .ref h0), (1, .ref st), (2, .ref f)]) hx hb dSA_sampleSmall_72 hl (by decide) rfl (fun ls hl => ?_)
        refine mi_iinc (k := 2) (x := i21) (d := 1) (y := i21 + 1) (lv' := [(7, .int (nI (i21 + 1))), (6, .int (nI z23)), (8, .int (nI z21)), (0, .ref h0), (1, .ref st), (2, .ref f)]) hx hb dSA_sampleSmall_74 hl rfl (by decide) rfl (by decide) rfl (fun ls hl => ?_)
        refine lv_goto (tgt := 15) hx hb dSA_sampleSmall_77 (by decide) ?_
        exact ih21 (i21 + 1) z23 q23.2 x24 pl ls H locs (by omega) (by omega) (by omega) hF hf27 (by have h9 := hf28; rw [show x25 = x22 by omega] at h9; exact h9) hR (lv_sub hl [0, 1, 3, 4, 5] rfl) hO hP hD hS
  exact lp21 1000000 0 0 s21 x21 pl ls _ _ (by omega) (by omega) (by omega) hF hx_21 hx_22 hR (lv_sub hl [0, 1, 2, 3, 4] rfl) hO hP hD hS
def M_SA_sampleSmall_2 (pf : Nat) (k : Nat) : Prop := k = 18 ∨ k = pf ∨ (0 : Nat) = 1
noncomputable def F_SA_sampleSmall_2_L0 (pf : Nat) : Nat → Nat → Nat → Sto → Sto
  | 0, i21, fl21, s22 => if 256 ≤ fl21 then s22 else s22
  | n21 + 1, i21, fl21, s22 => if 256 ≤ fl21 then s22 else bnd (F_SP_nextByte 18 19 s22) fun q21 => bnd (q21.1.toNatClampNeg) fun z21 => bnd (F_SA_putSmall_2 pf fl21 ((nI z21) &&& (nI 15)) q21.2) fun q22 => bnd (q22.1.toNatClampNeg) fun z22 => bnd (F_SA_putSmall_2 pf z22 (nI (z21 / 16)) q22.2) fun q23 => bnd (q23.1.toNatClampNeg) fun z23 => F_SA_sampleSmall_2_L0 pf n21 (i21 + 1) z23 q23.2
noncomputable def F_SA_sampleSmall_2 (pf : Nat) (pb : Nat) (n : Nat) (at_ : Nat) (wh : Int32) (s : Sto) : Sto := bnd (F_SA_startNumbered pb n at_ wh s) fun s21 => F_SA_sampleSmall_2_L0 pf 1000000 0 0 s21
set_option maxHeartbeats 400000 in
set_option maxRecDepth 100000 in
theorem N_SA_sampleSmall_2 (l : Launch) (g : Gd) (sz : Nat) (T : TyN) (s : Sto) (pl : va_W) (hO : okn g T s pl) (hU : inj T) (h0 st f b : Nat) (pf : Nat) (pb : Nat) (n : Nat) (at_ : Nat) (wh : Int32) (k_h0 : T h0 = some 37) (k_st : T st = some 11) (k_f : T f = some pf) (n_f : nsp pf = (0, 256, [])) (k_b : T b = some pb) (n_b : nsp pb = (1, n, [])) (h1 : at_ + 64 ≤ n) (h2 : n < 65536)  : Met l y_SA_sampleSmall w_SA_sampleSmall ({ frames := 4, cells := 0, slots := 0, locals := 123 } : Room) (va_Pc [.ref h0, .ref st, .ref f, .ref b, .int (nI at_), .int wh] (pr (en g) g.1 vcl sz ([] ++ pl))) (va_Qv (fun (u : (Sto) × va_W) => (u.1 = F_SA_sampleSmall_2 pf pb n at_ wh s ∧ frm (M_SA_sampleSmall_2 pf) s u.1 ∧ True) ∧ okn g T u.1 u.2) (po g.1 vcl (va_A ([] ++ pl) sz) (fun (u : (Sto) × va_W) => [] ++ u.2)) (va_A ([] ++ pl) sz)) 0 0 (va_A ([] ++ pl) sz) := by
  refine mc_entry (cc := c_SA_sampleSmall) (maxL := 9) (ret := none) (by decide) rfl (Nat.le_of_ble_eq_true rfl) ?_
  intro p e s0 m args below meth c ls F hr hlk hnm hsz hP hD hE hA hl
  obtain ⟨hx, hb, hml, hown, hts⟩ := id F
  have hK := hE.1
  generalize va_A ([] ++ pl) sz = A at hD hE hA ⊢
  have hS : va_S A s0.heap s0.heap [] := va_S.rf
  have hl : lv_has ls 9 [(0, .ref h0), (1, .ref st), (2, .ref f), (3, .ref b), (4, .int (nI at_)), (5, .int wh)] := hl
  have hR : F_SA_sampleSmall_2 pf pb n at_ wh s = F_SA_sampleSmall_2 pf pb n at_ wh s := rfl
  have hF : frm (M_SA_sampleSmall_2 pf) s s := frm_rf
  have ne_18_pf : 18 ≠ pf := nsp_ne (p := 18) rfl n_f (show (5 : Nat) ≠ 0 by decide)
  have ne_18_pb : 18 ≠ pb := nsp_ne (p := 18) rfl n_b (show (5 : Nat) ≠ 1 by decide)
  refine lv_aload_n hx hb dSA_sampleSmall_0 rfl (lv_at hl 0 rfl) ?_
  refine lv_aload_n hx hb dSA_sampleSmall_1 rfl (lv_at hl 3 rfl) ?_
  refine lv_iload hx hb dSA_sampleSmall_2 (lv_at hl 4 rfl) ?_
  refine lv_iload hx hb dSA_sampleSmall_4 (lv_at hl 5 rfl) ?_
  refine mp_v (cx := []) (wr := []) hP hD hS hA [] [] rfl rfl rfl (by decide) (va_runV (As := [.ref b, .int (nI at_), .int wh]) (rest := []) F (N_SA_startNumbered l g _ T s pl hO hU h0 b pb n at_ wh k_h0 k_b n_b (by omega) (by omega)) (cwV 3 hts (wg_app (wg_c kw_683 (wg_c kw_685 (wg_c ks_12 (wg_c kw_6 wg_n)))) kw_686) rfl rfl rfl (by decide +kernel) ⟨by decide, by decide⟩) (pn_W "LatticeKeys$DsaSampler" (en_ok g) (ci := 7) (kn := 37) (fl := [(3, 18), (3, 38)]) hK hO k_h0 rfl hP hD hS hA hE [] rfl rfl rfl) rfl rfl hl.1 rfl (lv_room (Nat.le_of_ble_eq_true rfl)) dSA_sampleSmall_6 ⟨by omega, by omega⟩) (fun  u21 H locs hu21 hP hD hS => ?_)
  obtain ⟨s21, pl⟩ := u21
  obtain ⟨⟨eq21, hFc21, ⟨x21, hx_21, hb_21⟩, ⟨x22, hx_22, hb_22⟩, -⟩, hO⟩ := hu21
  have hO : okn g T s21 pl := hO
  have hP : va_P g.1 vcl ([] ++ pl) _ := hP
  have hD : va_D _ ([] ++ pl) := hD
  have hFc21 : frm (M_SA_startNumbered) s s21 := hFc21
  have hb_21 : x21 = 136 := hb_21
  have hb_22 : x22 = 136 := hb_22
  replace hR := bnd_step hR eq21
  have hF := frm_tr hF hFc21 (fun k hk => by unfold M_SA_startNumbered at hk; unfold M_SA_sampleSmall_2; omega)
  refine W.widen (k := 0) (n := 0) (by omega) (by omega) ?_
  refine lv_iconst (v := nI 0) hx hb dSA_sampleSmall_9 (by decide) ?_
  refine lv_istore (lv' := [(6, .int (nI 0)), (0, .ref h0), (1, .ref st), (2, .ref f), (3, .ref b), (4, .int (nI at_)), (5, .int wh)]) hx hb dSA_sampleSmall_10 hl (by decide) rfl (fun ls hl => ?_)
  refine lv_iconst (v := nI 0) hx hb dSA_sampleSmall_12 (by decide) ?_
  refine lv_istore (lv' := [(7, .int (nI 0)), (6, .int (nI 0)), (0, .ref h0), (1, .ref st), (2, .ref f), (3, .ref b), (4, .int (nI at_)), (5, .int wh)]) hx hb dSA_sampleSmall_13 hl (by decide) rfl (fun ls hl => ?_)
  have lp21 : ∀ (n21 : Nat) (i21 : Nat) (fl21 : Nat) (s22 : Sto) (ps21 : Nat) (pl : va_W) (ls : Array Slot) (H : Heap) (locs : List Loc), n21 + i21 = 1000000 → (fl21 ≤ 256) → (ps21 ≤ 136) → frm (M_SA_sampleSmall_2 pf) s s22 → s22.1 18 3 = nI ps21 → s22.1 18 1 = nI x22 → F_SA_sampleSmall_2 pf pb n at_ wh s = F_SA_sampleSmall_2_L0 pf n21 i21 fl21 s22 → lv_has ls 9 [(7, .int (nI i21)), (6, .int (nI fl21)), (0, .ref h0), (1, .ref st), (2, .ref f)] → okn g T s22 pl → va_P g.1 vcl ([] ++ pl) H → va_D A ([] ++ pl) → va_S A s0.heap H locs → W p l e ({ frames := 4, cells := 0, slots := 0, locals := 123 } : Room) s0 m args below meth c H locs 0 0 (MQ below (va_Qv (fun (u : (Sto) × va_W) => (u.1 = F_SA_sampleSmall_2 pf pb n at_ wh s ∧ frm (M_SA_sampleSmall_2 pf) s u.1 ∧ True) ∧ okn g T u.1 u.2) (po g.1 vcl A (fun (u : (Sto) × va_W) => [] ++ u.2)) A) args s0 0 0 A) (F0 m 15 ls []) := by
    intro n21
    induction n21 with
    | zero =>
      intro i21 fl21 s22 ps21 pl ls H locs hm21 hi21 hi22 hF hf21 hf22 hR hl hO hP hD hS
      refine lv_iload hx hb dSA_sampleSmall_15 (lv_at hl 1 rfl) ?_
      refine lv_sipush (v := nI 256) hx hb dSA_sampleSmall_17 (by decide) ?_
      refine mi_ge (tgt := 80) hx hb dSA_sampleSmall_20 (by decide) (by omega) (by omega) (fun h21 => ?_) (fun h21 => ?_)
      · replace hR := hR.trans (if_pos h21)
        exact mp_vret hx hb hr hlk hP hD hS (s22, pl) ⟨⟨hR.symm, hF, trivial⟩, hO⟩ [] rfl rfl rfl (by omega) (by omega) dSA_sampleSmall_80
      · replace hR := hR.trans (if_neg (Nat.not_le.mpr h21))
        refine lv_iload hx hb dSA_sampleSmall_23 (lv_at hl 0 rfl) ?_
        refine lv_ldc (v := 1000000) hx hb hown (hts _ (wg_t kw_691)) dSA_sampleSmall_25 ?_
        refine mi_as (show (1000000 : Int32) = nI 1000000 by decide) ?_
        refine mi_ge (tgt := 80) hx hb dSA_sampleSmall_27 (by decide) (by omega) (by omega) (fun h22 => ?_) (fun h22 => absurd h22 (by omega))
        exact mp_vret hx hb hr hlk hP hD hS (s22, pl) ⟨⟨hR.symm, hF, trivial⟩, hO⟩ [] rfl rfl rfl (by omega) (by omega) dSA_sampleSmall_80
    | succ n21 ih21 =>
      intro i21 fl21 s22 ps21 pl ls H locs hm21 hi21 hi22 hF hf23 hf24 hR hl hO hP hD hS
      refine lv_iload hx hb dSA_sampleSmall_15 (lv_at hl 1 rfl) ?_
      refine lv_sipush (v := nI 256) hx hb dSA_sampleSmall_17 (by decide) ?_
      refine mi_ge (tgt := 80) hx hb dSA_sampleSmall_20 (by decide) (by omega) (by omega) (fun h23 => ?_) (fun h23 => ?_)
      · replace hR := hR.trans (if_pos h23)
        exact mp_vret hx hb hr hlk hP hD hS (s22, pl) ⟨⟨hR.symm, hF, trivial⟩, hO⟩ [] rfl rfl rfl (by omega) (by omega) dSA_sampleSmall_80
      · replace hR := hR.trans (if_neg (Nat.not_le.mpr h23))
        refine lv_iload hx hb dSA_sampleSmall_23 (lv_at hl 0 rfl) ?_
        refine lv_ldc (v := 1000000) hx hb hown (hts _ (wg_t kw_691)) dSA_sampleSmall_25 ?_
        refine mi_as (show (1000000 : Int32) = nI 1000000 by decide) ?_
        refine mi_ge (tgt := 80) hx hb dSA_sampleSmall_27 (by decide) (by omega) (by omega) (fun h24 => absurd h24 (by omega)) (fun h24 => ?_)
        refine lv_aload_n hx hb dSA_sampleSmall_30 rfl (lv_at hl 2 rfl) ?_
        refine nw_get (C := "LatticeKeys$DsaSampler") (TT := T_SA) (N := 2) hx hb hts (wg_ft i_SA) hown hK hO k_h0 (kn := 37) (ci := 7) (fl := [(3, 18), (3, 38)]) rfl hP rfl 0 (by decide) (hts _ (wg_t kw_157)) (fun _ h9 => h9) (cd := (3, 18)) rfl dSA_sampleSmall_31 (fun v21 hv21 => ?_)
        obtain ⟨r21, rfl, kr21⟩ := (show ∃ r : Nat, v21 = .ref r ∧ T r = some 18 from hv21)
        refine mp_i (cx := []) (wr := []) hP hD hS hA [] [] rfl rfl rfl (by decide) (va_runV (As := []) (rest := []) F (N_SP_nextByte l g _ T s22 pl hO hU r21 18 19 ps21 x22 kr21 rfl rfl hf23 hf24 (by omega) (by omega)) (cwV 0 hts (wg_app (wg_c kw_692 (wg_c kw_619 (wg_c kw_620 (wg_c kw_2 wg_n)))) kw_621) rfl rfl rfl (by decide +kernel) ⟨by decide, by decide⟩) (pn_W "LatticeKeys$Sponge" (en_ok g) (ci := 3) (kn := 18) (fl := [(3, 19), (0, 0), (0, 0), (0, 0)]) hK hO kr21 rfl hP hD hS hA hE [] rfl rfl rfl) rfl rfl hl.1 rfl (lv_room (Nat.le_of_ble_eq_true rfl)) dSA_sampleSmall_34 ⟨by omega, by omega⟩) (fun r22 u22 H locs hu22 hP hD hS => ?_)
        obtain ⟨q21, pl⟩ := u22
        obtain ⟨⟨eq22, rfl, hFc22, ⟨x26, hx_26, hb_26⟩, ⟨x24, hx_24, hb_24⟩, ⟨x25, hx_25, hb_25⟩, -⟩, hO⟩ := hu22
        have hO : okn g T q21.2 pl := hO
        have hP : va_P g.1 vcl ([] ++ pl) _ := hP
        have hD : va_D _ ([] ++ pl) := hD
        have hFc22 : frm (M_SP_nextByte 18) s22 q21.2 := hFc22
        have hb_24 : x24 ≤ x22 := hb_24
        have hb_25 : x25 = x22 := hb_25
        have hb_26 : x26 < 256 := hb_26
        replace hR := bnd_step hR eq22
        have hF := frm_tr hF hFc22 (fun k hk => by unfold M_SP_nextByte at hk; unfold M_SA_sampleSmall_2; omega)
        obtain ⟨z21, ez21, hz21, hz22⟩ := cl_of (b := 2147483648) hx_26 (by omega) (by decide)
        replace hR := bnd_step hR ez21
        refine mi_as hz21 ?_
        refine W.widen (k := 0) (n := 0) (by omega) (by omega) ?_
        refine lv_istore (lv' := [(8, .int (nI z21)), (7, .int (nI i21)), (6, .int (nI fl21)), (0, .ref h0), (1, .ref st), (2, .ref f)]) hx hb dSA_sampleSmall_37 hl (by decide) rfl (fun ls hl => ?_)
        refine lv_aload_n hx hb dSA_sampleSmall_39 rfl (lv_at hl 3 rfl) ?_
        refine lv_aload_n hx hb dSA_sampleSmall_40 rfl (lv_at hl 4 rfl) ?_
        refine nw_get (C := "LatticeKeys$DsaSet") (TT := T_DS) (N := 17) hx hb hts (wg_ft i_DS) hown hK hO k_st (kn := 11) (ci := 2) (fl := [(1, 8), (1, 7), (1, 2), (1, 3), (1, 60), (1, 64), (1, 20), (1, 524288), (1, 16), (1, 4), (1, 261888), (1, 75), (1, 120), (1, 2592), (1, 4896), (1, 4544), (1, 4627)]) rfl hP rfl 2 (by decide) (hts _ (wg_t kw_308)) (fun _ h9 => h9) (cd := (1, 2)) rfl dSA_sampleSmall_41 (fun v22 hv22 => ?_)
        obtain rfl := (show v22 = .int (nI 2) from hv22)
        refine lv_aload_n hx hb dSA_sampleSmall_44 rfl (lv_at hl 5 rfl) ?_
        refine lv_iload hx hb dSA_sampleSmall_45 (lv_at hl 2 rfl) ?_
        refine lv_iload hx hb dSA_sampleSmall_47 (lv_at hl 0 rfl) ?_
        refine lv_bipush (v := nI 15) hx hb dSA_sampleSmall_49 (by decide) ?_
        refine lv_iand hx hb dSA_sampleSmall_51 ?_
        refine mp_i (cx := []) (wr := []) hP hD hS hA [] [] rfl rfl rfl (by decide) (va_runV (As := [.int (nI 2), .ref f, .int (nI fl21), .int (((nI z21) &&& (nI 15)))]) (rest := []) F (N_SA_putSmall_2 l g _ T q21.2 pl hO hU h0 f pf fl21 ((nI z21) &&& (nI 15)) k_h0 k_f n_f (by omega)) (cwV 4 hts (wg_app (wg_c kw_693 (wg_c kw_695 (wg_c ks_13 (wg_c kw_6 wg_n)))) kw_696) rfl rfl rfl (by decide +kernel) ⟨by decide, by decide⟩) (pn_W "LatticeKeys$DsaSampler" (en_ok g) (ci := 7) (kn := 37) (fl := [(3, 18), (3, 38)]) hK hO k_h0 rfl hP hD hS hA hE [] rfl rfl rfl) rfl rfl hl.1 rfl (lv_room (Nat.le_of_ble_eq_true rfl)) dSA_sampleSmall_52 ⟨by omega, by omega⟩) (fun r23 u23 H locs hu23 hP hD hS => ?_)
        obtain ⟨q22, pl⟩ := u23
        obtain ⟨⟨eq23, rfl, hFc23, ⟨x27, hx_27, hb_27⟩, -⟩, hO⟩ := hu23
        have hO : okn g T q22.2 pl := hO
        have hP : va_P g.1 vcl ([] ++ pl) _ := hP
        have hD : va_D _ ([] ++ pl) := hD
        have hFc23 : frm (M_SA_putSmall_2 pf) q21.2 q22.2 := hFc23
        have hb_27 : x27 < 257 := hb_27
        replace hR := bnd_step hR eq23
        have hF := frm_tr hF hFc23 (fun k hk => by unfold M_SA_putSmall_2 at hk; unfold M_SA_sampleSmall_2; omega)
        have hf25 : q22.2.1 18 3 = nI x24 := fc_F hx_24 hFc23 (by unfold M_SA_putSmall_2; omega)
        have hf26 : q22.2.1 18 1 = nI x25 := fc_F hx_25 hFc23 (by unfold M_SA_putSmall_2; omega)
        obtain ⟨z22, ez22, hz23, hz24⟩ := cl_of (b := 2147483648) hx_27 (by omega) (by decide)
        replace hR := bnd_step hR ez22
        refine mi_as hz23 ?_
        refine W.widen (k := 0) (n := 0) (by omega) (by omega) ?_
        refine lv_istore (lv' := [(6, .int (nI z22)), (8, .int (nI z21)), (7, .int (nI i21)), (0, .ref h0), (1, .ref st), (2, .ref f)]) hx hb dSA_sampleSmall_55 hl (by decide) rfl (fun ls hl => ?_)
        refine lv_aload_n hx hb dSA_sampleSmall_57 rfl (lv_at hl 3 rfl) ?_
        refine lv_aload_n hx hb dSA_sampleSmall_58 rfl (lv_at hl 4 rfl) ?_
        refine nw_get (C := "LatticeKeys$DsaSet") (TT := T_DS) (N := 17) hx hb hts (wg_ft i_DS) hown hK hO k_st (kn := 11) (ci := 2) (fl := [(1, 8), (1, 7), (1, 2), (1, 3), (1, 60), (1, 64), (1, 20), (1, 524288), (1, 16), (1, 4), (1, 261888), (1, 75), (1, 120), (1, 2592), (1, 4896), (1, 4544), (1, 4627)]) rfl hP rfl 2 (by decide) (hts _ (wg_t kw_308)) (fun _ h9 => h9) (cd := (1, 2)) rfl dSA_sampleSmall_59 (fun v23 hv23 => ?_)
        obtain rfl := (show v23 = .int (nI 2) from hv23)
        refine lv_aload_n hx hb dSA_sampleSmall_62 rfl (lv_at hl 5 rfl) ?_
        refine lv_iload hx hb dSA_sampleSmall_63 (lv_at hl 0 rfl) ?_
        refine lv_iload hx hb dSA_sampleSmall_65 (lv_at hl 1 rfl) ?_
        refine lv_iconst (v := nI 4) hx hb dSA_sampleSmall_67 (by decide) ?_
        refine mi_ishr hx hb dSA_sampleSmall_68 (by omega) (by decide) ?_
        refine mi_as (show nI (z21 / 2 ^ 4) = nI (z21 / 16) from rfl) ?_
        refine mp_i (cx := []) (wr := []) hP hD hS hA [] [] rfl rfl rfl (by decide) (va_runV (As := [.int (nI 2), .ref f, .int (nI z22), .int (nI (z21 / 16))]) (rest := []) F (N_SA_putSmall_2 l g _ T q22.2 pl hO hU h0 f pf z22 (nI (z21 / 16)) k_h0 k_f n_f (by omega)) (cwV 4 hts (wg_app (wg_c kw_693 (wg_c kw_695 (wg_c ks_13 (wg_c kw_6 wg_n)))) kw_696) rfl rfl rfl (by decide +kernel) ⟨by decide, by decide⟩) (pn_W "LatticeKeys$DsaSampler" (en_ok g) (ci := 7) (kn := 37) (fl := [(3, 18), (3, 38)]) hK hO k_h0 rfl hP hD hS hA hE [] rfl rfl rfl) rfl rfl hl.1 rfl (lv_room (Nat.le_of_ble_eq_true rfl)) dSA_sampleSmall_69 ⟨by omega, by omega⟩) (fun r24 u24 H locs hu24 hP hD hS => ?_)
        obtain ⟨q23, pl⟩ := u24
        obtain ⟨⟨eq24, rfl, hFc24, ⟨x28, hx_28, hb_28⟩, -⟩, hO⟩ := hu24
        have hO : okn g T q23.2 pl := hO
        have hP : va_P g.1 vcl ([] ++ pl) _ := hP
        have hD : va_D _ ([] ++ pl) := hD
        have hFc24 : frm (M_SA_putSmall_2 pf) q22.2 q23.2 := hFc24
        have hb_28 : x28 < 257 := hb_28
        replace hR := bnd_step hR eq24
        have hF := frm_tr hF hFc24 (fun k hk => by unfold M_SA_putSmall_2 at hk; unfold M_SA_sampleSmall_2; omega)
        have hf27 : q23.2.1 18 3 = nI x24 := fc_F hf25 hFc24 (by unfold M_SA_putSmall_2; omega)
        have hf28 : q23.2.1 18 1 = nI x25 := fc_F hf26 hFc24 (by unfold M_SA_putSmall_2; omega)
        obtain ⟨z23, ez23, hz25, hz26⟩ := cl_of (b := 2147483648) hx_28 (by omega) (by decide)
        replace hR := bnd_step hR ez23
        refine mi_as hz25 ?_
        refine W.widen (k := 0) (n := 0) (by omega) (by omega) ?_
        refine lv_istore (lv' := [(6, .int (nI z23)), (8, .int (nI z21)), (7, .int (nI i21)), (0, .ref h0), (1, .ref st), (2, .ref f)]) hx hb dSA_sampleSmall_72 hl (by decide) rfl (fun ls hl => ?_)
        refine mi_iinc (k := 2) (x := i21) (d := 1) (y := i21 + 1) (lv' := [(7, .int (nI (i21 + 1))), (6, .int (nI z23)), (8, .int (nI z21)), (0, .ref h0), (1, .ref st), (2, .ref f)]) hx hb dSA_sampleSmall_74 hl rfl (by decide) rfl (by decide) rfl (fun ls hl => ?_)
        refine lv_goto (tgt := 15) hx hb dSA_sampleSmall_77 (by decide) ?_
        exact ih21 (i21 + 1) z23 q23.2 x24 pl ls H locs (by omega) (by omega) (by omega) hF hf27 (by have h9 := hf28; rw [show x25 = x22 by omega] at h9; exact h9) hR (lv_sub hl [0, 1, 3, 4, 5] rfl) hO hP hD hS
  exact lp21 1000000 0 0 s21 x21 pl ls _ _ (by omega) (by omega) (by omega) hF hx_21 hx_22 hR (lv_sub hl [0, 1, 2, 3, 4] rfl) hO hP hD hS
def M_SA_sampleMask_0 (pf : Nat) (k : Nat) : Prop := k = 18 ∨ k = 38 ∨ k = pf ∨ (0 : Nat) = 1
noncomputable def F_SA_sampleMask_0 (pf : Nat) (pb : Nat) (n : Nat) (wh : Int32) (s : Sto) : Sto := bnd (F_SA_startNumbered pb n 0 wh s) fun s21 => bnd (F_SP_squeeze 18 19 38 640 0 576 s21) fun s22 => bnd (F_BT_unpack pf 18 38 640 0 s22) fun s23 => s23
set_option maxHeartbeats 400000 in
set_option maxRecDepth 100000 in
theorem N_SA_sampleMask_0 (l : Launch) (g : Gd) (sz : Nat) (T : TyN) (s : Sto) (pl : va_W) (hO : okn g T s pl) (hU : inj T) (h0 st f b : Nat) (pf : Nat) (pb : Nat) (n : Nat) (wh : Int32) (k_h0 : T h0 = some 37) (k_st : T st = some 9) (k_f : T f = some pf) (n_f : nsp pf = (0, 256, [])) (k_b : T b = some pb) (n_b : nsp pb = (1, n, [])) (h1 : 64 ≤ n) (h2 : n < 65536)  : Met l y_SA_sampleMask w_SA_sampleMask ({ frames := 4, cells := 0, slots := 0, locals := 123 } : Room) (va_Pc [.ref h0, .ref st, .ref f, .ref b, .int wh] (pr (en g) g.1 vcl sz ([] ++ pl))) (va_Qv (fun (u : (Sto) × va_W) => (u.1 = F_SA_sampleMask_0 pf pb n wh s ∧ frm (M_SA_sampleMask_0 pf) s u.1 ∧ True) ∧ okn g T u.1 u.2) (po g.1 vcl (va_A ([] ++ pl) sz) (fun (u : (Sto) × va_W) => [] ++ u.2)) (va_A ([] ++ pl) sz)) 0 0 (va_A ([] ++ pl) sz) := by
  refine mc_entry (cc := c_SA_sampleMask) (maxL := 5) (ret := none) (by decide) rfl (Nat.le_of_ble_eq_true rfl) ?_
  intro p e s0 m args below meth c ls F hr hlk hnm hsz hP hD hE hA hl
  obtain ⟨hx, hb, hml, hown, hts⟩ := id F
  have hK := hE.1
  generalize va_A ([] ++ pl) sz = A at hD hE hA ⊢
  have hS : va_S A s0.heap s0.heap [] := va_S.rf
  have hl : lv_has ls 5 [(0, .ref h0), (1, .ref st), (2, .ref f), (3, .ref b), (4, .int wh)] := hl
  have hR : F_SA_sampleMask_0 pf pb n wh s = F_SA_sampleMask_0 pf pb n wh s := rfl
  have hF : frm (M_SA_sampleMask_0 pf) s s := frm_rf
  refine lv_aload_n hx hb dSA_sampleMask_0 rfl (lv_at hl 0 rfl) ?_
  refine lv_aload_n hx hb dSA_sampleMask_1 rfl (lv_at hl 3 rfl) ?_
  refine lv_iconst (v := nI 0) hx hb dSA_sampleMask_2 (by decide) ?_
  refine lv_iload hx hb dSA_sampleMask_3 (lv_at hl 4 rfl) ?_
  refine mp_v (cx := []) (wr := []) hP hD hS hA [] [] rfl rfl rfl (by decide) (va_runV (As := [.ref b, .int (nI 0), .int wh]) (rest := []) F (N_SA_startNumbered l g _ T s pl hO hU h0 b pb n 0 wh k_h0 k_b n_b (by omega) (by omega)) (cwV 3 hts (wg_app (wg_c kw_683 (wg_c kw_685 (wg_c ks_12 (wg_c kw_6 wg_n)))) kw_686) rfl rfl rfl (by decide +kernel) ⟨by decide, by decide⟩) (pn_W "LatticeKeys$DsaSampler" (en_ok g) (ci := 7) (kn := 37) (fl := [(3, 18), (3, 38)]) hK hO k_h0 rfl hP hD hS hA hE [] rfl rfl rfl) rfl rfl hl.1 rfl (lv_room (Nat.le_of_ble_eq_true rfl)) dSA_sampleMask_5 ⟨by omega, by omega⟩) (fun  u21 H locs hu21 hP hD hS => ?_)
  obtain ⟨s21, pl⟩ := u21
  obtain ⟨⟨eq21, hFc21, ⟨x21, hx_21, hb_21⟩, ⟨x22, hx_22, hb_22⟩, -⟩, hO⟩ := hu21
  have hO : okn g T s21 pl := hO
  have hP : va_P g.1 vcl ([] ++ pl) _ := hP
  have hD : va_D _ ([] ++ pl) := hD
  have hFc21 : frm (M_SA_startNumbered) s s21 := hFc21
  have hb_21 : x21 = 136 := hb_21
  have hb_22 : x22 = 136 := hb_22
  replace hR := bnd_step hR eq21
  have hF := frm_tr hF hFc21 (fun k hk => by unfold M_SA_startNumbered at hk; unfold M_SA_sampleMask_0; omega)
  refine W.widen (k := 0) (n := 0) (by omega) (by omega) ?_
  refine lv_aload_n hx hb dSA_sampleMask_8 rfl (lv_at hl 0 rfl) ?_
  refine nw_get (C := "LatticeKeys$DsaSampler") (TT := T_SA) (N := 2) hx hb hts (wg_ft i_SA) hown hK hO k_h0 (kn := 37) (ci := 7) (fl := [(3, 18), (3, 38)]) rfl hP rfl 0 (by decide) (hts _ (wg_t kw_157)) (fun _ h9 => h9) (cd := (3, 18)) rfl dSA_sampleMask_9 (fun v21 hv21 => ?_)
  obtain ⟨r21, rfl, kr21⟩ := (show ∃ r : Nat, v21 = .ref r ∧ T r = some 18 from hv21)
  refine lv_aload_n hx hb dSA_sampleMask_12 rfl (lv_at hl 0 rfl) ?_
  refine nw_get (C := "LatticeKeys$DsaSampler") (TT := T_SA) (N := 2) hx hb hts (wg_ft i_SA) hown hK hO k_h0 (kn := 37) (ci := 7) (fl := [(3, 18), (3, 38)]) rfl hP rfl 1 (by decide) (hts _ (wg_t kw_158)) (fun _ h9 => h9) (cd := (3, 38)) rfl dSA_sampleMask_13 (fun v22 hv22 => ?_)
  obtain ⟨r22, rfl, kr22⟩ := (show ∃ r : Nat, v22 = .ref r ∧ T r = some 38 from hv22)
  refine lv_iconst (v := nI 0) hx hb dSA_sampleMask_16 (by decide) ?_
  refine lv_bipush (v := nI 32) hx hb dSA_sampleMask_17 (by decide) ?_
  refine lv_aload_n hx hb dSA_sampleMask_19 rfl (lv_at hl 1 rfl) ?_
  refine nw_get (C := "LatticeKeys$DsaSet") (TT := T_DS) (N := 17) hx hb hts (wg_ft i_DS) hown hK hO k_st (kn := 9) (ci := 2) (fl := [(1, 4), (1, 4), (1, 2), (1, 3), (1, 39), (1, 32), (1, 18), (1, 131072), (1, 44), (1, 6), (1, 95232), (1, 80), (1, 78), (1, 1312), (1, 2560), (1, 2336), (1, 2420)]) rfl hP rfl 6 (by decide) (hts _ (wg_t kw_317)) (fun _ h9 => h9) (cd := (1, 18)) rfl dSA_sampleMask_20 (fun v23 hv23 => ?_)
  obtain rfl := (show v23 = .int (nI 18) from hv23)
  refine mi_imul hx hb dSA_sampleMask_23 ?_
  refine mi_as (show nI (32 * 18) = nI 576 from rfl) ?_
  refine mp_v (cx := []) (wr := []) hP hD hS hA [] [] rfl rfl rfl (by decide) (va_runV (As := [.ref r22, .int (nI 0), .int (nI 576)]) (rest := []) F (N_SP_squeeze l g _ T s21 pl hO hU r21 r22 18 19 38 640 0 576 x21 x22 kr21 rfl rfl kr22 rfl hx_21 hx_22 (by omega) (by omega) (by omega) (by omega)) (cwV 3 hts (wg_app (wg_c kw_1200 (wg_c kw_615 (wg_c kw_616 (wg_c kw_2 wg_n)))) kw_617) rfl rfl rfl (by decide +kernel) ⟨by decide, by decide⟩) (pn_W "LatticeKeys$Sponge" (en_ok g) (ci := 3) (kn := 18) (fl := [(3, 19), (0, 0), (0, 0), (0, 0)]) hK hO kr21 rfl hP hD hS hA hE [] rfl rfl rfl) rfl rfl hl.1 rfl (lv_room (Nat.le_of_ble_eq_true rfl)) dSA_sampleMask_24 ⟨by omega, by omega⟩) (fun  u22 H locs hu22 hP hD hS => ?_)
  obtain ⟨s22, pl⟩ := u22
  obtain ⟨⟨eq22, hFc22, ⟨x24, hx_24, hb_24⟩, ⟨x25, hx_25, hb_25⟩, -⟩, hO⟩ := hu22
  have hO : okn g T s22 pl := hO
  have hP : va_P g.1 vcl ([] ++ pl) _ := hP
  have hD : va_D _ ([] ++ pl) := hD
  have hFc22 : frm (M_SP_squeeze 18 38) s21 s22 := hFc22
  have hb_24 : x24 ≤ x22 := hb_24
  have hb_25 : x25 = x22 := hb_25
  replace hR := bnd_step hR eq22
  have hF := frm_tr hF hFc22 (fun k hk => by unfold M_SP_squeeze at hk; unfold M_SA_sampleMask_0; omega)
  refine W.widen (k := 0) (n := 0) (by omega) (by omega) ?_
  refine lv_aload_n hx hb dSA_sampleMask_27 rfl (lv_at hl 2 rfl) ?_
  refine lv_aload_n hx hb dSA_sampleMask_28 rfl (lv_at hl 1 rfl) ?_
  refine nw_get (C := "LatticeKeys$DsaSet") (TT := T_DS) (N := 17) hx hb hts (wg_ft i_DS) hown hK hO k_st (kn := 9) (ci := 2) (fl := [(1, 4), (1, 4), (1, 2), (1, 3), (1, 39), (1, 32), (1, 18), (1, 131072), (1, 44), (1, 6), (1, 95232), (1, 80), (1, 78), (1, 1312), (1, 2560), (1, 2336), (1, 2420)]) rfl hP rfl 6 (by decide) (hts _ (wg_t kw_317)) (fun _ h9 => h9) (cd := (1, 18)) rfl dSA_sampleMask_29 (fun v24 hv24 => ?_)
  obtain rfl := (show v24 = .int (nI 18) from hv24)
  refine lv_aload_n hx hb dSA_sampleMask_32 rfl (lv_at hl 0 rfl) ?_
  refine nw_get (C := "LatticeKeys$DsaSampler") (TT := T_SA) (N := 2) hx hb hts (wg_ft i_SA) hown hK hO k_h0 (kn := 37) (ci := 7) (fl := [(3, 18), (3, 38)]) rfl hP rfl 1 (by decide) (hts _ (wg_t kw_158)) (fun _ h9 => h9) (cd := (3, 38)) rfl dSA_sampleMask_33 (fun v25 hv25 => ?_)
  obtain ⟨r23, rfl, kr23⟩ := (show ∃ r : Nat, v25 = .ref r ∧ T r = some 38 from hv25)
  refine lv_iconst (v := nI 0) hx hb dSA_sampleMask_36 (by decide) ?_
  refine mp_v (cx := []) (wr := []) hP hD hS hA [] [] rfl rfl rfl (by decide) (va_runS (As := [.ref f, .int (nI 18), .ref r23, .int (nI 0)]) (rest := []) F (N_BT_unpack l g _ T s22 pl hO hU f r23 pf 18 38 640 0 k_f n_f kr23 rfl (by omega) (by omega) (by omega)) (va_cwS 4 hts (wg_app (wg_c kw_1201 (wg_c kw_628 (wg_c kw_22 wg_n))) kw_629) rfl rfl rfl (by decide +kernel) ⟨by decide, by decide⟩) (pp_S (en_ok g) hP hD hS hA hE [] rfl rfl) rfl rfl hl.1 rfl (lv_room (Nat.le_of_ble_eq_true rfl)) dSA_sampleMask_37 ⟨by omega, by omega⟩) (fun  u23 H locs hu23 hP hD hS => ?_)
  obtain ⟨s23, pl⟩ := u23
  obtain ⟨⟨eq23, hFc23, -⟩, hO⟩ := hu23
  have hO : okn g T s23 pl := hO
  have hP : va_P g.1 vcl ([] ++ pl) _ := hP
  have hD : va_D _ ([] ++ pl) := hD
  have hFc23 : frm (M_BT_unpack pf) s22 s23 := hFc23
  replace hR := bnd_step hR eq23
  have hF := frm_tr hF hFc23 (fun k hk => by unfold M_BT_unpack at hk; unfold M_SA_sampleMask_0; omega)
  refine W.widen (k := 0) (n := 0) (by omega) (by omega) ?_
  exact mp_vret hx hb hr hlk hP hD hS (s23, pl) ⟨⟨hR.symm, hF, trivial⟩, hO⟩ [] rfl rfl rfl (by omega) (by omega) dSA_sampleMask_40
def M_SA_sampleMask_1 (pf : Nat) (k : Nat) : Prop := k = 18 ∨ k = 38 ∨ k = pf ∨ (0 : Nat) = 1
noncomputable def F_SA_sampleMask_1 (pf : Nat) (pb : Nat) (n : Nat) (wh : Int32) (s : Sto) : Sto := bnd (F_SA_startNumbered pb n 0 wh s) fun s21 => bnd (F_SP_squeeze 18 19 38 640 0 640 s21) fun s22 => bnd (F_BT_unpack pf 20 38 640 0 s22) fun s23 => s23
set_option maxHeartbeats 400000 in
set_option maxRecDepth 100000 in
theorem N_SA_sampleMask_1 (l : Launch) (g : Gd) (sz : Nat) (T : TyN) (s : Sto) (pl : va_W) (hO : okn g T s pl) (hU : inj T) (h0 st f b : Nat) (pf : Nat) (pb : Nat) (n : Nat) (wh : Int32) (k_h0 : T h0 = some 37) (k_st : T st = some 10) (k_f : T f = some pf) (n_f : nsp pf = (0, 256, [])) (k_b : T b = some pb) (n_b : nsp pb = (1, n, [])) (h1 : 64 ≤ n) (h2 : n < 65536)  : Met l y_SA_sampleMask w_SA_sampleMask ({ frames := 4, cells := 0, slots := 0, locals := 123 } : Room) (va_Pc [.ref h0, .ref st, .ref f, .ref b, .int wh] (pr (en g) g.1 vcl sz ([] ++ pl))) (va_Qv (fun (u : (Sto) × va_W) => (u.1 = F_SA_sampleMask_1 pf pb n wh s ∧ frm (M_SA_sampleMask_1 pf) s u.1 ∧ True) ∧ okn g T u.1 u.2) (po g.1 vcl (va_A ([] ++ pl) sz) (fun (u : (Sto) × va_W) => [] ++ u.2)) (va_A ([] ++ pl) sz)) 0 0 (va_A ([] ++ pl) sz) := by
  refine mc_entry (cc := c_SA_sampleMask) (maxL := 5) (ret := none) (by decide) rfl (Nat.le_of_ble_eq_true rfl) ?_
  intro p e s0 m args below meth c ls F hr hlk hnm hsz hP hD hE hA hl
  obtain ⟨hx, hb, hml, hown, hts⟩ := id F
  have hK := hE.1
  generalize va_A ([] ++ pl) sz = A at hD hE hA ⊢
  have hS : va_S A s0.heap s0.heap [] := va_S.rf
  have hl : lv_has ls 5 [(0, .ref h0), (1, .ref st), (2, .ref f), (3, .ref b), (4, .int wh)] := hl
  have hR : F_SA_sampleMask_1 pf pb n wh s = F_SA_sampleMask_1 pf pb n wh s := rfl
  have hF : frm (M_SA_sampleMask_1 pf) s s := frm_rf
  refine lv_aload_n hx hb dSA_sampleMask_0 rfl (lv_at hl 0 rfl) ?_
  refine lv_aload_n hx hb dSA_sampleMask_1 rfl (lv_at hl 3 rfl) ?_
  refine lv_iconst (v := nI 0) hx hb dSA_sampleMask_2 (by decide) ?_
  refine lv_iload hx hb dSA_sampleMask_3 (lv_at hl 4 rfl) ?_
  refine mp_v (cx := []) (wr := []) hP hD hS hA [] [] rfl rfl rfl (by decide) (va_runV (As := [.ref b, .int (nI 0), .int wh]) (rest := []) F (N_SA_startNumbered l g _ T s pl hO hU h0 b pb n 0 wh k_h0 k_b n_b (by omega) (by omega)) (cwV 3 hts (wg_app (wg_c kw_683 (wg_c kw_685 (wg_c ks_12 (wg_c kw_6 wg_n)))) kw_686) rfl rfl rfl (by decide +kernel) ⟨by decide, by decide⟩) (pn_W "LatticeKeys$DsaSampler" (en_ok g) (ci := 7) (kn := 37) (fl := [(3, 18), (3, 38)]) hK hO k_h0 rfl hP hD hS hA hE [] rfl rfl rfl) rfl rfl hl.1 rfl (lv_room (Nat.le_of_ble_eq_true rfl)) dSA_sampleMask_5 ⟨by omega, by omega⟩) (fun  u21 H locs hu21 hP hD hS => ?_)
  obtain ⟨s21, pl⟩ := u21
  obtain ⟨⟨eq21, hFc21, ⟨x21, hx_21, hb_21⟩, ⟨x22, hx_22, hb_22⟩, -⟩, hO⟩ := hu21
  have hO : okn g T s21 pl := hO
  have hP : va_P g.1 vcl ([] ++ pl) _ := hP
  have hD : va_D _ ([] ++ pl) := hD
  have hFc21 : frm (M_SA_startNumbered) s s21 := hFc21
  have hb_21 : x21 = 136 := hb_21
  have hb_22 : x22 = 136 := hb_22
  replace hR := bnd_step hR eq21
  have hF := frm_tr hF hFc21 (fun k hk => by unfold M_SA_startNumbered at hk; unfold M_SA_sampleMask_1; omega)
  refine W.widen (k := 0) (n := 0) (by omega) (by omega) ?_
  refine lv_aload_n hx hb dSA_sampleMask_8 rfl (lv_at hl 0 rfl) ?_
  refine nw_get (C := "LatticeKeys$DsaSampler") (TT := T_SA) (N := 2) hx hb hts (wg_ft i_SA) hown hK hO k_h0 (kn := 37) (ci := 7) (fl := [(3, 18), (3, 38)]) rfl hP rfl 0 (by decide) (hts _ (wg_t kw_157)) (fun _ h9 => h9) (cd := (3, 18)) rfl dSA_sampleMask_9 (fun v21 hv21 => ?_)
  obtain ⟨r21, rfl, kr21⟩ := (show ∃ r : Nat, v21 = .ref r ∧ T r = some 18 from hv21)
  refine lv_aload_n hx hb dSA_sampleMask_12 rfl (lv_at hl 0 rfl) ?_
  refine nw_get (C := "LatticeKeys$DsaSampler") (TT := T_SA) (N := 2) hx hb hts (wg_ft i_SA) hown hK hO k_h0 (kn := 37) (ci := 7) (fl := [(3, 18), (3, 38)]) rfl hP rfl 1 (by decide) (hts _ (wg_t kw_158)) (fun _ h9 => h9) (cd := (3, 38)) rfl dSA_sampleMask_13 (fun v22 hv22 => ?_)
  obtain ⟨r22, rfl, kr22⟩ := (show ∃ r : Nat, v22 = .ref r ∧ T r = some 38 from hv22)
  refine lv_iconst (v := nI 0) hx hb dSA_sampleMask_16 (by decide) ?_
  refine lv_bipush (v := nI 32) hx hb dSA_sampleMask_17 (by decide) ?_
  refine lv_aload_n hx hb dSA_sampleMask_19 rfl (lv_at hl 1 rfl) ?_
  refine nw_get (C := "LatticeKeys$DsaSet") (TT := T_DS) (N := 17) hx hb hts (wg_ft i_DS) hown hK hO k_st (kn := 10) (ci := 2) (fl := [(1, 6), (1, 5), (1, 4), (1, 4), (1, 49), (1, 48), (1, 20), (1, 524288), (1, 16), (1, 4), (1, 261888), (1, 55), (1, 196), (1, 1952), (1, 4032), (1, 3248), (1, 3309)]) rfl hP rfl 6 (by decide) (hts _ (wg_t kw_317)) (fun _ h9 => h9) (cd := (1, 20)) rfl dSA_sampleMask_20 (fun v23 hv23 => ?_)
  obtain rfl := (show v23 = .int (nI 20) from hv23)
  refine mi_imul hx hb dSA_sampleMask_23 ?_
  refine mi_as (show nI (32 * 20) = nI 640 from rfl) ?_
  refine mp_v (cx := []) (wr := []) hP hD hS hA [] [] rfl rfl rfl (by decide) (va_runV (As := [.ref r22, .int (nI 0), .int (nI 640)]) (rest := []) F (N_SP_squeeze l g _ T s21 pl hO hU r21 r22 18 19 38 640 0 640 x21 x22 kr21 rfl rfl kr22 rfl hx_21 hx_22 (by omega) (by omega) (by omega) (by omega)) (cwV 3 hts (wg_app (wg_c kw_1200 (wg_c kw_615 (wg_c kw_616 (wg_c kw_2 wg_n)))) kw_617) rfl rfl rfl (by decide +kernel) ⟨by decide, by decide⟩) (pn_W "LatticeKeys$Sponge" (en_ok g) (ci := 3) (kn := 18) (fl := [(3, 19), (0, 0), (0, 0), (0, 0)]) hK hO kr21 rfl hP hD hS hA hE [] rfl rfl rfl) rfl rfl hl.1 rfl (lv_room (Nat.le_of_ble_eq_true rfl)) dSA_sampleMask_24 ⟨by omega, by omega⟩) (fun  u22 H locs hu22 hP hD hS => ?_)
  obtain ⟨s22, pl⟩ := u22
  obtain ⟨⟨eq22, hFc22, ⟨x24, hx_24, hb_24⟩, ⟨x25, hx_25, hb_25⟩, -⟩, hO⟩ := hu22
  have hO : okn g T s22 pl := hO
  have hP : va_P g.1 vcl ([] ++ pl) _ := hP
  have hD : va_D _ ([] ++ pl) := hD
  have hFc22 : frm (M_SP_squeeze 18 38) s21 s22 := hFc22
  have hb_24 : x24 ≤ x22 := hb_24
  have hb_25 : x25 = x22 := hb_25
  replace hR := bnd_step hR eq22
  have hF := frm_tr hF hFc22 (fun k hk => by unfold M_SP_squeeze at hk; unfold M_SA_sampleMask_1; omega)
  refine W.widen (k := 0) (n := 0) (by omega) (by omega) ?_
  refine lv_aload_n hx hb dSA_sampleMask_27 rfl (lv_at hl 2 rfl) ?_
  refine lv_aload_n hx hb dSA_sampleMask_28 rfl (lv_at hl 1 rfl) ?_
  refine nw_get (C := "LatticeKeys$DsaSet") (TT := T_DS) (N := 17) hx hb hts (wg_ft i_DS) hown hK hO k_st (kn := 10) (ci := 2) (fl := [(1, 6), (1, 5), (1, 4), (1, 4), (1, 49), (1, 48), (1, 20), (1, 524288), (1, 16), (1, 4), (1, 261888), (1, 55), (1, 196), (1, 1952), (1, 4032), (1, 3248), (1, 3309)]) rfl hP rfl 6 (by decide) (hts _ (wg_t kw_317)) (fun _ h9 => h9) (cd := (1, 20)) rfl dSA_sampleMask_29 (fun v24 hv24 => ?_)
  obtain rfl := (show v24 = .int (nI 20) from hv24)
  refine lv_aload_n hx hb dSA_sampleMask_32 rfl (lv_at hl 0 rfl) ?_
  refine nw_get (C := "LatticeKeys$DsaSampler") (TT := T_SA) (N := 2) hx hb hts (wg_ft i_SA) hown hK hO k_h0 (kn := 37) (ci := 7) (fl := [(3, 18), (3, 38)]) rfl hP rfl 1 (by decide) (hts _ (wg_t kw_158)) (fun _ h9 => h9) (cd := (3, 38)) rfl dSA_sampleMask_33 (fun v25 hv25 => ?_)
  obtain ⟨r23, rfl, kr23⟩ := (show ∃ r : Nat, v25 = .ref r ∧ T r = some 38 from hv25)
  refine lv_iconst (v := nI 0) hx hb dSA_sampleMask_36 (by decide) ?_
  refine mp_v (cx := []) (wr := []) hP hD hS hA [] [] rfl rfl rfl (by decide) (va_runS (As := [.ref f, .int (nI 20), .ref r23, .int (nI 0)]) (rest := []) F (N_BT_unpack l g _ T s22 pl hO hU f r23 pf 20 38 640 0 k_f n_f kr23 rfl (by omega) (by omega) (by omega)) (va_cwS 4 hts (wg_app (wg_c kw_1201 (wg_c kw_628 (wg_c kw_22 wg_n))) kw_629) rfl rfl rfl (by decide +kernel) ⟨by decide, by decide⟩) (pp_S (en_ok g) hP hD hS hA hE [] rfl rfl) rfl rfl hl.1 rfl (lv_room (Nat.le_of_ble_eq_true rfl)) dSA_sampleMask_37 ⟨by omega, by omega⟩) (fun  u23 H locs hu23 hP hD hS => ?_)
  obtain ⟨s23, pl⟩ := u23
  obtain ⟨⟨eq23, hFc23, -⟩, hO⟩ := hu23
  have hO : okn g T s23 pl := hO
  have hP : va_P g.1 vcl ([] ++ pl) _ := hP
  have hD : va_D _ ([] ++ pl) := hD
  have hFc23 : frm (M_BT_unpack pf) s22 s23 := hFc23
  replace hR := bnd_step hR eq23
  have hF := frm_tr hF hFc23 (fun k hk => by unfold M_BT_unpack at hk; unfold M_SA_sampleMask_1; omega)
  refine W.widen (k := 0) (n := 0) (by omega) (by omega) ?_
  exact mp_vret hx hb hr hlk hP hD hS (s23, pl) ⟨⟨hR.symm, hF, trivial⟩, hO⟩ [] rfl rfl rfl (by omega) (by omega) dSA_sampleMask_40
def M_SA_sampleMask_2 (pf : Nat) (k : Nat) : Prop := k = 18 ∨ k = 38 ∨ k = pf ∨ (0 : Nat) = 1
noncomputable def F_SA_sampleMask_2 (pf : Nat) (pb : Nat) (n : Nat) (wh : Int32) (s : Sto) : Sto := bnd (F_SA_startNumbered pb n 0 wh s) fun s21 => bnd (F_SP_squeeze 18 19 38 640 0 640 s21) fun s22 => bnd (F_BT_unpack pf 20 38 640 0 s22) fun s23 => s23
set_option maxHeartbeats 400000 in
set_option maxRecDepth 100000 in
theorem N_SA_sampleMask_2 (l : Launch) (g : Gd) (sz : Nat) (T : TyN) (s : Sto) (pl : va_W) (hO : okn g T s pl) (hU : inj T) (h0 st f b : Nat) (pf : Nat) (pb : Nat) (n : Nat) (wh : Int32) (k_h0 : T h0 = some 37) (k_st : T st = some 11) (k_f : T f = some pf) (n_f : nsp pf = (0, 256, [])) (k_b : T b = some pb) (n_b : nsp pb = (1, n, [])) (h1 : 64 ≤ n) (h2 : n < 65536)  : Met l y_SA_sampleMask w_SA_sampleMask ({ frames := 4, cells := 0, slots := 0, locals := 123 } : Room) (va_Pc [.ref h0, .ref st, .ref f, .ref b, .int wh] (pr (en g) g.1 vcl sz ([] ++ pl))) (va_Qv (fun (u : (Sto) × va_W) => (u.1 = F_SA_sampleMask_2 pf pb n wh s ∧ frm (M_SA_sampleMask_2 pf) s u.1 ∧ True) ∧ okn g T u.1 u.2) (po g.1 vcl (va_A ([] ++ pl) sz) (fun (u : (Sto) × va_W) => [] ++ u.2)) (va_A ([] ++ pl) sz)) 0 0 (va_A ([] ++ pl) sz) := by
  refine mc_entry (cc := c_SA_sampleMask) (maxL := 5) (ret := none) (by decide) rfl (Nat.le_of_ble_eq_true rfl) ?_
  intro p e s0 m args below meth c ls F hr hlk hnm hsz hP hD hE hA hl
  obtain ⟨hx, hb, hml, hown, hts⟩ := id F
  have hK := hE.1
  generalize va_A ([] ++ pl) sz = A at hD hE hA ⊢
  have hS : va_S A s0.heap s0.heap [] := va_S.rf
  have hl : lv_has ls 5 [(0, .ref h0), (1, .ref st), (2, .ref f), (3, .ref b), (4, .int wh)] := hl
  have hR : F_SA_sampleMask_2 pf pb n wh s = F_SA_sampleMask_2 pf pb n wh s := rfl
  have hF : frm (M_SA_sampleMask_2 pf) s s := frm_rf
  refine lv_aload_n hx hb dSA_sampleMask_0 rfl (lv_at hl 0 rfl) ?_
  refine lv_aload_n hx hb dSA_sampleMask_1 rfl (lv_at hl 3 rfl) ?_
  refine lv_iconst (v := nI 0) hx hb dSA_sampleMask_2 (by decide) ?_
  refine lv_iload hx hb dSA_sampleMask_3 (lv_at hl 4 rfl) ?_
  refine mp_v (cx := []) (wr := []) hP hD hS hA [] [] rfl rfl rfl (by decide) (va_runV (As := [.ref b, .int (nI 0), .int wh]) (rest := []) F (N_SA_startNumbered l g _ T s pl hO hU h0 b pb n 0 wh k_h0 k_b n_b (by omega) (by omega)) (cwV 3 hts (wg_app (wg_c kw_683 (wg_c kw_685 (wg_c ks_12 (wg_c kw_6 wg_n)))) kw_686) rfl rfl rfl (by decide +kernel) ⟨by decide, by decide⟩) (pn_W "LatticeKeys$DsaSampler" (en_ok g) (ci := 7) (kn := 37) (fl := [(3, 18), (3, 38)]) hK hO k_h0 rfl hP hD hS hA hE [] rfl rfl rfl) rfl rfl hl.1 rfl (lv_room (Nat.le_of_ble_eq_true rfl)) dSA_sampleMask_5 ⟨by omega, by omega⟩) (fun  u21 H locs hu21 hP hD hS => ?_)
  obtain ⟨s21, pl⟩ := u21
  obtain ⟨⟨eq21, hFc21, ⟨x21, hx_21, hb_21⟩, ⟨x22, hx_22, hb_22⟩, -⟩, hO⟩ := hu21
  have hO : okn g T s21 pl := hO
  have hP : va_P g.1 vcl ([] ++ pl) _ := hP
  have hD : va_D _ ([] ++ pl) := hD
  have hFc21 : frm (M_SA_startNumbered) s s21 := hFc21
  have hb_21 : x21 = 136 := hb_21
  have hb_22 : x22 = 136 := hb_22
  replace hR := bnd_step hR eq21
  have hF := frm_tr hF hFc21 (fun k hk => by unfold M_SA_startNumbered at hk; unfold M_SA_sampleMask_2; omega)
  refine W.widen (k := 0) (n := 0) (by omega) (by omega) ?_
  refine lv_aload_n hx hb dSA_sampleMask_8 rfl (lv_at hl 0 rfl) ?_
  refine nw_get (C := "LatticeKeys$DsaSampler") (TT := T_SA) (N := 2) hx hb hts (wg_ft i_SA) hown hK hO k_h0 (kn := 37) (ci := 7) (fl := [(3, 18), (3, 38)]) rfl hP rfl 0 (by decide) (hts _ (wg_t kw_157)) (fun _ h9 => h9) (cd := (3, 18)) rfl dSA_sampleMask_9 (fun v21 hv21 => ?_)
  obtain ⟨r21, rfl, kr21⟩ := (show ∃ r : Nat, v21 = .ref r ∧ T r = some 18 from hv21)
  refine lv_aload_n hx hb dSA_sampleMask_12 rfl (lv_at hl 0 rfl) ?_
  refine nw_get (C := "LatticeKeys$DsaSampler") (TT := T_SA) (N := 2) hx hb hts (wg_ft i_SA) hown hK hO k_h0 (kn := 37) (ci := 7) (fl := [(3, 18), (3, 38)]) rfl hP rfl 1 (by decide) (hts _ (wg_t kw_158)) (fun _ h9 => h9) (cd := (3, 38)) rfl dSA_sampleMask_13 (fun v22 hv22 => ?_)
  obtain ⟨r22, rfl, kr22⟩ := (show ∃ r : Nat, v22 = .ref r ∧ T r = some 38 from hv22)
  refine lv_iconst (v := nI 0) hx hb dSA_sampleMask_16 (by decide) ?_
  refine lv_bipush (v := nI 32) hx hb dSA_sampleMask_17 (by decide) ?_
  refine lv_aload_n hx hb dSA_sampleMask_19 rfl (lv_at hl 1 rfl) ?_
  refine nw_get (C := "LatticeKeys$DsaSet") (TT := T_DS) (N := 17) hx hb hts (wg_ft i_DS) hown hK hO k_st (kn := 11) (ci := 2) (fl := [(1, 8), (1, 7), (1, 2), (1, 3), (1, 60), (1, 64), (1, 20), (1, 524288), (1, 16), (1, 4), (1, 261888), (1, 75), (1, 120), (1, 2592), (1, 4896), (1, 4544), (1, 4627)]) rfl hP rfl 6 (by decide) (hts _ (wg_t kw_317)) (fun _ h9 => h9) (cd := (1, 20)) rfl dSA_sampleMask_20 (fun v23 hv23 => ?_)
  obtain rfl := (show v23 = .int (nI 20) from hv23)
  refine mi_imul hx hb dSA_sampleMask_23 ?_
  refine mi_as (show nI (32 * 20) = nI 640 from rfl) ?_
  refine mp_v (cx := []) (wr := []) hP hD hS hA [] [] rfl rfl rfl (by decide) (va_runV (As := [.ref r22, .int (nI 0), .int (nI 640)]) (rest := []) F (N_SP_squeeze l g _ T s21 pl hO hU r21 r22 18 19 38 640 0 640 x21 x22 kr21 rfl rfl kr22 rfl hx_21 hx_22 (by omega) (by omega) (by omega) (by omega)) (cwV 3 hts (wg_app (wg_c kw_1200 (wg_c kw_615 (wg_c kw_616 (wg_c kw_2 wg_n)))) kw_617) rfl rfl rfl (by decide +kernel) ⟨by decide, by decide⟩) (pn_W "LatticeKeys$Sponge" (en_ok g) (ci := 3) (kn := 18) (fl := [(3, 19), (0, 0), (0, 0), (0, 0)]) hK hO kr21 rfl hP hD hS hA hE [] rfl rfl rfl) rfl rfl hl.1 rfl (lv_room (Nat.le_of_ble_eq_true rfl)) dSA_sampleMask_24 ⟨by omega, by omega⟩) (fun  u22 H locs hu22 hP hD hS => ?_)
  obtain ⟨s22, pl⟩ := u22
  obtain ⟨⟨eq22, hFc22, ⟨x24, hx_24, hb_24⟩, ⟨x25, hx_25, hb_25⟩, -⟩, hO⟩ := hu22
  have hO : okn g T s22 pl := hO
  have hP : va_P g.1 vcl ([] ++ pl) _ := hP
  have hD : va_D _ ([] ++ pl) := hD
  have hFc22 : frm (M_SP_squeeze 18 38) s21 s22 := hFc22
  have hb_24 : x24 ≤ x22 := hb_24
  have hb_25 : x25 = x22 := hb_25
  replace hR := bnd_step hR eq22
  have hF := frm_tr hF hFc22 (fun k hk => by unfold M_SP_squeeze at hk; unfold M_SA_sampleMask_2; omega)
  refine W.widen (k := 0) (n := 0) (by omega) (by omega) ?_
  refine lv_aload_n hx hb dSA_sampleMask_27 rfl (lv_at hl 2 rfl) ?_
  refine lv_aload_n hx hb dSA_sampleMask_28 rfl (lv_at hl 1 rfl) ?_
  refine nw_get (C := "LatticeKeys$DsaSet") (TT := T_DS) (N := 17) hx hb hts (wg_ft i_DS) hown hK hO k_st (kn := 11) (ci := 2) (fl := [(1, 8), (1, 7), (1, 2), (1, 3), (1, 60), (1, 64), (1, 20), (1, 524288), (1, 16), (1, 4), (1, 261888), (1, 75), (1, 120), (1, 2592), (1, 4896), (1, 4544), (1, 4627)]) rfl hP rfl 6 (by decide) (hts _ (wg_t kw_317)) (fun _ h9 => h9) (cd := (1, 20)) rfl dSA_sampleMask_29 (fun v24 hv24 => ?_)
  obtain rfl := (show v24 = .int (nI 20) from hv24)
  refine lv_aload_n hx hb dSA_sampleMask_32 rfl (lv_at hl 0 rfl) ?_
  refine nw_get (C := "LatticeKeys$DsaSampler") (TT := T_SA) (N := 2) hx hb hts (wg_ft i_SA) hown hK hO k_h0 (kn := 37) (ci := 7) (fl := [(3, 18), (3, 38)]) rfl hP rfl 1 (by decide) (hts _ (wg_t kw_158)) (fun _ h9 => h9) (cd := (3, 38)) rfl dSA_sampleMask_33 (fun v25 hv25 => ?_)
  obtain ⟨r23, rfl, kr23⟩ := (show ∃ r : Nat, v25 = .ref r ∧ T r = some 38 from hv25)
  refine lv_iconst (v := nI 0) hx hb dSA_sampleMask_36 (by decide) ?_
  refine mp_v (cx := []) (wr := []) hP hD hS hA [] [] rfl rfl rfl (by decide) (va_runS (As := [.ref f, .int (nI 20), .ref r23, .int (nI 0)]) (rest := []) F (N_BT_unpack l g _ T s22 pl hO hU f r23 pf 20 38 640 0 k_f n_f kr23 rfl (by omega) (by omega) (by omega)) (va_cwS 4 hts (wg_app (wg_c kw_1201 (wg_c kw_628 (wg_c kw_22 wg_n))) kw_629) rfl rfl rfl (by decide +kernel) ⟨by decide, by decide⟩) (pp_S (en_ok g) hP hD hS hA hE [] rfl rfl) rfl rfl hl.1 rfl (lv_room (Nat.le_of_ble_eq_true rfl)) dSA_sampleMask_37 ⟨by omega, by omega⟩) (fun  u23 H locs hu23 hP hD hS => ?_)
  obtain ⟨s23, pl⟩ := u23
  obtain ⟨⟨eq23, hFc23, -⟩, hO⟩ := hu23
  have hO : okn g T s23 pl := hO
  have hP : va_P g.1 vcl ([] ++ pl) _ := hP
  have hD : va_D _ ([] ++ pl) := hD
  have hFc23 : frm (M_BT_unpack pf) s22 s23 := hFc23
  replace hR := bnd_step hR eq23
  have hF := frm_tr hF hFc23 (fun k hk => by unfold M_BT_unpack at hk; unfold M_SA_sampleMask_2; omega)
  refine W.widen (k := 0) (n := 0) (by omega) (by omega) ?_
  exact mp_vret hx hb hr hlk hP hD hS (s23, pl) ⟨⟨hR.symm, hF, trivial⟩, hO⟩ [] rfl rfl rfl (by omega) (by omega) dSA_sampleMask_40
def M_SA_sampleBall_0 (pf : Nat) (k : Nat) : Prop := k = 18 ∨ k = pf ∨ (0 : Nat) = 1
noncomputable def F_SA_sampleBall_0_L2 (pf : Nat) (i22 : Nat) (y22 : Int64) (kk : Nat → Int64 → Sto → Sto) : Nat → Nat → Nat → Sto → Sto
  | 0, i23, fl21, s27 => if fl21 ≤ i22 then bnd (sI s27 pf i22 (s27.1 pf fl21)) fun s28 => if (lg_cmp (y22 &&& 1) 0) = 0 then bnd (sI s28 pf fl21 (nI 1)) fun s30 => bnd ((y22.toUInt64 >>> ((nI 1).toInt64.toUInt64 &&& Int64.toUInt64 63)).toInt64) fun y24 => kk (i22 + 1) y24 s30 else bnd (sI s28 pf fl21 (nI 8380416)) fun s29 => bnd ((y22.toUInt64 >>> ((nI 1).toInt64.toUInt64 &&& Int64.toUInt64 63)).toInt64) fun y23 => kk (i22 + 1) y23 s29 else bnd (sI s27 pf i22 (s27.1 pf fl21)) fun s31 => if (lg_cmp (y22 &&& 1) 0) = 0 then bnd (sI s31 pf fl21 (nI 1)) fun s33 => bnd ((y22.toUInt64 >>> ((nI 1).toInt64.toUInt64 &&& Int64.toUInt64 63)).toInt64) fun y26 => kk (i22 + 1) y26 s33 else bnd (sI s31 pf fl21 (nI 8380416)) fun s32 => bnd ((y22.toUInt64 >>> ((nI 1).toInt64.toUInt64 &&& Int64.toUInt64 63)).toInt64) fun y25 => kk (i22 + 1) y25 s32
  | n23 + 1, i23, fl21, s27 => if fl21 ≤ i22 then bnd (sI s27 pf i22 (s27.1 pf fl21)) fun s34 => if (lg_cmp (y22 &&& 1) 0) = 0 then bnd (sI s34 pf fl21 (nI 1)) fun s36 => bnd ((y22.toUInt64 >>> ((nI 1).toInt64.toUInt64 &&& Int64.toUInt64 63)).toInt64) fun y28 => kk (i22 + 1) y28 s36 else bnd (sI s34 pf fl21 (nI 8380416)) fun s35 => bnd ((y22.toUInt64 >>> ((nI 1).toInt64.toUInt64 &&& Int64.toUInt64 63)).toInt64) fun y27 => kk (i22 + 1) y27 s35 else bnd (F_SP_nextByte 18 19 s27) fun q22 => bnd (q22.1.toNatClampNeg) fun z22 => F_SA_sampleBall_0_L2 pf i22 y22 kk n23 (i23 + 1) z22 q22.2
noncomputable def F_SA_sampleBall_0_L1 (pf : Nat) : Nat → Nat → Int64 → Sto → Sto
  | 0, i22, y22, s26 => s26
  | n22 + 1, i22, y22, s26 => bnd (F_SP_nextByte 18 19 s26) fun q21 => bnd (q21.1.toNatClampNeg) fun z21 => F_SA_sampleBall_0_L2 pf i22 y22 (F_SA_sampleBall_0_L1 pf n22) 1000000 0 z21 q21.2
noncomputable def F_SA_sampleBall_0_L0 (pf : Nat) : Nat → Nat → Int64 → Sto → Sto
  | 0, i21, y21, s24 => bnd (F_AR_fillI pf 256 (nI 0) s24) fun s25 => F_SA_sampleBall_0_L1 pf (256 - 217) 217 y21 s25
  | n21 + 1, i21, y21, s24 => bnd (F_SP_nextByte 18 19 s24) fun q23 => bnd (q23.1.toNatClampNeg) fun z23 => bnd ((y21 ||| (((nI z23).toInt64) <<< ((nI (8 * i21)).toInt64 &&& 63)))) fun y29 => F_SA_sampleBall_0_L0 pf n21 (i21 + 1) y29 q23.2
noncomputable def F_SA_sampleBall_0 (pf : Nat) (pb : Nat) (n : Nat) (s : Sto) : Sto := bnd (F_SP_start_3 18 19 s) fun s21 => bnd (F_SP_absorb 18 19 pb n 0 32 s21) fun s22 => bnd (F_SP_finish 18 19 s22) fun s23 => F_SA_sampleBall_0_L0 pf 8 0 0 s23
set_option maxHeartbeats 400000 in
set_option maxRecDepth 100000 in
theorem N_SA_sampleBall_0 (l : Launch) (g : Gd) (sz : Nat) (T : TyN) (s : Sto) (pl : va_W) (hO : okn g T s pl) (hU : inj T) (h0 st f b : Nat) (pf : Nat) (pb : Nat) (n : Nat) (k_h0 : T h0 = some 37) (k_st : T st = some 9) (k_f : T f = some pf) (n_f : nsp pf = (0, 256, [])) (k_b : T b = some pb) (n_b : nsp pb = (1, n, [])) (h1 : 32 ≤ n) (h2 : n < 65536)  : Met l y_SA_sampleBall w_SA_sampleBall ({ frames := 3, cells := 0, slots := 0, locals := 100 } : Room) (va_Pc [.ref h0, .ref st, .ref f, .ref b] (pr (en g) g.1 vcl sz ([] ++ pl))) (va_Qv (fun (u : (Sto) × va_W) => (u.1 = F_SA_sampleBall_0 pf pb n s ∧ frm (M_SA_sampleBall_0 pf) s u.1 ∧ True) ∧ okn g T u.1 u.2) (po g.1 vcl (va_A ([] ++ pl) sz) (fun (u : (Sto) × va_W) => [] ++ u.2)) (va_A ([] ++ pl) sz)) 0 0 (va_A ([] ++ pl) sz) := by
  refine mc_entry (cc := c_SA_sampleBall) (maxL := 9) (ret := none) (by decide) rfl (Nat.le_of_ble_eq_true rfl) ?_
  intro p e s0 m args below meth c ls F hr hlk hnm hsz hP hD hE hA hl
  obtain ⟨hx, hb, hml, hown, hts⟩ := id F
  have hK := hE.1
  generalize va_A ([] ++ pl) sz = A at hD hE hA ⊢
  have hS : va_S A s0.heap s0.heap [] := va_S.rf
  have hl : lv_has ls 9 [(0, .ref h0), (1, .ref st), (2, .ref f), (3, .ref b)] := hl
  have hR : F_SA_sampleBall_0 pf pb n s = F_SA_sampleBall_0 pf pb n s := rfl
  have hF : frm (M_SA_sampleBall_0 pf) s s := frm_rf
  have ne_18_pf : 18 ≠ pf := nsp_ne (p := 18) rfl n_f (show (5 : Nat) ≠ 0 by decide)
  have ne_18_pb : 18 ≠ pb := nsp_ne (p := 18) rfl n_b (show (5 : Nat) ≠ 1 by decide)
  refine lv_aload_n hx hb dSA_sampleBall_0 rfl (lv_at hl 0 rfl) ?_
  refine nw_get (C := "LatticeKeys$DsaSampler") (TT := T_SA) (N := 2) hx hb hts (wg_ft i_SA) hown hK hO k_h0 (kn := 37) (ci := 7) (fl := [(3, 18), (3, 38)]) rfl hP rfl 0 (by decide) (hts _ (wg_t kw_157)) (fun _ h9 => h9) (cd := (3, 18)) rfl dSA_sampleBall_1 (fun v21 hv21 => ?_)
  obtain ⟨r21, rfl, kr21⟩ := (show ∃ r : Nat, v21 = .ref r ∧ T r = some 18 from hv21)
  refine lv_iconst (v := nI 3) hx hb dSA_sampleBall_4 (by decide) ?_
  refine mp_v (cx := []) (wr := []) hP hD hS hA [] [] rfl rfl rfl (by decide) (va_runV (As := [.int (nI 3)]) (rest := []) F (N_SP_start_3 l g _ T s pl hO hU r21 18 19 kr21 rfl rfl) (cwV 1 hts (wg_app (wg_c kw_687 (wg_c kw_579 (wg_c kw_580 (wg_c kw_2 wg_n)))) kw_581) rfl rfl rfl (by decide +kernel) ⟨by decide, by decide⟩) (pn_W "LatticeKeys$Sponge" (en_ok g) (ci := 3) (kn := 18) (fl := [(3, 19), (0, 0), (0, 0), (0, 0)]) hK hO kr21 rfl hP hD hS hA hE [] rfl rfl rfl) rfl rfl hl.1 rfl (lv_room (Nat.le_of_ble_eq_true rfl)) dSA_sampleBall_5 ⟨by omega, by omega⟩) (fun  u21 H locs hu21 hP hD hS => ?_)
  obtain ⟨s21, pl⟩ := u21
  obtain ⟨⟨eq21, hFc21, ⟨x21, hx_21, hb_21⟩, ⟨x22, hx_22, hb_22⟩, -⟩, hO⟩ := hu21
  have hO : okn g T s21 pl := hO
  have hP : va_P g.1 vcl ([] ++ pl) _ := hP
  have hD : va_D _ ([] ++ pl) := hD
  have hFc21 : frm (M_SP_start_3 18) s s21 := hFc21
  have hb_21 : x21 = 0 := hb_21
  have hb_22 : x22 = 136 := hb_22
  replace hR := bnd_step hR eq21
  have hF := frm_tr hF hFc21 (fun k hk => by unfold M_SP_start_3 at hk; unfold M_SA_sampleBall_0; omega)
  refine W.widen (k := 0) (n := 0) (by omega) (by omega) ?_
  refine lv_aload_n hx hb dSA_sampleBall_8 rfl (lv_at hl 0 rfl) ?_
  refine nw_get (C := "LatticeKeys$DsaSampler") (TT := T_SA) (N := 2) hx hb hts (wg_ft i_SA) hown hK hO k_h0 (kn := 37) (ci := 7) (fl := [(3, 18), (3, 38)]) rfl hP rfl 0 (by decide) (hts _ (wg_t kw_157)) (fun _ h9 => h9) (cd := (3, 18)) rfl dSA_sampleBall_9 (fun v22 hv22 => ?_)
  obtain ⟨r22, rfl, kr22⟩ := (show ∃ r : Nat, v22 = .ref r ∧ T r = some 18 from hv22)
  refine lv_aload_n hx hb dSA_sampleBall_12 rfl (lv_at hl 3 rfl) ?_
  refine lv_iconst (v := nI 0) hx hb dSA_sampleBall_13 (by decide) ?_
  refine lv_aload_n hx hb dSA_sampleBall_14 rfl (lv_at hl 1 rfl) ?_
  refine nw_get (C := "LatticeKeys$DsaSet") (TT := T_DS) (N := 17) hx hb hts (wg_ft i_DS) hown hK hO k_st (kn := 9) (ci := 2) (fl := [(1, 4), (1, 4), (1, 2), (1, 3), (1, 39), (1, 32), (1, 18), (1, 131072), (1, 44), (1, 6), (1, 95232), (1, 80), (1, 78), (1, 1312), (1, 2560), (1, 2336), (1, 2420)]) rfl hP rfl 5 (by decide) (hts _ (wg_t kw_314)) (fun _ h9 => h9) (cd := (1, 32)) rfl dSA_sampleBall_15 (fun v23 hv23 => ?_)
  obtain rfl := (show v23 = .int (nI 32) from hv23)
  refine mp_v (cx := []) (wr := []) hP hD hS hA [] [] rfl rfl rfl (by decide) (va_runV (As := [.ref b, .int (nI 0), .int (nI 32)]) (rest := []) F (N_SP_absorb l g _ T s21 pl hO hU r22 b 18 19 pb n 0 32 x21 x22 kr22 rfl rfl k_b n_b hx_21 hx_22 (by omega) (by omega) (by omega) (by omega)) (cwV 3 hts (wg_app (wg_c kw_688 (wg_c kw_586 (wg_c kw_587 (wg_c kw_2 wg_n)))) kw_588) rfl rfl rfl (by decide +kernel) ⟨by decide, by decide⟩) (pn_W "LatticeKeys$Sponge" (en_ok g) (ci := 3) (kn := 18) (fl := [(3, 19), (0, 0), (0, 0), (0, 0)]) hK hO kr22 rfl hP hD hS hA hE [] rfl rfl rfl) rfl rfl hl.1 rfl (lv_room (Nat.le_of_ble_eq_true rfl)) dSA_sampleBall_18 ⟨by omega, by omega⟩) (fun  u22 H locs hu22 hP hD hS => ?_)
  obtain ⟨s22, pl⟩ := u22
  obtain ⟨⟨eq22, hFc22, ⟨x24, hx_24, hb_24⟩, ⟨x25, hx_25, hb_25⟩, -⟩, hO⟩ := hu22
  have hO : okn g T s22 pl := hO
  have hP : va_P g.1 vcl ([] ++ pl) _ := hP
  have hD : va_D _ ([] ++ pl) := hD
  have hFc22 : frm (M_SP_absorb 18) s21 s22 := hFc22
  have hb_24 : x24 < x22 := hb_24
  have hb_25 : x25 = x22 := hb_25
  replace hR := bnd_step hR eq22
  have hF := frm_tr hF hFc22 (fun k hk => by unfold M_SP_absorb at hk; unfold M_SA_sampleBall_0; omega)
  refine W.widen (k := 0) (n := 0) (by omega) (by omega) ?_
  refine lv_aload_n hx hb dSA_sampleBall_21 rfl (lv_at hl 0 rfl) ?_
  refine nw_get (C := "LatticeKeys$DsaSampler") (TT := T_SA) (N := 2) hx hb hts (wg_ft i_SA) hown hK hO k_h0 (kn := 37) (ci := 7) (fl := [(3, 18), (3, 38)]) rfl hP rfl 0 (by decide) (hts _ (wg_t kw_157)) (fun _ h9 => h9) (cd := (3, 18)) rfl dSA_sampleBall_22 (fun v24 hv24 => ?_)
  obtain ⟨r23, rfl, kr23⟩ := (show ∃ r : Nat, v24 = .ref r ∧ T r = some 18 from hv24)
  refine mp_v (cx := []) (wr := []) hP hD hS hA [] [] rfl rfl rfl (by decide) (va_runV (As := []) (rest := []) F (N_SP_finish l g _ T s22 pl hO hU r23 18 19 x24 x25 kr23 rfl rfl hx_24 hx_25 (by omega) (by omega)) (cwV 0 hts (wg_app (wg_c kw_690 (wg_c kw_611 (wg_c kw_612 (wg_c kw_2 wg_n)))) kw_613) rfl rfl rfl (by decide +kernel) ⟨by decide, by decide⟩) (pn_W "LatticeKeys$Sponge" (en_ok g) (ci := 3) (kn := 18) (fl := [(3, 19), (0, 0), (0, 0), (0, 0)]) hK hO kr23 rfl hP hD hS hA hE [] rfl rfl rfl) rfl rfl hl.1 rfl (lv_room (Nat.le_of_ble_eq_true rfl)) dSA_sampleBall_25 ⟨by omega, by omega⟩) (fun  u23 H locs hu23 hP hD hS => ?_)
  obtain ⟨s23, pl⟩ := u23
  obtain ⟨⟨eq23, hFc23, ⟨x27, hx_27, hb_27⟩, ⟨x28, hx_28, hb_28⟩, -⟩, hO⟩ := hu23
  have hO : okn g T s23 pl := hO
  have hP : va_P g.1 vcl ([] ++ pl) _ := hP
  have hD : va_D _ ([] ++ pl) := hD
  have hFc23 : frm (M_SP_finish 18) s22 s23 := hFc23
  have hb_27 : x27 = x25 := hb_27
  have hb_28 : x28 = x25 := hb_28
  replace hR := bnd_step hR eq23
  have hF := frm_tr hF hFc23 (fun k hk => by unfold M_SP_finish at hk; unfold M_SA_sampleBall_0; omega)
  refine W.widen (k := 0) (n := 0) (by omega) (by omega) ?_
  refine lv_lconst (v := 0) hx hb dSA_sampleBall_28 (by decide) ?_
  refine lv_lstore (lv' := [(4, .long 0), (0, .ref h0), (1, .ref st), (2, .ref f), (3, .ref b)]) hx hb dSA_sampleBall_29 hl (by decide) rfl (fun ls hl => ?_)
  refine lv_iconst (v := nI 0) hx hb dSA_sampleBall_31 (by decide) ?_
  refine lv_istore (lv' := [(6, .int (nI 0)), (4, .long 0), (0, .ref h0), (1, .ref st), (2, .ref f), (3, .ref b)]) hx hb dSA_sampleBall_32 hl (by decide) rfl (fun ls hl => ?_)
  have lp21 : ∀ (n21 : Nat) (i21 : Nat) (y21 : Int64) (s24 : Sto) (ps21 : Nat) (pl : va_W) (ls : Array Slot) (H : Heap) (locs : List Loc), n21 + i21 = 8 → (ps21 ≤ 136) → frm (M_SA_sampleBall_0 pf) s s24 → s24.1 18 3 = nI ps21 → s24.1 18 1 = nI x28 → F_SA_sampleBall_0 pf pb n s = F_SA_sampleBall_0_L0 pf n21 i21 y21 s24 → lv_has ls 9 [(6, .int (nI i21)), (4, .long y21), (0, .ref h0), (1, .ref st), (2, .ref f)] → okn g T s24 pl → va_P g.1 vcl ([] ++ pl) H → va_D A ([] ++ pl) → va_S A s0.heap H locs → W p l e ({ frames := 3, cells := 0, slots := 0, locals := 100 } : Room) s0 m args below meth c H locs 0 0 (MQ below (va_Qv (fun (u : (Sto) × va_W) => (u.1 = F_SA_sampleBall_0 pf pb n s ∧ frm (M_SA_sampleBall_0 pf) s u.1 ∧ True) ∧ okn g T u.1 u.2) (po g.1 vcl A (fun (u : (Sto) × va_W) => [] ++ u.2)) A) args s0 0 0 A) (F0 m 34 ls []) := by
    intro n21
    induction n21 with
    | zero =>
      intro i21 y21 s24 ps21 pl ls H locs hm21 hi21 hF hf21 hf22 hR hl hO hP hD hS
      refine lv_iload hx hb dSA_sampleBall_34 (lv_at hl 0 rfl) ?_
      refine lv_bipush (v := nI 8) hx hb dSA_sampleBall_36 (by decide) ?_
      refine mi_ge (tgt := 66) hx hb dSA_sampleBall_38 (by decide) (by omega) (by omega) (fun h21 => ?_) (fun h21 => absurd h21 (by omega))
      refine lv_aload_n hx hb dSA_sampleBall_66 rfl (lv_at hl 4 rfl) ?_
      refine lv_iconst (v := nI 0) hx hb dSA_sampleBall_67 (by decide) ?_
      refine mp_v (cx := []) (wr := []) hP hD hS hA [] [] rfl rfl rfl (by decide) (va_runS (As := [.ref f, .int (nI 0)]) (rest := []) F (N_AR_fillI l g _ T s24 pl hO hU f pf 256 (nI 0) k_f n_f (by omega)) (va_cwS 2 hts (wg_app (wg_c kw_1218 (wg_c kw_717 (wg_c kw_21 wg_n))) kw_718) rfl rfl rfl (by decide +kernel) ⟨by decide, by decide⟩) (pp_S (en_ok g) hP hD hS hA hE [] rfl rfl) rfl rfl hl.1 rfl (lv_room (Nat.le_of_ble_eq_true rfl)) dSA_sampleBall_68 ⟨by omega, by omega⟩) (fun  u24 H locs hu24 hP hD hS => ?_)
      obtain ⟨s25, pl⟩ := u24
      obtain ⟨⟨eq24, hFc24, -⟩, hO⟩ := hu24
      have hO : okn g T s25 pl := hO
      have hP : va_P g.1 vcl ([] ++ pl) _ := hP
      have hD : va_D _ ([] ++ pl) := hD
      have hFc24 : frm (M_AR_fillI pf) s24 s25 := hFc24
      replace hR := bnd_step hR eq24
      have hF := frm_tr hF hFc24 (fun k hk => by unfold M_AR_fillI at hk; unfold M_SA_sampleBall_0; omega)
      have hf23 : s25.1 18 3 = nI ps21 := fc_F hf21 hFc24 (by unfold M_AR_fillI; omega)
      have hf24 : s25.1 18 1 = nI x28 := fc_F hf22 hFc24 (by unfold M_AR_fillI; omega)
      refine W.widen (k := 0) (n := 0) (by omega) (by omega) ?_
      refine lv_sipush (v := nI 256) hx hb dSA_sampleBall_71 (by decide) ?_
      refine lv_aload_n hx hb dSA_sampleBall_74 rfl (lv_at hl 3 rfl) ?_
      refine nw_get (C := "LatticeKeys$DsaSet") (TT := T_DS) (N := 17) hx hb hts (wg_ft i_DS) hown hK hO k_st (kn := 9) (ci := 2) (fl := [(1, 4), (1, 4), (1, 2), (1, 3), (1, 39), (1, 32), (1, 18), (1, 131072), (1, 44), (1, 6), (1, 95232), (1, 80), (1, 78), (1, 1312), (1, 2560), (1, 2336), (1, 2420)]) rfl hP rfl 4 (by decide) (hts _ (wg_t kw_312)) (fun _ h9 => h9) (cd := (1, 39)) rfl dSA_sampleBall_75 (fun v25 hv25 => ?_)
      obtain rfl := (show v25 = .int (nI 39) from hv25)
      refine mi_isub hx hb dSA_sampleBall_78 (by omega) ?_
      refine mi_as (show nI (256 - 39) = nI 217 from rfl) ?_
      refine lv_istore (lv' := [(6, .int (nI 217)), (4, .long y21), (0, .ref h0), (1, .ref st), (2, .ref f)]) hx hb dSA_sampleBall_79 hl (by decide) rfl (fun ls hl => ?_)
      have lp22 : ∀ (n22 : Nat) (i22 : Nat) (y22 : Int64) (s26 : Sto) (ps22 : Nat) (pl : va_W) (ls : Array Slot) (H : Heap) (locs : List Loc), n22 + i22 = 256 → (ps22 ≤ 136) → (217 ≤ i22) → frm (M_SA_sampleBall_0 pf) s s26 → s26.1 18 3 = nI ps22 → s26.1 18 1 = nI x28 → F_SA_sampleBall_0 pf pb n s = F_SA_sampleBall_0_L1 pf n22 i22 y22 s26 → lv_has ls 9 [(6, .int (nI i22)), (4, .long y22), (0, .ref h0), (2, .ref f)] → okn g T s26 pl → va_P g.1 vcl ([] ++ pl) H → va_D A ([] ++ pl) → va_S A s0.heap H locs → W p l e ({ frames := 3, cells := 0, slots := 0, locals := 100 } : Room) s0 m args below meth c H locs 0 0 (MQ below (va_Qv (fun (u : (Sto) × va_W) => (u.1 = F_SA_sampleBall_0 pf pb n s ∧ frm (M_SA_sampleBall_0 pf) s u.1 ∧ True) ∧ okn g T u.1 u.2) (po g.1 vcl A (fun (u : (Sto) × va_W) => [] ++ u.2)) A) args s0 0 0 A) (F0 m 81 ls []) := by
        intro n22
        induction n22 with
        | zero =>
          intro i22 y22 s26 ps22 pl ls H locs hm22 hi22 hi23 hF hf25 hf26 hR hl hO hP hD hS
          refine lv_iload hx hb dSA_sampleBall_81 (lv_at hl 0 rfl) ?_
          refine lv_sipush (v := nI 256) hx hb dSA_sampleBall_83 (by decide) ?_
          refine mi_ge (tgt := 169) hx hb dSA_sampleBall_86 (by decide) (by omega) (by omega) (fun h22 => ?_) (fun h22 => absurd h22 (by omega))
          exact mp_vret hx hb hr hlk hP hD hS (s26, pl) ⟨⟨hR.symm, hF, trivial⟩, hO⟩ [] rfl rfl rfl (by omega) (by omega) dSA_sampleBall_169
        | succ n22 ih22 =>
          intro i22 y22 s26 ps22 pl ls H locs hm22 hi22 hi23 hF hf27 hf28 hR hl hO hP hD hS
          refine lv_iload hx hb dSA_sampleBall_81 (lv_at hl 0 rfl) ?_
          refine lv_sipush (v := nI 256) hx hb dSA_sampleBall_83 (by decide) ?_
          refine mi_ge (tgt := 169) hx hb dSA_sampleBall_86 (by decide) (by omega) (by omega) (fun h23 => absurd h23 (by omega)) (fun h23 => ?_)
          refine lv_aload_n hx hb dSA_sampleBall_89 rfl (lv_at hl 2 rfl) ?_
          refine nw_get (C := "LatticeKeys$DsaSampler") (TT := T_SA) (N := 2) hx hb hts (wg_ft i_SA) hown hK hO k_h0 (kn := 37) (ci := 7) (fl := [(3, 18), (3, 38)]) rfl hP rfl 0 (by decide) (hts _ (wg_t kw_157)) (fun _ h9 => h9) (cd := (3, 18)) rfl dSA_sampleBall_90 (fun v26 hv26 => ?_)
          obtain ⟨r24, rfl, kr24⟩ := (show ∃ r : Nat, v26 = .ref r ∧ T r = some 18 from hv26)
          refine mp_i (cx := []) (wr := []) hP hD hS hA [] [] rfl rfl rfl (by decide) (va_runV (As := []) (rest := []) F (N_SP_nextByte l g _ T s26 pl hO hU r24 18 19 ps22 x28 kr24 rfl rfl hf27 hf28 (by omega) (by omega)) (cwV 0 hts (wg_app (wg_c kw_692 (wg_c kw_619 (wg_c kw_620 (wg_c kw_2 wg_n)))) kw_621) rfl rfl rfl (by decide +kernel) ⟨by decide, by decide⟩) (pn_W "LatticeKeys$Sponge" (en_ok g) (ci := 3) (kn := 18) (fl := [(3, 19), (0, 0), (0, 0), (0, 0)]) hK hO kr24 rfl hP hD hS hA hE [] rfl rfl rfl) rfl rfl hl.1 rfl (lv_room (Nat.le_of_ble_eq_true rfl)) dSA_sampleBall_93 ⟨by omega, by omega⟩) (fun r25 u25 H locs hu25 hP hD hS => ?_)
          obtain ⟨q21, pl⟩ := u25
          obtain ⟨⟨eq25, rfl, hFc25, ⟨x33, hx_33, hb_33⟩, ⟨x31, hx_31, hb_31⟩, ⟨x32, hx_32, hb_32⟩, -⟩, hO⟩ := hu25
          have hO : okn g T q21.2 pl := hO
          have hP : va_P g.1 vcl ([] ++ pl) _ := hP
          have hD : va_D _ ([] ++ pl) := hD
          have hFc25 : frm (M_SP_nextByte 18) s26 q21.2 := hFc25
          have hb_31 : x31 ≤ x28 := hb_31
          have hb_32 : x32 = x28 := hb_32
          have hb_33 : x33 < 256 := hb_33
          replace hR := bnd_step hR eq25
          have hF := frm_tr hF hFc25 (fun k hk => by unfold M_SP_nextByte at hk; unfold M_SA_sampleBall_0; omega)
          obtain ⟨z21, ez21, hz21, hz22⟩ := cl_of (b := 2147483648) hx_33 (by omega) (by decide)
          replace hR := bnd_step hR ez21
          refine mi_as hz21 ?_
          refine W.widen (k := 0) (n := 0) (by omega) (by omega) ?_
          refine lv_istore (lv' := [(7, .int (nI z21)), (6, .int (nI i22)), (4, .long y22), (0, .ref h0), (2, .ref f)]) hx hb dSA_sampleBall_96 hl (by decide) rfl (fun ls hl => ?_)
          refine lv_iconst (v := nI 0) hx hb dSA_sampleBall_98 (by decide) ?_
          refine lv_istore (lv' := [(8, .int (nI 0)), (7, .int (nI z21)), (6, .int (nI i22)), (4, .long y22), (0, .ref h0), (2, .ref f)]) hx hb dSA_sampleBall_99 hl (by decide) rfl (fun ls hl => ?_)
          have lp23 : ∀ (n23 : Nat) (i23 : Nat) (fl21 : Nat) (s27 : Sto) (ps23 : Nat) (pl : va_W) (ls : Array Slot) (H : Heap) (locs : List Loc), n23 + i23 = 1000000 → (fl21 < 256) → (ps23 ≤ 136) → frm (M_SA_sampleBall_0 pf) s s27 → s27.1 18 3 = nI ps23 → s27.1 18 1 = nI x32 → F_SA_sampleBall_0 pf pb n s = F_SA_sampleBall_0_L2 pf i22 y22 (F_SA_sampleBall_0_L1 pf n22) n23 i23 fl21 s27 → lv_has ls 9 [(8, .int (nI i23)), (7, .int (nI fl21)), (6, .int (nI i22)), (4, .long y22), (0, .ref h0), (2, .ref f)] → okn g T s27 pl → va_P g.1 vcl ([] ++ pl) H → va_D A ([] ++ pl) → va_S A s0.heap H locs → W p l e ({ frames := 3, cells := 0, slots := 0, locals := 100 } : Room) s0 m args below meth c H locs 0 0 (MQ below (va_Qv (fun (u : (Sto) × va_W) => (u.1 = F_SA_sampleBall_0 pf pb n s ∧ frm (M_SA_sampleBall_0 pf) s u.1 ∧ True) ∧ okn g T u.1 u.2) (po g.1 vcl A (fun (u : (Sto) × va_W) => [] ++ u.2)) A) args s0 0 0 A) (F0 m 101 ls []) := by
            intro n23
            induction n23 with
            | zero =>
              intro i23 fl21 s27 ps23 pl ls H locs hm23 hi24 hi25 hF hf29 hf30 hR hl hO hP hD hS
              refine lv_iload hx hb dSA_sampleBall_101 (lv_at hl 1 rfl) ?_
              refine lv_iload hx hb dSA_sampleBall_103 (lv_at hl 2 rfl) ?_
              refine mi_le (tgt := 130) hx hb dSA_sampleBall_105 (by decide) (by omega) (by omega) (fun h24 => ?_) (fun h24 => ?_)
              · replace hR := hR.trans (if_pos h24)
                refine lv_aload_n hx hb dSA_sampleBall_130 rfl (lv_at hl 5 rfl) ?_
                refine lv_iload hx hb dSA_sampleBall_131 (lv_at hl 2 rfl) ?_
                refine lv_aload_n hx hb dSA_sampleBall_133 rfl (lv_at hl 5 rfl) ?_
                refine lv_iload hx hb dSA_sampleBall_134 (lv_at hl 1 rfl) ?_
                refine nw_iald hx hb hK hO k_f (k := pf) n_f hP (by omega) (by omega) dSA_sampleBall_136 ?_
                refine nw_iast hx hb hK hO hU k_f (k := pf) n_f hP hD hS (by omega) (by omega) dSA_sampleBall_137 (fun s28 pl H locs es21 hO hP hD hS => ?_)
                replace hR := bnd_step hR es21
                have hF := frm_sI hF es21 (by unfold M_SA_sampleBall_0; omega)
                have hf31 : s28.1 18 3 = nI ps23 := fc_ne hf29 es21 (by omega)
                have hf32 : s28.1 18 1 = nI x32 := fc_ne hf30 es21 (by omega)
                refine lv_aload_n hx hb dSA_sampleBall_138 rfl (lv_at hl 5 rfl) ?_
                refine lv_iload hx hb dSA_sampleBall_139 (lv_at hl 1 rfl) ?_
                refine lv_lload hx hb dSA_sampleBall_141 (lv_at hl 3 rfl) ?_
                refine lv_lconst (v := 1) hx hb dSA_sampleBall_143 (by decide) ?_
                refine lv_land hx hb dSA_sampleBall_144 ?_
                refine lv_lconst (v := 0) hx hb dSA_sampleBall_145 (by decide) ?_
                refine W.lcmp hx hb dSA_sampleBall_146 ?_
                refine lv_if_ne (tgt := 154) hx hb dSA_sampleBall_147 (by decide) (fun h25 => ?_) (fun h25 => ?_)
                · replace hR := hR.trans (if_neg h25)
                  refine lv_ldc (v := 8380416) hx hb hown (hts _ (wg_t kw_1219)) dSA_sampleBall_154 ?_
                  refine mi_as (show (8380416 : Int32) = nI 8380416 by decide) ?_
                  refine nw_iast hx hb hK hO hU k_f (k := pf) n_f hP hD hS (by omega) (by omega) dSA_sampleBall_156 (fun s29 pl H locs es22 hO hP hD hS => ?_)
                  replace hR := bnd_step hR es22
                  have hF := frm_sI hF es22 (by unfold M_SA_sampleBall_0; omega)
                  have hf33 : s29.1 18 3 = nI ps23 := fc_ne hf31 es22 (by omega)
                  have hf34 : s29.1 18 1 = nI x32 := fc_ne hf32 es22 (by omega)
                  refine lv_lload hx hb dSA_sampleBall_157 (lv_at hl 3 rfl) ?_
                  refine lv_iconst (v := nI 1) hx hb dSA_sampleBall_159 (by decide) ?_
                  refine lv_lushr hx hb dSA_sampleBall_160 rfl ?_
                  refine ml_eqv (fun y23 ez22 => ?_)
                  replace hR := bnd_step hR ez22
                  refine lv_lstore (lv' := [(4, .long y23), (8, .int (nI i23)), (7, .int (nI fl21)), (6, .int (nI i22)), (0, .ref h0), (2, .ref f)]) hx hb dSA_sampleBall_161 hl (by decide) rfl (fun ls hl => ?_)
                  refine mi_iinc (k := 3) (x := i22) (d := 1) (y := i22 + 1) (lv' := [(6, .int (nI (i22 + 1))), (4, .long y23), (8, .int (nI i23)), (7, .int (nI fl21)), (0, .ref h0), (2, .ref f)]) hx hb dSA_sampleBall_163 hl rfl (by decide) rfl (by decide) rfl (fun ls hl => ?_)
                  refine lv_goto (tgt := 81) hx hb dSA_sampleBall_166 (by decide) ?_
                  exact ih22 (i22 + 1) y23 s29 ps23 pl ls H locs (by omega) (by omega) (by omega) hF hf33 (by have h9 := hf34; rw [show x32 = x28 by omega] at h9; exact h9) hR (lv_sub hl [0, 1, 4, 5] rfl) hO hP hD hS
                · replace hR := hR.trans (if_pos h25)
                  refine lv_iconst (v := nI 1) hx hb dSA_sampleBall_150 (by decide) ?_
                  refine lv_goto (tgt := 156) hx hb dSA_sampleBall_151 (by decide) ?_
                  refine nw_iast hx hb hK hO hU k_f (k := pf) n_f hP hD hS (by omega) (by omega) dSA_sampleBall_156 (fun s30 pl H locs es23 hO hP hD hS => ?_)
                  replace hR := bnd_step hR es23
                  have hF := frm_sI hF es23 (by unfold M_SA_sampleBall_0; omega)
                  have hf35 : s30.1 18 3 = nI ps23 := fc_ne hf31 es23 (by omega)
                  have hf36 : s30.1 18 1 = nI x32 := fc_ne hf32 es23 (by omega)
                  refine lv_lload hx hb dSA_sampleBall_157 (lv_at hl 3 rfl) ?_
                  refine lv_iconst (v := nI 1) hx hb dSA_sampleBall_159 (by decide) ?_
                  refine lv_lushr hx hb dSA_sampleBall_160 rfl ?_
                  refine ml_eqv (fun y24 ez23 => ?_)
                  replace hR := bnd_step hR ez23
                  refine lv_lstore (lv' := [(4, .long y24), (8, .int (nI i23)), (7, .int (nI fl21)), (6, .int (nI i22)), (0, .ref h0), (2, .ref f)]) hx hb dSA_sampleBall_161 hl (by decide) rfl (fun ls hl => ?_)
                  refine mi_iinc (k := 3) (x := i22) (d := 1) (y := i22 + 1) (lv' := [(6, .int (nI (i22 + 1))), (4, .long y24), (8, .int (nI i23)), (7, .int (nI fl21)), (0, .ref h0), (2, .ref f)]) hx hb dSA_sampleBall_163 hl rfl (by decide) rfl (by decide) rfl (fun ls hl => ?_)
                  refine lv_goto (tgt := 81) hx hb dSA_sampleBall_166 (by decide) ?_
                  exact ih22 (i22 + 1) y24 s30 ps23 pl ls H locs (by omega) (by omega) (by omega) hF hf35 (by have h9 := hf36; rw [show x32 = x28 by omega] at h9; exact h9) hR (lv_sub hl [0, 1, 4, 5] rfl) hO hP hD hS
              · replace hR := hR.trans (if_neg (Nat.not_le.mpr h24))
                refine lv_iload hx hb dSA_sampleBall_108 (lv_at hl 0 rfl) ?_
                refine lv_ldc (v := 1000000) hx hb hown (hts _ (wg_t kw_691)) dSA_sampleBall_110 ?_
                refine mi_as (show (1000000 : Int32) = nI 1000000 by decide) ?_
                refine mi_ge (tgt := 130) hx hb dSA_sampleBall_112 (by decide) (by omega) (by omega) (fun h26 => ?_) (fun h26 => absurd h26 (by omega))
                refine lv_aload_n hx hb dSA_sampleBall_130 rfl (lv_at hl 5 rfl) ?_
                refine lv_iload hx hb dSA_sampleBall_131 (lv_at hl 2 rfl) ?_
                refine lv_aload_n hx hb dSA_sampleBall_133 rfl (lv_at hl 5 rfl) ?_
                refine lv_iload hx hb dSA_sampleBall_134 (lv_at hl 1 rfl) ?_
                refine nw_iald hx hb hK hO k_f (k := pf) n_f hP (by omega) (by omega) dSA_sampleBall_136 ?_
                refine nw_iast hx hb hK hO hU k_f (k := pf) n_f hP hD hS (by omega) (by omega) dSA_sampleBall_137 (fun s31 pl H locs es24 hO hP hD hS => ?_)
                replace hR := bnd_step hR es24
                have hF := frm_sI hF es24 (by unfold M_SA_sampleBall_0; omega)
                have hf37 : s31.1 18 3 = nI ps23 := fc_ne hf29 es24 (by omega)
                have hf38 : s31.1 18 1 = nI x32 := fc_ne hf30 es24 (by omega)
                refine lv_aload_n hx hb dSA_sampleBall_138 rfl (lv_at hl 5 rfl) ?_
                refine lv_iload hx hb dSA_sampleBall_139 (lv_at hl 1 rfl) ?_
                refine lv_lload hx hb dSA_sampleBall_141 (lv_at hl 3 rfl) ?_
                refine lv_lconst (v := 1) hx hb dSA_sampleBall_143 (by decide) ?_
                refine lv_land hx hb dSA_sampleBall_144 ?_
                refine lv_lconst (v := 0) hx hb dSA_sampleBall_145 (by decide) ?_
                refine W.lcmp hx hb dSA_sampleBall_146 ?_
                refine lv_if_ne (tgt := 154) hx hb dSA_sampleBall_147 (by decide) (fun h27 => ?_) (fun h27 => ?_)
                · replace hR := hR.trans (if_neg h27)
                  refine lv_ldc (v := 8380416) hx hb hown (hts _ (wg_t kw_1219)) dSA_sampleBall_154 ?_
                  refine mi_as (show (8380416 : Int32) = nI 8380416 by decide) ?_
                  refine nw_iast hx hb hK hO hU k_f (k := pf) n_f hP hD hS (by omega) (by omega) dSA_sampleBall_156 (fun s32 pl H locs es25 hO hP hD hS => ?_)
                  replace hR := bnd_step hR es25
                  have hF := frm_sI hF es25 (by unfold M_SA_sampleBall_0; omega)
                  have hf39 : s32.1 18 3 = nI ps23 := fc_ne hf37 es25 (by omega)
                  have hf40 : s32.1 18 1 = nI x32 := fc_ne hf38 es25 (by omega)
                  refine lv_lload hx hb dSA_sampleBall_157 (lv_at hl 3 rfl) ?_
                  refine lv_iconst (v := nI 1) hx hb dSA_sampleBall_159 (by decide) ?_
                  refine lv_lushr hx hb dSA_sampleBall_160 rfl ?_
                  refine ml_eqv (fun y25 ez24 => ?_)
                  replace hR := bnd_step hR ez24
                  refine lv_lstore (lv' := [(4, .long y25), (8, .int (nI i23)), (7, .int (nI fl21)), (6, .int (nI i22)), (0, .ref h0), (2, .ref f)]) hx hb dSA_sampleBall_161 hl (by decide) rfl (fun ls hl => ?_)
                  refine mi_iinc (k := 3) (x := i22) (d := 1) (y := i22 + 1) (lv' := [(6, .int (nI (i22 + 1))), (4, .long y25), (8, .int (nI i23)), (7, .int (nI fl21)), (0, .ref h0), (2, .ref f)]) hx hb dSA_sampleBall_163 hl rfl (by decide) rfl (by decide) rfl (fun ls hl => ?_)
                  refine lv_goto (tgt := 81) hx hb dSA_sampleBall_166 (by decide) ?_
                  exact ih22 (i22 + 1) y25 s32 ps23 pl ls H locs (by omega) (by omega) (by omega) hF hf39 (by have h9 := hf40; rw [show x32 = x28 by omega] at h9; exact h9) hR (lv_sub hl [0, 1, 4, 5] rfl) hO hP hD hS
                · replace hR := hR.trans (if_pos h27)
                  refine lv_iconst (v := nI 1) hx hb dSA_sampleBall_150 (by decide) ?_
                  refine lv_goto (tgt := 156) hx hb dSA_sampleBall_151 (by decide) ?_
                  refine nw_iast hx hb hK hO hU k_f (k := pf) n_f hP hD hS (by omega) (by omega) dSA_sampleBall_156 (fun s33 pl H locs es26 hO hP hD hS => ?_)
                  replace hR := bnd_step hR es26
                  have hF := frm_sI hF es26 (by unfold M_SA_sampleBall_0; omega)
                  have hf41 : s33.1 18 3 = nI ps23 := fc_ne hf37 es26 (by omega)
                  have hf42 : s33.1 18 1 = nI x32 := fc_ne hf38 es26 (by omega)
                  refine lv_lload hx hb dSA_sampleBall_157 (lv_at hl 3 rfl) ?_
                  refine lv_iconst (v := nI 1) hx hb dSA_sampleBall_159 (by decide) ?_
                  refine lv_lushr hx hb dSA_sampleBall_160 rfl ?_
                  refine ml_eqv (fun y26 ez25 => ?_)
                  replace hR := bnd_step hR ez25
                  refine lv_lstore (lv' := [(4, .long y26), (8, .int (nI i23)), (7, .int (nI fl21)), (6, .int (nI i22)), (0, .ref h0), (2, .ref f)]) hx hb dSA_sampleBall_161 hl (by decide) rfl (fun ls hl => ?_)
                  refine mi_iinc (k := 3) (x := i22) (d := 1) (y := i22 + 1) (lv' := [(6, .int (nI (i22 + 1))), (4, .long y26), (8, .int (nI i23)), (7, .int (nI fl21)), (0, .ref h0), (2, .ref f)]) hx hb dSA_sampleBall_163 hl rfl (by decide) rfl (by decide) rfl (fun ls hl => ?_)
                  refine lv_goto (tgt := 81) hx hb dSA_sampleBall_166 (by decide) ?_
                  exact ih22 (i22 + 1) y26 s33 ps23 pl ls H locs (by omega) (by omega) (by omega) hF hf41 (by have h9 := hf42; rw [show x32 = x28 by omega] at h9; exact h9) hR (lv_sub hl [0, 1, 4, 5] rfl) hO hP hD hS
            | succ n23 ih23 =>
              intro i23 fl21 s27 ps23 pl ls H locs hm23 hi24 hi25 hF hf43 hf44 hR hl hO hP hD hS
              refine lv_iload hx hb dSA_sampleBall_101 (lv_at hl 1 rfl) ?_
              refine lv_iload hx hb dSA_sampleBall_103 (lv_at hl 2 rfl) ?_
              refine mi_le (tgt := 130) hx hb dSA_sampleBall_105 (by decide) (by omega) (by omega) (fun h28 => ?_) (fun h28 => ?_)
              · replace hR := hR.trans (if_pos h28)
                refine lv_aload_n hx hb dSA_sampleBall_130 rfl (lv_at hl 5 rfl) ?_
                refine lv_iload hx hb dSA_sampleBall_131 (lv_at hl 2 rfl) ?_
                refine lv_aload_n hx hb dSA_sampleBall_133 rfl (lv_at hl 5 rfl) ?_
                refine lv_iload hx hb dSA_sampleBall_134 (lv_at hl 1 rfl) ?_
                refine nw_iald hx hb hK hO k_f (k := pf) n_f hP (by omega) (by omega) dSA_sampleBall_136 ?_
                refine nw_iast hx hb hK hO hU k_f (k := pf) n_f hP hD hS (by omega) (by omega) dSA_sampleBall_137 (fun s34 pl H locs es27 hO hP hD hS => ?_)
                replace hR := bnd_step hR es27
                have hF := frm_sI hF es27 (by unfold M_SA_sampleBall_0; omega)
                have hf45 : s34.1 18 3 = nI ps23 := fc_ne hf43 es27 (by omega)
                have hf46 : s34.1 18 1 = nI x32 := fc_ne hf44 es27 (by omega)
                refine lv_aload_n hx hb dSA_sampleBall_138 rfl (lv_at hl 5 rfl) ?_
                refine lv_iload hx hb dSA_sampleBall_139 (lv_at hl 1 rfl) ?_
                refine lv_lload hx hb dSA_sampleBall_141 (lv_at hl 3 rfl) ?_
                refine lv_lconst (v := 1) hx hb dSA_sampleBall_143 (by decide) ?_
                refine lv_land hx hb dSA_sampleBall_144 ?_
                refine lv_lconst (v := 0) hx hb dSA_sampleBall_145 (by decide) ?_
                refine W.lcmp hx hb dSA_sampleBall_146 ?_
                refine lv_if_ne (tgt := 154) hx hb dSA_sampleBall_147 (by decide) (fun h29 => ?_) (fun h29 => ?_)
                · replace hR := hR.trans (if_neg h29)
                  refine lv_ldc (v := 8380416) hx hb hown (hts _ (wg_t kw_1219)) dSA_sampleBall_154 ?_
                  refine mi_as (show (8380416 : Int32) = nI 8380416 by decide) ?_
                  refine nw_iast hx hb hK hO hU k_f (k := pf) n_f hP hD hS (by omega) (by omega) dSA_sampleBall_156 (fun s35 pl H locs es28 hO hP hD hS => ?_)
                  replace hR := bnd_step hR es28
                  have hF := frm_sI hF es28 (by unfold M_SA_sampleBall_0; omega)
                  have hf47 : s35.1 18 3 = nI ps23 := fc_ne hf45 es28 (by omega)
                  have hf48 : s35.1 18 1 = nI x32 := fc_ne hf46 es28 (by omega)
                  refine lv_lload hx hb dSA_sampleBall_157 (lv_at hl 3 rfl) ?_
                  refine lv_iconst (v := nI 1) hx hb dSA_sampleBall_159 (by decide) ?_
                  refine lv_lushr hx hb dSA_sampleBall_160 rfl ?_
                  refine ml_eqv (fun y27 ez26 => ?_)
                  replace hR := bnd_step hR ez26
                  refine lv_lstore (lv' := [(4, .long y27), (8, .int (nI i23)), (7, .int (nI fl21)), (6, .int (nI i22)), (0, .ref h0), (2, .ref f)]) hx hb dSA_sampleBall_161 hl (by decide) rfl (fun ls hl => ?_)
                  refine mi_iinc (k := 3) (x := i22) (d := 1) (y := i22 + 1) (lv' := [(6, .int (nI (i22 + 1))), (4, .long y27), (8, .int (nI i23)), (7, .int (nI fl21)), (0, .ref h0), (2, .ref f)]) hx hb dSA_sampleBall_163 hl rfl (by decide) rfl (by decide) rfl (fun ls hl => ?_)
                  refine lv_goto (tgt := 81) hx hb dSA_sampleBall_166 (by decide) ?_
                  exact ih22 (i22 + 1) y27 s35 ps23 pl ls H locs (by omega) (by omega) (by omega) hF hf47 (by have h9 := hf48; rw [show x32 = x28 by omega] at h9; exact h9) hR (lv_sub hl [0, 1, 4, 5] rfl) hO hP hD hS
                · replace hR := hR.trans (if_pos h29)
                  refine lv_iconst (v := nI 1) hx hb dSA_sampleBall_150 (by decide) ?_
                  refine lv_goto (tgt := 156) hx hb dSA_sampleBall_151 (by decide) ?_
                  refine nw_iast hx hb hK hO hU k_f (k := pf) n_f hP hD hS (by omega) (by omega) dSA_sampleBall_156 (fun s36 pl H locs es29 hO hP hD hS => ?_)
                  replace hR := bnd_step hR es29
                  have hF := frm_sI hF es29 (by unfold M_SA_sampleBall_0; omega)
                  have hf49 : s36.1 18 3 = nI ps23 := fc_ne hf45 es29 (by omega)
                  have hf50 : s36.1 18 1 = nI x32 := fc_ne hf46 es29 (by omega)
                  refine lv_lload hx hb dSA_sampleBall_157 (lv_at hl 3 rfl) ?_
                  refine lv_iconst (v := nI 1) hx hb dSA_sampleBall_159 (by decide) ?_
                  refine lv_lushr hx hb dSA_sampleBall_160 rfl ?_
                  refine ml_eqv (fun y28 ez27 => ?_)
                  replace hR := bnd_step hR ez27
                  refine lv_lstore (lv' := [(4, .long y28), (8, .int (nI i23)), (7, .int (nI fl21)), (6, .int (nI i22)), (0, .ref h0), (2, .ref f)]) hx hb dSA_sampleBall_161 hl (by decide) rfl (fun ls hl => ?_)
                  refine mi_iinc (k := 3) (x := i22) (d := 1) (y := i22 + 1) (lv' := [(6, .int (nI (i22 + 1))), (4, .long y28), (8, .int (nI i23)), (7, .int (nI fl21)), (0, .ref h0), (2, .ref f)]) hx hb dSA_sampleBall_163 hl rfl (by decide) rfl (by decide) rfl (fun ls hl => ?_)
                  refine lv_goto (tgt := 81) hx hb dSA_sampleBall_166 (by decide) ?_
                  exact ih22 (i22 + 1) y28 s36 ps23 pl ls H locs (by omega) (by omega) (by omega) hF hf49 (by have h9 := hf50; rw [show x32 = x28 by omega] at h9; exact h9) hR (lv_sub hl [0, 1, 4, 5] rfl) hO hP hD hS
              · replace hR := hR.trans (if_neg (Nat.not_le.mpr h28))
                refine lv_iload hx hb dSA_sampleBall_108 (lv_at hl 0 rfl) ?_
                refine lv_ldc (v := 1000000) hx hb hown (hts _ (wg_t kw_691)) dSA_sampleBall_110 ?_
                refine mi_as (show (1000000 : Int32) = nI 1000000 by decide) ?_
                refine mi_ge (tgt := 130) hx hb dSA_sampleBall_112 (by decide) (by omega) (by omega) (fun h30 => absurd h30 (by omega)) (fun h30 => ?_)
                refine lv_aload_n hx hb dSA_sampleBall_115 rfl (lv_at hl 4 rfl) ?_
                refine nw_get (C := "LatticeKeys$DsaSampler") (TT := T_SA) (N := 2) hx hb hts (wg_ft i_SA) hown hK hO k_h0 (kn := 37) (ci := 7) (fl := [(3, 18), (3, 38)]) rfl hP rfl 0 (by decide) (hts _ (wg_t kw_157)) (fun _ h9 => h9) (cd := (3, 18)) rfl dSA_sampleBall_116 (fun v27 hv27 => ?_)
                obtain ⟨r26, rfl, kr25⟩ := (show ∃ r : Nat, v27 = .ref r ∧ T r = some 18 from hv27)
                refine mp_i (cx := []) (wr := []) hP hD hS hA [] [] rfl rfl rfl (by decide) (va_runV (As := []) (rest := []) F (N_SP_nextByte l g _ T s27 pl hO hU r26 18 19 ps23 x32 kr25 rfl rfl hf43 hf44 (by omega) (by omega)) (cwV 0 hts (wg_app (wg_c kw_692 (wg_c kw_619 (wg_c kw_620 (wg_c kw_2 wg_n)))) kw_621) rfl rfl rfl (by decide +kernel) ⟨by decide, by decide⟩) (pn_W "LatticeKeys$Sponge" (en_ok g) (ci := 3) (kn := 18) (fl := [(3, 19), (0, 0), (0, 0), (0, 0)]) hK hO kr25 rfl hP hD hS hA hE [] rfl rfl rfl) rfl rfl hl.1 rfl (lv_room (Nat.le_of_ble_eq_true rfl)) dSA_sampleBall_119 ⟨by omega, by omega⟩) (fun r27 u26 H locs hu26 hP hD hS => ?_)
                obtain ⟨q22, pl⟩ := u26
                obtain ⟨⟨eq26, rfl, hFc26, ⟨x36, hx_36, hb_36⟩, ⟨x34, hx_34, hb_34⟩, ⟨x35, hx_35, hb_35⟩, -⟩, hO⟩ := hu26
                have hO : okn g T q22.2 pl := hO
                have hP : va_P g.1 vcl ([] ++ pl) _ := hP
                have hD : va_D _ ([] ++ pl) := hD
                have hFc26 : frm (M_SP_nextByte 18) s27 q22.2 := hFc26
                have hb_34 : x34 ≤ x32 := hb_34
                have hb_35 : x35 = x32 := hb_35
                have hb_36 : x36 < 256 := hb_36
                replace hR := bnd_step hR eq26
                have hF := frm_tr hF hFc26 (fun k hk => by unfold M_SP_nextByte at hk; unfold M_SA_sampleBall_0; omega)
                obtain ⟨z22, ez28, hz23, hz24⟩ := cl_of (b := 2147483648) hx_36 (by omega) (by decide)
                replace hR := bnd_step hR ez28
                refine mi_as hz23 ?_
                refine W.widen (k := 0) (n := 0) (by omega) (by omega) ?_
                refine lv_istore (lv' := [(7, .int (nI z22)), (8, .int (nI i23)), (6, .int (nI i22)), (4, .long y22), (0, .ref h0), (2, .ref f)]) hx hb dSA_sampleBall_122 hl (by decide) rfl (fun ls hl => ?_)
                refine mi_iinc (k := 1) (x := i23) (d := 1) (y := i23 + 1) (lv' := [(8, .int (nI (i23 + 1))), (7, .int (nI z22)), (6, .int (nI i22)), (4, .long y22), (0, .ref h0), (2, .ref f)]) hx hb dSA_sampleBall_124 hl rfl (by decide) rfl (by decide) rfl (fun ls hl => ?_)
                refine lv_goto (tgt := 101) hx hb dSA_sampleBall_127 (by decide) ?_
                exact ih23 (i23 + 1) z22 q22.2 x34 pl ls H locs (by omega) (by omega) (by omega) hF hx_34 (by have h9 := hx_35; rw [show x35 = x32 by omega] at h9; exact h9) hR (lv_sub hl [0, 1, 2, 3, 4, 5] rfl) hO hP hD hS
          exact lp23 1000000 0 z21 q21.2 x31 pl ls _ _ (by omega) (by omega) (by omega) hF hx_31 hx_32 hR (lv_sub hl [0, 1, 2, 3, 4, 5] rfl) hO hP hD hS
      exact lp22 (256 - 217) 217 y21 s25 ps21 pl ls _ _ (by omega) (by omega) (by omega) hF hf23 hf24 hR (lv_sub hl [0, 1, 2, 4] rfl) hO hP hD hS
    | succ n21 ih21 =>
      intro i21 y21 s24 ps21 pl ls H locs hm21 hi21 hF hf51 hf52 hR hl hO hP hD hS
      refine lv_iload hx hb dSA_sampleBall_34 (lv_at hl 0 rfl) ?_
      refine lv_bipush (v := nI 8) hx hb dSA_sampleBall_36 (by decide) ?_
      refine mi_ge (tgt := 66) hx hb dSA_sampleBall_38 (by decide) (by omega) (by omega) (fun h31 => absurd h31 (by omega)) (fun h31 => ?_)
      refine lv_lload hx hb dSA_sampleBall_41 (lv_at hl 1 rfl) ?_
      refine lv_aload_n hx hb dSA_sampleBall_43 rfl (lv_at hl 2 rfl) ?_
      refine nw_get (C := "LatticeKeys$DsaSampler") (TT := T_SA) (N := 2) hx hb hts (wg_ft i_SA) hown hK hO k_h0 (kn := 37) (ci := 7) (fl := [(3, 18), (3, 38)]) rfl hP rfl 0 (by decide) (hts _ (wg_t kw_157)) (fun _ h9 => h9) (cd := (3, 18)) rfl dSA_sampleBall_44 (fun v28 hv28 => ?_)
      obtain ⟨r28, rfl, kr26⟩ := (show ∃ r : Nat, v28 = .ref r ∧ T r = some 18 from hv28)
      refine mp_i (cx := []) (wr := []) hP hD hS hA [] [] rfl rfl rfl (by decide) (va_runV (As := []) (rest := [.long y21]) F (N_SP_nextByte l g _ T s24 pl hO hU r28 18 19 ps21 x28 kr26 rfl rfl hf51 hf52 (by omega) (by omega)) (cwV 0 hts (wg_app (wg_c kw_692 (wg_c kw_619 (wg_c kw_620 (wg_c kw_2 wg_n)))) kw_621) rfl rfl rfl (by decide +kernel) ⟨by decide, by decide⟩) (pn_W "LatticeKeys$Sponge" (en_ok g) (ci := 3) (kn := 18) (fl := [(3, 19), (0, 0), (0, 0), (0, 0)]) hK hO kr26 rfl hP hD hS hA hE [] rfl rfl rfl) rfl rfl hl.1 rfl (lv_room (Nat.le_of_ble_eq_true rfl)) dSA_sampleBall_47 ⟨by omega, by omega⟩) (fun r29 u27 H locs hu27 hP hD hS => ?_)
      obtain ⟨q23, pl⟩ := u27
      obtain ⟨⟨eq27, rfl, hFc27, ⟨x39, hx_39, hb_39⟩, ⟨x37, hx_37, hb_37⟩, ⟨x38, hx_38, hb_38⟩, -⟩, hO⟩ := hu27
      have hO : okn g T q23.2 pl := hO
      have hP : va_P g.1 vcl ([] ++ pl) _ := hP
      have hD : va_D _ ([] ++ pl) := hD
      have hFc27 : frm (M_SP_nextByte 18) s24 q23.2 := hFc27
      have hb_37 : x37 ≤ x28 := hb_37
      have hb_38 : x38 = x28 := hb_38
      have hb_39 : x39 < 256 := hb_39
      replace hR := bnd_step hR eq27
      have hF := frm_tr hF hFc27 (fun k hk => by unfold M_SP_nextByte at hk; unfold M_SA_sampleBall_0; omega)
      obtain ⟨z23, ez29, hz25, hz26⟩ := cl_of (b := 2147483648) hx_39 (by omega) (by decide)
      replace hR := bnd_step hR ez29
      refine mi_as hz25 ?_
      refine W.widen (k := 0) (n := 0) (by omega) (by omega) ?_
      refine lv_i2l hx hb dSA_sampleBall_50 rfl ?_
      refine lv_bipush (v := nI 8) hx hb dSA_sampleBall_51 (by decide) ?_
      refine lv_iload hx hb dSA_sampleBall_53 (lv_at hl 0 rfl) ?_
      refine mi_imul hx hb dSA_sampleBall_55 ?_
      refine lv_lshl hx hb dSA_sampleBall_56 rfl ?_
      refine lv_lor hx hb dSA_sampleBall_57 ?_
      refine ml_eqv (fun y29 ez30 => ?_)
      replace hR := bnd_step hR ez30
      refine lv_lstore (lv' := [(4, .long y29), (6, .int (nI i21)), (0, .ref h0), (1, .ref st), (2, .ref f)]) hx hb dSA_sampleBall_58 hl (by decide) rfl (fun ls hl => ?_)
      refine mi_iinc (k := 1) (x := i21) (d := 1) (y := i21 + 1) (lv' := [(6, .int (nI (i21 + 1))), (4, .long y29), (0, .ref h0), (1, .ref st), (2, .ref f)]) hx hb dSA_sampleBall_60 hl rfl (by decide) rfl (by decide) rfl (fun ls hl => ?_)
      refine lv_goto (tgt := 34) hx hb dSA_sampleBall_63 (by decide) ?_
      exact ih21 (i21 + 1) y29 q23.2 x37 pl ls H locs (by omega) (by omega) hF hx_37 (by have h9 := hx_38; rw [show x38 = x28 by omega] at h9; exact h9) hR (lv_sub hl [0, 1, 2, 3, 4] rfl) hO hP hD hS
  exact lp21 8 0 0 s23 x27 pl ls _ _ (by omega) (by omega) hF hx_27 hx_28 hR (lv_sub hl [0, 1, 2, 3, 4] rfl) hO hP hD hS
def M_SA_sampleBall_1 (pf : Nat) (k : Nat) : Prop := k = 18 ∨ k = pf ∨ (0 : Nat) = 1
noncomputable def F_SA_sampleBall_1_L2 (pf : Nat) (i22 : Nat) (y22 : Int64) (kk : Nat → Int64 → Sto → Sto) : Nat → Nat → Nat → Sto → Sto
  | 0, i23, fl21, s27 => if fl21 ≤ i22 then bnd (sI s27 pf i22 (s27.1 pf fl21)) fun s28 => if (lg_cmp (y22 &&& 1) 0) = 0 then bnd (sI s28 pf fl21 (nI 1)) fun s30 => bnd ((y22.toUInt64 >>> ((nI 1).toInt64.toUInt64 &&& Int64.toUInt64 63)).toInt64) fun y24 => kk (i22 + 1) y24 s30 else bnd (sI s28 pf fl21 (nI 8380416)) fun s29 => bnd ((y22.toUInt64 >>> ((nI 1).toInt64.toUInt64 &&& Int64.toUInt64 63)).toInt64) fun y23 => kk (i22 + 1) y23 s29 else bnd (sI s27 pf i22 (s27.1 pf fl21)) fun s31 => if (lg_cmp (y22 &&& 1) 0) = 0 then bnd (sI s31 pf fl21 (nI 1)) fun s33 => bnd ((y22.toUInt64 >>> ((nI 1).toInt64.toUInt64 &&& Int64.toUInt64 63)).toInt64) fun y26 => kk (i22 + 1) y26 s33 else bnd (sI s31 pf fl21 (nI 8380416)) fun s32 => bnd ((y22.toUInt64 >>> ((nI 1).toInt64.toUInt64 &&& Int64.toUInt64 63)).toInt64) fun y25 => kk (i22 + 1) y25 s32
  | n23 + 1, i23, fl21, s27 => if fl21 ≤ i22 then bnd (sI s27 pf i22 (s27.1 pf fl21)) fun s34 => if (lg_cmp (y22 &&& 1) 0) = 0 then bnd (sI s34 pf fl21 (nI 1)) fun s36 => bnd ((y22.toUInt64 >>> ((nI 1).toInt64.toUInt64 &&& Int64.toUInt64 63)).toInt64) fun y28 => kk (i22 + 1) y28 s36 else bnd (sI s34 pf fl21 (nI 8380416)) fun s35 => bnd ((y22.toUInt64 >>> ((nI 1).toInt64.toUInt64 &&& Int64.toUInt64 63)).toInt64) fun y27 => kk (i22 + 1) y27 s35 else bnd (F_SP_nextByte 18 19 s27) fun q22 => bnd (q22.1.toNatClampNeg) fun z22 => F_SA_sampleBall_1_L2 pf i22 y22 kk n23 (i23 + 1) z22 q22.2
noncomputable def F_SA_sampleBall_1_L1 (pf : Nat) : Nat → Nat → Int64 → Sto → Sto
  | 0, i22, y22, s26 => s26
  | n22 + 1, i22, y22, s26 => bnd (F_SP_nextByte 18 19 s26) fun q21 => bnd (q21.1.toNatClampNeg) fun z21 => F_SA_sampleBall_1_L2 pf i22 y22 (F_SA_sampleBall_1_L1 pf n22) 1000000 0 z21 q21.2
noncomputable def F_SA_sampleBall_1_L0 (pf : Nat) : Nat → Nat → Int64 → Sto → Sto
  | 0, i21, y21, s24 => bnd (F_AR_fillI pf 256 (nI 0) s24) fun s25 => F_SA_sampleBall_1_L1 pf (256 - 207) 207 y21 s25
  | n21 + 1, i21, y21, s24 => bnd (F_SP_nextByte 18 19 s24) fun q23 => bnd (q23.1.toNatClampNeg) fun z23 => bnd ((y21 ||| (((nI z23).toInt64) <<< ((nI (8 * i21)).toInt64 &&& 63)))) fun y29 => F_SA_sampleBall_1_L0 pf n21 (i21 + 1) y29 q23.2
noncomputable def F_SA_sampleBall_1 (pf : Nat) (pb : Nat) (n : Nat) (s : Sto) : Sto := bnd (F_SP_start_3 18 19 s) fun s21 => bnd (F_SP_absorb 18 19 pb n 0 48 s21) fun s22 => bnd (F_SP_finish 18 19 s22) fun s23 => F_SA_sampleBall_1_L0 pf 8 0 0 s23
set_option maxHeartbeats 400000 in
set_option maxRecDepth 100000 in
theorem N_SA_sampleBall_1 (l : Launch) (g : Gd) (sz : Nat) (T : TyN) (s : Sto) (pl : va_W) (hO : okn g T s pl) (hU : inj T) (h0 st f b : Nat) (pf : Nat) (pb : Nat) (n : Nat) (k_h0 : T h0 = some 37) (k_st : T st = some 10) (k_f : T f = some pf) (n_f : nsp pf = (0, 256, [])) (k_b : T b = some pb) (n_b : nsp pb = (1, n, [])) (h1 : 48 ≤ n) (h2 : n < 65536)  : Met l y_SA_sampleBall w_SA_sampleBall ({ frames := 3, cells := 0, slots := 0, locals := 100 } : Room) (va_Pc [.ref h0, .ref st, .ref f, .ref b] (pr (en g) g.1 vcl sz ([] ++ pl))) (va_Qv (fun (u : (Sto) × va_W) => (u.1 = F_SA_sampleBall_1 pf pb n s ∧ frm (M_SA_sampleBall_1 pf) s u.1 ∧ True) ∧ okn g T u.1 u.2) (po g.1 vcl (va_A ([] ++ pl) sz) (fun (u : (Sto) × va_W) => [] ++ u.2)) (va_A ([] ++ pl) sz)) 0 0 (va_A ([] ++ pl) sz) := by
  refine mc_entry (cc := c_SA_sampleBall) (maxL := 9) (ret := none) (by decide) rfl (Nat.le_of_ble_eq_true rfl) ?_
  intro p e s0 m args below meth c ls F hr hlk hnm hsz hP hD hE hA hl
  obtain ⟨hx, hb, hml, hown, hts⟩ := id F
  have hK := hE.1
  generalize va_A ([] ++ pl) sz = A at hD hE hA ⊢
  have hS : va_S A s0.heap s0.heap [] := va_S.rf
  have hl : lv_has ls 9 [(0, .ref h0), (1, .ref st), (2, .ref f), (3, .ref b)] := hl
  have hR : F_SA_sampleBall_1 pf pb n s = F_SA_sampleBall_1 pf pb n s := rfl
  have hF : frm (M_SA_sampleBall_1 pf) s s := frm_rf
  have ne_18_pf : 18 ≠ pf := nsp_ne (p := 18) rfl n_f (show (5 : Nat) ≠ 0 by decide)
  have ne_18_pb : 18 ≠ pb := nsp_ne (p := 18) rfl n_b (show (5 : Nat) ≠ 1 by decide)
  refine lv_aload_n hx hb dSA_sampleBall_0 rfl (lv_at hl 0 rfl) ?_
  refine nw_get (C := "LatticeKeys$DsaSampler") (TT := T_SA) (N := 2) hx hb hts (wg_ft i_SA) hown hK hO k_h0 (kn := 37) (ci := 7) (fl := [(3, 18), (3, 38)]) rfl hP rfl 0 (by decide) (hts _ (wg_t kw_157)) (fun _ h9 => h9) (cd := (3, 18)) rfl dSA_sampleBall_1 (fun v21 hv21 => ?_)
  obtain ⟨r21, rfl, kr21⟩ := (show ∃ r : Nat, v21 = .ref r ∧ T r = some 18 from hv21)
  refine lv_iconst (v := nI 3) hx hb dSA_sampleBall_4 (by decide) ?_
  refine mp_v (cx := []) (wr := []) hP hD hS hA [] [] rfl rfl rfl (by decide) (va_runV (As := [.int (nI 3)]) (rest := []) F (N_SP_start_3 l g _ T s pl hO hU r21 18 19 kr21 rfl rfl) (cwV 1 hts (wg_app (wg_c kw_687 (wg_c kw_579 (wg_c kw_580 (wg_c kw_2 wg_n)))) kw_581) rfl rfl rfl (by decide +kernel) ⟨by decide, by decide⟩) (pn_W "LatticeKeys$Sponge" (en_ok g) (ci := 3) (kn := 18) (fl := [(3, 19), (0, 0), (0, 0), (0, 0)]) hK hO kr21 rfl hP hD hS hA hE [] rfl rfl rfl) rfl rfl hl.1 rfl (lv_room (Nat.le_of_ble_eq_true rfl)) dSA_sampleBall_5 ⟨by omega, by omega⟩) (fun  u21 H locs hu21 hP hD hS => ?_)
  obtain ⟨s21, pl⟩ := u21
  obtain ⟨⟨eq21, hFc21, ⟨x21, hx_21, hb_21⟩, ⟨x22, hx_22, hb_22⟩, -⟩, hO⟩ := hu21
  have hO : okn g T s21 pl := hO
  have hP : va_P g.1 vcl ([] ++ pl) _ := hP
  have hD : va_D _ ([] ++ pl) := hD
  have hFc21 : frm (M_SP_start_3 18) s s21 := hFc21
  have hb_21 : x21 = 0 := hb_21
  have hb_22 : x22 = 136 := hb_22
  replace hR := bnd_step hR eq21
  have hF := frm_tr hF hFc21 (fun k hk => by unfold M_SP_start_3 at hk; unfold M_SA_sampleBall_1; omega)
  refine W.widen (k := 0) (n := 0) (by omega) (by omega) ?_
  refine lv_aload_n hx hb dSA_sampleBall_8 rfl (lv_at hl 0 rfl) ?_
  refine nw_get (C := "LatticeKeys$DsaSampler") (TT := T_SA) (N := 2) hx hb hts (wg_ft i_SA) hown hK hO k_h0 (kn := 37) (ci := 7) (fl := [(3, 18), (3, 38)]) rfl hP rfl 0 (by decide) (hts _ (wg_t kw_157)) (fun _ h9 => h9) (cd := (3, 18)) rfl dSA_sampleBall_9 (fun v22 hv22 => ?_)
  obtain ⟨r22, rfl, kr22⟩ := (show ∃ r : Nat, v22 = .ref r ∧ T r = some 18 from hv22)
  refine lv_aload_n hx hb dSA_sampleBall_12 rfl (lv_at hl 3 rfl) ?_
  refine lv_iconst (v := nI 0) hx hb dSA_sampleBall_13 (by decide) ?_
  refine lv_aload_n hx hb dSA_sampleBall_14 rfl (lv_at hl 1 rfl) ?_
  refine nw_get (C := "LatticeKeys$DsaSet") (TT := T_DS) (N := 17) hx hb hts (wg_ft i_DS) hown hK hO k_st (kn := 10) (ci := 2) (fl := [(1, 6), (1, 5), (1, 4), (1, 4), (1, 49), (1, 48), (1, 20), (1, 524288), (1, 16), (1, 4), (1, 261888), (1, 55), (1, 196), (1, 1952), (1, 4032), (1, 3248), (1, 3309)]) rfl hP rfl 5 (by decide) (hts _ (wg_t kw_314)) (fun _ h9 => h9) (cd := (1, 48)) rfl dSA_sampleBall_15 (fun v23 hv23 => ?_)
  obtain rfl := (show v23 = .int (nI 48) from hv23)
  refine mp_v (cx := []) (wr := []) hP hD hS hA [] [] rfl rfl rfl (by decide) (va_runV (As := [.ref b, .int (nI 0), .int (nI 48)]) (rest := []) F (N_SP_absorb l g _ T s21 pl hO hU r22 b 18 19 pb n 0 48 x21 x22 kr22 rfl rfl k_b n_b hx_21 hx_22 (by omega) (by omega) (by omega) (by omega)) (cwV 3 hts (wg_app (wg_c kw_688 (wg_c kw_586 (wg_c kw_587 (wg_c kw_2 wg_n)))) kw_588) rfl rfl rfl (by decide +kernel) ⟨by decide, by decide⟩) (pn_W "LatticeKeys$Sponge" (en_ok g) (ci := 3) (kn := 18) (fl := [(3, 19), (0, 0), (0, 0), (0, 0)]) hK hO kr22 rfl hP hD hS hA hE [] rfl rfl rfl) rfl rfl hl.1 rfl (lv_room (Nat.le_of_ble_eq_true rfl)) dSA_sampleBall_18 ⟨by omega, by omega⟩) (fun  u22 H locs hu22 hP hD hS => ?_)
  obtain ⟨s22, pl⟩ := u22
  obtain ⟨⟨eq22, hFc22, ⟨x24, hx_24, hb_24⟩, ⟨x25, hx_25, hb_25⟩, -⟩, hO⟩ := hu22
  have hO : okn g T s22 pl := hO
  have hP : va_P g.1 vcl ([] ++ pl) _ := hP
  have hD : va_D _ ([] ++ pl) := hD
  have hFc22 : frm (M_SP_absorb 18) s21 s22 := hFc22
  have hb_24 : x24 < x22 := hb_24
  have hb_25 : x25 = x22 := hb_25
  replace hR := bnd_step hR eq22
  have hF := frm_tr hF hFc22 (fun k hk => by unfold M_SP_absorb at hk; unfold M_SA_sampleBall_1; omega)
  refine W.widen (k := 0) (n := 0) (by omega) (by omega) ?_
  refine lv_aload_n hx hb dSA_sampleBall_21 rfl (lv_at hl 0 rfl) ?_
  refine nw_get (C := "LatticeKeys$DsaSampler") (TT := T_SA) (N := 2) hx hb hts (wg_ft i_SA) hown hK hO k_h0 (kn := 37) (ci := 7) (fl := [(3, 18), (3, 38)]) rfl hP rfl 0 (by decide) (hts _ (wg_t kw_157)) (fun _ h9 => h9) (cd := (3, 18)) rfl dSA_sampleBall_22 (fun v24 hv24 => ?_)
  obtain ⟨r23, rfl, kr23⟩ := (show ∃ r : Nat, v24 = .ref r ∧ T r = some 18 from hv24)
  refine mp_v (cx := []) (wr := []) hP hD hS hA [] [] rfl rfl rfl (by decide) (va_runV (As := []) (rest := []) F (N_SP_finish l g _ T s22 pl hO hU r23 18 19 x24 x25 kr23 rfl rfl hx_24 hx_25 (by omega) (by omega)) (cwV 0 hts (wg_app (wg_c kw_690 (wg_c kw_611 (wg_c kw_612 (wg_c kw_2 wg_n)))) kw_613) rfl rfl rfl (by decide +kernel) ⟨by decide, by decide⟩) (pn_W "LatticeKeys$Sponge" (en_ok g) (ci := 3) (kn := 18) (fl := [(3, 19), (0, 0), (0, 0), (0, 0)]) hK hO kr23 rfl hP hD hS hA hE [] rfl rfl rfl) rfl rfl hl.1 rfl (lv_room (Nat.le_of_ble_eq_true rfl)) dSA_sampleBall_25 ⟨by omega, by omega⟩) (fun  u23 H locs hu23 hP hD hS => ?_)
  obtain ⟨s23, pl⟩ := u23
  obtain ⟨⟨eq23, hFc23, ⟨x27, hx_27, hb_27⟩, ⟨x28, hx_28, hb_28⟩, -⟩, hO⟩ := hu23
  have hO : okn g T s23 pl := hO
  have hP : va_P g.1 vcl ([] ++ pl) _ := hP
  have hD : va_D _ ([] ++ pl) := hD
  have hFc23 : frm (M_SP_finish 18) s22 s23 := hFc23
  have hb_27 : x27 = x25 := hb_27
  have hb_28 : x28 = x25 := hb_28
  replace hR := bnd_step hR eq23
  have hF := frm_tr hF hFc23 (fun k hk => by unfold M_SP_finish at hk; unfold M_SA_sampleBall_1; omega)
  refine W.widen (k := 0) (n := 0) (by omega) (by omega) ?_
  refine lv_lconst (v := 0) hx hb dSA_sampleBall_28 (by decide) ?_
  refine lv_lstore (lv' := [(4, .long 0), (0, .ref h0), (1, .ref st), (2, .ref f), (3, .ref b)]) hx hb dSA_sampleBall_29 hl (by decide) rfl (fun ls hl => ?_)
  refine lv_iconst (v := nI 0) hx hb dSA_sampleBall_31 (by decide) ?_
  refine lv_istore (lv' := [(6, .int (nI 0)), (4, .long 0), (0, .ref h0), (1, .ref st), (2, .ref f), (3, .ref b)]) hx hb dSA_sampleBall_32 hl (by decide) rfl (fun ls hl => ?_)
  have lp21 : ∀ (n21 : Nat) (i21 : Nat) (y21 : Int64) (s24 : Sto) (ps21 : Nat) (pl : va_W) (ls : Array Slot) (H : Heap) (locs : List Loc), n21 + i21 = 8 → (ps21 ≤ 136) → frm (M_SA_sampleBall_1 pf) s s24 → s24.1 18 3 = nI ps21 → s24.1 18 1 = nI x28 → F_SA_sampleBall_1 pf pb n s = F_SA_sampleBall_1_L0 pf n21 i21 y21 s24 → lv_has ls 9 [(6, .int (nI i21)), (4, .long y21), (0, .ref h0), (1, .ref st), (2, .ref f)] → okn g T s24 pl → va_P g.1 vcl ([] ++ pl) H → va_D A ([] ++ pl) → va_S A s0.heap H locs → W p l e ({ frames := 3, cells := 0, slots := 0, locals := 100 } : Room) s0 m args below meth c H locs 0 0 (MQ below (va_Qv (fun (u : (Sto) × va_W) => (u.1 = F_SA_sampleBall_1 pf pb n s ∧ frm (M_SA_sampleBall_1 pf) s u.1 ∧ True) ∧ okn g T u.1 u.2) (po g.1 vcl A (fun (u : (Sto) × va_W) => [] ++ u.2)) A) args s0 0 0 A) (F0 m 34 ls []) := by
    intro n21
    induction n21 with
    | zero =>
      intro i21 y21 s24 ps21 pl ls H locs hm21 hi21 hF hf21 hf22 hR hl hO hP hD hS
      refine lv_iload hx hb dSA_sampleBall_34 (lv_at hl 0 rfl) ?_
      refine lv_bipush (v := nI 8) hx hb dSA_sampleBall_36 (by decide) ?_
      refine mi_ge (tgt := 66) hx hb dSA_sampleBall_38 (by decide) (by omega) (by omega) (fun h21 => ?_) (fun h21 => absurd h21 (by omega))
      refine lv_aload_n hx hb dSA_sampleBall_66 rfl (lv_at hl 4 rfl) ?_
      refine lv_iconst (v := nI 0) hx hb dSA_sampleBall_67 (by decide) ?_
      refine mp_v (cx := []) (wr := []) hP hD hS hA [] [] rfl rfl rfl (by decide) (va_runS (As := [.ref f, .int (nI 0)]) (rest := []) F (N_AR_fillI l g _ T s24 pl hO hU f pf 256 (nI 0) k_f n_f (by omega)) (va_cwS 2 hts (wg_app (wg_c kw_1218 (wg_c kw_717 (wg_c kw_21 wg_n))) kw_718) rfl rfl rfl (by decide +kernel) ⟨by decide, by decide⟩) (pp_S (en_ok g) hP hD hS hA hE [] rfl rfl) rfl rfl hl.1 rfl (lv_room (Nat.le_of_ble_eq_true rfl)) dSA_sampleBall_68 ⟨by omega, by omega⟩) (fun  u24 H locs hu24 hP hD hS => ?_)
      obtain ⟨s25, pl⟩ := u24
      obtain ⟨⟨eq24, hFc24, -⟩, hO⟩ := hu24
      have hO : okn g T s25 pl := hO
      have hP : va_P g.1 vcl ([] ++ pl) _ := hP
      have hD : va_D _ ([] ++ pl) := hD
      have hFc24 : frm (M_AR_fillI pf) s24 s25 := hFc24
      replace hR := bnd_step hR eq24
      have hF := frm_tr hF hFc24 (fun k hk => by unfold M_AR_fillI at hk; unfold M_SA_sampleBall_1; omega)
      have hf23 : s25.1 18 3 = nI ps21 := fc_F hf21 hFc24 (by unfold M_AR_fillI; omega)
      have hf24 : s25.1 18 1 = nI x28 := fc_F hf22 hFc24 (by unfold M_AR_fillI; omega)
      refine W.widen (k := 0) (n := 0) (by omega) (by omega) ?_
      refine lv_sipush (v := nI 256) hx hb dSA_sampleBall_71 (by decide) ?_
      refine lv_aload_n hx hb dSA_sampleBall_74 rfl (lv_at hl 3 rfl) ?_
      refine nw_get (C := "LatticeKeys$DsaSet") (TT := T_DS) (N := 17) hx hb hts (wg_ft i_DS) hown hK hO k_st (kn := 10) (ci := 2) (fl := [(1, 6), (1, 5), (1, 4), (1, 4), (1, 49), (1, 48), (1, 20), (1, 524288), (1, 16), (1, 4), (1, 261888), (1, 55), (1, 196), (1, 1952), (1, 4032), (1, 3248), (1, 3309)]) rfl hP rfl 4 (by decide) (hts _ (wg_t kw_312)) (fun _ h9 => h9) (cd := (1, 49)) rfl dSA_sampleBall_75 (fun v25 hv25 => ?_)
      obtain rfl := (show v25 = .int (nI 49) from hv25)
      refine mi_isub hx hb dSA_sampleBall_78 (by omega) ?_
      refine mi_as (show nI (256 - 49) = nI 207 from rfl) ?_
      refine lv_istore (lv' := [(6, .int (nI 207)), (4, .long y21), (0, .ref h0), (1, .ref st), (2, .ref f)]) hx hb dSA_sampleBall_79 hl (by decide) rfl (fun ls hl => ?_)
      have lp22 : ∀ (n22 : Nat) (i22 : Nat) (y22 : Int64) (s26 : Sto) (ps22 : Nat) (pl : va_W) (ls : Array Slot) (H : Heap) (locs : List Loc), n22 + i22 = 256 → (ps22 ≤ 136) → (207 ≤ i22) → frm (M_SA_sampleBall_1 pf) s s26 → s26.1 18 3 = nI ps22 → s26.1 18 1 = nI x28 → F_SA_sampleBall_1 pf pb n s = F_SA_sampleBall_1_L1 pf n22 i22 y22 s26 → lv_has ls 9 [(6, .int (nI i22)), (4, .long y22), (0, .ref h0), (2, .ref f)] → okn g T s26 pl → va_P g.1 vcl ([] ++ pl) H → va_D A ([] ++ pl) → va_S A s0.heap H locs → W p l e ({ frames := 3, cells := 0, slots := 0, locals := 100 } : Room) s0 m args below meth c H locs 0 0 (MQ below (va_Qv (fun (u : (Sto) × va_W) => (u.1 = F_SA_sampleBall_1 pf pb n s ∧ frm (M_SA_sampleBall_1 pf) s u.1 ∧ True) ∧ okn g T u.1 u.2) (po g.1 vcl A (fun (u : (Sto) × va_W) => [] ++ u.2)) A) args s0 0 0 A) (F0 m 81 ls []) := by
        intro n22
        induction n22 with
        | zero =>
          intro i22 y22 s26 ps22 pl ls H locs hm22 hi22 hi23 hF hf25 hf26 hR hl hO hP hD hS
          refine lv_iload hx hb dSA_sampleBall_81 (lv_at hl 0 rfl) ?_
          refine lv_sipush (v := nI 256) hx hb dSA_sampleBall_83 (by decide) ?_
          refine mi_ge (tgt := 169) hx hb dSA_sampleBall_86 (by decide) (by omega) (by omega) (fun h22 => ?_) (fun h22 => absurd h22 (by omega))
          exact mp_vret hx hb hr hlk hP hD hS (s26, pl) ⟨⟨hR.symm, hF, trivial⟩, hO⟩ [] rfl rfl rfl (by omega) (by omega) dSA_sampleBall_169
        | succ n22 ih22 =>
          intro i22 y22 s26 ps22 pl ls H locs hm22 hi22 hi23 hF hf27 hf28 hR hl hO hP hD hS
          refine lv_iload hx hb dSA_sampleBall_81 (lv_at hl 0 rfl) ?_
          refine lv_sipush (v := nI 256) hx hb dSA_sampleBall_83 (by decide) ?_
          refine mi_ge (tgt := 169) hx hb dSA_sampleBall_86 (by decide) (by omega) (by omega) (fun h23 => absurd h23 (by omega)) (fun h23 => ?_)
          refine lv_aload_n hx hb dSA_sampleBall_89 rfl (lv_at hl 2 rfl) ?_
          refine nw_get (C := "LatticeKeys$DsaSampler") (TT := T_SA) (N := 2) hx hb hts (wg_ft i_SA) hown hK hO k_h0 (kn := 37) (ci := 7) (fl := [(3, 18), (3, 38)]) rfl hP rfl 0 (by decide) (hts _ (wg_t kw_157)) (fun _ h9 => h9) (cd := (3, 18)) rfl dSA_sampleBall_90 (fun v26 hv26 => ?_)
          obtain ⟨r24, rfl, kr24⟩ := (show ∃ r : Nat, v26 = .ref r ∧ T r = some 18 from hv26)
          refine mp_i (cx := []) (wr := []) hP hD hS hA [] [] rfl rfl rfl (by decide) (va_runV (As := []) (rest := []) F (N_SP_nextByte l g _ T s26 pl hO hU r24 18 19 ps22 x28 kr24 rfl rfl hf27 hf28 (by omega) (by omega)) (cwV 0 hts (wg_app (wg_c kw_692 (wg_c kw_619 (wg_c kw_620 (wg_c kw_2 wg_n)))) kw_621) rfl rfl rfl (by decide +kernel) ⟨by decide, by decide⟩) (pn_W "LatticeKeys$Sponge" (en_ok g) (ci := 3) (kn := 18) (fl := [(3, 19), (0, 0), (0, 0), (0, 0)]) hK hO kr24 rfl hP hD hS hA hE [] rfl rfl rfl) rfl rfl hl.1 rfl (lv_room (Nat.le_of_ble_eq_true rfl)) dSA_sampleBall_93 ⟨by omega, by omega⟩) (fun r25 u25 H locs hu25 hP hD hS => ?_)
          obtain ⟨q21, pl⟩ := u25
          obtain ⟨⟨eq25, rfl, hFc25, ⟨x33, hx_33, hb_33⟩, ⟨x31, hx_31, hb_31⟩, ⟨x32, hx_32, hb_32⟩, -⟩, hO⟩ := hu25
          have hO : okn g T q21.2 pl := hO
          have hP : va_P g.1 vcl ([] ++ pl) _ := hP
          have hD : va_D _ ([] ++ pl) := hD
          have hFc25 : frm (M_SP_nextByte 18) s26 q21.2 := hFc25
          have hb_31 : x31 ≤ x28 := hb_31
          have hb_32 : x32 = x28 := hb_32
          have hb_33 : x33 < 256 := hb_33
          replace hR := bnd_step hR eq25
          have hF := frm_tr hF hFc25 (fun k hk => by unfold M_SP_nextByte at hk; unfold M_SA_sampleBall_1; omega)
          obtain ⟨z21, ez21, hz21, hz22⟩ := cl_of (b := 2147483648) hx_33 (by omega) (by decide)
          replace hR := bnd_step hR ez21
          refine mi_as hz21 ?_
          refine W.widen (k := 0) (n := 0) (by omega) (by omega) ?_
          refine lv_istore (lv' := [(7, .int (nI z21)), (6, .int (nI i22)), (4, .long y22), (0, .ref h0), (2, .ref f)]) hx hb dSA_sampleBall_96 hl (by decide) rfl (fun ls hl => ?_)
          refine lv_iconst (v := nI 0) hx hb dSA_sampleBall_98 (by decide) ?_
          refine lv_istore (lv' := [(8, .int (nI 0)), (7, .int (nI z21)), (6, .int (nI i22)), (4, .long y22), (0, .ref h0), (2, .ref f)]) hx hb dSA_sampleBall_99 hl (by decide) rfl (fun ls hl => ?_)
          have lp23 : ∀ (n23 : Nat) (i23 : Nat) (fl21 : Nat) (s27 : Sto) (ps23 : Nat) (pl : va_W) (ls : Array Slot) (H : Heap) (locs : List Loc), n23 + i23 = 1000000 → (fl21 < 256) → (ps23 ≤ 136) → frm (M_SA_sampleBall_1 pf) s s27 → s27.1 18 3 = nI ps23 → s27.1 18 1 = nI x32 → F_SA_sampleBall_1 pf pb n s = F_SA_sampleBall_1_L2 pf i22 y22 (F_SA_sampleBall_1_L1 pf n22) n23 i23 fl21 s27 → lv_has ls 9 [(8, .int (nI i23)), (7, .int (nI fl21)), (6, .int (nI i22)), (4, .long y22), (0, .ref h0), (2, .ref f)] → okn g T s27 pl → va_P g.1 vcl ([] ++ pl) H → va_D A ([] ++ pl) → va_S A s0.heap H locs → W p l e ({ frames := 3, cells := 0, slots := 0, locals := 100 } : Room) s0 m args below meth c H locs 0 0 (MQ below (va_Qv (fun (u : (Sto) × va_W) => (u.1 = F_SA_sampleBall_1 pf pb n s ∧ frm (M_SA_sampleBall_1 pf) s u.1 ∧ True) ∧ okn g T u.1 u.2) (po g.1 vcl A (fun (u : (Sto) × va_W) => [] ++ u.2)) A) args s0 0 0 A) (F0 m 101 ls []) := by
            intro n23
            induction n23 with
            | zero =>
              intro i23 fl21 s27 ps23 pl ls H locs hm23 hi24 hi25 hF hf29 hf30 hR hl hO hP hD hS
              refine lv_iload hx hb dSA_sampleBall_101 (lv_at hl 1 rfl) ?_
              refine lv_iload hx hb dSA_sampleBall_103 (lv_at hl 2 rfl) ?_
              refine mi_le (tgt := 130) hx hb dSA_sampleBall_105 (by decide) (by omega) (by omega) (fun h24 => ?_) (fun h24 => ?_)
              · replace hR := hR.trans (if_pos h24)
                refine lv_aload_n hx hb dSA_sampleBall_130 rfl (lv_at hl 5 rfl) ?_
                refine lv_iload hx hb dSA_sampleBall_131 (lv_at hl 2 rfl) ?_
                refine lv_aload_n hx hb dSA_sampleBall_133 rfl (lv_at hl 5 rfl) ?_
                refine lv_iload hx hb dSA_sampleBall_134 (lv_at hl 1 rfl) ?_
                refine nw_iald hx hb hK hO k_f (k := pf) n_f hP (by omega) (by omega) dSA_sampleBall_136 ?_
                refine nw_iast hx hb hK hO hU k_f (k := pf) n_f hP hD hS (by omega) (by omega) dSA_sampleBall_137 (fun s28 pl H locs es21 hO hP hD hS => ?_)
                replace hR := bnd_step hR es21
                have hF := frm_sI hF es21 (by unfold M_SA_sampleBall_1; omega)
                have hf31 : s28.1 18 3 = nI ps23 := fc_ne hf29 es21 (by omega)
                have hf32 : s28.1 18 1 = nI x32 := fc_ne hf30 es21 (by omega)
                refine lv_aload_n hx hb dSA_sampleBall_138 rfl (lv_at hl 5 rfl) ?_
                refine lv_iload hx hb dSA_sampleBall_139 (lv_at hl 1 rfl) ?_
                refine lv_lload hx hb dSA_sampleBall_141 (lv_at hl 3 rfl) ?_
                refine lv_lconst (v := 1) hx hb dSA_sampleBall_143 (by decide) ?_
                refine lv_land hx hb dSA_sampleBall_144 ?_
                refine lv_lconst (v := 0) hx hb dSA_sampleBall_145 (by decide) ?_
                refine W.lcmp hx hb dSA_sampleBall_146 ?_
                refine lv_if_ne (tgt := 154) hx hb dSA_sampleBall_147 (by decide) (fun h25 => ?_) (fun h25 => ?_)
                · replace hR := hR.trans (if_neg h25)
                  refine lv_ldc (v := 8380416) hx hb hown (hts _ (wg_t kw_1219)) dSA_sampleBall_154 ?_
                  refine mi_as (show (8380416 : Int32) = nI 8380416 by decide) ?_
                  refine nw_iast hx hb hK hO hU k_f (k := pf) n_f hP hD hS (by omega) (by omega) dSA_sampleBall_156 (fun s29 pl H locs es22 hO hP hD hS => ?_)
                  replace hR := bnd_step hR es22
                  have hF := frm_sI hF es22 (by unfold M_SA_sampleBall_1; omega)
                  have hf33 : s29.1 18 3 = nI ps23 := fc_ne hf31 es22 (by omega)
                  have hf34 : s29.1 18 1 = nI x32 := fc_ne hf32 es22 (by omega)
                  refine lv_lload hx hb dSA_sampleBall_157 (lv_at hl 3 rfl) ?_
                  refine lv_iconst (v := nI 1) hx hb dSA_sampleBall_159 (by decide) ?_
                  refine lv_lushr hx hb dSA_sampleBall_160 rfl ?_
                  refine ml_eqv (fun y23 ez22 => ?_)
                  replace hR := bnd_step hR ez22
                  refine lv_lstore (lv' := [(4, .long y23), (8, .int (nI i23)), (7, .int (nI fl21)), (6, .int (nI i22)), (0, .ref h0), (2, .ref f)]) hx hb dSA_sampleBall_161 hl (by decide) rfl (fun ls hl => ?_)
                  refine mi_iinc (k := 3) (x := i22) (d := 1) (y := i22 + 1) (lv' := [(6, .int (nI (i22 + 1))), (4, .long y23), (8, .int (nI i23)), (7, .int (nI fl21)), (0, .ref h0), (2, .ref f)]) hx hb dSA_sampleBall_163 hl rfl (by decide) rfl (by decide) rfl (fun ls hl => ?_)
                  refine lv_goto (tgt := 81) hx hb dSA_sampleBall_166 (by decide) ?_
                  exact ih22 (i22 + 1) y23 s29 ps23 pl ls H locs (by omega) (by omega) (by omega) hF hf33 (by have h9 := hf34; rw [show x32 = x28 by omega] at h9; exact h9) hR (lv_sub hl [0, 1, 4, 5] rfl) hO hP hD hS
                · replace hR := hR.trans (if_pos h25)
                  refine lv_iconst (v := nI 1) hx hb dSA_sampleBall_150 (by decide) ?_
                  refine lv_goto (tgt := 156) hx hb dSA_sampleBall_151 (by decide) ?_
                  refine nw_iast hx hb hK hO hU k_f (k := pf) n_f hP hD hS (by omega) (by omega) dSA_sampleBall_156 (fun s30 pl H locs es23 hO hP hD hS => ?_)
                  replace hR := bnd_step hR es23
                  have hF := frm_sI hF es23 (by unfold M_SA_sampleBall_1; omega)
                  have hf35 : s30.1 18 3 = nI ps23 := fc_ne hf31 es23 (by omega)
                  have hf36 : s30.1 18 1 = nI x32 := fc_ne hf32 es23 (by omega)
                  refine lv_lload hx hb dSA_sampleBall_157 (lv_at hl 3 rfl) ?_
                  refine lv_iconst (v := nI 1) hx hb dSA_sampleBall_159 (by decide) ?_
                  refine lv_lushr hx hb dSA_sampleBall_160 rfl ?_
                  refine ml_eqv (fun y24 ez23 => ?_)
                  replace hR := bnd_step hR ez23
                  refine lv_lstore (lv' := [(4, .long y24), (8, .int (nI i23)), (7, .int (nI fl21)), (6, .int (nI i22)), (0, .ref h0), (2, .ref f)]) hx hb dSA_sampleBall_161 hl (by decide) rfl (fun ls hl => ?_)
                  refine mi_iinc (k := 3) (x := i22) (d := 1) (y := i22 + 1) (lv' := [(6, .int (nI (i22 + 1))), (4, .long y24), (8, .int (nI i23)), (7, .int (nI fl21)), (0, .ref h0), (2, .ref f)]) hx hb dSA_sampleBall_163 hl rfl (by decide) rfl (by decide) rfl (fun ls hl => ?_)
                  refine lv_goto (tgt := 81) hx hb dSA_sampleBall_166 (by decide) ?_
                  exact ih22 (i22 + 1) y24 s30 ps23 pl ls H locs (by omega) (by omega) (by omega) hF hf35 (by have h9 := hf36; rw [show x32 = x28 by omega] at h9; exact h9) hR (lv_sub hl [0, 1, 4, 5] rfl) hO hP hD hS
              · replace hR := hR.trans (if_neg (Nat.not_le.mpr h24))
                refine lv_iload hx hb dSA_sampleBall_108 (lv_at hl 0 rfl) ?_
                refine lv_ldc (v := 1000000) hx hb hown (hts _ (wg_t kw_691)) dSA_sampleBall_110 ?_
                refine mi_as (show (1000000 : Int32) = nI 1000000 by decide) ?_
                refine mi_ge (tgt := 130) hx hb dSA_sampleBall_112 (by decide) (by omega) (by omega) (fun h26 => ?_) (fun h26 => absurd h26 (by omega))
                refine lv_aload_n hx hb dSA_sampleBall_130 rfl (lv_at hl 5 rfl) ?_
                refine lv_iload hx hb dSA_sampleBall_131 (lv_at hl 2 rfl) ?_
                refine lv_aload_n hx hb dSA_sampleBall_133 rfl (lv_at hl 5 rfl) ?_
                refine lv_iload hx hb dSA_sampleBall_134 (lv_at hl 1 rfl) ?_
                refine nw_iald hx hb hK hO k_f (k := pf) n_f hP (by omega) (by omega) dSA_sampleBall_136 ?_
                refine nw_iast hx hb hK hO hU k_f (k := pf) n_f hP hD hS (by omega) (by omega) dSA_sampleBall_137 (fun s31 pl H locs es24 hO hP hD hS => ?_)
                replace hR := bnd_step hR es24
                have hF := frm_sI hF es24 (by unfold M_SA_sampleBall_1; omega)
                have hf37 : s31.1 18 3 = nI ps23 := fc_ne hf29 es24 (by omega)
                have hf38 : s31.1 18 1 = nI x32 := fc_ne hf30 es24 (by omega)
                refine lv_aload_n hx hb dSA_sampleBall_138 rfl (lv_at hl 5 rfl) ?_
                refine lv_iload hx hb dSA_sampleBall_139 (lv_at hl 1 rfl) ?_
                refine lv_lload hx hb dSA_sampleBall_141 (lv_at hl 3 rfl) ?_
                refine lv_lconst (v := 1) hx hb dSA_sampleBall_143 (by decide) ?_
                refine lv_land hx hb dSA_sampleBall_144 ?_
                refine lv_lconst (v := 0) hx hb dSA_sampleBall_145 (by decide) ?_
                refine W.lcmp hx hb dSA_sampleBall_146 ?_
                refine lv_if_ne (tgt := 154) hx hb dSA_sampleBall_147 (by decide) (fun h27 => ?_) (fun h27 => ?_)
                · replace hR := hR.trans (if_neg h27)
                  refine lv_ldc (v := 8380416) hx hb hown (hts _ (wg_t kw_1219)) dSA_sampleBall_154 ?_
                  refine mi_as (show (8380416 : Int32) = nI 8380416 by decide) ?_
                  refine nw_iast hx hb hK hO hU k_f (k := pf) n_f hP hD hS (by omega) (by omega) dSA_sampleBall_156 (fun s32 pl H locs es25 hO hP hD hS => ?_)
                  replace hR := bnd_step hR es25
                  have hF := frm_sI hF es25 (by unfold M_SA_sampleBall_1; omega)
                  have hf39 : s32.1 18 3 = nI ps23 := fc_ne hf37 es25 (by omega)
                  have hf40 : s32.1 18 1 = nI x32 := fc_ne hf38 es25 (by omega)
                  refine lv_lload hx hb dSA_sampleBall_157 (lv_at hl 3 rfl) ?_
                  refine lv_iconst (v := nI 1) hx hb dSA_sampleBall_159 (by decide) ?_
                  refine lv_lushr hx hb dSA_sampleBall_160 rfl ?_
                  refine ml_eqv (fun y25 ez24 => ?_)
                  replace hR := bnd_step hR ez24
                  refine lv_lstore (lv' := [(4, .long y25), (8, .int (nI i23)), (7, .int (nI fl21)), (6, .int (nI i22)), (0, .ref h0), (2, .ref f)]) hx hb dSA_sampleBall_161 hl (by decide) rfl (fun ls hl => ?_)
                  refine mi_iinc (k := 3) (x := i22) (d := 1) (y := i22 + 1) (lv' := [(6, .int (nI (i22 + 1))), (4, .long y25), (8, .int (nI i23)), (7, .int (nI fl21)), (0, .ref h0), (2, .ref f)]) hx hb dSA_sampleBall_163 hl rfl (by decide) rfl (by decide) rfl (fun ls hl => ?_)
                  refine lv_goto (tgt := 81) hx hb dSA_sampleBall_166 (by decide) ?_
                  exact ih22 (i22 + 1) y25 s32 ps23 pl ls H locs (by omega) (by omega) (by omega) hF hf39 (by have h9 := hf40; rw [show x32 = x28 by omega] at h9; exact h9) hR (lv_sub hl [0, 1, 4, 5] rfl) hO hP hD hS
                · replace hR := hR.trans (if_pos h27)
                  refine lv_iconst (v := nI 1) hx hb dSA_sampleBall_150 (by decide) ?_
                  refine lv_goto (tgt := 156) hx hb dSA_sampleBall_151 (by decide) ?_
                  refine nw_iast hx hb hK hO hU k_f (k := pf) n_f hP hD hS (by omega) (by omega) dSA_sampleBall_156 (fun s33 pl H locs es26 hO hP hD hS => ?_)
                  replace hR := bnd_step hR es26
                  have hF := frm_sI hF es26 (by unfold M_SA_sampleBall_1; omega)
                  have hf41 : s33.1 18 3 = nI ps23 := fc_ne hf37 es26 (by omega)
                  have hf42 : s33.1 18 1 = nI x32 := fc_ne hf38 es26 (by omega)
                  refine lv_lload hx hb dSA_sampleBall_157 (lv_at hl 3 rfl) ?_
                  refine lv_iconst (v := nI 1) hx hb dSA_sampleBall_159 (by decide) ?_
                  refine lv_lushr hx hb dSA_sampleBall_160 rfl ?_
                  refine ml_eqv (fun y26 ez25 => ?_)
                  replace hR := bnd_step hR ez25
                  refine lv_lstore (lv' := [(4, .long y26), (8, .int (nI i23)), (7, .int (nI fl21)), (6, .int (nI i22)), (0, .ref h0), (2, .ref f)]) hx hb dSA_sampleBall_161 hl (by decide) rfl (fun ls hl => ?_)
                  refine mi_iinc (k := 3) (x := i22) (d := 1) (y := i22 + 1) (lv' := [(6, .int (nI (i22 + 1))), (4, .long y26), (8, .int (nI i23)), (7, .int (nI fl21)), (0, .ref h0), (2, .ref f)]) hx hb dSA_sampleBall_163 hl rfl (by decide) rfl (by decide) rfl (fun ls hl => ?_)
                  refine lv_goto (tgt := 81) hx hb dSA_sampleBall_166 (by decide) ?_
                  exact ih22 (i22 + 1) y26 s33 ps23 pl ls H locs (by omega) (by omega) (by omega) hF hf41 (by have h9 := hf42; rw [show x32 = x28 by omega] at h9; exact h9) hR (lv_sub hl [0, 1, 4, 5] rfl) hO hP hD hS
            | succ n23 ih23 =>
              intro i23 fl21 s27 ps23 pl ls H locs hm23 hi24 hi25 hF hf43 hf44 hR hl hO hP hD hS
              refine lv_iload hx hb dSA_sampleBall_101 (lv_at hl 1 rfl) ?_
              refine lv_iload hx hb dSA_sampleBall_103 (lv_at hl 2 rfl) ?_
              refine mi_le (tgt := 130) hx hb dSA_sampleBall_105 (by decide) (by omega) (by omega) (fun h28 => ?_) (fun h28 => ?_)
              · replace hR := hR.trans (if_pos h28)
                refine lv_aload_n hx hb dSA_sampleBall_130 rfl (lv_at hl 5 rfl) ?_
                refine lv_iload hx hb dSA_sampleBall_131 (lv_at hl 2 rfl) ?_
                refine lv_aload_n hx hb dSA_sampleBall_133 rfl (lv_at hl 5 rfl) ?_
                refine lv_iload hx hb dSA_sampleBall_134 (lv_at hl 1 rfl) ?_
                refine nw_iald hx hb hK hO k_f (k := pf) n_f hP (by omega) (by omega) dSA_sampleBall_136 ?_
                refine nw_iast hx hb hK hO hU k_f (k := pf) n_f hP hD hS (by omega) (by omega) dSA_sampleBall_137 (fun s34 pl H locs es27 hO hP hD hS => ?_)
                replace hR := bnd_step hR es27
                have hF := frm_sI hF es27 (by unfold M_SA_sampleBall_1; omega)
                have hf45 : s34.1 18 3 = nI ps23 := fc_ne hf43 es27 (by omega)
                have hf46 : s34.1 18 1 = nI x32 := fc_ne hf44 es27 (by omega)
                refine lv_aload_n hx hb dSA_sampleBall_138 rfl (lv_at hl 5 rfl) ?_
                refine lv_iload hx hb dSA_sampleBall_139 (lv_at hl 1 rfl) ?_
                refine lv_lload hx hb dSA_sampleBall_141 (lv_at hl 3 rfl) ?_
                refine lv_lconst (v := 1) hx hb dSA_sampleBall_143 (by decide) ?_
                refine lv_land hx hb dSA_sampleBall_144 ?_
                refine lv_lconst (v := 0) hx hb dSA_sampleBall_145 (by decide) ?_
                refine W.lcmp hx hb dSA_sampleBall_146 ?_
                refine lv_if_ne (tgt := 154) hx hb dSA_sampleBall_147 (by decide) (fun h29 => ?_) (fun h29 => ?_)
                · replace hR := hR.trans (if_neg h29)
                  refine lv_ldc (v := 8380416) hx hb hown (hts _ (wg_t kw_1219)) dSA_sampleBall_154 ?_
                  refine mi_as (show (8380416 : Int32) = nI 8380416 by decide) ?_
                  refine nw_iast hx hb hK hO hU k_f (k := pf) n_f hP hD hS (by omega) (by omega) dSA_sampleBall_156 (fun s35 pl H locs es28 hO hP hD hS => ?_)
                  replace hR := bnd_step hR es28
                  have hF := frm_sI hF es28 (by unfold M_SA_sampleBall_1; omega)
                  have hf47 : s35.1 18 3 = nI ps23 := fc_ne hf45 es28 (by omega)
                  have hf48 : s35.1 18 1 = nI x32 := fc_ne hf46 es28 (by omega)
                  refine lv_lload hx hb dSA_sampleBall_157 (lv_at hl 3 rfl) ?_
                  refine lv_iconst (v := nI 1) hx hb dSA_sampleBall_159 (by decide) ?_
                  refine lv_lushr hx hb dSA_sampleBall_160 rfl ?_
                  refine ml_eqv (fun y27 ez26 => ?_)
                  replace hR := bnd_step hR ez26
                  refine lv_lstore (lv' := [(4, .long y27), (8, .int (nI i23)), (7, .int (nI fl21)), (6, .int (nI i22)), (0, .ref h0), (2, .ref f)]) hx hb dSA_sampleBall_161 hl (by decide) rfl (fun ls hl => ?_)
                  refine mi_iinc (k := 3) (x := i22) (d := 1) (y := i22 + 1) (lv' := [(6, .int (nI (i22 + 1))), (4, .long y27), (8, .int (nI i23)), (7, .int (nI fl21)), (0, .ref h0), (2, .ref f)]) hx hb dSA_sampleBall_163 hl rfl (by decide) rfl (by decide) rfl (fun ls hl => ?_)
                  refine lv_goto (tgt := 81) hx hb dSA_sampleBall_166 (by decide) ?_
                  exact ih22 (i22 + 1) y27 s35 ps23 pl ls H locs (by omega) (by omega) (by omega) hF hf47 (by have h9 := hf48; rw [show x32 = x28 by omega] at h9; exact h9) hR (lv_sub hl [0, 1, 4, 5] rfl) hO hP hD hS
                · replace hR := hR.trans (if_pos h29)
                  refine lv_iconst (v := nI 1) hx hb dSA_sampleBall_150 (by decide) ?_
                  refine lv_goto (tgt := 156) hx hb dSA_sampleBall_151 (by decide) ?_
                  refine nw_iast hx hb hK hO hU k_f (k := pf) n_f hP hD hS (by omega) (by omega) dSA_sampleBall_156 (fun s36 pl H locs es29 hO hP hD hS => ?_)
                  replace hR := bnd_step hR es29
                  have hF := frm_sI hF es29 (by unfold M_SA_sampleBall_1; omega)
                  have hf49 : s36.1 18 3 = nI ps23 := fc_ne hf45 es29 (by omega)
                  have hf50 : s36.1 18 1 = nI x32 := fc_ne hf46 es29 (by omega)
                  refine lv_lload hx hb dSA_sampleBall_157 (lv_at hl 3 rfl) ?_
                  refine lv_iconst (v := nI 1) hx hb dSA_sampleBall_159 (by decide) ?_
                  refine lv_lushr hx hb dSA_sampleBall_160 rfl ?_
                  refine ml_eqv (fun y28 ez27 => ?_)
                  replace hR := bnd_step hR ez27
                  refine lv_lstore (lv' := [(4, .long y28), (8, .int (nI i23)), (7, .int (nI fl21)), (6, .int (nI i22)), (0, .ref h0), (2, .ref f)]) hx hb dSA_sampleBall_161 hl (by decide) rfl (fun ls hl => ?_)
                  refine mi_iinc (k := 3) (x := i22) (d := 1) (y := i22 + 1) (lv' := [(6, .int (nI (i22 + 1))), (4, .long y28), (8, .int (nI i23)), (7, .int (nI fl21)), (0, .ref h0), (2, .ref f)]) hx hb dSA_sampleBall_163 hl rfl (by decide) rfl (by decide) rfl (fun ls hl => ?_)
                  refine lv_goto (tgt := 81) hx hb dSA_sampleBall_166 (by decide) ?_
                  exact ih22 (i22 + 1) y28 s36 ps23 pl ls H locs (by omega) (by omega) (by omega) hF hf49 (by have h9 := hf50; rw [show x32 = x28 by omega] at h9; exact h9) hR (lv_sub hl [0, 1, 4, 5] rfl) hO hP hD hS
              · replace hR := hR.trans (if_neg (Nat.not_le.mpr h28))
                refine lv_iload hx hb dSA_sampleBall_108 (lv_at hl 0 rfl) ?_
                refine lv_ldc (v := 1000000) hx hb hown (hts _ (wg_t kw_691)) dSA_sampleBall_110 ?_
                refine mi_as (show (1000000 : Int32) = nI 1000000 by decide) ?_
                refine mi_ge (tgt := 130) hx hb dSA_sampleBall_112 (by decide) (by omega) (by omega) (fun h30 => absurd h30 (by omega)) (fun h30 => ?_)
                refine lv_aload_n hx hb dSA_sampleBall_115 rfl (lv_at hl 4 rfl) ?_
                refine nw_get (C := "LatticeKeys$DsaSampler") (TT := T_SA) (N := 2) hx hb hts (wg_ft i_SA) hown hK hO k_h0 (kn := 37) (ci := 7) (fl := [(3, 18), (3, 38)]) rfl hP rfl 0 (by decide) (hts _ (wg_t kw_157)) (fun _ h9 => h9) (cd := (3, 18)) rfl dSA_sampleBall_116 (fun v27 hv27 => ?_)
                obtain ⟨r26, rfl, kr25⟩ := (show ∃ r : Nat, v27 = .ref r ∧ T r = some 18 from hv27)
                refine mp_i (cx := []) (wr := []) hP hD hS hA [] [] rfl rfl rfl (by decide) (va_runV (As := []) (rest := []) F (N_SP_nextByte l g _ T s27 pl hO hU r26 18 19 ps23 x32 kr25 rfl rfl hf43 hf44 (by omega) (by omega)) (cwV 0 hts (wg_app (wg_c kw_692 (wg_c kw_619 (wg_c kw_620 (wg_c kw_2 wg_n)))) kw_621) rfl rfl rfl (by decide +kernel) ⟨by decide, by decide⟩) (pn_W "LatticeKeys$Sponge" (en_ok g) (ci := 3) (kn := 18) (fl := [(3, 19), (0, 0), (0, 0), (0, 0)]) hK hO kr25 rfl hP hD hS hA hE [] rfl rfl rfl) rfl rfl hl.1 rfl (lv_room (Nat.le_of_ble_eq_true rfl)) dSA_sampleBall_119 ⟨by omega, by omega⟩) (fun r27 u26 H locs hu26 hP hD hS => ?_)
                obtain ⟨q22, pl⟩ := u26
                obtain ⟨⟨eq26, rfl, hFc26, ⟨x36, hx_36, hb_36⟩, ⟨x34, hx_34, hb_34⟩, ⟨x35, hx_35, hb_35⟩, -⟩, hO⟩ := hu26
                have hO : okn g T q22.2 pl := hO
                have hP : va_P g.1 vcl ([] ++ pl) _ := hP
                have hD : va_D _ ([] ++ pl) := hD
                have hFc26 : frm (M_SP_nextByte 18) s27 q22.2 := hFc26
                have hb_34 : x34 ≤ x32 := hb_34
                have hb_35 : x35 = x32 := hb_35
                have hb_36 : x36 < 256 := hb_36
                replace hR := bnd_step hR eq26
                have hF := frm_tr hF hFc26 (fun k hk => by unfold M_SP_nextByte at hk; unfold M_SA_sampleBall_1; omega)
                obtain ⟨z22, ez28, hz23, hz24⟩ := cl_of (b := 2147483648) hx_36 (by omega) (by decide)
                replace hR := bnd_step hR ez28
                refine mi_as hz23 ?_
                refine W.widen (k := 0) (n := 0) (by omega) (by omega) ?_
                refine lv_istore (lv' := [(7, .int (nI z22)), (8, .int (nI i23)), (6, .int (nI i22)), (4, .long y22), (0, .ref h0), (2, .ref f)]) hx hb dSA_sampleBall_122 hl (by decide) rfl (fun ls hl => ?_)
                refine mi_iinc (k := 1) (x := i23) (d := 1) (y := i23 + 1) (lv' := [(8, .int (nI (i23 + 1))), (7, .int (nI z22)), (6, .int (nI i22)), (4, .long y22), (0, .ref h0), (2, .ref f)]) hx hb dSA_sampleBall_124 hl rfl (by decide) rfl (by decide) rfl (fun ls hl => ?_)
                refine lv_goto (tgt := 101) hx hb dSA_sampleBall_127 (by decide) ?_
                exact ih23 (i23 + 1) z22 q22.2 x34 pl ls H locs (by omega) (by omega) (by omega) hF hx_34 (by have h9 := hx_35; rw [show x35 = x32 by omega] at h9; exact h9) hR (lv_sub hl [0, 1, 2, 3, 4, 5] rfl) hO hP hD hS
          exact lp23 1000000 0 z21 q21.2 x31 pl ls _ _ (by omega) (by omega) (by omega) hF hx_31 hx_32 hR (lv_sub hl [0, 1, 2, 3, 4, 5] rfl) hO hP hD hS
      exact lp22 (256 - 207) 207 y21 s25 ps21 pl ls _ _ (by omega) (by omega) (by omega) hF hf23 hf24 hR (lv_sub hl [0, 1, 2, 4] rfl) hO hP hD hS
    | succ n21 ih21 =>
      intro i21 y21 s24 ps21 pl ls H locs hm21 hi21 hF hf51 hf52 hR hl hO hP hD hS
      refine lv_iload hx hb dSA_sampleBall_34 (lv_at hl 0 rfl) ?_
      refine lv_bipush (v := nI 8) hx hb dSA_sampleBall_36 (by decide) ?_
      refine mi_ge (tgt := 66) hx hb dSA_sampleBall_38 (by decide) (by omega) (by omega) (fun h31 => absurd h31 (by omega)) (fun h31 => ?_)
      refine lv_lload hx hb dSA_sampleBall_41 (lv_at hl 1 rfl) ?_
      refine lv_aload_n hx hb dSA_sampleBall_43 rfl (lv_at hl 2 rfl) ?_
      refine nw_get (C := "LatticeKeys$DsaSampler") (TT := T_SA) (N := 2) hx hb hts (wg_ft i_SA) hown hK hO k_h0 (kn := 37) (ci := 7) (fl := [(3, 18), (3, 38)]) rfl hP rfl 0 (by decide) (hts _ (wg_t kw_157)) (fun _ h9 => h9) (cd := (3, 18)) rfl dSA_sampleBall_44 (fun v28 hv28 => ?_)
      obtain ⟨r28, rfl, kr26⟩ := (show ∃ r : Nat, v28 = .ref r ∧ T r = some 18 from hv28)
      refine mp_i (cx := []) (wr := []) hP hD hS hA [] [] rfl rfl rfl (by decide) (va_runV (As := []) (rest := [.long y21]) F (N_SP_nextByte l g _ T s24 pl hO hU r28 18 19 ps21 x28 kr26 rfl rfl hf51 hf52 (by omega) (by omega)) (cwV 0 hts (wg_app (wg_c kw_692 (wg_c kw_619 (wg_c kw_620 (wg_c kw_2 wg_n)))) kw_621) rfl rfl rfl (by decide +kernel) ⟨by decide, by decide⟩) (pn_W "LatticeKeys$Sponge" (en_ok g) (ci := 3) (kn := 18) (fl := [(3, 19), (0, 0), (0, 0), (0, 0)]) hK hO kr26 rfl hP hD hS hA hE [] rfl rfl rfl) rfl rfl hl.1 rfl (lv_room (Nat.le_of_ble_eq_true rfl)) dSA_sampleBall_47 ⟨by omega, by omega⟩) (fun r29 u27 H locs hu27 hP hD hS => ?_)
      obtain ⟨q23, pl⟩ := u27
      obtain ⟨⟨eq27, rfl, hFc27, ⟨x39, hx_39, hb_39⟩, ⟨x37, hx_37, hb_37⟩, ⟨x38, hx_38, hb_38⟩, -⟩, hO⟩ := hu27
      have hO : okn g T q23.2 pl := hO
      have hP : va_P g.1 vcl ([] ++ pl) _ := hP
      have hD : va_D _ ([] ++ pl) := hD
      have hFc27 : frm (M_SP_nextByte 18) s24 q23.2 := hFc27
      have hb_37 : x37 ≤ x28 := hb_37
      have hb_38 : x38 = x28 := hb_38
      have hb_39 : x39 < 256 := hb_39
      replace hR := bnd_step hR eq27
      have hF := frm_tr hF hFc27 (fun k hk => by unfold M_SP_nextByte at hk; unfold M_SA_sampleBall_1; omega)
      obtain ⟨z23, ez29, hz25, hz26⟩ := cl_of (b := 2147483648) hx_39 (by omega) (by decide)
      replace hR := bnd_step hR ez29
      refine mi_as hz25 ?_
      refine W.widen (k := 0) (n := 0) (by omega) (by omega) ?_
      refine lv_i2l hx hb dSA_sampleBall_50 rfl ?_
      refine lv_bipush (v := nI 8) hx hb dSA_sampleBall_51 (by decide) ?_
      refine lv_iload hx hb dSA_sampleBall_53 (lv_at hl 0 rfl) ?_
      refine mi_imul hx hb dSA_sampleBall_55 ?_
      refine lv_lshl hx hb dSA_sampleBall_56 rfl ?_
      refine lv_lor hx hb dSA_sampleBall_57 ?_
      refine ml_eqv (fun y29 ez30 => ?_)
      replace hR := bnd_step hR ez30
      refine lv_lstore (lv' := [(4, .long y29), (6, .int (nI i21)), (0, .ref h0), (1, .ref st), (2, .ref f)]) hx hb dSA_sampleBall_58 hl (by decide) rfl (fun ls hl => ?_)
      refine mi_iinc (k := 1) (x := i21) (d := 1) (y := i21 + 1) (lv' := [(6, .int (nI (i21 + 1))), (4, .long y29), (0, .ref h0), (1, .ref st), (2, .ref f)]) hx hb dSA_sampleBall_60 hl rfl (by decide) rfl (by decide) rfl (fun ls hl => ?_)
      refine lv_goto (tgt := 34) hx hb dSA_sampleBall_63 (by decide) ?_
      exact ih21 (i21 + 1) y29 q23.2 x37 pl ls H locs (by omega) (by omega) hF hx_37 (by have h9 := hx_38; rw [show x38 = x28 by omega] at h9; exact h9) hR (lv_sub hl [0, 1, 2, 3, 4] rfl) hO hP hD hS
  exact lp21 8 0 0 s23 x27 pl ls _ _ (by omega) (by omega) hF hx_27 hx_28 hR (lv_sub hl [0, 1, 2, 3, 4] rfl) hO hP hD hS
def M_SA_sampleBall_2 (pf : Nat) (k : Nat) : Prop := k = 18 ∨ k = pf ∨ (0 : Nat) = 1
noncomputable def F_SA_sampleBall_2_L2 (pf : Nat) (i22 : Nat) (y22 : Int64) (kk : Nat → Int64 → Sto → Sto) : Nat → Nat → Nat → Sto → Sto
  | 0, i23, fl21, s27 => if fl21 ≤ i22 then bnd (sI s27 pf i22 (s27.1 pf fl21)) fun s28 => if (lg_cmp (y22 &&& 1) 0) = 0 then bnd (sI s28 pf fl21 (nI 1)) fun s30 => bnd ((y22.toUInt64 >>> ((nI 1).toInt64.toUInt64 &&& Int64.toUInt64 63)).toInt64) fun y24 => kk (i22 + 1) y24 s30 else bnd (sI s28 pf fl21 (nI 8380416)) fun s29 => bnd ((y22.toUInt64 >>> ((nI 1).toInt64.toUInt64 &&& Int64.toUInt64 63)).toInt64) fun y23 => kk (i22 + 1) y23 s29 else bnd (sI s27 pf i22 (s27.1 pf fl21)) fun s31 => if (lg_cmp (y22 &&& 1) 0) = 0 then bnd (sI s31 pf fl21 (nI 1)) fun s33 => bnd ((y22.toUInt64 >>> ((nI 1).toInt64.toUInt64 &&& Int64.toUInt64 63)).toInt64) fun y26 => kk (i22 + 1) y26 s33 else bnd (sI s31 pf fl21 (nI 8380416)) fun s32 => bnd ((y22.toUInt64 >>> ((nI 1).toInt64.toUInt64 &&& Int64.toUInt64 63)).toInt64) fun y25 => kk (i22 + 1) y25 s32
  | n23 + 1, i23, fl21, s27 => if fl21 ≤ i22 then bnd (sI s27 pf i22 (s27.1 pf fl21)) fun s34 => if (lg_cmp (y22 &&& 1) 0) = 0 then bnd (sI s34 pf fl21 (nI 1)) fun s36 => bnd ((y22.toUInt64 >>> ((nI 1).toInt64.toUInt64 &&& Int64.toUInt64 63)).toInt64) fun y28 => kk (i22 + 1) y28 s36 else bnd (sI s34 pf fl21 (nI 8380416)) fun s35 => bnd ((y22.toUInt64 >>> ((nI 1).toInt64.toUInt64 &&& Int64.toUInt64 63)).toInt64) fun y27 => kk (i22 + 1) y27 s35 else bnd (F_SP_nextByte 18 19 s27) fun q22 => bnd (q22.1.toNatClampNeg) fun z22 => F_SA_sampleBall_2_L2 pf i22 y22 kk n23 (i23 + 1) z22 q22.2
noncomputable def F_SA_sampleBall_2_L1 (pf : Nat) : Nat → Nat → Int64 → Sto → Sto
  | 0, i22, y22, s26 => s26
  | n22 + 1, i22, y22, s26 => bnd (F_SP_nextByte 18 19 s26) fun q21 => bnd (q21.1.toNatClampNeg) fun z21 => F_SA_sampleBall_2_L2 pf i22 y22 (F_SA_sampleBall_2_L1 pf n22) 1000000 0 z21 q21.2
noncomputable def F_SA_sampleBall_2_L0 (pf : Nat) : Nat → Nat → Int64 → Sto → Sto
  | 0, i21, y21, s24 => bnd (F_AR_fillI pf 256 (nI 0) s24) fun s25 => F_SA_sampleBall_2_L1 pf (256 - 196) 196 y21 s25
  | n21 + 1, i21, y21, s24 => bnd (F_SP_nextByte 18 19 s24) fun q23 => bnd (q23.1.toNatClampNeg) fun z23 => bnd ((y21 ||| (((nI z23).toInt64) <<< ((nI (8 * i21)).toInt64 &&& 63)))) fun y29 => F_SA_sampleBall_2_L0 pf n21 (i21 + 1) y29 q23.2
noncomputable def F_SA_sampleBall_2 (pf : Nat) (pb : Nat) (n : Nat) (s : Sto) : Sto := bnd (F_SP_start_3 18 19 s) fun s21 => bnd (F_SP_absorb 18 19 pb n 0 64 s21) fun s22 => bnd (F_SP_finish 18 19 s22) fun s23 => F_SA_sampleBall_2_L0 pf 8 0 0 s23
set_option maxHeartbeats 400000 in
set_option maxRecDepth 100000 in
theorem N_SA_sampleBall_2 (l : Launch) (g : Gd) (sz : Nat) (T : TyN) (s : Sto) (pl : va_W) (hO : okn g T s pl) (hU : inj T) (h0 st f b : Nat) (pf : Nat) (pb : Nat) (n : Nat) (k_h0 : T h0 = some 37) (k_st : T st = some 11) (k_f : T f = some pf) (n_f : nsp pf = (0, 256, [])) (k_b : T b = some pb) (n_b : nsp pb = (1, n, [])) (h1 : 64 ≤ n) (h2 : n < 65536)  : Met l y_SA_sampleBall w_SA_sampleBall ({ frames := 3, cells := 0, slots := 0, locals := 100 } : Room) (va_Pc [.ref h0, .ref st, .ref f, .ref b] (pr (en g) g.1 vcl sz ([] ++ pl))) (va_Qv (fun (u : (Sto) × va_W) => (u.1 = F_SA_sampleBall_2 pf pb n s ∧ frm (M_SA_sampleBall_2 pf) s u.1 ∧ True) ∧ okn g T u.1 u.2) (po g.1 vcl (va_A ([] ++ pl) sz) (fun (u : (Sto) × va_W) => [] ++ u.2)) (va_A ([] ++ pl) sz)) 0 0 (va_A ([] ++ pl) sz) := by
  refine mc_entry (cc := c_SA_sampleBall) (maxL := 9) (ret := none) (by decide) rfl (Nat.le_of_ble_eq_true rfl) ?_
  intro p e s0 m args below meth c ls F hr hlk hnm hsz hP hD hE hA hl
  obtain ⟨hx, hb, hml, hown, hts⟩ := id F
  have hK := hE.1
  generalize va_A ([] ++ pl) sz = A at hD hE hA ⊢
  have hS : va_S A s0.heap s0.heap [] := va_S.rf
  have hl : lv_has ls 9 [(0, .ref h0), (1, .ref st), (2, .ref f), (3, .ref b)] := hl
  have hR : F_SA_sampleBall_2 pf pb n s = F_SA_sampleBall_2 pf pb n s := rfl
  have hF : frm (M_SA_sampleBall_2 pf) s s := frm_rf
  have ne_18_pf : 18 ≠ pf := nsp_ne (p := 18) rfl n_f (show (5 : Nat) ≠ 0 by decide)
  have ne_18_pb : 18 ≠ pb := nsp_ne (p := 18) rfl n_b (show (5 : Nat) ≠ 1 by decide)
  refine lv_aload_n hx hb dSA_sampleBall_0 rfl (lv_at hl 0 rfl) ?_
  refine nw_get (C := "LatticeKeys$DsaSampler") (TT := T_SA) (N := 2) hx hb hts (wg_ft i_SA) hown hK hO k_h0 (kn := 37) (ci := 7) (fl := [(3, 18), (3, 38)]) rfl hP rfl 0 (by decide) (hts _ (wg_t kw_157)) (fun _ h9 => h9) (cd := (3, 18)) rfl dSA_sampleBall_1 (fun v21 hv21 => ?_)
  obtain ⟨r21, rfl, kr21⟩ := (show ∃ r : Nat, v21 = .ref r ∧ T r = some 18 from hv21)
  refine lv_iconst (v := nI 3) hx hb dSA_sampleBall_4 (by decide) ?_
  refine mp_v (cx := []) (wr := []) hP hD hS hA [] [] rfl rfl rfl (by decide) (va_runV (As := [.int (nI 3)]) (rest := []) F (N_SP_start_3 l g _ T s pl hO hU r21 18 19 kr21 rfl rfl) (cwV 1 hts (wg_app (wg_c kw_687 (wg_c kw_579 (wg_c kw_580 (wg_c kw_2 wg_n)))) kw_581) rfl rfl rfl (by decide +kernel) ⟨by decide, by decide⟩) (pn_W "LatticeKeys$Sponge" (en_ok g) (ci := 3) (kn := 18) (fl := [(3, 19), (0, 0), (0, 0), (0, 0)]) hK hO kr21 rfl hP hD hS hA hE [] rfl rfl rfl) rfl rfl hl.1 rfl (lv_room (Nat.le_of_ble_eq_true rfl)) dSA_sampleBall_5 ⟨by omega, by omega⟩) (fun  u21 H locs hu21 hP hD hS => ?_)
  obtain ⟨s21, pl⟩ := u21
  obtain ⟨⟨eq21, hFc21, ⟨x21, hx_21, hb_21⟩, ⟨x22, hx_22, hb_22⟩, -⟩, hO⟩ := hu21
  have hO : okn g T s21 pl := hO
  have hP : va_P g.1 vcl ([] ++ pl) _ := hP
  have hD : va_D _ ([] ++ pl) := hD
  have hFc21 : frm (M_SP_start_3 18) s s21 := hFc21
  have hb_21 : x21 = 0 := hb_21
  have hb_22 : x22 = 136 := hb_22
  replace hR := bnd_step hR eq21
  have hF := frm_tr hF hFc21 (fun k hk => by unfold M_SP_start_3 at hk; unfold M_SA_sampleBall_2; omega)
  refine W.widen (k := 0) (n := 0) (by omega) (by omega) ?_
  refine lv_aload_n hx hb dSA_sampleBall_8 rfl (lv_at hl 0 rfl) ?_
  refine nw_get (C := "LatticeKeys$DsaSampler") (TT := T_SA) (N := 2) hx hb hts (wg_ft i_SA) hown hK hO k_h0 (kn := 37) (ci := 7) (fl := [(3, 18), (3, 38)]) rfl hP rfl 0 (by decide) (hts _ (wg_t kw_157)) (fun _ h9 => h9) (cd := (3, 18)) rfl dSA_sampleBall_9 (fun v22 hv22 => ?_)
  obtain ⟨r22, rfl, kr22⟩ := (show ∃ r : Nat, v22 = .ref r ∧ T r = some 18 from hv22)
  refine lv_aload_n hx hb dSA_sampleBall_12 rfl (lv_at hl 3 rfl) ?_
  refine lv_iconst (v := nI 0) hx hb dSA_sampleBall_13 (by decide) ?_
  refine lv_aload_n hx hb dSA_sampleBall_14 rfl (lv_at hl 1 rfl) ?_
  refine nw_get (C := "LatticeKeys$DsaSet") (TT := T_DS) (N := 17) hx hb hts (wg_ft i_DS) hown hK hO k_st (kn := 11) (ci := 2) (fl := [(1, 8), (1, 7), (1, 2), (1, 3), (1, 60), (1, 64), (1, 20), (1, 524288), (1, 16), (1, 4), (1, 261888), (1, 75), (1, 120), (1, 2592), (1, 4896), (1, 4544), (1, 4627)]) rfl hP rfl 5 (by decide) (hts _ (wg_t kw_314)) (fun _ h9 => h9) (cd := (1, 64)) rfl dSA_sampleBall_15 (fun v23 hv23 => ?_)
  obtain rfl := (show v23 = .int (nI 64) from hv23)
  refine mp_v (cx := []) (wr := []) hP hD hS hA [] [] rfl rfl rfl (by decide) (va_runV (As := [.ref b, .int (nI 0), .int (nI 64)]) (rest := []) F (N_SP_absorb l g _ T s21 pl hO hU r22 b 18 19 pb n 0 64 x21 x22 kr22 rfl rfl k_b n_b hx_21 hx_22 (by omega) (by omega) (by omega) (by omega)) (cwV 3 hts (wg_app (wg_c kw_688 (wg_c kw_586 (wg_c kw_587 (wg_c kw_2 wg_n)))) kw_588) rfl rfl rfl (by decide +kernel) ⟨by decide, by decide⟩) (pn_W "LatticeKeys$Sponge" (en_ok g) (ci := 3) (kn := 18) (fl := [(3, 19), (0, 0), (0, 0), (0, 0)]) hK hO kr22 rfl hP hD hS hA hE [] rfl rfl rfl) rfl rfl hl.1 rfl (lv_room (Nat.le_of_ble_eq_true rfl)) dSA_sampleBall_18 ⟨by omega, by omega⟩) (fun  u22 H locs hu22 hP hD hS => ?_)
  obtain ⟨s22, pl⟩ := u22
  obtain ⟨⟨eq22, hFc22, ⟨x24, hx_24, hb_24⟩, ⟨x25, hx_25, hb_25⟩, -⟩, hO⟩ := hu22
  have hO : okn g T s22 pl := hO
  have hP : va_P g.1 vcl ([] ++ pl) _ := hP
  have hD : va_D _ ([] ++ pl) := hD
  have hFc22 : frm (M_SP_absorb 18) s21 s22 := hFc22
  have hb_24 : x24 < x22 := hb_24
  have hb_25 : x25 = x22 := hb_25
  replace hR := bnd_step hR eq22
  have hF := frm_tr hF hFc22 (fun k hk => by unfold M_SP_absorb at hk; unfold M_SA_sampleBall_2; omega)
  refine W.widen (k := 0) (n := 0) (by omega) (by omega) ?_
  refine lv_aload_n hx hb dSA_sampleBall_21 rfl (lv_at hl 0 rfl) ?_
  refine nw_get (C := "LatticeKeys$DsaSampler") (TT := T_SA) (N := 2) hx hb hts (wg_ft i_SA) hown hK hO k_h0 (kn := 37) (ci := 7) (fl := [(3, 18), (3, 38)]) rfl hP rfl 0 (by decide) (hts _ (wg_t kw_157)) (fun _ h9 => h9) (cd := (3, 18)) rfl dSA_sampleBall_22 (fun v24 hv24 => ?_)
  obtain ⟨r23, rfl, kr23⟩ := (show ∃ r : Nat, v24 = .ref r ∧ T r = some 18 from hv24)
  refine mp_v (cx := []) (wr := []) hP hD hS hA [] [] rfl rfl rfl (by decide) (va_runV (As := []) (rest := []) F (N_SP_finish l g _ T s22 pl hO hU r23 18 19 x24 x25 kr23 rfl rfl hx_24 hx_25 (by omega) (by omega)) (cwV 0 hts (wg_app (wg_c kw_690 (wg_c kw_611 (wg_c kw_612 (wg_c kw_2 wg_n)))) kw_613) rfl rfl rfl (by decide +kernel) ⟨by decide, by decide⟩) (pn_W "LatticeKeys$Sponge" (en_ok g) (ci := 3) (kn := 18) (fl := [(3, 19), (0, 0), (0, 0), (0, 0)]) hK hO kr23 rfl hP hD hS hA hE [] rfl rfl rfl) rfl rfl hl.1 rfl (lv_room (Nat.le_of_ble_eq_true rfl)) dSA_sampleBall_25 ⟨by omega, by omega⟩) (fun  u23 H locs hu23 hP hD hS => ?_)
  obtain ⟨s23, pl⟩ := u23
  obtain ⟨⟨eq23, hFc23, ⟨x27, hx_27, hb_27⟩, ⟨x28, hx_28, hb_28⟩, -⟩, hO⟩ := hu23
  have hO : okn g T s23 pl := hO
  have hP : va_P g.1 vcl ([] ++ pl) _ := hP
  have hD : va_D _ ([] ++ pl) := hD
  have hFc23 : frm (M_SP_finish 18) s22 s23 := hFc23
  have hb_27 : x27 = x25 := hb_27
  have hb_28 : x28 = x25 := hb_28
  replace hR := bnd_step hR eq23
  have hF := frm_tr hF hFc23 (fun k hk => by unfold M_SP_finish at hk; unfold M_SA_sampleBall_2; omega)
  refine W.widen (k := 0) (n := 0) (by omega) (by omega) ?_
  refine lv_lconst (v := 0) hx hb dSA_sampleBall_28 (by decide) ?_
  refine lv_lstore (lv' := [(4, .long 0), (0, .ref h0), (1, .ref st), (2, .ref f), (3, .ref b)]) hx hb dSA_sampleBall_29 hl (by decide) rfl (fun ls hl => ?_)
  refine lv_iconst (v := nI 0) hx hb dSA_sampleBall_31 (by decide) ?_
  refine lv_istore (lv' := [(6, .int (nI 0)), (4, .long 0), (0, .ref h0), (1, .ref st), (2, .ref f), (3, .ref b)]) hx hb dSA_sampleBall_32 hl (by decide) rfl (fun ls hl => ?_)
  have lp21 : ∀ (n21 : Nat) (i21 : Nat) (y21 : Int64) (s24 : Sto) (ps21 : Nat) (pl : va_W) (ls : Array Slot) (H : Heap) (locs : List Loc), n21 + i21 = 8 → (ps21 ≤ 136) → frm (M_SA_sampleBall_2 pf) s s24 → s24.1 18 3 = nI ps21 → s24.1 18 1 = nI x28 → F_SA_sampleBall_2 pf pb n s = F_SA_sampleBall_2_L0 pf n21 i21 y21 s24 → lv_has ls 9 [(6, .int (nI i21)), (4, .long y21), (0, .ref h0), (1, .ref st), (2, .ref f)] → okn g T s24 pl → va_P g.1 vcl ([] ++ pl) H → va_D A ([] ++ pl) → va_S A s0.heap H locs → W p l e ({ frames := 3, cells := 0, slots := 0, locals := 100 } : Room) s0 m args below meth c H locs 0 0 (MQ below (va_Qv (fun (u : (Sto) × va_W) => (u.1 = F_SA_sampleBall_2 pf pb n s ∧ frm (M_SA_sampleBall_2 pf) s u.1 ∧ True) ∧ okn g T u.1 u.2) (po g.1 vcl A (fun (u : (Sto) × va_W) => [] ++ u.2)) A) args s0 0 0 A) (F0 m 34 ls []) := by
    intro n21
    induction n21 with
    | zero =>
      intro i21 y21 s24 ps21 pl ls H locs hm21 hi21 hF hf21 hf22 hR hl hO hP hD hS
      refine lv_iload hx hb dSA_sampleBall_34 (lv_at hl 0 rfl) ?_
      refine lv_bipush (v := nI 8) hx hb dSA_sampleBall_36 (by decide) ?_
      refine mi_ge (tgt := 66) hx hb dSA_sampleBall_38 (by decide) (by omega) (by omega) (fun h21 => ?_) (fun h21 => absurd h21 (by omega))
      refine lv_aload_n hx hb dSA_sampleBall_66 rfl (lv_at hl 4 rfl) ?_
      refine lv_iconst (v := nI 0) hx hb dSA_sampleBall_67 (by decide) ?_
      refine mp_v (cx := []) (wr := []) hP hD hS hA [] [] rfl rfl rfl (by decide) (va_runS (As := [.ref f, .int (nI 0)]) (rest := []) F (N_AR_fillI l g _ T s24 pl hO hU f pf 256 (nI 0) k_f n_f (by omega)) (va_cwS 2 hts (wg_app (wg_c kw_1218 (wg_c kw_717 (wg_c kw_21 wg_n))) kw_718) rfl rfl rfl (by decide +kernel) ⟨by decide, by decide⟩) (pp_S (en_ok g) hP hD hS hA hE [] rfl rfl) rfl rfl hl.1 rfl (lv_room (Nat.le_of_ble_eq_true rfl)) dSA_sampleBall_68 ⟨by omega, by omega⟩) (fun  u24 H locs hu24 hP hD hS => ?_)
      obtain ⟨s25, pl⟩ := u24
      obtain ⟨⟨eq24, hFc24, -⟩, hO⟩ := hu24
      have hO : okn g T s25 pl := hO
      have hP : va_P g.1 vcl ([] ++ pl) _ := hP
      have hD : va_D _ ([] ++ pl) := hD
      have hFc24 : frm (M_AR_fillI pf) s24 s25 := hFc24
      replace hR := bnd_step hR eq24
      have hF := frm_tr hF hFc24 (fun k hk => by unfold M_AR_fillI at hk; unfold M_SA_sampleBall_2; omega)
      have hf23 : s25.1 18 3 = nI ps21 := fc_F hf21 hFc24 (by unfold M_AR_fillI; omega)
      have hf24 : s25.1 18 1 = nI x28 := fc_F hf22 hFc24 (by unfold M_AR_fillI; omega)
      refine W.widen (k := 0) (n := 0) (by omega) (by omega) ?_
      refine lv_sipush (v := nI 256) hx hb dSA_sampleBall_71 (by decide) ?_
      refine lv_aload_n hx hb dSA_sampleBall_74 rfl (lv_at hl 3 rfl) ?_
      refine nw_get (C := "LatticeKeys$DsaSet") (TT := T_DS) (N := 17) hx hb hts (wg_ft i_DS) hown hK hO k_st (kn := 11) (ci := 2) (fl := [(1, 8), (1, 7), (1, 2), (1, 3), (1, 60), (1, 64), (1, 20), (1, 524288), (1, 16), (1, 4), (1, 261888), (1, 75), (1, 120), (1, 2592), (1, 4896), (1, 4544), (1, 4627)]) rfl hP rfl 4 (by decide) (hts _ (wg_t kw_312)) (fun _ h9 => h9) (cd := (1, 60)) rfl dSA_sampleBall_75 (fun v25 hv25 => ?_)
      obtain rfl := (show v25 = .int (nI 60) from hv25)
      refine mi_isub hx hb dSA_sampleBall_78 (by omega) ?_
      refine mi_as (show nI (256 - 60) = nI 196 from rfl) ?_
      refine lv_istore (lv' := [(6, .int (nI 196)), (4, .long y21), (0, .ref h0), (1, .ref st), (2, .ref f)]) hx hb dSA_sampleBall_79 hl (by decide) rfl (fun ls hl => ?_)
      have lp22 : ∀ (n22 : Nat) (i22 : Nat) (y22 : Int64) (s26 : Sto) (ps22 : Nat) (pl : va_W) (ls : Array Slot) (H : Heap) (locs : List Loc), n22 + i22 = 256 → (ps22 ≤ 136) → (196 ≤ i22) → frm (M_SA_sampleBall_2 pf) s s26 → s26.1 18 3 = nI ps22 → s26.1 18 1 = nI x28 → F_SA_sampleBall_2 pf pb n s = F_SA_sampleBall_2_L1 pf n22 i22 y22 s26 → lv_has ls 9 [(6, .int (nI i22)), (4, .long y22), (0, .ref h0), (2, .ref f)] → okn g T s26 pl → va_P g.1 vcl ([] ++ pl) H → va_D A ([] ++ pl) → va_S A s0.heap H locs → W p l e ({ frames := 3, cells := 0, slots := 0, locals := 100 } : Room) s0 m args below meth c H locs 0 0 (MQ below (va_Qv (fun (u : (Sto) × va_W) => (u.1 = F_SA_sampleBall_2 pf pb n s ∧ frm (M_SA_sampleBall_2 pf) s u.1 ∧ True) ∧ okn g T u.1 u.2) (po g.1 vcl A (fun (u : (Sto) × va_W) => [] ++ u.2)) A) args s0 0 0 A) (F0 m 81 ls []) := by
        intro n22
        induction n22 with
        | zero =>
          intro i22 y22 s26 ps22 pl ls H locs hm22 hi22 hi23 hF hf25 hf26 hR hl hO hP hD hS
          refine lv_iload hx hb dSA_sampleBall_81 (lv_at hl 0 rfl) ?_
          refine lv_sipush (v := nI 256) hx hb dSA_sampleBall_83 (by decide) ?_
          refine mi_ge (tgt := 169) hx hb dSA_sampleBall_86 (by decide) (by omega) (by omega) (fun h22 => ?_) (fun h22 => absurd h22 (by omega))
          exact mp_vret hx hb hr hlk hP hD hS (s26, pl) ⟨⟨hR.symm, hF, trivial⟩, hO⟩ [] rfl rfl rfl (by omega) (by omega) dSA_sampleBall_169
        | succ n22 ih22 =>
          intro i22 y22 s26 ps22 pl ls H locs hm22 hi22 hi23 hF hf27 hf28 hR hl hO hP hD hS
          refine lv_iload hx hb dSA_sampleBall_81 (lv_at hl 0 rfl) ?_
          refine lv_sipush (v := nI 256) hx hb dSA_sampleBall_83 (by decide) ?_
          refine mi_ge (tgt := 169) hx hb dSA_sampleBall_86 (by decide) (by omega) (by omega) (fun h23 => absurd h23 (by omega)) (fun h23 => ?_)
          refine lv_aload_n hx hb dSA_sampleBall_89 rfl (lv_at hl 2 rfl) ?_
          refine nw_get (C := "LatticeKeys$DsaSampler") (TT := T_SA) (N := 2) hx hb hts (wg_ft i_SA) hown hK hO k_h0 (kn := 37) (ci := 7) (fl := [(3, 18), (3, 38)]) rfl hP rfl 0 (by decide) (hts _ (wg_t kw_157)) (fun _ h9 => h9) (cd := (3, 18)) rfl dSA_sampleBall_90 (fun v26 hv26 => ?_)
          obtain ⟨r24, rfl, kr24⟩ := (show ∃ r : Nat, v26 = .ref r ∧ T r = some 18 from hv26)
          refine mp_i (cx := []) (wr := []) hP hD hS hA [] [] rfl rfl rfl (by decide) (va_runV (As := []) (rest := []) F (N_SP_nextByte l g _ T s26 pl hO hU r24 18 19 ps22 x28 kr24 rfl rfl hf27 hf28 (by omega) (by omega)) (cwV 0 hts (wg_app (wg_c kw_692 (wg_c kw_619 (wg_c kw_620 (wg_c kw_2 wg_n)))) kw_621) rfl rfl rfl (by decide +kernel) ⟨by decide, by decide⟩) (pn_W "LatticeKeys$Sponge" (en_ok g) (ci := 3) (kn := 18) (fl := [(3, 19), (0, 0), (0, 0), (0, 0)]) hK hO kr24 rfl hP hD hS hA hE [] rfl rfl rfl) rfl rfl hl.1 rfl (lv_room (Nat.le_of_ble_eq_true rfl)) dSA_sampleBall_93 ⟨by omega, by omega⟩) (fun r25 u25 H locs hu25 hP hD hS => ?_)
          obtain ⟨q21, pl⟩ := u25
          obtain ⟨⟨eq25, rfl, hFc25, ⟨x33, hx_33, hb_33⟩, ⟨x31, hx_31, hb_31⟩, ⟨x32, hx_32, hb_32⟩, -⟩, hO⟩ := hu25
          have hO : okn g T q21.2 pl := hO
          have hP : va_P g.1 vcl ([] ++ pl) _ := hP
          have hD : va_D _ ([] ++ pl) := hD
          have hFc25 : frm (M_SP_nextByte 18) s26 q21.2 := hFc25
          have hb_31 : x31 ≤ x28 := hb_31
          have hb_32 : x32 = x28 := hb_32
          have hb_33 : x33 < 256 := hb_33
          replace hR := bnd_step hR eq25
          have hF := frm_tr hF hFc25 (fun k hk => by unfold M_SP_nextByte at hk; unfold M_SA_sampleBall_2; omega)
          obtain ⟨z21, ez21, hz21, hz22⟩ := cl_of (b := 2147483648) hx_33 (by omega) (by decide)
          replace hR := bnd_step hR ez21
          refine mi_as hz21 ?_
          refine W.widen (k := 0) (n := 0) (by omega) (by omega) ?_
          refine lv_istore (lv' := [(7, .int (nI z21)), (6, .int (nI i22)), (4, .long y22), (0, .ref h0), (2, .ref f)]) hx hb dSA_sampleBall_96 hl (by decide) rfl (fun ls hl => ?_)
          refine lv_iconst (v := nI 0) hx hb dSA_sampleBall_98 (by decide) ?_
          refine lv_istore (lv' := [(8, .int (nI 0)), (7, .int (nI z21)), (6, .int (nI i22)), (4, .long y22), (0, .ref h0), (2, .ref f)]) hx hb dSA_sampleBall_99 hl (by decide) rfl (fun ls hl => ?_)
          have lp23 : ∀ (n23 : Nat) (i23 : Nat) (fl21 : Nat) (s27 : Sto) (ps23 : Nat) (pl : va_W) (ls : Array Slot) (H : Heap) (locs : List Loc), n23 + i23 = 1000000 → (fl21 < 256) → (ps23 ≤ 136) → frm (M_SA_sampleBall_2 pf) s s27 → s27.1 18 3 = nI ps23 → s27.1 18 1 = nI x32 → F_SA_sampleBall_2 pf pb n s = F_SA_sampleBall_2_L2 pf i22 y22 (F_SA_sampleBall_2_L1 pf n22) n23 i23 fl21 s27 → lv_has ls 9 [(8, .int (nI i23)), (7, .int (nI fl21)), (6, .int (nI i22)), (4, .long y22), (0, .ref h0), (2, .ref f)] → okn g T s27 pl → va_P g.1 vcl ([] ++ pl) H → va_D A ([] ++ pl) → va_S A s0.heap H locs → W p l e ({ frames := 3, cells := 0, slots := 0, locals := 100 } : Room) s0 m args below meth c H locs 0 0 (MQ below (va_Qv (fun (u : (Sto) × va_W) => (u.1 = F_SA_sampleBall_2 pf pb n s ∧ frm (M_SA_sampleBall_2 pf) s u.1 ∧ True) ∧ okn g T u.1 u.2) (po g.1 vcl A (fun (u : (Sto) × va_W) => [] ++ u.2)) A) args s0 0 0 A) (F0 m 101 ls []) := by
            intro n23
            induction n23 with
            | zero =>
              intro i23 fl21 s27 ps23 pl ls H locs hm23 hi24 hi25 hF hf29 hf30 hR hl hO hP hD hS
              refine lv_iload hx hb dSA_sampleBall_101 (lv_at hl 1 rfl) ?_
              refine lv_iload hx hb dSA_sampleBall_103 (lv_at hl 2 rfl) ?_
              refine mi_le (tgt := 130) hx hb dSA_sampleBall_105 (by decide) (by omega) (by omega) (fun h24 => ?_) (fun h24 => ?_)
              · replace hR := hR.trans (if_pos h24)
                refine lv_aload_n hx hb dSA_sampleBall_130 rfl (lv_at hl 5 rfl) ?_
                refine lv_iload hx hb dSA_sampleBall_131 (lv_at hl 2 rfl) ?_
                refine lv_aload_n hx hb dSA_sampleBall_133 rfl (lv_at hl 5 rfl) ?_
                refine lv_iload hx hb dSA_sampleBall_134 (lv_at hl 1 rfl) ?_
                refine nw_iald hx hb hK hO k_f (k := pf) n_f hP (by omega) (by omega) dSA_sampleBall_136 ?_
                refine nw_iast hx hb hK hO hU k_f (k := pf) n_f hP hD hS (by omega) (by omega) dSA_sampleBall_137 (fun s28 pl H locs es21 hO hP hD hS => ?_)
                replace hR := bnd_step hR es21
                have hF := frm_sI hF es21 (by unfold M_SA_sampleBall_2; omega)
                have hf31 : s28.1 18 3 = nI ps23 := fc_ne hf29 es21 (by omega)
                have hf32 : s28.1 18 1 = nI x32 := fc_ne hf30 es21 (by omega)
                refine lv_aload_n hx hb dSA_sampleBall_138 rfl (lv_at hl 5 rfl) ?_
                refine lv_iload hx hb dSA_sampleBall_139 (lv_at hl 1 rfl) ?_
                refine lv_lload hx hb dSA_sampleBall_141 (lv_at hl 3 rfl) ?_
                refine lv_lconst (v := 1) hx hb dSA_sampleBall_143 (by decide) ?_
                refine lv_land hx hb dSA_sampleBall_144 ?_
                refine lv_lconst (v := 0) hx hb dSA_sampleBall_145 (by decide) ?_
                refine W.lcmp hx hb dSA_sampleBall_146 ?_
                refine lv_if_ne (tgt := 154) hx hb dSA_sampleBall_147 (by decide) (fun h25 => ?_) (fun h25 => ?_)
                · replace hR := hR.trans (if_neg h25)
                  refine lv_ldc (v := 8380416) hx hb hown (hts _ (wg_t kw_1219)) dSA_sampleBall_154 ?_
                  refine mi_as (show (8380416 : Int32) = nI 8380416 by decide) ?_
                  refine nw_iast hx hb hK hO hU k_f (k := pf) n_f hP hD hS (by omega) (by omega) dSA_sampleBall_156 (fun s29 pl H locs es22 hO hP hD hS => ?_)
                  replace hR := bnd_step hR es22
                  have hF := frm_sI hF es22 (by unfold M_SA_sampleBall_2; omega)
                  have hf33 : s29.1 18 3 = nI ps23 := fc_ne hf31 es22 (by omega)
                  have hf34 : s29.1 18 1 = nI x32 := fc_ne hf32 es22 (by omega)
                  refine lv_lload hx hb dSA_sampleBall_157 (lv_at hl 3 rfl) ?_
                  refine lv_iconst (v := nI 1) hx hb dSA_sampleBall_159 (by decide) ?_
                  refine lv_lushr hx hb dSA_sampleBall_160 rfl ?_
                  refine ml_eqv (fun y23 ez22 => ?_)
                  replace hR := bnd_step hR ez22
                  refine lv_lstore (lv' := [(4, .long y23), (8, .int (nI i23)), (7, .int (nI fl21)), (6, .int (nI i22)), (0, .ref h0), (2, .ref f)]) hx hb dSA_sampleBall_161 hl (by decide) rfl (fun ls hl => ?_)
                  refine mi_iinc (k := 3) (x := i22) (d := 1) (y := i22 + 1) (lv' := [(6, .int (nI (i22 + 1))), (4, .long y23), (8, .int (nI i23)), (7, .int (nI fl21)), (0, .ref h0), (2, .ref f)]) hx hb dSA_sampleBall_163 hl rfl (by decide) rfl (by decide) rfl (fun ls hl => ?_)
                  refine lv_goto (tgt := 81) hx hb dSA_sampleBall_166 (by decide) ?_
                  exact ih22 (i22 + 1) y23 s29 ps23 pl ls H locs (by omega) (by omega) (by omega) hF hf33 (by have h9 := hf34; rw [show x32 = x28 by omega] at h9; exact h9) hR (lv_sub hl [0, 1, 4, 5] rfl) hO hP hD hS
                · replace hR := hR.trans (if_pos h25)
                  refine lv_iconst (v := nI 1) hx hb dSA_sampleBall_150 (by decide) ?_
                  refine lv_goto (tgt := 156) hx hb dSA_sampleBall_151 (by decide) ?_
                  refine nw_iast hx hb hK hO hU k_f (k := pf) n_f hP hD hS (by omega) (by omega) dSA_sampleBall_156 (fun s30 pl H locs es23 hO hP hD hS => ?_)
                  replace hR := bnd_step hR es23
                  have hF := frm_sI hF es23 (by unfold M_SA_sampleBall_2; omega)
                  have hf35 : s30.1 18 3 = nI ps23 := fc_ne hf31 es23 (by omega)
                  have hf36 : s30.1 18 1 = nI x32 := fc_ne hf32 es23 (by omega)
                  refine lv_lload hx hb dSA_sampleBall_157 (lv_at hl 3 rfl) ?_
                  refine lv_iconst (v := nI 1) hx hb dSA_sampleBall_159 (by decide) ?_
                  refine lv_lushr hx hb dSA_sampleBall_160 rfl ?_
                  refine ml_eqv (fun y24 ez23 => ?_)
                  replace hR := bnd_step hR ez23
                  refine lv_lstore (lv' := [(4, .long y24), (8, .int (nI i23)), (7, .int (nI fl21)), (6, .int (nI i22)), (0, .ref h0), (2, .ref f)]) hx hb dSA_sampleBall_161 hl (by decide) rfl (fun ls hl => ?_)
                  refine mi_iinc (k := 3) (x := i22) (d := 1) (y := i22 + 1) (lv' := [(6, .int (nI (i22 + 1))), (4, .long y24), (8, .int (nI i23)), (7, .int (nI fl21)), (0, .ref h0), (2, .ref f)]) hx hb dSA_sampleBall_163 hl rfl (by decide) rfl (by decide) rfl (fun ls hl => ?_)
                  refine lv_goto (tgt := 81) hx hb dSA_sampleBall_166 (by decide) ?_
                  exact ih22 (i22 + 1) y24 s30 ps23 pl ls H locs (by omega) (by omega) (by omega) hF hf35 (by have h9 := hf36; rw [show x32 = x28 by omega] at h9; exact h9) hR (lv_sub hl [0, 1, 4, 5] rfl) hO hP hD hS
              · replace hR := hR.trans (if_neg (Nat.not_le.mpr h24))
                refine lv_iload hx hb dSA_sampleBall_108 (lv_at hl 0 rfl) ?_
                refine lv_ldc (v := 1000000) hx hb hown (hts _ (wg_t kw_691)) dSA_sampleBall_110 ?_
                refine mi_as (show (1000000 : Int32) = nI 1000000 by decide) ?_
                refine mi_ge (tgt := 130) hx hb dSA_sampleBall_112 (by decide) (by omega) (by omega) (fun h26 => ?_) (fun h26 => absurd h26 (by omega))
                refine lv_aload_n hx hb dSA_sampleBall_130 rfl (lv_at hl 5 rfl) ?_
                refine lv_iload hx hb dSA_sampleBall_131 (lv_at hl 2 rfl) ?_
                refine lv_aload_n hx hb dSA_sampleBall_133 rfl (lv_at hl 5 rfl) ?_
                refine lv_iload hx hb dSA_sampleBall_134 (lv_at hl 1 rfl) ?_
                refine nw_iald hx hb hK hO k_f (k := pf) n_f hP (by omega) (by omega) dSA_sampleBall_136 ?_
                refine nw_iast hx hb hK hO hU k_f (k := pf) n_f hP hD hS (by omega) (by omega) dSA_sampleBall_137 (fun s31 pl H locs es24 hO hP hD hS => ?_)
                replace hR := bnd_step hR es24
                have hF := frm_sI hF es24 (by unfold M_SA_sampleBall_2; omega)
                have hf37 : s31.1 18 3 = nI ps23 := fc_ne hf29 es24 (by omega)
                have hf38 : s31.1 18 1 = nI x32 := fc_ne hf30 es24 (by omega)
                refine lv_aload_n hx hb dSA_sampleBall_138 rfl (lv_at hl 5 rfl) ?_
                refine lv_iload hx hb dSA_sampleBall_139 (lv_at hl 1 rfl) ?_
                refine lv_lload hx hb dSA_sampleBall_141 (lv_at hl 3 rfl) ?_
                refine lv_lconst (v := 1) hx hb dSA_sampleBall_143 (by decide) ?_
                refine lv_land hx hb dSA_sampleBall_144 ?_
                refine lv_lconst (v := 0) hx hb dSA_sampleBall_145 (by decide) ?_
                refine W.lcmp hx hb dSA_sampleBall_146 ?_
                refine lv_if_ne (tgt := 154) hx hb dSA_sampleBall_147 (by decide) (fun h27 => ?_) (fun h27 => ?_)
                · replace hR := hR.trans (if_neg h27)
                  refine lv_ldc (v := 8380416) hx hb hown (hts _ (wg_t kw_1219)) dSA_sampleBall_154 ?_
                  refine mi_as (show (8380416 : Int32) = nI 8380416 by decide) ?_
                  refine nw_iast hx hb hK hO hU k_f (k := pf) n_f hP hD hS (by omega) (by omega) dSA_sampleBall_156 (fun s32 pl H locs es25 hO hP hD hS => ?_)
                  replace hR := bnd_step hR es25
                  have hF := frm_sI hF es25 (by unfold M_SA_sampleBall_2; omega)
                  have hf39 : s32.1 18 3 = nI ps23 := fc_ne hf37 es25 (by omega)
                  have hf40 : s32.1 18 1 = nI x32 := fc_ne hf38 es25 (by omega)
                  refine lv_lload hx hb dSA_sampleBall_157 (lv_at hl 3 rfl) ?_
                  refine lv_iconst (v := nI 1) hx hb dSA_sampleBall_159 (by decide) ?_
                  refine lv_lushr hx hb dSA_sampleBall_160 rfl ?_
                  refine ml_eqv (fun y25 ez24 => ?_)
                  replace hR := bnd_step hR ez24
                  refine lv_lstore (lv' := [(4, .long y25), (8, .int (nI i23)), (7, .int (nI fl21)), (6, .int (nI i22)), (0, .ref h0), (2, .ref f)]) hx hb dSA_sampleBall_161 hl (by decide) rfl (fun ls hl => ?_)
                  refine mi_iinc (k := 3) (x := i22) (d := 1) (y := i22 + 1) (lv' := [(6, .int (nI (i22 + 1))), (4, .long y25), (8, .int (nI i23)), (7, .int (nI fl21)), (0, .ref h0), (2, .ref f)]) hx hb dSA_sampleBall_163 hl rfl (by decide) rfl (by decide) rfl (fun ls hl => ?_)
                  refine lv_goto (tgt := 81) hx hb dSA_sampleBall_166 (by decide) ?_
                  exact ih22 (i22 + 1) y25 s32 ps23 pl ls H locs (by omega) (by omega) (by omega) hF hf39 (by have h9 := hf40; rw [show x32 = x28 by omega] at h9; exact h9) hR (lv_sub hl [0, 1, 4, 5] rfl) hO hP hD hS
                · replace hR := hR.trans (if_pos h27)
                  refine lv_iconst (v := nI 1) hx hb dSA_sampleBall_150 (by decide) ?_
                  refine lv_goto (tgt := 156) hx hb dSA_sampleBall_151 (by decide) ?_
                  refine nw_iast hx hb hK hO hU k_f (k := pf) n_f hP hD hS (by omega) (by omega) dSA_sampleBall_156 (fun s33 pl H locs es26 hO hP hD hS => ?_)
                  replace hR := bnd_step hR es26
                  have hF := frm_sI hF es26 (by unfold M_SA_sampleBall_2; omega)
                  have hf41 : s33.1 18 3 = nI ps23 := fc_ne hf37 es26 (by omega)
                  have hf42 : s33.1 18 1 = nI x32 := fc_ne hf38 es26 (by omega)
                  refine lv_lload hx hb dSA_sampleBall_157 (lv_at hl 3 rfl) ?_
                  refine lv_iconst (v := nI 1) hx hb dSA_sampleBall_159 (by decide) ?_
                  refine lv_lushr hx hb dSA_sampleBall_160 rfl ?_
                  refine ml_eqv (fun y26 ez25 => ?_)
                  replace hR := bnd_step hR ez25
                  refine lv_lstore (lv' := [(4, .long y26), (8, .int (nI i23)), (7, .int (nI fl21)), (6, .int (nI i22)), (0, .ref h0), (2, .ref f)]) hx hb dSA_sampleBall_161 hl (by decide) rfl (fun ls hl => ?_)
                  refine mi_iinc (k := 3) (x := i22) (d := 1) (y := i22 + 1) (lv' := [(6, .int (nI (i22 + 1))), (4, .long y26), (8, .int (nI i23)), (7, .int (nI fl21)), (0, .ref h0), (2, .ref f)]) hx hb dSA_sampleBall_163 hl rfl (by decide) rfl (by decide) rfl (fun ls hl => ?_)
                  refine lv_goto (tgt := 81) hx hb dSA_sampleBall_166 (by decide) ?_
                  exact ih22 (i22 + 1) y26 s33 ps23 pl ls H locs (by omega) (by omega) (by omega) hF hf41 (by have h9 := hf42; rw [show x32 = x28 by omega] at h9; exact h9) hR (lv_sub hl [0, 1, 4, 5] rfl) hO hP hD hS
            | succ n23 ih23 =>
              intro i23 fl21 s27 ps23 pl ls H locs hm23 hi24 hi25 hF hf43 hf44 hR hl hO hP hD hS
              refine lv_iload hx hb dSA_sampleBall_101 (lv_at hl 1 rfl) ?_
              refine lv_iload hx hb dSA_sampleBall_103 (lv_at hl 2 rfl) ?_
              refine mi_le (tgt := 130) hx hb dSA_sampleBall_105 (by decide) (by omega) (by omega) (fun h28 => ?_) (fun h28 => ?_)
              · replace hR := hR.trans (if_pos h28)
                refine lv_aload_n hx hb dSA_sampleBall_130 rfl (lv_at hl 5 rfl) ?_
                refine lv_iload hx hb dSA_sampleBall_131 (lv_at hl 2 rfl) ?_
                refine lv_aload_n hx hb dSA_sampleBall_133 rfl (lv_at hl 5 rfl) ?_
                refine lv_iload hx hb dSA_sampleBall_134 (lv_at hl 1 rfl) ?_
                refine nw_iald hx hb hK hO k_f (k := pf) n_f hP (by omega) (by omega) dSA_sampleBall_136 ?_
                refine nw_iast hx hb hK hO hU k_f (k := pf) n_f hP hD hS (by omega) (by omega) dSA_sampleBall_137 (fun s34 pl H locs es27 hO hP hD hS => ?_)
                replace hR := bnd_step hR es27
                have hF := frm_sI hF es27 (by unfold M_SA_sampleBall_2; omega)
                have hf45 : s34.1 18 3 = nI ps23 := fc_ne hf43 es27 (by omega)
                have hf46 : s34.1 18 1 = nI x32 := fc_ne hf44 es27 (by omega)
                refine lv_aload_n hx hb dSA_sampleBall_138 rfl (lv_at hl 5 rfl) ?_
                refine lv_iload hx hb dSA_sampleBall_139 (lv_at hl 1 rfl) ?_
                refine lv_lload hx hb dSA_sampleBall_141 (lv_at hl 3 rfl) ?_
                refine lv_lconst (v := 1) hx hb dSA_sampleBall_143 (by decide) ?_
                refine lv_land hx hb dSA_sampleBall_144 ?_
                refine lv_lconst (v := 0) hx hb dSA_sampleBall_145 (by decide) ?_
                refine W.lcmp hx hb dSA_sampleBall_146 ?_
                refine lv_if_ne (tgt := 154) hx hb dSA_sampleBall_147 (by decide) (fun h29 => ?_) (fun h29 => ?_)
                · replace hR := hR.trans (if_neg h29)
                  refine lv_ldc (v := 8380416) hx hb hown (hts _ (wg_t kw_1219)) dSA_sampleBall_154 ?_
                  refine mi_as (show (8380416 : Int32) = nI 8380416 by decide) ?_
                  refine nw_iast hx hb hK hO hU k_f (k := pf) n_f hP hD hS (by omega) (by omega) dSA_sampleBall_156 (fun s35 pl H locs es28 hO hP hD hS => ?_)
                  replace hR := bnd_step hR es28
                  have hF := frm_sI hF es28 (by unfold M_SA_sampleBall_2; omega)
                  have hf47 : s35.1 18 3 = nI ps23 := fc_ne hf45 es28 (by omega)
                  have hf48 : s35.1 18 1 = nI x32 := fc_ne hf46 es28 (by omega)
                  refine lv_lload hx hb dSA_sampleBall_157 (lv_at hl 3 rfl) ?_
                  refine lv_iconst (v := nI 1) hx hb dSA_sampleBall_159 (by decide) ?_
                  refine lv_lushr hx hb dSA_sampleBall_160 rfl ?_
                  refine ml_eqv (fun y27 ez26 => ?_)
                  replace hR := bnd_step hR ez26
                  refine lv_lstore (lv' := [(4, .long y27), (8, .int (nI i23)), (7, .int (nI fl21)), (6, .int (nI i22)), (0, .ref h0), (2, .ref f)]) hx hb dSA_sampleBall_161 hl (by decide) rfl (fun ls hl => ?_)
                  refine mi_iinc (k := 3) (x := i22) (d := 1) (y := i22 + 1) (lv' := [(6, .int (nI (i22 + 1))), (4, .long y27), (8, .int (nI i23)), (7, .int (nI fl21)), (0, .ref h0), (2, .ref f)]) hx hb dSA_sampleBall_163 hl rfl (by decide) rfl (by decide) rfl (fun ls hl => ?_)
                  refine lv_goto (tgt := 81) hx hb dSA_sampleBall_166 (by decide) ?_
                  exact ih22 (i22 + 1) y27 s35 ps23 pl ls H locs (by omega) (by omega) (by omega) hF hf47 (by have h9 := hf48; rw [show x32 = x28 by omega] at h9; exact h9) hR (lv_sub hl [0, 1, 4, 5] rfl) hO hP hD hS
                · replace hR := hR.trans (if_pos h29)
                  refine lv_iconst (v := nI 1) hx hb dSA_sampleBall_150 (by decide) ?_
                  refine lv_goto (tgt := 156) hx hb dSA_sampleBall_151 (by decide) ?_
                  refine nw_iast hx hb hK hO hU k_f (k := pf) n_f hP hD hS (by omega) (by omega) dSA_sampleBall_156 (fun s36 pl H locs es29 hO hP hD hS => ?_)
                  replace hR := bnd_step hR es29
                  have hF := frm_sI hF es29 (by unfold M_SA_sampleBall_2; omega)
                  have hf49 : s36.1 18 3 = nI ps23 := fc_ne hf45 es29 (by omega)
                  have hf50 : s36.1 18 1 = nI x32 := fc_ne hf46 es29 (by omega)
                  refine lv_lload hx hb dSA_sampleBall_157 (lv_at hl 3 rfl) ?_
                  refine lv_iconst (v := nI 1) hx hb dSA_sampleBall_159 (by decide) ?_
                  refine lv_lushr hx hb dSA_sampleBall_160 rfl ?_
                  refine ml_eqv (fun y28 ez27 => ?_)
                  replace hR := bnd_step hR ez27
                  refine lv_lstore (lv' := [(4, .long y28), (8, .int (nI i23)), (7, .int (nI fl21)), (6, .int (nI i22)), (0, .ref h0), (2, .ref f)]) hx hb dSA_sampleBall_161 hl (by decide) rfl (fun ls hl => ?_)
                  refine mi_iinc (k := 3) (x := i22) (d := 1) (y := i22 + 1) (lv' := [(6, .int (nI (i22 + 1))), (4, .long y28), (8, .int (nI i23)), (7, .int (nI fl21)), (0, .ref h0), (2, .ref f)]) hx hb dSA_sampleBall_163 hl rfl (by decide) rfl (by decide) rfl (fun ls hl => ?_)
                  refine lv_goto (tgt := 81) hx hb dSA_sampleBall_166 (by decide) ?_
                  exact ih22 (i22 + 1) y28 s36 ps23 pl ls H locs (by omega) (by omega) (by omega) hF hf49 (by have h9 := hf50; rw [show x32 = x28 by omega] at h9; exact h9) hR (lv_sub hl [0, 1, 4, 5] rfl) hO hP hD hS
              · replace hR := hR.trans (if_neg (Nat.not_le.mpr h28))
                refine lv_iload hx hb dSA_sampleBall_108 (lv_at hl 0 rfl) ?_
                refine lv_ldc (v := 1000000) hx hb hown (hts _ (wg_t kw_691)) dSA_sampleBall_110 ?_
                refine mi_as (show (1000000 : Int32) = nI 1000000 by decide) ?_
                refine mi_ge (tgt := 130) hx hb dSA_sampleBall_112 (by decide) (by omega) (by omega) (fun h30 => absurd h30 (by omega)) (fun h30 => ?_)
                refine lv_aload_n hx hb dSA_sampleBall_115 rfl (lv_at hl 4 rfl) ?_
                refine nw_get (C := "LatticeKeys$DsaSampler") (TT := T_SA) (N := 2) hx hb hts (wg_ft i_SA) hown hK hO k_h0 (kn := 37) (ci := 7) (fl := [(3, 18), (3, 38)]) rfl hP rfl 0 (by decide) (hts _ (wg_t kw_157)) (fun _ h9 => h9) (cd := (3, 18)) rfl dSA_sampleBall_116 (fun v27 hv27 => ?_)
                obtain ⟨r26, rfl, kr25⟩ := (show ∃ r : Nat, v27 = .ref r ∧ T r = some 18 from hv27)
                refine mp_i (cx := []) (wr := []) hP hD hS hA [] [] rfl rfl rfl (by decide) (va_runV (As := []) (rest := []) F (N_SP_nextByte l g _ T s27 pl hO hU r26 18 19 ps23 x32 kr25 rfl rfl hf43 hf44 (by omega) (by omega)) (cwV 0 hts (wg_app (wg_c kw_692 (wg_c kw_619 (wg_c kw_620 (wg_c kw_2 wg_n)))) kw_621) rfl rfl rfl (by decide +kernel) ⟨by decide, by decide⟩) (pn_W "LatticeKeys$Sponge" (en_ok g) (ci := 3) (kn := 18) (fl := [(3, 19), (0, 0), (0, 0), (0, 0)]) hK hO kr25 rfl hP hD hS hA hE [] rfl rfl rfl) rfl rfl hl.1 rfl (lv_room (Nat.le_of_ble_eq_true rfl)) dSA_sampleBall_119 ⟨by omega, by omega⟩) (fun r27 u26 H locs hu26 hP hD hS => ?_)
                obtain ⟨q22, pl⟩ := u26
                obtain ⟨⟨eq26, rfl, hFc26, ⟨x36, hx_36, hb_36⟩, ⟨x34, hx_34, hb_34⟩, ⟨x35, hx_35, hb_35⟩, -⟩, hO⟩ := hu26
                have hO : okn g T q22.2 pl := hO
                have hP : va_P g.1 vcl ([] ++ pl) _ := hP
                have hD : va_D _ ([] ++ pl) := hD
                have hFc26 : frm (M_SP_nextByte 18) s27 q22.2 := hFc26
                have hb_34 : x34 ≤ x32 := hb_34
                have hb_35 : x35 = x32 := hb_35
                have hb_36 : x36 < 256 := hb_36
                replace hR := bnd_step hR eq26
                have hF := frm_tr hF hFc26 (fun k hk => by unfold M_SP_nextByte at hk; unfold M_SA_sampleBall_2; omega)
                obtain ⟨z22, ez28, hz23, hz24⟩ := cl_of (b := 2147483648) hx_36 (by omega) (by decide)
                replace hR := bnd_step hR ez28
                refine mi_as hz23 ?_
                refine W.widen (k := 0) (n := 0) (by omega) (by omega) ?_
                refine lv_istore (lv' := [(7, .int (nI z22)), (8, .int (nI i23)), (6, .int (nI i22)), (4, .long y22), (0, .ref h0), (2, .ref f)]) hx hb dSA_sampleBall_122 hl (by decide) rfl (fun ls hl => ?_)
                refine mi_iinc (k := 1) (x := i23) (d := 1) (y := i23 + 1) (lv' := [(8, .int (nI (i23 + 1))), (7, .int (nI z22)), (6, .int (nI i22)), (4, .long y22), (0, .ref h0), (2, .ref f)]) hx hb dSA_sampleBall_124 hl rfl (by decide) rfl (by decide) rfl (fun ls hl => ?_)
                refine lv_goto (tgt := 101) hx hb dSA_sampleBall_127 (by decide) ?_
                exact ih23 (i23 + 1) z22 q22.2 x34 pl ls H locs (by omega) (by omega) (by omega) hF hx_34 (by have h9 := hx_35; rw [show x35 = x32 by omega] at h9; exact h9) hR (lv_sub hl [0, 1, 2, 3, 4, 5] rfl) hO hP hD hS
          exact lp23 1000000 0 z21 q21.2 x31 pl ls _ _ (by omega) (by omega) (by omega) hF hx_31 hx_32 hR (lv_sub hl [0, 1, 2, 3, 4, 5] rfl) hO hP hD hS
      exact lp22 (256 - 196) 196 y21 s25 ps21 pl ls _ _ (by omega) (by omega) (by omega) hF hf23 hf24 hR (lv_sub hl [0, 1, 2, 4] rfl) hO hP hD hS
    | succ n21 ih21 =>
      intro i21 y21 s24 ps21 pl ls H locs hm21 hi21 hF hf51 hf52 hR hl hO hP hD hS
      refine lv_iload hx hb dSA_sampleBall_34 (lv_at hl 0 rfl) ?_
      refine lv_bipush (v := nI 8) hx hb dSA_sampleBall_36 (by decide) ?_
      refine mi_ge (tgt := 66) hx hb dSA_sampleBall_38 (by decide) (by omega) (by omega) (fun h31 => absurd h31 (by omega)) (fun h31 => ?_)
      refine lv_lload hx hb dSA_sampleBall_41 (lv_at hl 1 rfl) ?_
      refine lv_aload_n hx hb dSA_sampleBall_43 rfl (lv_at hl 2 rfl) ?_
      refine nw_get (C := "LatticeKeys$DsaSampler") (TT := T_SA) (N := 2) hx hb hts (wg_ft i_SA) hown hK hO k_h0 (kn := 37) (ci := 7) (fl := [(3, 18), (3, 38)]) rfl hP rfl 0 (by decide) (hts _ (wg_t kw_157)) (fun _ h9 => h9) (cd := (3, 18)) rfl dSA_sampleBall_44 (fun v28 hv28 => ?_)
      obtain ⟨r28, rfl, kr26⟩ := (show ∃ r : Nat, v28 = .ref r ∧ T r = some 18 from hv28)
      refine mp_i (cx := []) (wr := []) hP hD hS hA [] [] rfl rfl rfl (by decide) (va_runV (As := []) (rest := [.long y21]) F (N_SP_nextByte l g _ T s24 pl hO hU r28 18 19 ps21 x28 kr26 rfl rfl hf51 hf52 (by omega) (by omega)) (cwV 0 hts (wg_app (wg_c kw_692 (wg_c kw_619 (wg_c kw_620 (wg_c kw_2 wg_n)))) kw_621) rfl rfl rfl (by decide +kernel) ⟨by decide, by decide⟩) (pn_W "LatticeKeys$Sponge" (en_ok g) (ci := 3) (kn := 18) (fl := [(3, 19), (0, 0), (0, 0), (0, 0)]) hK hO kr26 rfl hP hD hS hA hE [] rfl rfl rfl) rfl rfl hl.1 rfl (lv_room (Nat.le_of_ble_eq_true rfl)) dSA_sampleBall_47 ⟨by omega, by omega⟩) (fun r29 u27 H locs hu27 hP hD hS => ?_)
      obtain ⟨q23, pl⟩ := u27
      obtain ⟨⟨eq27, rfl, hFc27, ⟨x39, hx_39, hb_39⟩, ⟨x37, hx_37, hb_37⟩, ⟨x38, hx_38, hb_38⟩, -⟩, hO⟩ := hu27
      have hO : okn g T q23.2 pl := hO
      have hP : va_P g.1 vcl ([] ++ pl) _ := hP
      have hD : va_D _ ([] ++ pl) := hD
      have hFc27 : frm (M_SP_nextByte 18) s24 q23.2 := hFc27
      have hb_37 : x37 ≤ x28 := hb_37
      have hb_38 : x38 = x28 := hb_38
      have hb_39 : x39 < 256 := hb_39
      replace hR := bnd_step hR eq27
      have hF := frm_tr hF hFc27 (fun k hk => by unfold M_SP_nextByte at hk; unfold M_SA_sampleBall_2; omega)
      obtain ⟨z23, ez29, hz25, hz26⟩ := cl_of (b := 2147483648) hx_39 (by omega) (by decide)
      replace hR := bnd_step hR ez29
      refine mi_as hz25 ?_
      refine W.widen (k := 0) (n := 0) (by omega) (by omega) ?_
      refine lv_i2l hx hb dSA_sampleBall_50 rfl ?_
      refine lv_bipush (v := nI 8) hx hb dSA_sampleBall_51 (by decide) ?_
      refine lv_iload hx hb dSA_sampleBall_53 (lv_at hl 0 rfl) ?_
      refine mi_imul hx hb dSA_sampleBall_55 ?_
      refine lv_lshl hx hb dSA_sampleBall_56 rfl ?_
      refine lv_lor hx hb dSA_sampleBall_57 ?_
      refine ml_eqv (fun y29 ez30 => ?_)
      replace hR := bnd_step hR ez30
      refine lv_lstore (lv' := [(4, .long y29), (6, .int (nI i21)), (0, .ref h0), (1, .ref st), (2, .ref f)]) hx hb dSA_sampleBall_58 hl (by decide) rfl (fun ls hl => ?_)
      refine mi_iinc (k := 1) (x := i21) (d := 1) (y := i21 + 1) (lv' := [(6, .int (nI (i21 + 1))), (4, .long y29), (0, .ref h0), (1, .ref st), (2, .ref f)]) hx hb dSA_sampleBall_60 hl rfl (by decide) rfl (by decide) rfl (fun ls hl => ?_)
      refine lv_goto (tgt := 34) hx hb dSA_sampleBall_63 (by decide) ?_
      exact ih21 (i21 + 1) y29 q23.2 x37 pl ls H locs (by omega) (by omega) hF hx_37 (by have h9 := hx_38; rw [show x38 = x28 by omega] at h9; exact h9) hR (lv_sub hl [0, 1, 2, 3, 4] rfl) hO hP hD hS
  exact lp21 8 0 0 s23 x27 pl ls _ _ (by omega) (by omega) hF hx_27 hx_28 hR (lv_sub hl [0, 1, 2, 3, 4] rfl) hO hP hD hS
