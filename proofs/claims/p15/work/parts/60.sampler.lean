abbrev c_SA_startNumbered : ByteArray := prog_4_method_7_code
abbrev y_SA_startNumbered : MethodName := ⟨"LatticeKeys$DsaSampler", "startNumbered", "([BII)V"⟩
abbrev w_SA_startNumbered : List Cond := Cond.code y_SA_startNumbered c_SA_startNumbered 4 none :: WG
theorem dSA_startNumbered_0 : decode c_SA_startNumbered 0 = .ok (.aload_n 0, 1) := by decide +kernel
theorem dSA_startNumbered_1 : decode c_SA_startNumbered 1 = .ok (.getfield 10, 3) := by decide +kernel
theorem dSA_startNumbered_4 : decode c_SA_startNumbered 4 = .ok (.iconst 3, 1) := by decide +kernel
theorem dSA_startNumbered_5 : decode c_SA_startNumbered 5 = .ok (.invokevirtual 33, 3) := by decide +kernel
theorem dSA_startNumbered_8 : decode c_SA_startNumbered 8 = .ok (.aload_n 0, 1) := by decide +kernel
theorem dSA_startNumbered_9 : decode c_SA_startNumbered 9 = .ok (.getfield 10, 3) := by decide +kernel
theorem dSA_startNumbered_12 : decode c_SA_startNumbered 12 = .ok (.aload_n 1, 1) := by decide +kernel
theorem dSA_startNumbered_13 : decode c_SA_startNumbered 13 = .ok (.iload_n 2, 1) := by decide +kernel
theorem dSA_startNumbered_14 : decode c_SA_startNumbered 14 = .ok (.bipush 64, 2) := by decide +kernel
theorem dSA_startNumbered_16 : decode c_SA_startNumbered 16 = .ok (.invokevirtual 37, 3) := by decide +kernel
theorem dSA_startNumbered_19 : decode c_SA_startNumbered 19 = .ok (.aload_n 0, 1) := by decide +kernel
theorem dSA_startNumbered_20 : decode c_SA_startNumbered 20 = .ok (.getfield 10, 3) := by decide +kernel
theorem dSA_startNumbered_23 : decode c_SA_startNumbered 23 = .ok (.iload_n 3, 1) := by decide +kernel
theorem dSA_startNumbered_24 : decode c_SA_startNumbered 24 = .ok (.invokevirtual 41, 3) := by decide +kernel
theorem dSA_startNumbered_27 : decode c_SA_startNumbered 27 = .ok (.aload_n 0, 1) := by decide +kernel
theorem dSA_startNumbered_28 : decode c_SA_startNumbered 28 = .ok (.getfield 10, 3) := by decide +kernel
theorem dSA_startNumbered_31 : decode c_SA_startNumbered 31 = .ok (.iload_n 3, 1) := by decide +kernel
theorem dSA_startNumbered_32 : decode c_SA_startNumbered 32 = .ok (.bipush 8, 2) := by decide +kernel
theorem dSA_startNumbered_34 : decode c_SA_startNumbered 34 = .ok (.ishr, 1) := by decide +kernel
theorem dSA_startNumbered_35 : decode c_SA_startNumbered 35 = .ok (.invokevirtual 41, 3) := by decide +kernel
theorem dSA_startNumbered_38 : decode c_SA_startNumbered 38 = .ok (.aload_n 0, 1) := by decide +kernel
theorem dSA_startNumbered_39 : decode c_SA_startNumbered 39 = .ok (.getfield 10, 3) := by decide +kernel
theorem dSA_startNumbered_42 : decode c_SA_startNumbered 42 = .ok (.invokevirtual 44, 3) := by decide +kernel
theorem dSA_startNumbered_45 : decode c_SA_startNumbered 45 = .ok (.return_, 1) := by decide +kernel
abbrev c_SA_sampleEntry : ByteArray := prog_4_method_3_code
abbrev y_SA_sampleEntry : MethodName := ⟨"LatticeKeys$DsaSampler", "sampleEntry", "([I[BII)V"⟩
abbrev w_SA_sampleEntry : List Cond := Cond.code y_SA_sampleEntry c_SA_sampleEntry 8 none :: WG
theorem dSA_sampleEntry_0 : decode c_SA_sampleEntry 0 = .ok (.aload_n 0, 1) := by decide +kernel
theorem dSA_sampleEntry_1 : decode c_SA_sampleEntry 1 = .ok (.getfield 10, 3) := by decide +kernel
theorem dSA_sampleEntry_4 : decode c_SA_sampleEntry 4 = .ok (.iconst 2, 1) := by decide +kernel
theorem dSA_sampleEntry_5 : decode c_SA_sampleEntry 5 = .ok (.invokevirtual 33, 3) := by decide +kernel
theorem dSA_sampleEntry_8 : decode c_SA_sampleEntry 8 = .ok (.aload_n 0, 1) := by decide +kernel
theorem dSA_sampleEntry_9 : decode c_SA_sampleEntry 9 = .ok (.getfield 10, 3) := by decide +kernel
theorem dSA_sampleEntry_12 : decode c_SA_sampleEntry 12 = .ok (.aload_n 2, 1) := by decide +kernel
theorem dSA_sampleEntry_13 : decode c_SA_sampleEntry 13 = .ok (.iconst 0, 1) := by decide +kernel
theorem dSA_sampleEntry_14 : decode c_SA_sampleEntry 14 = .ok (.bipush 32, 2) := by decide +kernel
theorem dSA_sampleEntry_16 : decode c_SA_sampleEntry 16 = .ok (.invokevirtual 37, 3) := by decide +kernel
theorem dSA_sampleEntry_19 : decode c_SA_sampleEntry 19 = .ok (.aload_n 0, 1) := by decide +kernel
theorem dSA_sampleEntry_20 : decode c_SA_sampleEntry 20 = .ok (.getfield 10, 3) := by decide +kernel
theorem dSA_sampleEntry_23 : decode c_SA_sampleEntry 23 = .ok (.iload_n 3, 1) := by decide +kernel
theorem dSA_sampleEntry_24 : decode c_SA_sampleEntry 24 = .ok (.invokevirtual 41, 3) := by decide +kernel
theorem dSA_sampleEntry_27 : decode c_SA_sampleEntry 27 = .ok (.aload_n 0, 1) := by decide +kernel
theorem dSA_sampleEntry_28 : decode c_SA_sampleEntry 28 = .ok (.getfield 10, 3) := by decide +kernel
theorem dSA_sampleEntry_31 : decode c_SA_sampleEntry 31 = .ok (.iload 4, 2) := by decide +kernel
theorem dSA_sampleEntry_33 : decode c_SA_sampleEntry 33 = .ok (.invokevirtual 41, 3) := by decide +kernel
theorem dSA_sampleEntry_36 : decode c_SA_sampleEntry 36 = .ok (.aload_n 0, 1) := by decide +kernel
theorem dSA_sampleEntry_37 : decode c_SA_sampleEntry 37 = .ok (.getfield 10, 3) := by decide +kernel
theorem dSA_sampleEntry_40 : decode c_SA_sampleEntry 40 = .ok (.invokevirtual 44, 3) := by decide +kernel
theorem dSA_sampleEntry_43 : decode c_SA_sampleEntry 43 = .ok (.iconst 0, 1) := by decide +kernel
theorem dSA_sampleEntry_44 : decode c_SA_sampleEntry 44 = .ok (.istore 5, 2) := by decide +kernel
theorem dSA_sampleEntry_46 : decode c_SA_sampleEntry 46 = .ok (.iconst 0, 1) := by decide +kernel
theorem dSA_sampleEntry_47 : decode c_SA_sampleEntry 47 = .ok (.istore 6, 2) := by decide +kernel
theorem dSA_sampleEntry_49 : decode c_SA_sampleEntry 49 = .ok (.iload 5, 2) := by decide +kernel
theorem dSA_sampleEntry_51 : decode c_SA_sampleEntry 51 = .ok (.sipush 256, 3) := by decide +kernel
theorem dSA_sampleEntry_54 : decode c_SA_sampleEntry 54 = .ok (.if_icmp .ge 74, 3) := by decide +kernel
theorem dSA_sampleEntry_57 : decode c_SA_sampleEntry 57 = .ok (.iload 6, 2) := by decide +kernel
theorem dSA_sampleEntry_59 : decode c_SA_sampleEntry 59 = .ok (.ldc 49, 2) := by decide +kernel
theorem dSA_sampleEntry_61 : decode c_SA_sampleEntry 61 = .ok (.if_icmp .ge 67, 3) := by decide +kernel
theorem dSA_sampleEntry_64 : decode c_SA_sampleEntry 64 = .ok (.aload_n 0, 1) := by decide +kernel
theorem dSA_sampleEntry_65 : decode c_SA_sampleEntry 65 = .ok (.getfield 10, 3) := by decide +kernel
theorem dSA_sampleEntry_68 : decode c_SA_sampleEntry 68 = .ok (.invokevirtual 50, 3) := by decide +kernel
theorem dSA_sampleEntry_71 : decode c_SA_sampleEntry 71 = .ok (.istore 7, 2) := by decide +kernel
theorem dSA_sampleEntry_73 : decode c_SA_sampleEntry 73 = .ok (.iload 7, 2) := by decide +kernel
theorem dSA_sampleEntry_75 : decode c_SA_sampleEntry 75 = .ok (.aload_n 0, 1) := by decide +kernel
theorem dSA_sampleEntry_76 : decode c_SA_sampleEntry 76 = .ok (.getfield 10, 3) := by decide +kernel
theorem dSA_sampleEntry_79 : decode c_SA_sampleEntry 79 = .ok (.invokevirtual 50, 3) := by decide +kernel
theorem dSA_sampleEntry_82 : decode c_SA_sampleEntry 82 = .ok (.bipush 8, 2) := by decide +kernel
theorem dSA_sampleEntry_84 : decode c_SA_sampleEntry 84 = .ok (.ishl, 1) := by decide +kernel
theorem dSA_sampleEntry_85 : decode c_SA_sampleEntry 85 = .ok (.ior, 1) := by decide +kernel
theorem dSA_sampleEntry_86 : decode c_SA_sampleEntry 86 = .ok (.istore 7, 2) := by decide +kernel
theorem dSA_sampleEntry_88 : decode c_SA_sampleEntry 88 = .ok (.iload 7, 2) := by decide +kernel
theorem dSA_sampleEntry_90 : decode c_SA_sampleEntry 90 = .ok (.aload_n 0, 1) := by decide +kernel
theorem dSA_sampleEntry_91 : decode c_SA_sampleEntry 91 = .ok (.getfield 10, 3) := by decide +kernel
theorem dSA_sampleEntry_94 : decode c_SA_sampleEntry 94 = .ok (.invokevirtual 50, 3) := by decide +kernel
theorem dSA_sampleEntry_97 : decode c_SA_sampleEntry 97 = .ok (.bipush 127, 2) := by decide +kernel
theorem dSA_sampleEntry_99 : decode c_SA_sampleEntry 99 = .ok (.iand, 1) := by decide +kernel
theorem dSA_sampleEntry_100 : decode c_SA_sampleEntry 100 = .ok (.bipush 16, 2) := by decide +kernel
theorem dSA_sampleEntry_102 : decode c_SA_sampleEntry 102 = .ok (.ishl, 1) := by decide +kernel
theorem dSA_sampleEntry_103 : decode c_SA_sampleEntry 103 = .ok (.ior, 1) := by decide +kernel
theorem dSA_sampleEntry_104 : decode c_SA_sampleEntry 104 = .ok (.istore 7, 2) := by decide +kernel
theorem dSA_sampleEntry_106 : decode c_SA_sampleEntry 106 = .ok (.iload 7, 2) := by decide +kernel
theorem dSA_sampleEntry_108 : decode c_SA_sampleEntry 108 = .ok (.ldc 56, 2) := by decide +kernel
theorem dSA_sampleEntry_110 : decode c_SA_sampleEntry 110 = .ok (.if_icmp .ge 12, 3) := by decide +kernel
theorem dSA_sampleEntry_113 : decode c_SA_sampleEntry 113 = .ok (.aload_n 1, 1) := by decide +kernel
theorem dSA_sampleEntry_114 : decode c_SA_sampleEntry 114 = .ok (.iload 5, 2) := by decide +kernel
theorem dSA_sampleEntry_116 : decode c_SA_sampleEntry 116 = .ok (.iload 7, 2) := by decide +kernel
theorem dSA_sampleEntry_118 : decode c_SA_sampleEntry 118 = .ok (.iastore, 1) := by decide +kernel
theorem dSA_sampleEntry_119 : decode c_SA_sampleEntry 119 = .ok (.iinc 5 1, 3) := by decide +kernel
theorem dSA_sampleEntry_122 : decode c_SA_sampleEntry 122 = .ok (.iinc 6 1, 3) := by decide +kernel
theorem dSA_sampleEntry_125 : decode c_SA_sampleEntry 125 = .ok (.goto (-76), 3) := by decide +kernel
theorem dSA_sampleEntry_128 : decode c_SA_sampleEntry 128 = .ok (.return_, 1) := by decide +kernel
abbrev c_SA_expandMatrix : ByteArray := prog_4_method_2_code
abbrev y_SA_expandMatrix : MethodName := ⟨"LatticeKeys$DsaSampler", "expandMatrix", "(LLatticeKeys$DsaSet;[B[[I)V"⟩
abbrev w_SA_expandMatrix : List Cond := Cond.code y_SA_expandMatrix c_SA_expandMatrix 6 none :: WG
theorem dSA_expandMatrix_0 : decode c_SA_expandMatrix 0 = .ok (.iconst 0, 1) := by decide +kernel
theorem dSA_expandMatrix_1 : decode c_SA_expandMatrix 1 = .ok (.istore 4, 2) := by decide +kernel
theorem dSA_expandMatrix_3 : decode c_SA_expandMatrix 3 = .ok (.iload 4, 2) := by decide +kernel
theorem dSA_expandMatrix_5 : decode c_SA_expandMatrix 5 = .ok (.aload_n 1, 1) := by decide +kernel
theorem dSA_expandMatrix_6 : decode c_SA_expandMatrix 6 = .ok (.getfield 20, 3) := by decide +kernel
theorem dSA_expandMatrix_9 : decode c_SA_expandMatrix 9 = .ok (.if_icmp .ge 48, 3) := by decide +kernel
theorem dSA_expandMatrix_12 : decode c_SA_expandMatrix 12 = .ok (.iconst 0, 1) := by decide +kernel
theorem dSA_expandMatrix_13 : decode c_SA_expandMatrix 13 = .ok (.istore 5, 2) := by decide +kernel
theorem dSA_expandMatrix_15 : decode c_SA_expandMatrix 15 = .ok (.iload 5, 2) := by decide +kernel
theorem dSA_expandMatrix_17 : decode c_SA_expandMatrix 17 = .ok (.aload_n 1, 1) := by decide +kernel
theorem dSA_expandMatrix_18 : decode c_SA_expandMatrix 18 = .ok (.getfield 26, 3) := by decide +kernel
theorem dSA_expandMatrix_21 : decode c_SA_expandMatrix 21 = .ok (.if_icmp .ge 30, 3) := by decide +kernel
theorem dSA_expandMatrix_24 : decode c_SA_expandMatrix 24 = .ok (.aload_n 0, 1) := by decide +kernel
theorem dSA_expandMatrix_25 : decode c_SA_expandMatrix 25 = .ok (.aload_n 3, 1) := by decide +kernel
theorem dSA_expandMatrix_26 : decode c_SA_expandMatrix 26 = .ok (.aload_n 1, 1) := by decide +kernel
theorem dSA_expandMatrix_27 : decode c_SA_expandMatrix 27 = .ok (.getfield 26, 3) := by decide +kernel
theorem dSA_expandMatrix_30 : decode c_SA_expandMatrix 30 = .ok (.iload 4, 2) := by decide +kernel
theorem dSA_expandMatrix_32 : decode c_SA_expandMatrix 32 = .ok (.imul, 1) := by decide +kernel
theorem dSA_expandMatrix_33 : decode c_SA_expandMatrix 33 = .ok (.iload 5, 2) := by decide +kernel
theorem dSA_expandMatrix_35 : decode c_SA_expandMatrix 35 = .ok (.iadd, 1) := by decide +kernel
theorem dSA_expandMatrix_36 : decode c_SA_expandMatrix 36 = .ok (.aaload, 1) := by decide +kernel
theorem dSA_expandMatrix_37 : decode c_SA_expandMatrix 37 = .ok (.aload_n 2, 1) := by decide +kernel
theorem dSA_expandMatrix_38 : decode c_SA_expandMatrix 38 = .ok (.iload 5, 2) := by decide +kernel
theorem dSA_expandMatrix_40 : decode c_SA_expandMatrix 40 = .ok (.iload 4, 2) := by decide +kernel
theorem dSA_expandMatrix_42 : decode c_SA_expandMatrix 42 = .ok (.invokevirtual 29, 3) := by decide +kernel
theorem dSA_expandMatrix_45 : decode c_SA_expandMatrix 45 = .ok (.iinc 5 1, 3) := by decide +kernel
theorem dSA_expandMatrix_48 : decode c_SA_expandMatrix 48 = .ok (.goto (-33), 3) := by decide +kernel
theorem dSA_expandMatrix_51 : decode c_SA_expandMatrix 51 = .ok (.iinc 4 1, 3) := by decide +kernel
theorem dSA_expandMatrix_54 : decode c_SA_expandMatrix 54 = .ok (.goto (-51), 3) := by decide +kernel
theorem dSA_expandMatrix_57 : decode c_SA_expandMatrix 57 = .ok (.return_, 1) := by decide +kernel
abbrev c_SA_putSmall : ByteArray := prog_4_method_5_code
abbrev y_SA_putSmall : MethodName := ⟨"LatticeKeys$DsaSampler", "putSmall", "(I[III)I"⟩
abbrev w_SA_putSmall : List Cond := Cond.code y_SA_putSmall c_SA_putSmall 7 (some .int) :: WG
theorem dSA_putSmall_0 : decode c_SA_putSmall 0 = .ok (.iload_n 1, 1) := by decide +kernel
theorem dSA_putSmall_1 : decode c_SA_putSmall 1 = .ok (.iconst 2, 1) := by decide +kernel
theorem dSA_putSmall_2 : decode c_SA_putSmall 2 = .ok (.if_icmp .ne 8, 3) := by decide +kernel
theorem dSA_putSmall_5 : decode c_SA_putSmall 5 = .ok (.bipush 15, 2) := by decide +kernel
theorem dSA_putSmall_7 : decode c_SA_putSmall 7 = .ok (.goto 5, 3) := by decide +kernel
theorem dSA_putSmall_10 : decode c_SA_putSmall 10 = .ok (.bipush 9, 2) := by decide +kernel
theorem dSA_putSmall_12 : decode c_SA_putSmall 12 = .ok (.istore 5, 2) := by decide +kernel
theorem dSA_putSmall_14 : decode c_SA_putSmall 14 = .ok (.iload 4, 2) := by decide +kernel
theorem dSA_putSmall_16 : decode c_SA_putSmall 16 = .ok (.iload 5, 2) := by decide +kernel
theorem dSA_putSmall_18 : decode c_SA_putSmall 18 = .ok (.if_icmp .ge 10, 3) := by decide +kernel
theorem dSA_putSmall_21 : decode c_SA_putSmall 21 = .ok (.iload_n 3, 1) := by decide +kernel
theorem dSA_putSmall_22 : decode c_SA_putSmall 22 = .ok (.sipush 256, 3) := by decide +kernel
theorem dSA_putSmall_25 : decode c_SA_putSmall 25 = .ok (.if_icmp .lt 5, 3) := by decide +kernel
theorem dSA_putSmall_28 : decode c_SA_putSmall 28 = .ok (.iload_n 3, 1) := by decide +kernel
theorem dSA_putSmall_29 : decode c_SA_putSmall 29 = .ok (.ireturn, 1) := by decide +kernel
theorem dSA_putSmall_30 : decode c_SA_putSmall 30 = .ok (.iload_n 1, 1) := by decide +kernel
theorem dSA_putSmall_31 : decode c_SA_putSmall 31 = .ok (.iload_n 1, 1) := by decide +kernel
theorem dSA_putSmall_32 : decode c_SA_putSmall 32 = .ok (.iconst 2, 1) := by decide +kernel
theorem dSA_putSmall_33 : decode c_SA_putSmall 33 = .ok (.if_icmp .ne 10, 3) := by decide +kernel
theorem dSA_putSmall_36 : decode c_SA_putSmall 36 = .ok (.iload 4, 2) := by decide +kernel
theorem dSA_putSmall_38 : decode c_SA_putSmall 38 = .ok (.iconst 5, 1) := by decide +kernel
theorem dSA_putSmall_39 : decode c_SA_putSmall 39 = .ok (.irem, 1) := by decide +kernel
theorem dSA_putSmall_40 : decode c_SA_putSmall 40 = .ok (.goto 5, 3) := by decide +kernel
theorem dSA_putSmall_43 : decode c_SA_putSmall 43 = .ok (.iload 4, 2) := by decide +kernel
theorem dSA_putSmall_45 : decode c_SA_putSmall 45 = .ok (.isub, 1) := by decide +kernel
theorem dSA_putSmall_46 : decode c_SA_putSmall 46 = .ok (.istore 6, 2) := by decide +kernel
theorem dSA_putSmall_48 : decode c_SA_putSmall 48 = .ok (.aload_n 2, 1) := by decide +kernel
theorem dSA_putSmall_49 : decode c_SA_putSmall 49 = .ok (.iload_n 3, 1) := by decide +kernel
theorem dSA_putSmall_50 : decode c_SA_putSmall 50 = .ok (.iload 6, 2) := by decide +kernel
theorem dSA_putSmall_52 : decode c_SA_putSmall 52 = .ok (.ifCond .ge 11, 3) := by decide +kernel
theorem dSA_putSmall_55 : decode c_SA_putSmall 55 = .ok (.iload 6, 2) := by decide +kernel
theorem dSA_putSmall_57 : decode c_SA_putSmall 57 = .ok (.ldc 56, 2) := by decide +kernel
theorem dSA_putSmall_59 : decode c_SA_putSmall 59 = .ok (.iadd, 1) := by decide +kernel
theorem dSA_putSmall_60 : decode c_SA_putSmall 60 = .ok (.goto 5, 3) := by decide +kernel
theorem dSA_putSmall_63 : decode c_SA_putSmall 63 = .ok (.iload 6, 2) := by decide +kernel
theorem dSA_putSmall_65 : decode c_SA_putSmall 65 = .ok (.iastore, 1) := by decide +kernel
theorem dSA_putSmall_66 : decode c_SA_putSmall 66 = .ok (.iload_n 3, 1) := by decide +kernel
theorem dSA_putSmall_67 : decode c_SA_putSmall 67 = .ok (.iconst 1, 1) := by decide +kernel
theorem dSA_putSmall_68 : decode c_SA_putSmall 68 = .ok (.iadd, 1) := by decide +kernel
theorem dSA_putSmall_69 : decode c_SA_putSmall 69 = .ok (.ireturn, 1) := by decide +kernel
abbrev c_SA_sampleSmall : ByteArray := prog_4_method_4_code
abbrev y_SA_sampleSmall : MethodName := ⟨"LatticeKeys$DsaSampler", "sampleSmall", "(LLatticeKeys$DsaSet;[I[BII)V"⟩
abbrev w_SA_sampleSmall : List Cond := Cond.code y_SA_sampleSmall c_SA_sampleSmall 9 none :: WG
theorem dSA_sampleSmall_0 : decode c_SA_sampleSmall 0 = .ok (.aload_n 0, 1) := by decide +kernel
theorem dSA_sampleSmall_1 : decode c_SA_sampleSmall 1 = .ok (.aload_n 3, 1) := by decide +kernel
theorem dSA_sampleSmall_2 : decode c_SA_sampleSmall 2 = .ok (.iload 4, 2) := by decide +kernel
theorem dSA_sampleSmall_4 : decode c_SA_sampleSmall 4 = .ok (.iload 5, 2) := by decide +kernel
theorem dSA_sampleSmall_6 : decode c_SA_sampleSmall 6 = .ok (.invokevirtual 57, 3) := by decide +kernel
theorem dSA_sampleSmall_9 : decode c_SA_sampleSmall 9 = .ok (.iconst 0, 1) := by decide +kernel
theorem dSA_sampleSmall_10 : decode c_SA_sampleSmall 10 = .ok (.istore 6, 2) := by decide +kernel
theorem dSA_sampleSmall_12 : decode c_SA_sampleSmall 12 = .ok (.iconst 0, 1) := by decide +kernel
theorem dSA_sampleSmall_13 : decode c_SA_sampleSmall 13 = .ok (.istore 7, 2) := by decide +kernel
theorem dSA_sampleSmall_15 : decode c_SA_sampleSmall 15 = .ok (.iload 6, 2) := by decide +kernel
theorem dSA_sampleSmall_17 : decode c_SA_sampleSmall 17 = .ok (.sipush 256, 3) := by decide +kernel
theorem dSA_sampleSmall_20 : decode c_SA_sampleSmall 20 = .ok (.if_icmp .ge 60, 3) := by decide +kernel
theorem dSA_sampleSmall_23 : decode c_SA_sampleSmall 23 = .ok (.iload 7, 2) := by decide +kernel
theorem dSA_sampleSmall_25 : decode c_SA_sampleSmall 25 = .ok (.ldc 49, 2) := by decide +kernel
theorem dSA_sampleSmall_27 : decode c_SA_sampleSmall 27 = .ok (.if_icmp .ge 53, 3) := by decide +kernel
theorem dSA_sampleSmall_30 : decode c_SA_sampleSmall 30 = .ok (.aload_n 0, 1) := by decide +kernel
theorem dSA_sampleSmall_31 : decode c_SA_sampleSmall 31 = .ok (.getfield 10, 3) := by decide +kernel
theorem dSA_sampleSmall_34 : decode c_SA_sampleSmall 34 = .ok (.invokevirtual 50, 3) := by decide +kernel
theorem dSA_sampleSmall_37 : decode c_SA_sampleSmall 37 = .ok (.istore 8, 2) := by decide +kernel
theorem dSA_sampleSmall_39 : decode c_SA_sampleSmall 39 = .ok (.aload_n 0, 1) := by decide +kernel
theorem dSA_sampleSmall_40 : decode c_SA_sampleSmall 40 = .ok (.aload_n 1, 1) := by decide +kernel
theorem dSA_sampleSmall_41 : decode c_SA_sampleSmall 41 = .ok (.getfield 60, 3) := by decide +kernel
theorem dSA_sampleSmall_44 : decode c_SA_sampleSmall 44 = .ok (.aload_n 2, 1) := by decide +kernel
theorem dSA_sampleSmall_45 : decode c_SA_sampleSmall 45 = .ok (.iload 6, 2) := by decide +kernel
theorem dSA_sampleSmall_47 : decode c_SA_sampleSmall 47 = .ok (.iload 8, 2) := by decide +kernel
theorem dSA_sampleSmall_49 : decode c_SA_sampleSmall 49 = .ok (.bipush 15, 2) := by decide +kernel
theorem dSA_sampleSmall_51 : decode c_SA_sampleSmall 51 = .ok (.iand, 1) := by decide +kernel
theorem dSA_sampleSmall_52 : decode c_SA_sampleSmall 52 = .ok (.invokevirtual 63, 3) := by decide +kernel
theorem dSA_sampleSmall_55 : decode c_SA_sampleSmall 55 = .ok (.istore 6, 2) := by decide +kernel
theorem dSA_sampleSmall_57 : decode c_SA_sampleSmall 57 = .ok (.aload_n 0, 1) := by decide +kernel
theorem dSA_sampleSmall_58 : decode c_SA_sampleSmall 58 = .ok (.aload_n 1, 1) := by decide +kernel
theorem dSA_sampleSmall_59 : decode c_SA_sampleSmall 59 = .ok (.getfield 60, 3) := by decide +kernel
theorem dSA_sampleSmall_62 : decode c_SA_sampleSmall 62 = .ok (.aload_n 2, 1) := by decide +kernel
theorem dSA_sampleSmall_63 : decode c_SA_sampleSmall 63 = .ok (.iload 6, 2) := by decide +kernel
theorem dSA_sampleSmall_65 : decode c_SA_sampleSmall 65 = .ok (.iload 8, 2) := by decide +kernel
theorem dSA_sampleSmall_67 : decode c_SA_sampleSmall 67 = .ok (.iconst 4, 1) := by decide +kernel
theorem dSA_sampleSmall_68 : decode c_SA_sampleSmall 68 = .ok (.ishr, 1) := by decide +kernel
theorem dSA_sampleSmall_69 : decode c_SA_sampleSmall 69 = .ok (.invokevirtual 63, 3) := by decide +kernel
theorem dSA_sampleSmall_72 : decode c_SA_sampleSmall 72 = .ok (.istore 6, 2) := by decide +kernel
theorem dSA_sampleSmall_74 : decode c_SA_sampleSmall 74 = .ok (.iinc 7 1, 3) := by decide +kernel
theorem dSA_sampleSmall_77 : decode c_SA_sampleSmall 77 = .ok (.goto (-62), 3) := by decide +kernel
theorem dSA_sampleSmall_80 : decode c_SA_sampleSmall 80 = .ok (.return_, 1) := by decide +kernel
abbrev c_SA_sampleMask : ByteArray := prog_4_method_6_code
abbrev y_SA_sampleMask : MethodName := ⟨"LatticeKeys$DsaSampler", "sampleMask", "(LLatticeKeys$DsaSet;[I[BI)V"⟩
abbrev w_SA_sampleMask : List Cond := Cond.code y_SA_sampleMask c_SA_sampleMask 5 none :: WG
theorem dSA_sampleMask_0 : decode c_SA_sampleMask 0 = .ok (.aload_n 0, 1) := by decide +kernel
theorem dSA_sampleMask_1 : decode c_SA_sampleMask 1 = .ok (.aload_n 3, 1) := by decide +kernel
theorem dSA_sampleMask_2 : decode c_SA_sampleMask 2 = .ok (.iconst 0, 1) := by decide +kernel
theorem dSA_sampleMask_3 : decode c_SA_sampleMask 3 = .ok (.iload 4, 2) := by decide +kernel
theorem dSA_sampleMask_5 : decode c_SA_sampleMask 5 = .ok (.invokevirtual 57, 3) := by decide +kernel
theorem dSA_sampleMask_8 : decode c_SA_sampleMask 8 = .ok (.aload_n 0, 1) := by decide +kernel
theorem dSA_sampleMask_9 : decode c_SA_sampleMask 9 = .ok (.getfield 10, 3) := by decide +kernel
theorem dSA_sampleMask_12 : decode c_SA_sampleMask 12 = .ok (.aload_n 0, 1) := by decide +kernel
theorem dSA_sampleMask_13 : decode c_SA_sampleMask 13 = .ok (.getfield 16, 3) := by decide +kernel
theorem dSA_sampleMask_16 : decode c_SA_sampleMask 16 = .ok (.iconst 0, 1) := by decide +kernel
theorem dSA_sampleMask_17 : decode c_SA_sampleMask 17 = .ok (.bipush 32, 2) := by decide +kernel
theorem dSA_sampleMask_19 : decode c_SA_sampleMask 19 = .ok (.aload_n 1, 1) := by decide +kernel
theorem dSA_sampleMask_20 : decode c_SA_sampleMask 20 = .ok (.getfield 67, 3) := by decide +kernel
theorem dSA_sampleMask_23 : decode c_SA_sampleMask 23 = .ok (.imul, 1) := by decide +kernel
theorem dSA_sampleMask_24 : decode c_SA_sampleMask 24 = .ok (.invokevirtual 70, 3) := by decide +kernel
theorem dSA_sampleMask_27 : decode c_SA_sampleMask 27 = .ok (.aload_n 2, 1) := by decide +kernel
theorem dSA_sampleMask_28 : decode c_SA_sampleMask 28 = .ok (.aload_n 1, 1) := by decide +kernel
theorem dSA_sampleMask_29 : decode c_SA_sampleMask 29 = .ok (.getfield 67, 3) := by decide +kernel
theorem dSA_sampleMask_32 : decode c_SA_sampleMask 32 = .ok (.aload_n 0, 1) := by decide +kernel
theorem dSA_sampleMask_33 : decode c_SA_sampleMask 33 = .ok (.getfield 16, 3) := by decide +kernel
theorem dSA_sampleMask_36 : decode c_SA_sampleMask 36 = .ok (.iconst 0, 1) := by decide +kernel
theorem dSA_sampleMask_37 : decode c_SA_sampleMask 37 = .ok (.invokestatic 73, 3) := by decide +kernel
theorem dSA_sampleMask_40 : decode c_SA_sampleMask 40 = .ok (.return_, 1) := by decide +kernel
abbrev c_SA_sampleBall : ByteArray := prog_4_method_8_code
abbrev y_SA_sampleBall : MethodName := ⟨"LatticeKeys$DsaSampler", "sampleBall", "(LLatticeKeys$DsaSet;[I[B)V"⟩
abbrev w_SA_sampleBall : List Cond := Cond.code y_SA_sampleBall c_SA_sampleBall 9 none :: WG
theorem dSA_sampleBall_0 : decode c_SA_sampleBall 0 = .ok (.aload_n 0, 1) := by decide +kernel
theorem dSA_sampleBall_1 : decode c_SA_sampleBall 1 = .ok (.getfield 10, 3) := by decide +kernel
theorem dSA_sampleBall_4 : decode c_SA_sampleBall 4 = .ok (.iconst 3, 1) := by decide +kernel
theorem dSA_sampleBall_5 : decode c_SA_sampleBall 5 = .ok (.invokevirtual 33, 3) := by decide +kernel
theorem dSA_sampleBall_8 : decode c_SA_sampleBall 8 = .ok (.aload_n 0, 1) := by decide +kernel
theorem dSA_sampleBall_9 : decode c_SA_sampleBall 9 = .ok (.getfield 10, 3) := by decide +kernel
theorem dSA_sampleBall_12 : decode c_SA_sampleBall 12 = .ok (.aload_n 3, 1) := by decide +kernel
theorem dSA_sampleBall_13 : decode c_SA_sampleBall 13 = .ok (.iconst 0, 1) := by decide +kernel
theorem dSA_sampleBall_14 : decode c_SA_sampleBall 14 = .ok (.aload_n 1, 1) := by decide +kernel
theorem dSA_sampleBall_15 : decode c_SA_sampleBall 15 = .ok (.getfield 79, 3) := by decide +kernel
theorem dSA_sampleBall_18 : decode c_SA_sampleBall 18 = .ok (.invokevirtual 37, 3) := by decide +kernel
theorem dSA_sampleBall_21 : decode c_SA_sampleBall 21 = .ok (.aload_n 0, 1) := by decide +kernel
theorem dSA_sampleBall_22 : decode c_SA_sampleBall 22 = .ok (.getfield 10, 3) := by decide +kernel
theorem dSA_sampleBall_25 : decode c_SA_sampleBall 25 = .ok (.invokevirtual 44, 3) := by decide +kernel
theorem dSA_sampleBall_28 : decode c_SA_sampleBall 28 = .ok (.lconst 0, 1) := by decide +kernel
theorem dSA_sampleBall_29 : decode c_SA_sampleBall 29 = .ok (.lstore 4, 2) := by decide +kernel
theorem dSA_sampleBall_31 : decode c_SA_sampleBall 31 = .ok (.iconst 0, 1) := by decide +kernel
theorem dSA_sampleBall_32 : decode c_SA_sampleBall 32 = .ok (.istore 6, 2) := by decide +kernel
theorem dSA_sampleBall_34 : decode c_SA_sampleBall 34 = .ok (.iload 6, 2) := by decide +kernel
theorem dSA_sampleBall_36 : decode c_SA_sampleBall 36 = .ok (.bipush 8, 2) := by decide +kernel
theorem dSA_sampleBall_38 : decode c_SA_sampleBall 38 = .ok (.if_icmp .ge 28, 3) := by decide +kernel
theorem dSA_sampleBall_41 : decode c_SA_sampleBall 41 = .ok (.lload 4, 2) := by decide +kernel
theorem dSA_sampleBall_43 : decode c_SA_sampleBall 43 = .ok (.aload_n 0, 1) := by decide +kernel
theorem dSA_sampleBall_44 : decode c_SA_sampleBall 44 = .ok (.getfield 10, 3) := by decide +kernel
theorem dSA_sampleBall_47 : decode c_SA_sampleBall 47 = .ok (.invokevirtual 50, 3) := by decide +kernel
theorem dSA_sampleBall_50 : decode c_SA_sampleBall 50 = .ok (.i2l, 1) := by decide +kernel
theorem dSA_sampleBall_51 : decode c_SA_sampleBall 51 = .ok (.bipush 8, 2) := by decide +kernel
theorem dSA_sampleBall_53 : decode c_SA_sampleBall 53 = .ok (.iload 6, 2) := by decide +kernel
theorem dSA_sampleBall_55 : decode c_SA_sampleBall 55 = .ok (.imul, 1) := by decide +kernel
theorem dSA_sampleBall_56 : decode c_SA_sampleBall 56 = .ok (.lshl, 1) := by decide +kernel
theorem dSA_sampleBall_57 : decode c_SA_sampleBall 57 = .ok (.lor, 1) := by decide +kernel
theorem dSA_sampleBall_58 : decode c_SA_sampleBall 58 = .ok (.lstore 4, 2) := by decide +kernel
theorem dSA_sampleBall_60 : decode c_SA_sampleBall 60 = .ok (.iinc 6 1, 3) := by decide +kernel
theorem dSA_sampleBall_63 : decode c_SA_sampleBall 63 = .ok (.goto (-29), 3) := by decide +kernel
theorem dSA_sampleBall_66 : decode c_SA_sampleBall 66 = .ok (.aload_n 2, 1) := by decide +kernel
theorem dSA_sampleBall_67 : decode c_SA_sampleBall 67 = .ok (.iconst 0, 1) := by decide +kernel
theorem dSA_sampleBall_68 : decode c_SA_sampleBall 68 = .ok (.invokestatic 82, 3) := by decide +kernel
theorem dSA_sampleBall_71 : decode c_SA_sampleBall 71 = .ok (.sipush 256, 3) := by decide +kernel
theorem dSA_sampleBall_74 : decode c_SA_sampleBall 74 = .ok (.aload_n 1, 1) := by decide +kernel
theorem dSA_sampleBall_75 : decode c_SA_sampleBall 75 = .ok (.getfield 88, 3) := by decide +kernel
theorem dSA_sampleBall_78 : decode c_SA_sampleBall 78 = .ok (.isub, 1) := by decide +kernel
theorem dSA_sampleBall_79 : decode c_SA_sampleBall 79 = .ok (.istore 6, 2) := by decide +kernel
theorem dSA_sampleBall_81 : decode c_SA_sampleBall 81 = .ok (.iload 6, 2) := by decide +kernel
theorem dSA_sampleBall_83 : decode c_SA_sampleBall 83 = .ok (.sipush 256, 3) := by decide +kernel
theorem dSA_sampleBall_86 : decode c_SA_sampleBall 86 = .ok (.if_icmp .ge 83, 3) := by decide +kernel
theorem dSA_sampleBall_89 : decode c_SA_sampleBall 89 = .ok (.aload_n 0, 1) := by decide +kernel
theorem dSA_sampleBall_90 : decode c_SA_sampleBall 90 = .ok (.getfield 10, 3) := by decide +kernel
theorem dSA_sampleBall_93 : decode c_SA_sampleBall 93 = .ok (.invokevirtual 50, 3) := by decide +kernel
theorem dSA_sampleBall_96 : decode c_SA_sampleBall 96 = .ok (.istore 7, 2) := by decide +kernel
theorem dSA_sampleBall_98 : decode c_SA_sampleBall 98 = .ok (.iconst 0, 1) := by decide +kernel
theorem dSA_sampleBall_99 : decode c_SA_sampleBall 99 = .ok (.istore 8, 2) := by decide +kernel
theorem dSA_sampleBall_101 : decode c_SA_sampleBall 101 = .ok (.iload 7, 2) := by decide +kernel
theorem dSA_sampleBall_103 : decode c_SA_sampleBall 103 = .ok (.iload 6, 2) := by decide +kernel
theorem dSA_sampleBall_105 : decode c_SA_sampleBall 105 = .ok (.if_icmp .le 25, 3) := by decide +kernel
theorem dSA_sampleBall_108 : decode c_SA_sampleBall 108 = .ok (.iload 8, 2) := by decide +kernel
theorem dSA_sampleBall_110 : decode c_SA_sampleBall 110 = .ok (.ldc 49, 2) := by decide +kernel
theorem dSA_sampleBall_112 : decode c_SA_sampleBall 112 = .ok (.if_icmp .ge 18, 3) := by decide +kernel
theorem dSA_sampleBall_115 : decode c_SA_sampleBall 115 = .ok (.aload_n 0, 1) := by decide +kernel
theorem dSA_sampleBall_116 : decode c_SA_sampleBall 116 = .ok (.getfield 10, 3) := by decide +kernel
theorem dSA_sampleBall_119 : decode c_SA_sampleBall 119 = .ok (.invokevirtual 50, 3) := by decide +kernel
theorem dSA_sampleBall_122 : decode c_SA_sampleBall 122 = .ok (.istore 7, 2) := by decide +kernel
theorem dSA_sampleBall_124 : decode c_SA_sampleBall 124 = .ok (.iinc 8 1, 3) := by decide +kernel
theorem dSA_sampleBall_127 : decode c_SA_sampleBall 127 = .ok (.goto (-26), 3) := by decide +kernel
theorem dSA_sampleBall_130 : decode c_SA_sampleBall 130 = .ok (.aload_n 2, 1) := by decide +kernel
theorem dSA_sampleBall_131 : decode c_SA_sampleBall 131 = .ok (.iload 6, 2) := by decide +kernel
theorem dSA_sampleBall_133 : decode c_SA_sampleBall 133 = .ok (.aload_n 2, 1) := by decide +kernel
theorem dSA_sampleBall_134 : decode c_SA_sampleBall 134 = .ok (.iload 7, 2) := by decide +kernel
theorem dSA_sampleBall_136 : decode c_SA_sampleBall 136 = .ok (.iaload, 1) := by decide +kernel
theorem dSA_sampleBall_137 : decode c_SA_sampleBall 137 = .ok (.iastore, 1) := by decide +kernel
theorem dSA_sampleBall_138 : decode c_SA_sampleBall 138 = .ok (.aload_n 2, 1) := by decide +kernel
theorem dSA_sampleBall_139 : decode c_SA_sampleBall 139 = .ok (.iload 7, 2) := by decide +kernel
theorem dSA_sampleBall_141 : decode c_SA_sampleBall 141 = .ok (.lload 4, 2) := by decide +kernel
theorem dSA_sampleBall_143 : decode c_SA_sampleBall 143 = .ok (.lconst 1, 1) := by decide +kernel
theorem dSA_sampleBall_144 : decode c_SA_sampleBall 144 = .ok (.land, 1) := by decide +kernel
theorem dSA_sampleBall_145 : decode c_SA_sampleBall 145 = .ok (.lconst 0, 1) := by decide +kernel
theorem dSA_sampleBall_146 : decode c_SA_sampleBall 146 = .ok (.lcmp, 1) := by decide +kernel
theorem dSA_sampleBall_147 : decode c_SA_sampleBall 147 = .ok (.ifCond .ne 7, 3) := by decide +kernel
theorem dSA_sampleBall_150 : decode c_SA_sampleBall 150 = .ok (.iconst 1, 1) := by decide +kernel
theorem dSA_sampleBall_151 : decode c_SA_sampleBall 151 = .ok (.goto 5, 3) := by decide +kernel
theorem dSA_sampleBall_154 : decode c_SA_sampleBall 154 = .ok (.ldc 91, 2) := by decide +kernel
theorem dSA_sampleBall_156 : decode c_SA_sampleBall 156 = .ok (.iastore, 1) := by decide +kernel
theorem dSA_sampleBall_157 : decode c_SA_sampleBall 157 = .ok (.lload 4, 2) := by decide +kernel
theorem dSA_sampleBall_159 : decode c_SA_sampleBall 159 = .ok (.iconst 1, 1) := by decide +kernel
theorem dSA_sampleBall_160 : decode c_SA_sampleBall 160 = .ok (.lushr, 1) := by decide +kernel
theorem dSA_sampleBall_161 : decode c_SA_sampleBall 161 = .ok (.lstore 4, 2) := by decide +kernel
theorem dSA_sampleBall_163 : decode c_SA_sampleBall 163 = .ok (.iinc 6 1, 3) := by decide +kernel
theorem dSA_sampleBall_166 : decode c_SA_sampleBall 166 = .ok (.goto (-85), 3) := by decide +kernel
theorem dSA_sampleBall_169 : decode c_SA_sampleBall 169 = .ok (.return_, 1) := by decide +kernel
set_option maxHeartbeats 400000 in
set_option maxRecDepth 100000 in
theorem t_SA_startNumbered (l : Launch) (g : Gd) (sz : Nat) (T : Ty) (xs : List Nat) (pl : va_W) (hO : okx g T xs pl) (hU : uni T) (hc0 : clo T xs 0) (hc4 : clo T xs 4) (h0 b n at_ : Nat) (wh : Int32) (k_h0 : T h0 = some (14, 0)) (k_b : T b = some (1, n)) (h1 : at_ + 64 ≤ n) (h2 : n < 65536)  : Met l y_SA_startNumbered w_SA_startNumbered ({ frames := 3, cells := 0, slots := 0, locals := 100 } : Room) (va_Pc [.ref h0, .ref b, .int (nI at_), .int wh] (pr (en g) g.1 vcl sz ([] ++ pl))) (va_Qv (fun (u : va_W) => (True) ∧ okx g T xs u) (po g.1 vcl (va_A ([] ++ pl) sz) (fun (u : va_W) => [] ++ u)) (va_A ([] ++ pl) sz)) 0 0 (va_A ([] ++ pl) sz) := by
  sorry
set_option maxHeartbeats 400000 in
set_option maxRecDepth 100000 in
theorem t_SA_sampleEntry (l : Launch) (g : Gd) (sz : Nat) (T : Ty) (xs : List Nat) (pl : va_W) (hO : okx g T xs pl) (hU : uni T) (hc0 : clo T xs 0) (hc4 : clo T xs 4) (h0 f b n : Nat) (v1 : Int32) (v2 : Int32) (k_h0 : T h0 = some (14, 0)) (k_f : T f = some (0, 256)) (k_b : T b = some (1, n)) (h1 : 32 ≤ n) (h2 : n < 65536)  : Met l y_SA_sampleEntry w_SA_sampleEntry ({ frames := 3, cells := 0, slots := 0, locals := 100 } : Room) (va_Pc [.ref h0, .ref f, .ref b, .int v1, .int v2] (pr (en g) g.1 vcl sz ([] ++ pl))) (va_Qv (fun (u : va_W) => (True) ∧ okx g T xs u) (po g.1 vcl (va_A ([] ++ pl) sz) (fun (u : va_W) => [] ++ u)) (va_A ([] ++ pl) sz)) 0 0 (va_A ([] ++ pl) sz) := by
  sorry
set_option maxHeartbeats 400000 in
set_option maxRecDepth 100000 in
theorem t_SA_expandMatrix_0 (l : Launch) (g : Gd) (sz : Nat) (T : Ty) (xs : List Nat) (pl : va_W) (hO : okx g T xs pl) (hU : uni T) (hc0 : clo T xs 0) (hc4 : clo T xs 4) (h0 st b mx n : Nat) (k_h0 : T h0 = some (14, 0)) (k_st : T st = some (43, 0)) (k_b : T b = some (1, n)) (k_mx : T mx = some (3, 56)) (h1 : 32 ≤ n) (h2 : n < 65536)  : Met l y_SA_expandMatrix w_SA_expandMatrix ({ frames := 4, cells := 0, slots := 0, locals := 127 } : Room) (va_Pc [.ref h0, .ref st, .ref b, .ref mx] (pr (en g) g.1 vcl sz ([] ++ pl))) (va_Qv (fun (u : va_W) => (True) ∧ okx g T xs u) (po g.1 vcl (va_A ([] ++ pl) sz) (fun (u : va_W) => [] ++ u)) (va_A ([] ++ pl) sz)) 0 0 (va_A ([] ++ pl) sz) := by
  sorry
set_option maxHeartbeats 400000 in
set_option maxRecDepth 100000 in
theorem t_SA_expandMatrix_1 (l : Launch) (g : Gd) (sz : Nat) (T : Ty) (xs : List Nat) (pl : va_W) (hO : okx g T xs pl) (hU : uni T) (hc0 : clo T xs 0) (hc4 : clo T xs 4) (h0 st b mx n : Nat) (k_h0 : T h0 = some (14, 0)) (k_st : T st = some (44, 0)) (k_b : T b = some (1, n)) (k_mx : T mx = some (3, 56)) (h1 : 32 ≤ n) (h2 : n < 65536)  : Met l y_SA_expandMatrix w_SA_expandMatrix ({ frames := 4, cells := 0, slots := 0, locals := 127 } : Room) (va_Pc [.ref h0, .ref st, .ref b, .ref mx] (pr (en g) g.1 vcl sz ([] ++ pl))) (va_Qv (fun (u : va_W) => (True) ∧ okx g T xs u) (po g.1 vcl (va_A ([] ++ pl) sz) (fun (u : va_W) => [] ++ u)) (va_A ([] ++ pl) sz)) 0 0 (va_A ([] ++ pl) sz) := by
  sorry
set_option maxHeartbeats 400000 in
set_option maxRecDepth 100000 in
theorem t_SA_expandMatrix_2 (l : Launch) (g : Gd) (sz : Nat) (T : Ty) (xs : List Nat) (pl : va_W) (hO : okx g T xs pl) (hU : uni T) (hc0 : clo T xs 0) (hc4 : clo T xs 4) (h0 st b mx n : Nat) (k_h0 : T h0 = some (14, 0)) (k_st : T st = some (45, 0)) (k_b : T b = some (1, n)) (k_mx : T mx = some (3, 56)) (h1 : 32 ≤ n) (h2 : n < 65536)  : Met l y_SA_expandMatrix w_SA_expandMatrix ({ frames := 4, cells := 0, slots := 0, locals := 127 } : Room) (va_Pc [.ref h0, .ref st, .ref b, .ref mx] (pr (en g) g.1 vcl sz ([] ++ pl))) (va_Qv (fun (u : va_W) => (True) ∧ okx g T xs u) (po g.1 vcl (va_A ([] ++ pl) sz) (fun (u : va_W) => [] ++ u)) (va_A ([] ++ pl) sz)) 0 0 (va_A ([] ++ pl) sz) := by
  sorry
set_option maxHeartbeats 400000 in
set_option maxRecDepth 100000 in
theorem t_SA_putSmall_2 (l : Launch) (g : Gd) (sz : Nat) (T : Ty) (xs : List Nat) (pl : va_W) (hO : okx g T xs pl) (hU : uni T) (hc0 : clo T xs 0) (h0 f fl : Nat) (hf : Int32) (k_h0 : T h0 = some (14, 0)) (k_f : T f = some (0, 256)) (h1 : fl ≤ 256)  : Met l y_SA_putSmall w_SA_putSmall ({ frames := 0, cells := 0, slots := 0, locals := 0 } : Room) (va_Pc [.ref h0, .int (nI 2), .ref f, .int (nI fl), .int hf] (pr (en g) g.1 vcl sz ([] ++ pl))) (va_Qi (fun (r : Int32) (u : va_W) => (∃ z : Nat, z ≤ 256 ∧ r = nI z) ∧ okx g T xs u) (po g.1 vcl (va_A ([] ++ pl) sz) (fun (u : va_W) => [] ++ u)) (va_A ([] ++ pl) sz)) 0 0 (va_A ([] ++ pl) sz) := by
  sorry
set_option maxHeartbeats 400000 in
set_option maxRecDepth 100000 in
theorem t_SA_putSmall_4 (l : Launch) (g : Gd) (sz : Nat) (T : Ty) (xs : List Nat) (pl : va_W) (hO : okx g T xs pl) (hU : uni T) (hc0 : clo T xs 0) (h0 f fl : Nat) (hf : Int32) (k_h0 : T h0 = some (14, 0)) (k_f : T f = some (0, 256)) (h1 : fl ≤ 256)  : Met l y_SA_putSmall w_SA_putSmall ({ frames := 0, cells := 0, slots := 0, locals := 0 } : Room) (va_Pc [.ref h0, .int (nI 4), .ref f, .int (nI fl), .int hf] (pr (en g) g.1 vcl sz ([] ++ pl))) (va_Qi (fun (r : Int32) (u : va_W) => (∃ z : Nat, z ≤ 256 ∧ r = nI z) ∧ okx g T xs u) (po g.1 vcl (va_A ([] ++ pl) sz) (fun (u : va_W) => [] ++ u)) (va_A ([] ++ pl) sz)) 0 0 (va_A ([] ++ pl) sz) := by
  sorry
set_option maxHeartbeats 400000 in
set_option maxRecDepth 100000 in
theorem t_SA_sampleSmall_0 (l : Launch) (g : Gd) (sz : Nat) (T : Ty) (xs : List Nat) (pl : va_W) (hO : okx g T xs pl) (hU : uni T) (hc0 : clo T xs 0) (hc4 : clo T xs 4) (h0 st f b n at_ : Nat) (wh : Int32) (k_h0 : T h0 = some (14, 0)) (k_st : T st = some (43, 0)) (k_f : T f = some (0, 256)) (k_b : T b = some (1, n)) (h1 : at_ + 64 ≤ n) (h2 : n < 65536)  : Met l y_SA_sampleSmall w_SA_sampleSmall ({ frames := 4, cells := 0, slots := 0, locals := 123 } : Room) (va_Pc [.ref h0, .ref st, .ref f, .ref b, .int (nI at_), .int wh] (pr (en g) g.1 vcl sz ([] ++ pl))) (va_Qv (fun (u : va_W) => (True) ∧ okx g T xs u) (po g.1 vcl (va_A ([] ++ pl) sz) (fun (u : va_W) => [] ++ u)) (va_A ([] ++ pl) sz)) 0 0 (va_A ([] ++ pl) sz) := by
  sorry
set_option maxHeartbeats 400000 in
set_option maxRecDepth 100000 in
theorem t_SA_sampleSmall_1 (l : Launch) (g : Gd) (sz : Nat) (T : Ty) (xs : List Nat) (pl : va_W) (hO : okx g T xs pl) (hU : uni T) (hc0 : clo T xs 0) (hc4 : clo T xs 4) (h0 st f b n at_ : Nat) (wh : Int32) (k_h0 : T h0 = some (14, 0)) (k_st : T st = some (44, 0)) (k_f : T f = some (0, 256)) (k_b : T b = some (1, n)) (h1 : at_ + 64 ≤ n) (h2 : n < 65536)  : Met l y_SA_sampleSmall w_SA_sampleSmall ({ frames := 4, cells := 0, slots := 0, locals := 123 } : Room) (va_Pc [.ref h0, .ref st, .ref f, .ref b, .int (nI at_), .int wh] (pr (en g) g.1 vcl sz ([] ++ pl))) (va_Qv (fun (u : va_W) => (True) ∧ okx g T xs u) (po g.1 vcl (va_A ([] ++ pl) sz) (fun (u : va_W) => [] ++ u)) (va_A ([] ++ pl) sz)) 0 0 (va_A ([] ++ pl) sz) := by
  sorry
set_option maxHeartbeats 400000 in
set_option maxRecDepth 100000 in
theorem t_SA_sampleSmall_2 (l : Launch) (g : Gd) (sz : Nat) (T : Ty) (xs : List Nat) (pl : va_W) (hO : okx g T xs pl) (hU : uni T) (hc0 : clo T xs 0) (hc4 : clo T xs 4) (h0 st f b n at_ : Nat) (wh : Int32) (k_h0 : T h0 = some (14, 0)) (k_st : T st = some (45, 0)) (k_f : T f = some (0, 256)) (k_b : T b = some (1, n)) (h1 : at_ + 64 ≤ n) (h2 : n < 65536)  : Met l y_SA_sampleSmall w_SA_sampleSmall ({ frames := 4, cells := 0, slots := 0, locals := 123 } : Room) (va_Pc [.ref h0, .ref st, .ref f, .ref b, .int (nI at_), .int wh] (pr (en g) g.1 vcl sz ([] ++ pl))) (va_Qv (fun (u : va_W) => (True) ∧ okx g T xs u) (po g.1 vcl (va_A ([] ++ pl) sz) (fun (u : va_W) => [] ++ u)) (va_A ([] ++ pl) sz)) 0 0 (va_A ([] ++ pl) sz) := by
  sorry
set_option maxHeartbeats 400000 in
set_option maxRecDepth 100000 in
theorem t_SA_sampleMask_0 (l : Launch) (g : Gd) (sz : Nat) (T : Ty) (xs : List Nat) (pl : va_W) (hO : okx g T xs pl) (hU : uni T) (hc0 : clo T xs 0) (hc4 : clo T xs 4) (h0 st f b n : Nat) (wh : Int32) (k_h0 : T h0 = some (14, 0)) (k_st : T st = some (43, 0)) (k_f : T f = some (0, 256)) (k_b : T b = some (1, n)) (h1 : 64 ≤ n) (h2 : n < 65536)  : Met l y_SA_sampleMask w_SA_sampleMask ({ frames := 4, cells := 0, slots := 0, locals := 123 } : Room) (va_Pc [.ref h0, .ref st, .ref f, .ref b, .int wh] (pr (en g) g.1 vcl sz ([] ++ pl))) (va_Qv (fun (u : va_W) => (True) ∧ okx g T xs u) (po g.1 vcl (va_A ([] ++ pl) sz) (fun (u : va_W) => [] ++ u)) (va_A ([] ++ pl) sz)) 0 0 (va_A ([] ++ pl) sz) := by
  sorry
set_option maxHeartbeats 400000 in
set_option maxRecDepth 100000 in
theorem t_SA_sampleMask_1 (l : Launch) (g : Gd) (sz : Nat) (T : Ty) (xs : List Nat) (pl : va_W) (hO : okx g T xs pl) (hU : uni T) (hc0 : clo T xs 0) (hc4 : clo T xs 4) (h0 st f b n : Nat) (wh : Int32) (k_h0 : T h0 = some (14, 0)) (k_st : T st = some (44, 0)) (k_f : T f = some (0, 256)) (k_b : T b = some (1, n)) (h1 : 64 ≤ n) (h2 : n < 65536)  : Met l y_SA_sampleMask w_SA_sampleMask ({ frames := 4, cells := 0, slots := 0, locals := 123 } : Room) (va_Pc [.ref h0, .ref st, .ref f, .ref b, .int wh] (pr (en g) g.1 vcl sz ([] ++ pl))) (va_Qv (fun (u : va_W) => (True) ∧ okx g T xs u) (po g.1 vcl (va_A ([] ++ pl) sz) (fun (u : va_W) => [] ++ u)) (va_A ([] ++ pl) sz)) 0 0 (va_A ([] ++ pl) sz) := by
  sorry
set_option maxHeartbeats 400000 in
set_option maxRecDepth 100000 in
theorem t_SA_sampleMask_2 (l : Launch) (g : Gd) (sz : Nat) (T : Ty) (xs : List Nat) (pl : va_W) (hO : okx g T xs pl) (hU : uni T) (hc0 : clo T xs 0) (hc4 : clo T xs 4) (h0 st f b n : Nat) (wh : Int32) (k_h0 : T h0 = some (14, 0)) (k_st : T st = some (45, 0)) (k_f : T f = some (0, 256)) (k_b : T b = some (1, n)) (h1 : 64 ≤ n) (h2 : n < 65536)  : Met l y_SA_sampleMask w_SA_sampleMask ({ frames := 4, cells := 0, slots := 0, locals := 123 } : Room) (va_Pc [.ref h0, .ref st, .ref f, .ref b, .int wh] (pr (en g) g.1 vcl sz ([] ++ pl))) (va_Qv (fun (u : va_W) => (True) ∧ okx g T xs u) (po g.1 vcl (va_A ([] ++ pl) sz) (fun (u : va_W) => [] ++ u)) (va_A ([] ++ pl) sz)) 0 0 (va_A ([] ++ pl) sz) := by
  sorry
set_option maxHeartbeats 400000 in
set_option maxRecDepth 100000 in
theorem t_SA_sampleBall_0 (l : Launch) (g : Gd) (sz : Nat) (T : Ty) (xs : List Nat) (pl : va_W) (hO : okx g T xs pl) (hU : uni T) (hc0 : clo T xs 0) (hc4 : clo T xs 4) (h0 st f b n : Nat) (k_h0 : T h0 = some (14, 0)) (k_st : T st = some (43, 0)) (k_f : T f = some (0, 256)) (k_b : T b = some (1, n)) (h1 : 32 ≤ n) (h2 : n < 65536)  : Met l y_SA_sampleBall w_SA_sampleBall ({ frames := 3, cells := 0, slots := 0, locals := 100 } : Room) (va_Pc [.ref h0, .ref st, .ref f, .ref b] (pr (en g) g.1 vcl sz ([] ++ pl))) (va_Qv (fun (u : va_W) => (True) ∧ okx g T xs u) (po g.1 vcl (va_A ([] ++ pl) sz) (fun (u : va_W) => [] ++ u)) (va_A ([] ++ pl) sz)) 0 0 (va_A ([] ++ pl) sz) := by
  sorry
set_option maxHeartbeats 400000 in
set_option maxRecDepth 100000 in
theorem t_SA_sampleBall_1 (l : Launch) (g : Gd) (sz : Nat) (T : Ty) (xs : List Nat) (pl : va_W) (hO : okx g T xs pl) (hU : uni T) (hc0 : clo T xs 0) (hc4 : clo T xs 4) (h0 st f b n : Nat) (k_h0 : T h0 = some (14, 0)) (k_st : T st = some (44, 0)) (k_f : T f = some (0, 256)) (k_b : T b = some (1, n)) (h1 : 48 ≤ n) (h2 : n < 65536)  : Met l y_SA_sampleBall w_SA_sampleBall ({ frames := 3, cells := 0, slots := 0, locals := 100 } : Room) (va_Pc [.ref h0, .ref st, .ref f, .ref b] (pr (en g) g.1 vcl sz ([] ++ pl))) (va_Qv (fun (u : va_W) => (True) ∧ okx g T xs u) (po g.1 vcl (va_A ([] ++ pl) sz) (fun (u : va_W) => [] ++ u)) (va_A ([] ++ pl) sz)) 0 0 (va_A ([] ++ pl) sz) := by
  sorry
set_option maxHeartbeats 400000 in
set_option maxRecDepth 100000 in
theorem t_SA_sampleBall_2 (l : Launch) (g : Gd) (sz : Nat) (T : Ty) (xs : List Nat) (pl : va_W) (hO : okx g T xs pl) (hU : uni T) (hc0 : clo T xs 0) (hc4 : clo T xs 4) (h0 st f b n : Nat) (k_h0 : T h0 = some (14, 0)) (k_st : T st = some (45, 0)) (k_f : T f = some (0, 256)) (k_b : T b = some (1, n)) (h1 : 64 ≤ n) (h2 : n < 65536)  : Met l y_SA_sampleBall w_SA_sampleBall ({ frames := 3, cells := 0, slots := 0, locals := 100 } : Room) (va_Pc [.ref h0, .ref st, .ref f, .ref b] (pr (en g) g.1 vcl sz ([] ++ pl))) (va_Qv (fun (u : va_W) => (True) ∧ okx g T xs u) (po g.1 vcl (va_A ([] ++ pl) sz) (fun (u : va_W) => [] ++ u)) (va_A ([] ++ pl) sz)) 0 0 (va_A ([] ++ pl) sz) := by
  sorry
