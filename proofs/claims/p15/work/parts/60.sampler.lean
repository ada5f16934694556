abbrev c_SA_startNumbered : ByteArray := prog_4_method_7_code
abbrev y_SA_startNumbered : MethodName := ⟨"LatticeKeys$DsaSampler", "startNumbered", "([BII)V"⟩
abbrev w_SA_startNumbered : List Cond := Cond.code y_SA_startNumbered c_SA_startNumbered 4 none :: WG
theorem dSA_startNumbered_0 : decode c_SA_startNumbered 0 = .ok (.aload_n 0, 1) := by decide +kernel
theorem dSA_startNumbered_1 : decode c_SA_startNumbered 1 = .ok (.getfield 10, 3) := by decide +kernel
theorem dSA_startNumbered_4 : decode c_SA_startNumbered 4 = .ok (.iconst 3, 1) := by decide +kernel
theorem dSA_startNumbered_5 : decode c_SA_startNumbered 5 = .ok (.invokevirtual 33, 3) := by decide +kernel
theorem dSA_startNumbered_8 : decode c_SA_startNumbered 8 = .ok (.aload_n 0, 1) := by decide +kernel
theorem dSA_startNumbered_9 : decode c_SA_startNumbered 9 = .ok (.getfield 10, 3) := by decide +kernel
theorem dSA_startNumbered_12 : decode c_SA_startNumbered 12 = .ok (.aload_n 1, 1) := by decide +kernel
theorem dSA_startNumbered_13 : decode c_SA_startNumbered 13 = .ok (.iload_n 2, 1) := by decide +kernel
theorem dSA_startNumbered_14 : decode c_SA_startNumbered 14 = .ok (.bipush 64, 2) := by decide +kernel
theorem dSA_startNumbered_16 : decode c_SA_startNumbered 16 = .ok (.invokevirtual 37, 3) := by decide +kernel
theorem dSA_startNumbered_19 : decode c_SA_startNumbered 19 = .ok (.aload_n 0, 1) := by decide +kernel
theorem dSA_startNumbered_20 : decode c_SA_startNumbered 20 = .ok (.getfield 10, 3) := by decide +kernel
theorem dSA_startNumbered_23 : decode c_SA_startNumbered 23 = .ok (.iload_n 3, 1) := by decide +kernel
theorem dSA_startNumbered_24 : decode c_SA_startNumbered 24 = .ok (.invokevirtual 41, 3) := by decide +kernel
theorem dSA_startNumbered_27 : decode c_SA_startNumbered 27 = .ok (.aload_n 0, 1) := by decide +kernel
theorem dSA_startNumbered_28 : decode c_SA_startNumbered 28 = .ok (.getfield 10, 3) := by decide +kernel
theorem dSA_startNumbered_31 : decode c_SA_startNumbered 31 = .ok (.iload_n 3, 1) := by decide +kernel
theorem dSA_startNumbered_32 : decode c_SA_startNumbered 32 = .ok (.bipush 8, 2) := by decide +kernel
theorem dSA_startNumbered_34 : decode c_SA_startNumbered 34 = .ok (.ishr, 1) := by decide +kernel
theorem dSA_startNumbered_35 : decode c_SA_startNumbered 35 = .ok (.invokevirtual 41, 3) := by decide +kernel
theorem dSA_startNumbered_38 : decode c_SA_startNumbered 38 = .ok (.aload_n 0, 1) := by decide +kernel
theorem dSA_startNumbered_39 : decode c_SA_startNumbered 39 = .ok (.getfield 10, 3) := by decide +kernel
theorem dSA_startNumbered_42 : decode c_SA_startNumbered 42 = .ok (.invokevirtual 44, 3) := by decide +kernel
theorem dSA_startNumbered_45 : decode c_SA_startNumbered 45 = .ok (.return_, 1) := by decide +kernel
abbrev c_SA_sampleEntry : ByteArray := prog_4_method_3_code
abbrev y_SA_sampleEntry : MethodName := ⟨"LatticeKeys$DsaSampler", "sampleEntry", "([I[BII)V"⟩
abbrev w_SA_sampleEntry : List Cond := Cond.code y_SA_sampleEntry c_SA_sampleEntry 8 none :: WG
theorem dSA_sampleEntry_0 : decode c_SA_sampleEntry 0 = .ok (.aload_n 0, 1) := by decide +kernel
theorem dSA_sampleEntry_1 : decode c_SA_sampleEntry 1 = .ok (.getfield 10, 3) := by decide +kernel
theorem dSA_sampleEntry_4 : decode c_SA_sampleEntry 4 = .ok (.iconst 2, 1) := by decide +kernel
theorem dSA_sampleEntry_5 : decode c_SA_sampleEntry 5 = .ok (.invokevirtual 33, 3) := by decide +kernel
theorem dSA_sampleEntry_8 : decode c_SA_sampleEntry 8 = .ok (.aload_n 0, 1) := by decide +kernel
theorem dSA_sampleEntry_9 : decode c_SA_sampleEntry 9 = .ok (.getfield 10, 3) := by decide +kernel
theorem dSA_sampleEntry_12 : decode c_SA_sampleEntry 12 = .ok (.aload_n 2, 1) := by decide +kernel
theorem dSA_sampleEntry_13 : decode c_SA_sampleEntry 13 = .ok (.iconst 0, 1) := by decide +kernel
theorem dSA_sampleEntry_14 : decode c_SA_sampleEntry 14 = .ok (.bipush 32, 2) := by decide +kernel
theorem dSA_sampleEntry_16 : decode c_SA_sampleEntry 16 = .ok (.invokevirtual 37, 3) := by decide +kernel
theorem dSA_sampleEntry_19 : decode c_SA_sampleEntry 19 = .ok (.aload_n 0, 1) := by decide +kernel
theorem dSA_sampleEntry_20 : decode c_SA_sampleEntry 20 = .ok (.getfield 10, 3) := by decide +kernel
theorem dSA_sampleEntry_23 : decode c_SA_sampleEntry 23 = .ok (.iload_n 3, 1) := by decide +kernel
theorem dSA_sampleEntry_24 : decode c_SA_sampleEntry 24 = .ok (.invokevirtual 41, 3) := by decide +kernel
theorem dSA_sampleEntry_27 : decode c_SA_sampleEntry 27 = .ok (.aload_n 0, 1) := by decide +kernel
theorem dSA_sampleEntry_28 : decode c_SA_sampleEntry 28 = .ok (.getfield 10, 3) := by decide +kernel
theorem dSA_sampleEntry_31 : decode c_SA_sampleEntry 31 = .ok (.iload 4, 2) := by decide +kernel
theorem dSA_sampleEntry_33 : decode c_SA_sampleEntry 33 = .ok (.invokevirtual 41, 3) := by decide +kernel
theorem dSA_sampleEntry_36 : decode c_SA_sampleEntry 36 = .ok (.aload_n 0, 1) := by decide +kernel
theorem dSA_sampleEntry_37 : decode c_SA_sampleEntry 37 = .ok (.getfield 10, 3) := by decide +kernel
theorem dSA_sampleEntry_40 : decode c_SA_sampleEntry 40 = .ok (.invokevirtual 44, 3) := by decide +kernel
theorem dSA_sampleEntry_43 : decode c_SA_sampleEntry 43 = .ok (.iconst 0, 1) := by decide +kernel
theorem dSA_sampleEntry_44 : decode c_SA_sampleEntry 44 = .ok (.istore 5, 2) := by decide +kernel
theorem dSA_sampleEntry_46 : decode c_SA_sampleEntry 46 = .ok (.iconst 0, 1) := by decide +kernel
theorem dSA_sampleEntry_47 : decode c_SA_sampleEntry 47 = .ok (.istore 6, 2) := by decide +kernel
theorem dSA_sampleEntry_49 : decode c_SA_sampleEntry 49 = .ok (.iload 5, 2) := by decide +kernel
theorem dSA_sampleEntry_51 : decode c_SA_sampleEntry 51 = .ok (.sipush 256, 3) := by decide +kernel
theorem dSA_sampleEntry_54 : decode c_SA_sampleEntry 54 = .ok (.if_icmp .ge 74, 3) := by decide +kernel
theorem dSA_sampleEntry_57 : decode c_SA_sampleEntry 57 = .ok (.iload 6, 2) := by decide +kernel
theorem dSA_sampleEntry_59 : decode c_SA_sampleEntry 59 = .ok (.ldc 49, 2) := by decide +kernel
theorem dSA_sampleEntry_61 : decode c_SA_sampleEntry 61 = .ok (.if_icmp .ge 67, 3) := by decide +kernel
theorem dSA_sampleEntry_64 : decode c_SA_sampleEntry 64 = .ok (.aload_n 0, 1) := by decide +kernel
theorem dSA_sampleEntry_65 : decode c_SA_sampleEntry 65 = .ok (.getfield 10, 3) := by decide +kernel
theorem dSA_sampleEntry_68 : decode c_SA_sampleEntry 68 = .ok (.invokevirtual 50, 3) := by decide +kernel
theorem dSA_sampleEntry_71 : decode c_SA_sampleEntry 71 = .ok (.istore 7, 2) := by decide +kernel
theorem dSA_sampleEntry_73 : decode c_SA_sampleEntry 73 = .ok (.iload 7, 2) := by decide +kernel
theorem dSA_sampleEntry_75 : decode c_SA_sampleEntry 75 = .ok (.aload_n 0, 1) := by decide +kernel
theorem dSA_sampleEntry_76 : decode c_SA_sampleEntry 76 = .ok (.getfield 10, 3) := by decide +kernel
theorem dSA_sampleEntry_79 : decode c_SA_sampleEntry 79 = .ok (.invokevirtual 50, 3) := by decide +kernel
theorem dSA_sampleEntry_82 : decode c_SA_sampleEntry 82 = .ok (.bipush 8, 2) := by decide +kernel
theorem dSA_sampleEntry_84 : decode c_SA_sampleEntry 84 = .ok (.ishl, 1) := by decide +kernel
theorem dSA_sampleEntry_85 : decode c_SA_sampleEntry 85 = .ok (.ior, 1) := by decide +kernel
theorem dSA_sampleEntry_86 : decode c_SA_sampleEntry 86 = .ok (.istore 7, 2) := by decide +kernel
theorem dSA_sampleEntry_88 : decode c_SA_sampleEntry 88 = .ok (.iload 7, 2) := by decide +kernel
theorem dSA_sampleEntry_90 : decode c_SA_sampleEntry 90 = .ok (.aload_n 0, 1) := by decide +kernel
theorem dSA_sampleEntry_91 : decode c_SA_sampleEntry 91 = .ok (.getfield 10, 3) := by decide +kernel
theorem dSA_sampleEntry_94 : decode c_SA_sampleEntry 94 = .ok (.invokevirtual 50, 3) := by decide +kernel
theorem dSA_sampleEntry_97 : decode c_SA_sampleEntry 97 = .ok (.bipush 127, 2) := by decide +kernel
theorem dSA_sampleEntry_99 : decode c_SA_sampleEntry 99 = .ok (.iand, 1) := by decide +kernel
theorem dSA_sampleEntry_100 : decode c_SA_sampleEntry 100 = .ok (.bipush 16, 2) := by decide +kernel
theorem dSA_sampleEntry_102 : decode c_SA_sampleEntry 102 = .ok (.ishl, 1) := by decide +kernel
theorem dSA_sampleEntry_103 : decode c_SA_sampleEntry 103 = .ok (.ior, 1) := by decide +kernel
theorem dSA_sampleEntry_104 : decode c_SA_sampleEntry 104 = .ok (.istore 7, 2) := by decide +kernel
theorem dSA_sampleEntry_106 : decode c_SA_sampleEntry 106 = .ok (.iload 7, 2) := by decide +kernel
theorem dSA_sampleEntry_108 : decode c_SA_sampleEntry 108 = .ok (.ldc 56, 2) := by decide +kernel
theorem dSA_sampleEntry_110 : decode c_SA_sampleEntry 110 = .ok (.if_icmp .ge 12, 3) := by decide +kernel
theorem dSA_sampleEntry_113 : decode c_SA_sampleEntry 113 = .ok (.aload_n 1, 1) := by decide +kernel
theorem dSA_sampleEntry_114 : decode c_SA_sampleEntry 114 = .ok (.iload 5, 2) := by decide +kernel
theorem dSA_sampleEntry_116 : decode c_SA_sampleEntry 116 = .ok (.iload 7, 2) := by decide +kernel
theorem dSA_sampleEntry_118 : decode c_SA_sampleEntry 118 = .ok (.iastore, 1) := by decide +kernel
theorem dSA_sampleEntry_119 : decode c_SA_sampleEntry 119 = .ok (.iinc 5 1, 3) := by decide +kernel
theorem dSA_sampleEntry_122 : decode c_SA_sampleEntry 122 = .ok (.iinc 6 1, 3) := by decide +kernel
theorem dSA_sampleEntry_125 : decode c_SA_sampleEntry 125 = .ok (.goto (-76), 3) := by decide +kernel
theorem dSA_sampleEntry_128 : decode c_SA_sampleEntry 128 = .ok (.return_, 1) := by decide +kernel
abbrev c_SA_expandMatrix : ByteArray := prog_4_method_2_code
abbrev y_SA_expandMatrix : MethodName := ⟨"LatticeKeys$DsaSampler", "expandMatrix", "(LLatticeKeys$DsaSet;[B[[I)V"⟩
abbrev w_SA_expandMatrix : List Cond := Cond.code y_SA_expandMatrix c_SA_expandMatrix 6 none :: WG
theorem dSA_expandMatrix_0 : decode c_SA_expandMatrix 0 = .ok (.iconst 0, 1) := by decide +kernel
theorem dSA_expandMatrix_1 : decode c_SA_expandMatrix 1 = .ok (.istore 4, 2) := by decide +kernel
theorem dSA_expandMatrix_3 : decode c_SA_expandMatrix 3 = .ok (.iload 4, 2) := by decide +kernel
theorem dSA_expandMatrix_5 : decode c_SA_expandMatrix 5 = .ok (.aload_n 1, 1) := by decide +kernel
theorem dSA_expandMatrix_6 : decode c_SA_expandMatrix 6 = .ok (.getfield 20, 3) := by decide +kernel
theorem dSA_expandMatrix_9 : decode c_SA_expandMatrix 9 = .ok (.if_icmp .ge 48, 3) := by decide +kernel
theorem dSA_expandMatrix_12 : decode c_SA_expandMatrix 12 = .ok (.iconst 0, 1) := by decide +kernel
theorem dSA_expandMatrix_13 : decode c_SA_expandMatrix 13 = .ok (.istore 5, 2) := by decide +kernel
theorem dSA_expandMatrix_15 : decode c_SA_expandMatrix 15 = .ok (.iload 5, 2) := by decide +kernel
theorem dSA_expandMatrix_17 : decode c_SA_expandMatrix 17 = .ok (.aload_n 1, 1) := by decide +kernel
theorem dSA_expandMatrix_18 : decode c_SA_expandMatrix 18 = .ok (.getfield 26, 3) := by decide +kernel
theorem dSA_expandMatrix_21 : decode c_SA_expandMatrix 21 = .ok (.if_icmp .ge 30, 3) := by decide +kernel
theorem dSA_expandMatrix_24 : decode c_SA_expandMatrix 24 = .ok (.aload_n 0, 1) := by decide +kernel
theorem dSA_expandMatrix_25 : decode c_SA_expandMatrix 25 = .ok (.aload_n 3, 1) := by decide +kernel
theorem dSA_expandMatrix_26 : decode c_SA_expandMatrix 26 = .ok (.aload_n 1, 1) := by decide +kernel
theorem dSA_expandMatrix_27 : decode c_SA_expandMatrix 27 = .ok (.getfield 26, 3) := by decide +kernel
theorem dSA_expandMatrix_30 : decode c_SA_expandMatrix 30 = .ok (.iload 4, 2) := by decide +kernel
theorem dSA_expandMatrix_32 : decode c_SA_expandMatrix 32 = .ok (.imul, 1) := by decide +kernel
theorem dSA_expandMatrix_33 : decode c_SA_expandMatrix 33 = .ok (.iload 5, 2) := by decide +kernel
theorem dSA_expandMatrix_35 : decode c_SA_expandMatrix 35 = .ok (.iadd, 1) := by decide +kernel
theorem dSA_expandMatrix_36 : decode c_SA_expandMatrix 36 = .ok (.aaload, 1) := by decide +kernel
theorem dSA_expandMatrix_37 : decode c_SA_expandMatrix 37 = .ok (.aload_n 2, 1) := by decide +kernel
theorem dSA_expandMatrix_38 : decode c_SA_expandMatrix 38 = .ok (.iload 5, 2) := by decide +kernel
theorem dSA_expandMatrix_40 : decode c_SA_expandMatrix 40 = .ok (.iload 4, 2) := by decide +kernel
theorem dSA_expandMatrix_42 : decode c_SA_expandMatrix 42 = .ok (.invokevirtual 29, 3) := by decide +kernel
theorem dSA_expandMatrix_45 : decode c_SA_expandMatrix 45 = .ok (.iinc 5 1, 3) := by decide +kernel
theorem dSA_expandMatrix_48 : decode c_SA_expandMatrix 48 = .ok (.goto (-33), 3) := by decide +kernel
theorem dSA_expandMatrix_51 : decode c_SA_expandMatrix 51 = .ok (.iinc 4 1, 3) := by decide +kernel
theorem dSA_expandMatrix_54 : decode c_SA_expandMatrix 54 = .ok (.goto (-51), 3) := by decide +kernel
theorem dSA_expandMatrix_57 : decode c_SA_expandMatrix 57 = .ok (.return_, 1) := by decide +kernel
abbrev c_SA_putSmall : ByteArray := prog_4_method_5_code
abbrev y_SA_putSmall : MethodName := ⟨"LatticeKeys$DsaSampler", "putSmall", "(I[III)I"⟩
abbrev w_SA_putSmall : List Cond := Cond.code y_SA_putSmall c_SA_putSmall 7 (some .int) :: WG
theorem dSA_putSmall_0 : decode c_SA_putSmall 0 = .ok (.iload_n 1, 1) := by decide +kernel
theorem dSA_putSmall_1 : decode c_SA_putSmall 1 = .ok (.iconst 2, 1) := by decide +kernel
theorem dSA_putSmall_2 : decode c_SA_putSmall 2 = .ok (.if_icmp .ne 8, 3) := by decide +kernel
theorem dSA_putSmall_5 : decode c_SA_putSmall 5 = .ok (.bipush 15, 2) := by decide +kernel
theorem dSA_putSmall_7 : decode c_SA_putSmall 7 = .ok (.goto 5, 3) := by decide +kernel
theorem dSA_putSmall_10 : decode c_SA_putSmall 10 = .ok (.bipush 9, 2) := by decide +kernel
theorem dSA_putSmall_12 : decode c_SA_putSmall 12 = .ok (.istore 5, 2) := by decide +kernel
theorem dSA_putSmall_14 : decode c_SA_putSmall 14 = .ok (.iload 4, 2) := by decide +kernel
theorem dSA_putSmall_16 : decode c_SA_putSmall 16 = .ok (.iload 5, 2) := by decide +kernel
theorem dSA_putSmall_18 : decode c_SA_putSmall 18 = .ok (.if_icmp .ge 10, 3) := by decide +kernel
theorem dSA_putSmall_21 : decode c_SA_putSmall 21 = .ok (.iload_n 3, 1) := by decide +kernel
theorem dSA_putSmall_22 : decode c_SA_putSmall 22 = .ok (.sipush 256, 3) := by decide +kernel
theorem dSA_putSmall_25 : decode c_SA_putSmall 25 = .ok (.if_icmp .lt 5, 3) := by decide +kernel
theorem dSA_putSmall_28 : decode c_SA_putSmall 28 = .ok (.iload_n 3, 1) := by decide +kernel
theorem dSA_putSmall_29 : decode c_SA_putSmall 29 = .ok (.ireturn, 1) := by decide +kernel
theorem dSA_putSmall_30 : decode c_SA_putSmall 30 = .ok (.iload_n 1, 1) := by decide +kernel
theorem dSA_putSmall_31 : decode c_SA_putSmall 31 = .ok (.iload_n 1, 1) := by decide +kernel
theorem dSA_putSmall_32 : decode c_SA_putSmall 32 = .ok (.iconst 2, 1) := by decide +kernel
theorem dSA_putSmall_33 : decode c_SA_putSmall 33 = .ok (.if_icmp .ne 10, 3) := by decide +kernel
theorem dSA_putSmall_36 : decode c_SA_putSmall 36 = .ok (.iload 4, 2) := by decide +kernel
theorem dSA_putSmall_38 : decode c_SA_putSmall 38 = .ok (.iconst 5, 1) := by decide +kernel
theorem dSA_putSmall_39 : decode c_SA_putSmall 39 = .ok (.irem, 1) := by decide +kernel
theorem dSA_putSmall_40 : decode c_SA_putSmall 40 = .ok (.goto 5, 3) := by decide +kernel
theorem dSA_putSmall_43 : decode c_SA_putSmall 43 = .ok (.iload 4, 2) := by decide +kernel
theorem dSA_putSmall_45 : decode c_SA_putSmall 45 = .ok (.isub, 1) := by decide +kernel
theorem dSA_putSmall_46 : decode c_SA_putSmall 46 = .ok (.istore 6, 2) := by decide +kernel
theorem dSA_putSmall_48 : decode c_SA_putSmall 48 = .ok (.aload_n 2, 1) := by decide +kernel
theorem dSA_putSmall_49 : decode c_SA_putSmall 49 = .ok (.iload_n 3, 1) := by decide +kernel
theorem dSA_putSmall_50 : decode c_SA_putSmall 50 = .ok (.iload 6, 2) := by decide +kernel
theorem dSA_putSmall_52 : decode c_SA_putSmall 52 = .ok (.ifCond .ge 11, 3) := by decide +kernel
theorem dSA_putSmall_55 : decode c_SA_putSmall 55 = .ok (.iload 6, 2) := by decide +kernel
theorem dSA_putSmall_57 : decode c_SA_putSmall 57 = .ok (.ldc 56, 2) := by decide +kernel
theorem dSA_putSmall_59 : decode c_SA_putSmall 59 = .ok (.iadd, 1) := by decide +kernel
theorem dSA_putSmall_60 : decode c_SA_putSmall 60 = .ok (.goto 5, 3) := by decide +kernel
theorem dSA_putSmall_63 : decode c_SA_putSmall 63 = .ok (.iload 6, 2) := by decide +kernel
theorem dSA_putSmall_65 : decode c_SA_putSmall 65 = .ok (.iastore, 1) := by decide +kernel
theorem dSA_putSmall_66 : decode c_SA_putSmall 66 = .ok (.iload_n 3, 1) := by decide +kernel
theorem dSA_putSmall_67 : decode c_SA_putSmall 67 = .ok (.iconst 1, 1) := by decide +kernel
theorem dSA_putSmall_68 : decode c_SA_putSmall 68 = .ok (.iadd, 1) := by decide +kernel
theorem dSA_putSmall_69 : decode c_SA_putSmall 69 = .ok (.ireturn, 1) := by decide +kernel
abbrev c_SA_sampleSmall : ByteArray := prog_4_method_4_code
abbrev y_SA_sampleSmall : MethodName := ⟨"LatticeKeys$DsaSampler", "sampleSmall", "(LLatticeKeys$DsaSet;[I[BII)V"⟩
abbrev w_SA_sampleSmall : List Cond := Cond.code y_SA_sampleSmall c_SA_sampleSmall 9 none :: WG
theorem dSA_sampleSmall_0 : decode c_SA_sampleSmall 0 = .ok (.aload_n 0, 1) := by decide +kernel
theorem dSA_sampleSmall_1 : decode c_SA_sampleSmall 1 = .ok (.aload_n 3, 1) := by decide +kernel
theorem dSA_sampleSmall_2 : decode c_SA_sampleSmall 2 = .ok (.iload 4, 2) := by decide +kernel
theorem dSA_sampleSmall_4 : decode c_SA_sampleSmall 4 = .ok (.iload 5, 2) := by decide +kernel
theorem dSA_sampleSmall_6 : decode c_SA_sampleSmall 6 = .ok (.invokevirtual 57, 3) := by decide +kernel
theorem dSA_sampleSmall_9 : decode c_SA_sampleSmall 9 = .ok (.iconst 0, 1) := by decide +kernel
theorem dSA_sampleSmall_10 : decode c_SA_sampleSmall 10 = .ok (.istore 6, 2) := by decide +kernel
theorem dSA_sampleSmall_12 : decode c_SA_sampleSmall 12 = .ok (.iconst 0, 1) := by decide +kernel
theorem dSA_sampleSmall_13 : decode c_SA_sampleSmall 13 = .ok (.istore 7, 2) := by decide +kernel
theorem dSA_sampleSmall_15 : decode c_SA_sampleSmall 15 = .ok (.iload 6, 2) := by decide +kernel
theorem dSA_sampleSmall_17 : decode c_SA_sampleSmall 17 = .ok (.sipush 256, 3) := by decide +kernel
theorem dSA_sampleSmall_20 : decode c_SA_sampleSmall 20 = .ok (.if_icmp .ge 60, 3) := by decide +kernel
theorem dSA_sampleSmall_23 : decode c_SA_sampleSmall 23 = .ok (.iload 7, 2) := by decide +kernel
theorem dSA_sampleSmall_25 : decode c_SA_sampleSmall 25 = .ok (.ldc 49, 2) := by decide +kernel
theorem dSA_sampleSmall_27 : decode c_SA_sampleSmall 27 = .ok (.if_icmp .ge 53, 3) := by decide +kernel
theorem dSA_sampleSmall_30 : decode c_SA_sampleSmall 30 = .ok (.aload_n 0, 1) := by decide +kernel
theorem dSA_sampleSmall_31 : decode c_SA_sampleSmall 31 = .ok (.getfield 10, 3) := by decide +kernel
theorem dSA_sampleSmall_34 : decode c_SA_sampleSmall 34 = .ok (.invokevirtual 50, 3) := by decide +kernel
theorem dSA_sampleSmall_37 : decode c_SA_sampleSmall 37 = .ok (.istore 8, 2) := by decide +kernel
theorem dSA_sampleSmall_39 : decode c_SA_sampleSmall 39 = .ok (.aload_n 0, 1) := by decide +kernel
theorem dSA_sampleSmall_40 : decode c_SA_sampleSmall 40 = .ok (.aload_n 1, 1) := by decide +kernel
theorem dSA_sampleSmall_41 : decode c_SA_sampleSmall 41 = .ok (.getfield 60, 3) := by decide +kernel
theorem dSA_sampleSmall_44 : decode c_SA_sampleSmall 44 = .ok (.aload_n 2, 1) := by decide +kernel
theorem dSA_sampleSmall_45 : decode c_SA_sampleSmall 45 = .ok (.iload 6, 2) := by decide +kernel
theorem dSA_sampleSmall_47 : decode c_SA_sampleSmall 47 = .ok (.iload 8, 2) := by decide +kernel
theorem dSA_sampleSmall_49 : decode c_SA_sampleSmall 49 = .ok (.bipush 15, 2) := by decide +kernel
theorem dSA_sampleSmall_51 : decode c_SA_sampleSmall 51 = .ok (.iand, 1) := by decide +kernel
theorem dSA_sampleSmall_52 : decode c_SA_sampleSmall 52 = .ok (.invokevirtual 63, 3) := by decide +kernel
theorem dSA_sampleSmall_55 : decode c_SA_sampleSmall 55 = .ok (.istore 6, 2) := by decide +kernel
theorem dSA_sampleSmall_57 : decode c_SA_sampleSmall 57 = .ok (.aload_n 0, 1) := by decide +kernel
theorem dSA_sampleSmall_58 : decode c_SA_sampleSmall 58 = .ok (.aload_n 1, 1) := by decide +kernel
theorem dSA_sampleSmall_59 : decode c_SA_sampleSmall 59 = .ok (.getfield 60, 3) := by decide +kernel
theorem dSA_sampleSmall_62 : decode c_SA_sampleSmall 62 = .ok (.aload_n 2, 1) := by decide +kernel
theorem dSA_sampleSmall_63 : decode c_SA_sampleSmall 63 = .ok (.iload 6, 2) := by decide +kernel
theorem dSA_sampleSmall_65 : decode c_SA_sampleSmall 65 = .ok (.iload 8, 2) := by decide +kernel
theorem dSA_sampleSmall_67 : decode c_SA_sampleSmall 67 = .ok (.iconst 4, 1) := by decide +kernel
theorem dSA_sampleSmall_68 : decode c_SA_sampleSmall 68 = .ok (.ishr, 1) := by decide +kernel
theorem dSA_sampleSmall_69 : decode c_SA_sampleSmall 69 = .ok (.invokevirtual 63, 3) := by decide +kernel
theorem dSA_sampleSmall_72 : decode c_SA_sampleSmall 72 = .ok (.istore 6, 2) := by decide +kernel
theorem dSA_sampleSmall_74 : decode c_SA_sampleSmall 74 = .ok (.iinc 7 1, 3) := by decide +kernel
theorem dSA_sampleSmall_77 : decode c_SA_sampleSmall 77 = .ok (.goto (-62), 3) := by decide +kernel
theorem dSA_sampleSmall_80 : decode c_SA_sampleSmall 80 = .ok (.return_, 1) := by decide +kernel
abbrev c_SA_sampleMask : ByteArray := prog_4_method_6_code
abbrev y_SA_sampleMask : MethodName := ⟨"LatticeKeys$DsaSampler", "sampleMask", "(LLatticeKeys$DsaSet;[I[BI)V"⟩
abbrev w_SA_sampleMask : List Cond := Cond.code y_SA_sampleMask c_SA_sampleMask 5 none :: WG
theorem dSA_sampleMask_0 : decode c_SA_sampleMask 0 = .ok (.aload_n 0, 1) := by decide +kernel
theorem dSA_sampleMask_1 : decode c_SA_sampleMask 1 = .ok (.aload_n 3, 1) := by decide +kernel
theorem dSA_sampleMask_2 : decode c_SA_sampleMask 2 = .ok (.iconst 0, 1) := by decide +kernel
theorem dSA_sampleMask_3 : decode c_SA_sampleMask 3 = .ok (.iload 4, 2) := by decide +kernel
theorem dSA_sampleMask_5 : decode c_SA_sampleMask 5 = .ok (.invokevirtual 57, 3) := by decide +kernel
theorem dSA_sampleMask_8 : decode c_SA_sampleMask 8 = .ok (.aload_n 0, 1) := by decide +kernel
theorem dSA_sampleMask_9 : decode c_SA_sampleMask 9 = .ok (.getfield 10, 3) := by decide +kernel
theorem dSA_sampleMask_12 : decode c_SA_sampleMask 12 = .ok (.aload_n 0, 1) := by decide +kernel
theorem dSA_sampleMask_13 : decode c_SA_sampleMask 13 = .ok (.getfield 16, 3) := by decide +kernel
theorem dSA_sampleMask_16 : decode c_SA_sampleMask 16 = .ok (.iconst 0, 1) := by decide +kernel
theorem dSA_sampleMask_17 : decode c_SA_sampleMask 17 = .ok (.bipush 32, 2) := by decide +kernel
theorem dSA_sampleMask_19 : decode c_SA_sampleMask 19 = .ok (.aload_n 1, 1) := by decide +kernel
theorem dSA_sampleMask_20 : decode c_SA_sampleMask 20 = .ok (.getfield 67, 3) := by decide +kernel
theorem dSA_sampleMask_23 : decode c_SA_sampleMask 23 = .ok (.imul, 1) := by decide +kernel
theorem dSA_sampleMask_24 : decode c_SA_sampleMask 24 = .ok (.invokevirtual 70, 3) := by decide +kernel
theorem dSA_sampleMask_27 : decode c_SA_sampleMask 27 = .ok (.aload_n 2, 1) := by decide +kernel
theorem dSA_sampleMask_28 : decode c_SA_sampleMask 28 = .ok (.aload_n 1, 1) := by decide +kernel
theorem dSA_sampleMask_29 : decode c_SA_sampleMask 29 = .ok (.getfield 67, 3) := by decide +kernel
theorem dSA_sampleMask_32 : decode c_SA_sampleMask 32 = .ok (.aload_n 0, 1) := by decide +kernel
theorem dSA_sampleMask_33 : decode c_SA_sampleMask 33 = .ok (.getfield 16, 3) := by decide +kernel
theorem dSA_sampleMask_36 : decode c_SA_sampleMask 36 = .ok (.iconst 0, 1) := by decide +kernel
theorem dSA_sampleMask_37 : decode c_SA_sampleMask 37 = .ok (.invokestatic 73, 3) := by decide +kernel
theorem dSA_sampleMask_40 : decode c_SA_sampleMask 40 = .ok (.return_, 1) := by decide +kernel
abbrev c_SA_sampleBall : ByteArray := prog_4_method_8_code
abbrev y_SA_sampleBall : MethodName := ⟨"LatticeKeys$DsaSampler", "sampleBall", "(LLatticeKeys$DsaSet;[I[B)V"⟩
abbrev w_SA_sampleBall : List Cond := Cond.code y_SA_sampleBall c_SA_sampleBall 9 none :: WG
theorem dSA_sampleBall_0 : decode c_SA_sampleBall 0 = .ok (.aload_n 0, 1) := by decide +kernel
theorem dSA_sampleBall_1 : decode c_SA_sampleBall 1 = .ok (.getfield 10, 3) := by decide +kernel
theorem dSA_sampleBall_4 : decode c_SA_sampleBall 4 = .ok (.iconst 3, 1) := by decide +kernel
theorem dSA_sampleBall_5 : decode c_SA_sampleBall 5 = .ok (.invokevirtual 33, 3) := by decide +kernel
theorem dSA_sampleBall_8 : decode c_SA_sampleBall 8 = .ok (.aload_n 0, 1) := by decide +kernel
theorem dSA_sampleBall_9 : decode c_SA_sampleBall 9 = .ok (.getfield 10, 3) := by decide +kernel
theorem dSA_sampleBall_12 : decode c_SA_sampleBall 12 = .ok (.aload_n 3, 1) := by decide +kernel
theorem dSA_sampleBall_13 : decode c_SA_sampleBall 13 = .ok (.iconst 0, 1) := by decide +kernel
theorem dSA_sampleBall_14 : decode c_SA_sampleBall 14 = .ok (.aload_n 1, 1) := by decide +kernel
theorem dSA_sampleBall_15 : decode c_SA_sampleBall 15 = .ok (.getfield 79, 3) := by decide +kernel
theorem dSA_sampleBall_18 : decode c_SA_sampleBall 18 = .ok (.invokevirtual 37, 3) := by decide +kernel
theorem dSA_sampleBall_21 : decode c_SA_sampleBall 21 = .ok (.aload_n 0, 1) := by decide +kernel
theorem dSA_sampleBall_22 : decode c_SA_sampleBall 22 = .ok (.getfield 10, 3) := by decide +kernel
theorem dSA_sampleBall_25 : decode c_SA_sampleBall 25 = .ok (.invokevirtual 44, 3) := by decide +kernel
theorem dSA_sampleBall_28 : decode c_SA_sampleBall 28 = .ok (.lconst 0, 1) := by decide +kernel
theorem dSA_sampleBall_29 : decode c_SA_sampleBall 29 = .ok (.lstore 4, 2) := by decide +kernel
theorem dSA_sampleBall_31 : decode c_SA_sampleBall 31 = .ok (.iconst 0, 1) := by decide +kernel
theorem dSA_sampleBall_32 : decode c_SA_sampleBall 32 = .ok (.istore 6, 2) := by decide +kernel
theorem dSA_sampleBall_34 : decode c_SA_sampleBall 34 = .ok (.iload 6, 2) := by decide +kernel
theorem dSA_sampleBall_36 : decode c_SA_sampleBall 36 = .ok (.bipush 8, 2) := by decide +kernel
theorem dSA_sampleBall_38 : decode c_SA_sampleBall 38 = .ok (.if_icmp .ge 28, 3) := by decide +kernel
theorem dSA_sampleBall_41 : decode c_SA_sampleBall 41 = .ok (.lload 4, 2) := by decide +kernel
theorem dSA_sampleBall_43 : decode c_SA_sampleBall 43 = .ok (.aload_n 0, 1) := by decide +kernel
theorem dSA_sampleBall_44 : decode c_SA_sampleBall 44 = .ok (.getfield 10, 3) := by decide +kernel
theorem dSA_sampleBall_47 : decode c_SA_sampleBall 47 = .ok (.invokevirtual 50, 3) := by decide +kernel
theorem dSA_sampleBall_50 : decode c_SA_sampleBall 50 = .ok (.i2l, 1) := by decide +kernel
theorem dSA_sampleBall_51 : decode c_SA_sampleBall 51 = .ok (.bipush 8, 2) := by decide +kernel
theorem dSA_sampleBall_53 : decode c_SA_sampleBall 53 = .ok (.iload 6, 2) := by decide +kernel
theorem dSA_sampleBall_55 : decode c_SA_sampleBall 55 = .ok (.imul, 1) := by decide +kernel
theorem dSA_sampleBall_56 : decode c_SA_sampleBall 56 = .ok (.lshl, 1) := by decide +kernel
theorem dSA_sampleBall_57 : decode c_SA_sampleBall 57 = .ok (.lor, 1) := by decide +kernel
theorem dSA_sampleBall_58 : decode c_SA_sampleBall 58 = .ok (.lstore 4, 2) := by decide +kernel
theorem dSA_sampleBall_60 : decode c_SA_sampleBall 60 = .ok (.iinc 6 1, 3) := by decide +kernel
theorem dSA_sampleBall_63 : decode c_SA_sampleBall 63 = .ok (.goto (-29), 3) := by decide +kernel
theorem dSA_sampleBall_66 : decode c_SA_sampleBall 66 = .ok (.aload_n 2, 1) := by decide +kernel
theorem dSA_sampleBall_67 : decode c_SA_sampleBall 67 = .ok (.iconst 0, 1) := by decide +kernel
theorem dSA_sampleBall_68 : decode c_SA_sampleBall 68 = .ok (.invokestatic 82, 3) := by decide +kernel
theorem dSA_sampleBall_71 : decode c_SA_sampleBall 71 = .ok (.sipush 256, 3) := by decide +kernel
theorem dSA_sampleBall_74 : decode c_SA_sampleBall 74 = .ok (.aload_n 1, 1) := by decide +kernel
theorem dSA_sampleBall_75 : decode c_SA_sampleBall 75 = .ok (.getfield 88, 3) := by decide +kernel
theorem dSA_sampleBall_78 : decode c_SA_sampleBall 78 = .ok (.isub, 1) := by decide +kernel
theorem dSA_sampleBall_79 : decode c_SA_sampleBall 79 = .ok (.istore 6, 2) := by decide +kernel
theorem dSA_sampleBall_81 : decode c_SA_sampleBall 81 = .ok (.iload 6, 2) := by decide +kernel
theorem dSA_sampleBall_83 : decode c_SA_sampleBall 83 = .ok (.sipush 256, 3) := by decide +kernel
theorem dSA_sampleBall_86 : decode c_SA_sampleBall 86 = .ok (.if_icmp .ge 83, 3) := by decide +kernel
theorem dSA_sampleBall_89 : decode c_SA_sampleBall 89 = .ok (.aload_n 0, 1) := by decide +kernel
theorem dSA_sampleBall_90 : decode c_SA_sampleBall 90 = .ok (.getfield 10, 3) := by decide +kernel
theorem dSA_sampleBall_93 : decode c_SA_sampleBall 93 = .ok (.invokevirtual 50, 3) := by decide +kernel
theorem dSA_sampleBall_96 : decode c_SA_sampleBall 96 = .ok (.istore 7, 2) := by decide +kernel
theorem dSA_sampleBall_98 : decode c_SA_sampleBall 98 = .ok (.iconst 0, 1) := by decide +kernel
theorem dSA_sampleBall_99 : decode c_SA_sampleBall 99 = .ok (.istore 8, 2) := by decide +kernel
theorem dSA_sampleBall_101 : decode c_SA_sampleBall 101 = .ok (.iload 7, 2) := by decide +kernel
theorem dSA_sampleBall_103 : decode c_SA_sampleBall 103 = .ok (.iload 6, 2) := by decide +kernel
theorem dSA_sampleBall_105 : decode c_SA_sampleBall 105 = .ok (.if_icmp .le 25, 3) := by decide +kernel
theorem dSA_sampleBall_108 : decode c_SA_sampleBall 108 = .ok (.iload 8, 2) := by decide +kernel
theorem dSA_sampleBall_110 : decode c_SA_sampleBall 110 = .ok (.ldc 49, 2) := by decide +kernel
theorem dSA_sampleBall_112 : decode c_SA_sampleBall 112 = .ok (.if_icmp .ge 18, 3) := by decide +kernel
theorem dSA_sampleBall_115 : decode c_SA_sampleBall 115 = .ok (.aload_n 0, 1) := by decide +kernel
theorem dSA_sampleBall_116 : decode c_SA_sampleBall 116 = .ok (.getfield 10, 3) := by decide +kernel
theorem dSA_sampleBall_119 : decode c_SA_sampleBall 119 = .ok (.invokevirtual 50, 3) := by decide +kernel
theorem dSA_sampleBall_122 : decode c_SA_sampleBall 122 = .ok (.istore 7, 2) := by decide +kernel
theorem dSA_sampleBall_124 : decode c_SA_sampleBall 124 = .ok (.iinc 8 1, 3) := by decide +kernel
theorem dSA_sampleBall_127 : decode c_SA_sampleBall 127 = .ok (.goto (-26), 3) := by decide +kernel
theorem dSA_sampleBall_130 : decode c_SA_sampleBall 130 = .ok (.aload_n 2, 1) := by decide +kernel
theorem dSA_sampleBall_131 : decode c_SA_sampleBall 131 = .ok (.iload 6, 2) := by decide +kernel
theorem dSA_sampleBall_133 : decode c_SA_sampleBall 133 = .ok (.aload_n 2, 1) := by decide +kernel
theorem dSA_sampleBall_134 : decode c_SA_sampleBall 134 = .ok (.iload 7, 2) := by decide +kernel
theorem dSA_sampleBall_136 : decode c_SA_sampleBall 136 = .ok (.iaload, 1) := by decide +kernel
theorem dSA_sampleBall_137 : decode c_SA_sampleBall 137 = .ok (.iastore, 1) := by decide +kernel
theorem dSA_sampleBall_138 : decode c_SA_sampleBall 138 = .ok (.aload_n 2, 1) := by decide +kernel
theorem dSA_sampleBall_139 : decode c_SA_sampleBall 139 = .ok (.iload 7, 2) := by decide +kernel
theorem dSA_sampleBall_141 : decode c_SA_sampleBall 141 = .ok (.lload 4, 2) := by decide +kernel
theorem dSA_sampleBall_143 : decode c_SA_sampleBall 143 = .ok (.lconst 1, 1) := by decide +kernel
theorem dSA_sampleBall_144 : decode c_SA_sampleBall 144 = .ok (.land, 1) := by decide +kernel
theorem dSA_sampleBall_145 : decode c_SA_sampleBall 145 = .ok (.lconst 0, 1) := by decide +kernel
theorem dSA_sampleBall_146 : decode c_SA_sampleBall 146 = .ok (.lcmp, 1) := by decide +kernel
theorem dSA_sampleBall_147 : decode c_SA_sampleBall 147 = .ok (.ifCond .ne 7, 3) := by decide +kernel
theorem dSA_sampleBall_150 : decode c_SA_sampleBall 150 = .ok (.iconst 1, 1) := by decide +kernel
theorem dSA_sampleBall_151 : decode c_SA_sampleBall 151 = .ok (.goto 5, 3) := by decide +kernel
theorem dSA_sampleBall_154 : decode c_SA_sampleBall 154 = .ok (.ldc 91, 2) := by decide +kernel
theorem dSA_sampleBall_156 : decode c_SA_sampleBall 156 = .ok (.iastore, 1) := by decide +kernel
theorem dSA_sampleBall_157 : decode c_SA_sampleBall 157 = .ok (.lload 4, 2) := by decide +kernel
theorem dSA_sampleBall_159 : decode c_SA_sampleBall 159 = .ok (.iconst 1, 1) := by decide +kernel
theorem dSA_sampleBall_160 : decode c_SA_sampleBall 160 = .ok (.lushr, 1) := by decide +kernel
theorem dSA_sampleBall_161 : decode c_SA_sampleBall 161 = .ok (.lstore 4, 2) := by decide +kernel
theorem dSA_sampleBall_163 : decode c_SA_sampleBall 163 = .ok (.iinc 6 1, 3) := by decide +kernel
theorem dSA_sampleBall_166 : decode c_SA_sampleBall 166 = .ok (.goto (-85), 3) := by decide +kernel
theorem dSA_sampleBall_169 : decode c_SA_sampleBall 169 = .ok (.return_, 1) := by decide +kernel
set_option maxHeartbeats 400000 in
set_option maxRecDepth 100000 in
theorem t_SA_startNumbered (l : Launch) (g : Gd) (sz : Nat) (T : Ty) (xs : List Nat) (pl : va_W) (hO : okx g T xs pl) (hU : uni T) (hc0 : clo T xs 0) (hc4 : clo T xs 4) (h0 b n at_ : Nat) (wh : Int32) (k_h0 : T h0 = some (14, 0)) (k_b : T b = some (1, n)) (h1 : at_ + 64 ≤ n) (h2 : n < 65536)  : Met l y_SA_startNumbered w_SA_startNumbered ({ frames := 3, cells := 0, slots := 0, locals := 100 } : Room) (va_Pc [.ref h0, .ref b, .int (nI at_), .int wh] (pr (en g) g.1 vcl sz ([] ++ pl))) (va_Qv (fun (u : va_W) => (True) ∧ okx g T xs u) (po g.1 vcl (va_A ([] ++ pl) sz) (fun (u : va_W) => [] ++ u)) (va_A ([] ++ pl) sz)) 0 0 (va_A ([] ++ pl) sz) := by
  refine mc_entry (cc := c_SA_startNumbered) (maxL := 4) (ret := none) (by decide) rfl (Nat.le_of_ble_eq_true rfl) ?_
  intro p e s m args below meth c ls F hr hlk hnm hsz hP hD hE hA hl
  obtain ⟨hx, hb, hml, hown, hts⟩ := id F
  have hK := hE.1
  generalize va_A ([] ++ pl) sz = A at hD hE hA ⊢
  have hS : va_S A s.heap s.heap [] := va_S.rf
  have hl : lv_has ls 4 [(0, .ref h0), (1, .ref b), (2, .int (nI at_)), (3, .int wh)] := hl
  refine lv_aload_n hx hb dSA_startNumbered_0 rfl (lv_at hl 0 rfl) ?_
  refine ty_get (ci := 7) (C := "LatticeKeys$DsaSampler") (TT := T_SA) (N := 2) (kd := (14, 0)) hx hb hts (wg_ft i_SA) hown hK hO k_h0 (nxg hc0 k_h0 rfl) hP (fun _ h9 => h9) rfl 0 (by decide) (hts _ (wg_t kw_157)) (fun _ h9 => h9) (cd := (3, 10, 3)) rfl dSA_startNumbered_1 (fun v21 hv21 => ?_)
  obtain ⟨r21, rfl, kr21⟩ := (show ∃ r : Nat, v21 = .ref r ∧ T r = some (10, 3) from hv21)
  refine lv_iconst (v := nI 3) hx hb dSA_startNumbered_4 (by decide) ?_
  obtain ⟨e21, pl, hP, hD, hk21, hO⟩ := open1 hP hD hO kr21 (nxg hc4 kr21 rfl)
  obtain ⟨ln21, rt21, ps21, x21, rfl, kl21, hr21, hr22, hr23⟩ := hk21
  have kl21 : T ln21 = some (19, 3) := kl21
  obtain ⟨e22, pl, hP, hD, hk22, hO⟩ := open1 hP hD hO kl21 (nmc (knd_ne kl21 kr21 (by decide)) (nxg hc4 kl21 rfl))
  obtain ⟨f21, rfl⟩ := hk22
  have hP : va_P g.1 vcl ([(r21, .inr (3, [.ref ln21, .int (nI rt21), .int x21, .int (nI ps21)])), (ln21, .inl (g.2.1 2, 25, .inr (.inl f21)))] ++ pl) _ := hP
  have hD : va_D _ ([(r21, .inr (3, [.ref ln21, .int (nI rt21), .int x21, .int (nI ps21)])), (ln21, .inl (g.2.1 2, 25, .inr (.inl f21)))] ++ pl) := hD
  refine mp_v (cx := [(r21, .inr (3, [.ref ln21, .int (nI rt21), .int x21, .int (nI ps21)])), (ln21, .inl (g.2.1 2, 25, .inr (.inl f21)))]) (wr := []) hP hD hS hA [0, 1] [] rfl rfl rfl (by decide) (va_runV (As := [.int (nI 3)]) (rest := []) F (t_SP_start_3 l g _ T (ln21 :: (r21 :: xs)) pl hO hU  r21 ln21 rt21 ps21 x21 f21) (cwV 1 hts (wg_app (wg_c kw_687 (wg_c kw_579 (wg_c kw_580 (wg_c kw_2 wg_n)))) kw_581) rfl rfl rfl (by decide +kernel) ⟨by decide, by decide⟩) (pp_V (en_ok g) (q0 := 0) hK hP hD hS hA hE [0, 1] rfl rfl rfl rfl) rfl rfl hl.1 rfl (lv_room (Nat.le_of_ble_eq_true rfl)) dSA_startNumbered_5 ⟨by omega, by omega⟩) (fun  u21 H locs hu21 hP hD hS => ?_)
  obtain ⟨u22, pl⟩ := u21
  obtain ⟨hq21, hO⟩ := hu21
  have hP : va_P g.1 vcl ([(r21, .inr (3, [.ref ln21, .int (nI 136), .int (nI 31), .int (nI 0)])), (ln21, .inl (g.2.1 2, 25, .inr (.inl u22)))] ++ pl) _ := hP
  have hD : va_D _ ([(r21, .inr (3, [.ref ln21, .int (nI 136), .int (nI 31), .int (nI 0)])), (ln21, .inl (g.2.1 2, 25, .inr (.inl u22)))] ++ pl) := hD
  refine W.widen (k := 0) (n := 0) (by omega) (by omega) ?_
  refine lv_aload_n hx hb dSA_startNumbered_8 rfl (lv_at hl 0 rfl) ?_
  refine ty_get (ci := 7) (C := "LatticeKeys$DsaSampler") (TT := T_SA) (N := 2) (kd := (14, 0)) hx hb hts (wg_ft i_SA) hown hK hO k_h0 (nxg (clo_cons (clo_cons hc0 kr21 (by decide)) kl21 (by decide)) k_h0 rfl) hP (fun _ h9 => h9) rfl 0 (by decide) (hts _ (wg_t kw_157)) (fun _ h9 => h9) (cd := (3, 10, 3)) rfl dSA_startNumbered_9 (fun v22 hv22 => ?_)
  obtain ⟨r22, rfl, kr22⟩ := (show ∃ r : Nat, v22 = .ref r ∧ T r = some (10, 3) from hv22)
  obtain rfl : r21 = r22 := hU _ _ _ (by decide) kr21 kr22
  refine lv_aload_n hx hb dSA_startNumbered_12 rfl (lv_at hl 1 rfl) ?_
  refine lv_iload_n hx hb dSA_startNumbered_13 rfl (lv_at hl 2 rfl) ?_
  refine lv_bipush (v := nI 64) hx hb dSA_startNumbered_14 (by decide) ?_
  refine mp_v (cx := [(r21, .inr (3, [.ref ln21, .int (nI 136), .int (nI 31), .int (nI 0)])), (ln21, .inl (g.2.1 2, 25, .inr (.inl u22)))]) (wr := []) hP hD hS hA [0, 1] [] rfl rfl rfl (by decide) (va_runV (As := [.ref b, .int (nI at_), .int (nI 64)]) (rest := []) F (t_SP_absorb l g _ T (ln21 :: (r21 :: xs)) pl hO hU (clo_cons (clo_cons hc0 kr21 (by decide)) kl21 (by decide)) b n at_ 64 r21 ln21 136 0 (nI 31) u22 k_b (by omega) (by omega) (by omega) (by omega)) (cwV 3 hts (wg_app (wg_c kw_688 (wg_c kw_586 (wg_c kw_587 (wg_c kw_2 wg_n)))) kw_588) rfl rfl rfl (by decide +kernel) ⟨by decide, by decide⟩) (pp_V (en_ok g) (q0 := 0) hK hP hD hS hA hE [0, 1] rfl rfl rfl rfl) rfl rfl hl.1 rfl (lv_room (Nat.le_of_ble_eq_true rfl)) dSA_startNumbered_16 ⟨by omega, by omega⟩) (fun  u23 H locs hu22 hP hD hS => ?_)
  obtain ⟨u24, pl⟩ := u23
  obtain ⟨hq22, hO⟩ := hu22
  obtain ⟨k21, f22⟩ := u24
  have hP : va_P g.1 vcl ([(r21, .inr (3, [.ref ln21, .int (nI 136), .int (nI 31), .int (nI k21)])), (ln21, .inl (g.2.1 2, 25, .inr (.inl f22)))] ++ pl) _ := hP
  have hD : va_D _ ([(r21, .inr (3, [.ref ln21, .int (nI 136), .int (nI 31), .int (nI k21)])), (ln21, .inl (g.2.1 2, 25, .inr (.inl f22)))] ++ pl) := hD
  have hq22 : k21 < 136 := hq22
  refine W.widen (k := 0) (n := 0) (by omega) (by omega) ?_
  refine lv_aload_n hx hb dSA_startNumbered_19 rfl (lv_at hl 0 rfl) ?_
  refine ty_get (ci := 7) (C := "LatticeKeys$DsaSampler") (TT := T_SA) (N := 2) (kd := (14, 0)) hx hb hts (wg_ft i_SA) hown hK hO k_h0 (nxg (clo_cons (clo_cons hc0 kr21 (by decide)) kl21 (by decide)) k_h0 rfl) hP (fun _ h9 => h9) rfl 0 (by decide) (hts _ (wg_t kw_157)) (fun _ h9 => h9) (cd := (3, 10, 3)) rfl dSA_startNumbered_20 (fun v23 hv23 => ?_)
  obtain ⟨r23, rfl, kr23⟩ := (show ∃ r : Nat, v23 = .ref r ∧ T r = some (10, 3) from hv23)
  obtain rfl : r21 = r23 := hU _ _ _ (by decide) kr21 kr23
  refine lv_iload_n hx hb dSA_startNumbered_23 rfl (lv_at hl 3 rfl) ?_
  refine mp_v (cx := [(r21, .inr (3, [.ref ln21, .int (nI 136), .int (nI 31), .int (nI k21)])), (ln21, .inl (g.2.1 2, 25, .inr (.inl f22)))]) (wr := []) hP hD hS hA [0, 1] [] rfl rfl rfl (by decide) (va_runV (As := [.int wh]) (rest := []) F (t_SP_absorbByte l g _ T (ln21 :: (r21 :: xs)) pl hO hU  wh r21 ln21 136 k21 (nI 31) f22 (by omega) (by omega)) (cwV 1 hts (wg_app (wg_c kw_689 (wg_c kw_590 (wg_c kw_591 (wg_c kw_2 wg_n)))) kw_592) rfl rfl rfl (by decide +kernel) ⟨by decide, by decide⟩) (pp_V (en_ok g) (q0 := 0) hK hP hD hS hA hE [0, 1] rfl rfl rfl rfl) rfl rfl hl.1 rfl (lv_room (Nat.le_of_ble_eq_true rfl)) dSA_startNumbered_24 ⟨by omega, by omega⟩) (fun  u25 H locs hu23 hP hD hS => ?_)
  obtain ⟨u26, pl⟩ := u25
  obtain ⟨hq23, hO⟩ := hu23
  obtain ⟨k22, f23⟩ := u26
  have hP : va_P g.1 vcl ([(r21, .inr (3, [.ref ln21, .int (nI 136), .int (nI 31), .int (nI k22)])), (ln21, .inl (g.2.1 2, 25, .inr (.inl f23)))] ++ pl) _ := hP
  have hD : va_D _ ([(r21, .inr (3, [.ref ln21, .int (nI 136), .int (nI 31), .int (nI k22)])), (ln21, .inl (g.2.1 2, 25, .inr (.inl f23)))] ++ pl) := hD
  have hq23 : k22 < 136 := hq23
  refine W.widen (k := 0) (n := 0) (by omega) (by omega) ?_
  refine lv_aload_n hx hb dSA_startNumbered_27 rfl (lv_at hl 0 rfl) ?_
  refine ty_get (ci := 7) (C := "LatticeKeys$DsaSampler") (TT := T_SA) (N := 2) (kd := (14, 0)) hx hb hts (wg_ft i_SA) hown hK hO k_h0 (nxg (clo_cons (clo_cons hc0 kr21 (by decide)) kl21 (by decide)) k_h0 rfl) hP (fun _ h9 => h9) rfl 0 (by decide) (hts _ (wg_t kw_157)) (fun _ h9 => h9) (cd := (3, 10, 3)) rfl dSA_startNumbered_28 (fun v24 hv24 => ?_)
  obtain ⟨r24, rfl, kr24⟩ := (show ∃ r : Nat, v24 = .ref r ∧ T r = some (10, 3) from hv24)
  obtain rfl : r21 = r24 := hU _ _ _ (by decide) kr21 kr24
  refine lv_iload_n hx hb dSA_startNumbered_31 rfl (lv_at hl 3 rfl) ?_
  refine lv_bipush (v := nI 8) hx hb dSA_startNumbered_32 (by decide) ?_
  refine lv_ishr hx hb dSA_startNumbered_34 ?_
  refine mi_any (fun z21 => ?_)
  refine mp_v (cx := [(r21, .inr (3, [.ref ln21, .int (nI 136), .int (nI 31), .int (nI k22)])), (ln21, .inl (g.2.1 2, 25, .inr (.inl f23)))]) (wr := []) hP hD hS hA [0, 1] [] rfl rfl rfl (by decide) (va_runV (As := [.int z21]) (rest := []) F (t_SP_absorbByte l g _ T (ln21 :: (r21 :: xs)) pl hO hU  z21 r21 ln21 136 k22 (nI 31) f23 (by omega) (by omega)) (cwV 1 hts (wg_app (wg_c kw_689 (wg_c kw_590 (wg_c kw_591 (wg_c kw_2 wg_n)))) kw_592) rfl rfl rfl (by decide +kernel) ⟨by decide, by decide⟩) (pp_V (en_ok g) (q0 := 0) hK hP hD hS hA hE [0, 1] rfl rfl rfl rfl) rfl rfl hl.1 rfl (lv_room (Nat.le_of_ble_eq_true rfl)) dSA_startNumbered_35 ⟨by omega, by omega⟩) (fun  u27 H locs hu24 hP hD hS => ?_)
  obtain ⟨u28, pl⟩ := u27
  obtain ⟨hq24, hO⟩ := hu24
  obtain ⟨k23, f24⟩ := u28
  have hP : va_P g.1 vcl ([(r21, .inr (3, [.ref ln21, .int (nI 136), .int (nI 31), .int (nI k23)])), (ln21, .inl (g.2.1 2, 25, .inr (.inl f24)))] ++ pl) _ := hP
  have hD : va_D _ ([(r21, .inr (3, [.ref ln21, .int (nI 136), .int (nI 31), .int (nI k23)])), (ln21, .inl (g.2.1 2, 25, .inr (.inl f24)))] ++ pl) := hD
  have hq24 : k23 < 136 := hq24
  refine W.widen (k := 0) (n := 0) (by omega) (by omega) ?_
  refine lv_aload_n hx hb dSA_startNumbered_38 rfl (lv_at hl 0 rfl) ?_
  refine ty_get (ci := 7) (C := "LatticeKeys$DsaSampler") (TT := T_SA) (N := 2) (kd := (14, 0)) hx hb hts (wg_ft i_SA) hown hK hO k_h0 (nxg (clo_cons (clo_cons hc0 kr21 (by decide)) kl21 (by decide)) k_h0 rfl) hP (fun _ h9 => h9) rfl 0 (by decide) (hts _ (wg_t kw_157)) (fun _ h9 => h9) (cd := (3, 10, 3)) rfl dSA_startNumbered_39 (fun v25 hv25 => ?_)
  obtain ⟨r25, rfl, kr25⟩ := (show ∃ r : Nat, v25 = .ref r ∧ T r = some (10, 3) from hv25)
  obtain rfl : r21 = r25 := hU _ _ _ (by decide) kr21 kr25
  refine mp_v (cx := [(r21, .inr (3, [.ref ln21, .int (nI 136), .int (nI 31), .int (nI k23)])), (ln21, .inl (g.2.1 2, 25, .inr (.inl f24)))]) (wr := []) hP hD hS hA [0, 1] [] rfl rfl rfl (by decide) (va_runV (As := []) (rest := []) F (t_SP_finish l g _ T (ln21 :: (r21 :: xs)) pl hO hU  r21 ln21 136 k23 (nI 31) f24 (by omega) (by omega)) (cwV 0 hts (wg_app (wg_c kw_690 (wg_c kw_611 (wg_c kw_612 (wg_c kw_2 wg_n)))) kw_613) rfl rfl rfl (by decide +kernel) ⟨by decide, by decide⟩) (pp_V (en_ok g) (q0 := 0) hK hP hD hS hA hE [0, 1] rfl rfl rfl rfl) rfl rfl hl.1 rfl (lv_room (Nat.le_of_ble_eq_true rfl)) dSA_startNumbered_42 ⟨by omega, by omega⟩) (fun  u29 H locs hu25 hP hD hS => ?_)
  obtain ⟨u30, pl⟩ := u29
  obtain ⟨hq25, hO⟩ := hu25
  have hP : va_P g.1 vcl ([(r21, .inr (3, [.ref ln21, .int (nI 136), .int (nI 31), .int (nI 136)])), (ln21, .inl (g.2.1 2, 25, .inr (.inl u30)))] ++ pl) _ := hP
  have hD : va_D _ ([(r21, .inr (3, [.ref ln21, .int (nI 136), .int (nI 31), .int (nI 136)])), (ln21, .inl (g.2.1 2, 25, .inr (.inl u30)))] ++ pl) := hD
  refine W.widen (k := 0) (n := 0) (by omega) (by omega) ?_
  have hO := close1 (e := .inl (g.2.1 2, 25, .inr (.inl u30))) hO kl21 ⟨_, rfl⟩
  have hO := close1 (e := .inr (3, [.ref ln21, .int (nI 136), .int (nI 31), .int (nI 136)])) hO kr21 ⟨_, _, _, _, rfl, kl21, by omega, by omega, by omega⟩
  have hO : okx g T xs ((r21, .inr (3, [.ref ln21, .int (nI 136), .int (nI 31), .int (nI 136)])) :: (ln21, .inl (g.2.1 2, 25, .inr (.inl u30))) :: pl) := hO
  have hP : va_P g.1 vcl ([] ++ ((r21, .inr (3, [.ref ln21, .int (nI 136), .int (nI 31), .int (nI 136)])) :: (ln21, .inl (g.2.1 2, 25, .inr (.inl u30))) :: pl)) _ := hP
  have hD : va_D _ ([] ++ ((r21, .inr (3, [.ref ln21, .int (nI 136), .int (nI 31), .int (nI 136)])) :: (ln21, .inl (g.2.1 2, 25, .inr (.inl u30))) :: pl)) := hD
  generalize ((r21, .inr (3, [.ref ln21, .int (nI 136), .int (nI 31), .int (nI 136)])) :: (ln21, .inl (g.2.1 2, 25, .inr (.inl u30))) :: pl) = pl at hO hP hD
  exact mp_vret hx hb hr hlk hP hD hS pl ⟨trivial, hO⟩ [] rfl rfl rfl (by omega) (by omega) dSA_startNumbered_45
set_option maxHeartbeats 400000 in
set_option maxRecDepth 100000 in
theorem t_SA_sampleEntry (l : Launch) (g : Gd) (sz : Nat) (T : Ty) (xs : List Nat) (pl : va_W) (hO : okx g T xs pl) (hU : uni T) (hc0 : clo T xs 0) (hc4 : clo T xs 4) (h0 f b n : Nat) (v1 : Int32) (v2 : Int32) (k_h0 : T h0 = some (14, 0)) (k_f : T f = some (0, 256)) (k_b : T b = some (1, n)) (h1 : 32 ≤ n) (h2 : n < 65536)  : Met l y_SA_sampleEntry w_SA_sampleEntry ({ frames := 3, cells := 0, slots := 0, locals := 100 } : Room) (va_Pc [.ref h0, .ref f, .ref b, .int v1, .int v2] (pr (en g) g.1 vcl sz ([] ++ pl))) (va_Qv (fun (u : va_W) => (True) ∧ okx g T xs u) (po g.1 vcl (va_A ([] ++ pl) sz) (fun (u : va_W) => [] ++ u)) (va_A ([] ++ pl) sz)) 0 0 (va_A ([] ++ pl) sz) := by
  refine mc_entry (cc := c_SA_sampleEntry) (maxL := 8) (ret := none) (by decide) rfl (Nat.le_of_ble_eq_true rfl) ?_
  intro p e s m args below meth c ls F hr hlk hnm hsz hP hD hE hA hl
  obtain ⟨hx, hb, hml, hown, hts⟩ := id F
  have hK := hE.1
  generalize va_A ([] ++ pl) sz = A at hD hE hA ⊢
  have hS : va_S A s.heap s.heap [] := va_S.rf
  have hl : lv_has ls 8 [(0, .ref h0), (1, .ref f), (2, .ref b), (3, .int v1), (4, .int v2)] := hl
  refine lv_aload_n hx hb dSA_sampleEntry_0 rfl (lv_at hl 0 rfl) ?_
  refine ty_get (ci := 7) (C := "LatticeKeys$DsaSampler") (TT := T_SA) (N := 2) (kd := (14, 0)) hx hb hts (wg_ft i_SA) hown hK hO k_h0 (nxg hc0 k_h0 rfl) hP (fun _ h9 => h9) rfl 0 (by decide) (hts _ (wg_t kw_157)) (fun _ h9 => h9) (cd := (3, 10, 3)) rfl dSA_sampleEntry_1 (fun v21 hv21 => ?_)
  obtain ⟨r21, rfl, kr21⟩ := (show ∃ r : Nat, v21 = .ref r ∧ T r = some (10, 3) from hv21)
  refine lv_iconst (v := nI 2) hx hb dSA_sampleEntry_4 (by decide) ?_
  obtain ⟨e21, pl, hP, hD, hk21, hO⟩ := open1 hP hD hO kr21 (nxg hc4 kr21 rfl)
  obtain ⟨ln21, rt21, ps21, x21, rfl, kl21, hr21, hr22, hr23⟩ := hk21
  have kl21 : T ln21 = some (19, 3) := kl21
  obtain ⟨e22, pl, hP, hD, hk22, hO⟩ := open1 hP hD hO kl21 (nmc (knd_ne kl21 kr21 (by decide)) (nxg hc4 kl21 rfl))
  obtain ⟨f21, rfl⟩ := hk22
  have hP : va_P g.1 vcl ([(r21, .inr (3, [.ref ln21, .int (nI rt21), .int x21, .int (nI ps21)])), (ln21, .inl (g.2.1 2, 25, .inr (.inl f21)))] ++ pl) _ := hP
  have hD : va_D _ ([(r21, .inr (3, [.ref ln21, .int (nI rt21), .int x21, .int (nI ps21)])), (ln21, .inl (g.2.1 2, 25, .inr (.inl f21)))] ++ pl) := hD
  refine mp_v (cx := [(r21, .inr (3, [.ref ln21, .int (nI rt21), .int x21, .int (nI ps21)])), (ln21, .inl (g.2.1 2, 25, .inr (.inl f21)))]) (wr := []) hP hD hS hA [0, 1] [] rfl rfl rfl (by decide) (va_runV (As := [.int (nI 2)]) (rest := []) F (t_SP_start_2 l g _ T (ln21 :: (r21 :: xs)) pl hO hU  r21 ln21 rt21 ps21 x21 f21) (cwV 1 hts (wg_app (wg_c kw_687 (wg_c kw_579 (wg_c kw_580 (wg_c kw_2 wg_n)))) kw_581) rfl rfl rfl (by decide +kernel) ⟨by decide, by decide⟩) (pp_V (en_ok g) (q0 := 0) hK hP hD hS hA hE [0, 1] rfl rfl rfl rfl) rfl rfl hl.1 rfl (lv_room (Nat.le_of_ble_eq_true rfl)) dSA_sampleEntry_5 ⟨by omega, by omega⟩) (fun  u21 H locs hu21 hP hD hS => ?_)
  obtain ⟨u22, pl⟩ := u21
  obtain ⟨hq21, hO⟩ := hu21
  have hP : va_P g.1 vcl ([(r21, .inr (3, [.ref ln21, .int (nI 168), .int (nI 31), .int (nI 0)])), (ln21, .inl (g.2.1 2, 25, .inr (.inl u22)))] ++ pl) _ := hP
  have hD : va_D _ ([(r21, .inr (3, [.ref ln21, .int (nI 168), .int (nI 31), .int (nI 0)])), (ln21, .inl (g.2.1 2, 25, .inr (.inl u22)))] ++ pl) := hD
  refine W.widen (k := 0) (n := 0) (by omega) (by omega) ?_
  refine lv_aload_n hx hb dSA_sampleEntry_8 rfl (lv_at hl 0 rfl) ?_
  refine ty_get (ci := 7) (C := "LatticeKeys$DsaSampler") (TT := T_SA) (N := 2) (kd := (14, 0)) hx hb hts (wg_ft i_SA) hown hK hO k_h0 (nxg (clo_cons (clo_cons hc0 kr21 (by decide)) kl21 (by decide)) k_h0 rfl) hP (fun _ h9 => h9) rfl 0 (by decide) (hts _ (wg_t kw_157)) (fun _ h9 => h9) (cd := (3, 10, 3)) rfl dSA_sampleEntry_9 (fun v22 hv22 => ?_)
  obtain ⟨r22, rfl, kr22⟩ := (show ∃ r : Nat, v22 = .ref r ∧ T r = some (10, 3) from hv22)
  obtain rfl : r21 = r22 := hU _ _ _ (by decide) kr21 kr22
  refine lv_aload_n hx hb dSA_sampleEntry_12 rfl (lv_at hl 2 rfl) ?_
  refine lv_iconst (v := nI 0) hx hb dSA_sampleEntry_13 (by decide) ?_
  refine lv_bipush (v := nI 32) hx hb dSA_sampleEntry_14 (by decide) ?_
  refine mp_v (cx := [(r21, .inr (3, [.ref ln21, .int (nI 168), .int (nI 31), .int (nI 0)])), (ln21, .inl (g.2.1 2, 25, .inr (.inl u22)))]) (wr := []) hP hD hS hA [0, 1] [] rfl rfl rfl (by decide) (va_runV (As := [.ref b, .int (nI 0), .int (nI 32)]) (rest := []) F (t_SP_absorb l g _ T (ln21 :: (r21 :: xs)) pl hO hU (clo_cons (clo_cons hc0 kr21 (by decide)) kl21 (by decide)) b n 0 32 r21 ln21 168 0 (nI 31) u22 k_b (by omega) (by omega) (by omega) (by omega)) (cwV 3 hts (wg_app (wg_c kw_688 (wg_c kw_586 (wg_c kw_587 (wg_c kw_2 wg_n)))) kw_588) rfl rfl rfl (by decide +kernel) ⟨by decide, by decide⟩) (pp_V (en_ok g) (q0 := 0) hK hP hD hS hA hE [0, 1] rfl rfl rfl rfl) rfl rfl hl.1 rfl (lv_room (Nat.le_of_ble_eq_true rfl)) dSA_sampleEntry_16 ⟨by omega, by omega⟩) (fun  u23 H locs hu22 hP hD hS => ?_)
  obtain ⟨u24, pl⟩ := u23
  obtain ⟨hq22, hO⟩ := hu22
  obtain ⟨k21, f22⟩ := u24
  have hP : va_P g.1 vcl ([(r21, .inr (3, [.ref ln21, .int (nI 168), .int (nI 31), .int (nI k21)])), (ln21, .inl (g.2.1 2, 25, .inr (.inl f22)))] ++ pl) _ := hP
  have hD : va_D _ ([(r21, .inr (3, [.ref ln21, .int (nI 168), .int (nI 31), .int (nI k21)])), (ln21, .inl (g.2.1 2, 25, .inr (.inl f22)))] ++ pl) := hD
  have hq22 : k21 < 168 := hq22
  refine W.widen (k := 0) (n := 0) (by omega) (by omega) ?_
  refine lv_aload_n hx hb dSA_sampleEntry_19 rfl (lv_at hl 0 rfl) ?_
  refine ty_get (ci := 7) (C := "LatticeKeys$DsaSampler") (TT := T_SA) (N := 2) (kd := (14, 0)) hx hb hts (wg_ft i_SA) hown hK hO k_h0 (nxg (clo_cons (clo_cons hc0 kr21 (by decide)) kl21 (by decide)) k_h0 rfl) hP (fun _ h9 => h9) rfl 0 (by decide) (hts _ (wg_t kw_157)) (fun _ h9 => h9) (cd := (3, 10, 3)) rfl dSA_sampleEntry_20 (fun v23 hv23 => ?_)
  obtain ⟨r23, rfl, kr23⟩ := (show ∃ r : Nat, v23 = .ref r ∧ T r = some (10, 3) from hv23)
  obtain rfl : r21 = r23 := hU _ _ _ (by decide) kr21 kr23
  refine lv_iload_n hx hb dSA_sampleEntry_23 rfl (lv_at hl 3 rfl) ?_
  refine mp_v (cx := [(r21, .inr (3, [.ref ln21, .int (nI 168), .int (nI 31), .int (nI k21)])), (ln21, .inl (g.2.1 2, 25, .inr (.inl f22)))]) (wr := []) hP hD hS hA [0, 1] [] rfl rfl rfl (by decide) (va_runV (As := [.int v1]) (rest := []) F (t_SP_absorbByte l g _ T (ln21 :: (r21 :: xs)) pl hO hU  v1 r21 ln21 168 k21 (nI 31) f22 (by omega) (by omega)) (cwV 1 hts (wg_app (wg_c kw_689 (wg_c kw_590 (wg_c kw_591 (wg_c kw_2 wg_n)))) kw_592) rfl rfl rfl (by decide +kernel) ⟨by decide, by decide⟩) (pp_V (en_ok g) (q0 := 0) hK hP hD hS hA hE [0, 1] rfl rfl rfl rfl) rfl rfl hl.1 rfl (lv_room (Nat.le_of_ble_eq_true rfl)) dSA_sampleEntry_24 ⟨by omega, by omega⟩) (fun  u25 H locs hu23 hP hD hS => ?_)
  obtain ⟨u26, pl⟩ := u25
  obtain ⟨hq23, hO⟩ := hu23
  obtain ⟨k22, f23⟩ := u26
  have hP : va_P g.1 vcl ([(r21, .inr (3, [.ref ln21, .int (nI 168), .int (nI 31), .int (nI k22)])), (ln21, .inl (g.2.1 2, 25, .inr (.inl f23)))] ++ pl) _ := hP
  have hD : va_D _ ([(r21, .inr (3, [.ref ln21, .int (nI 168), .int (nI 31), .int (nI k22)])), (ln21, .inl (g.2.1 2, 25, .inr (.inl f23)))] ++ pl) := hD
  have hq23 : k22 < 168 := hq23
  refine W.widen (k := 0) (n := 0) (by omega) (by omega) ?_
  refine lv_aload_n hx hb dSA_sampleEntry_27 rfl (lv_at hl 0 rfl) ?_
  refine ty_get (ci := 7) (C := "LatticeKeys$DsaSampler") (TT := T_SA) (N := 2) (kd := (14, 0)) hx hb hts (wg_ft i_SA) hown hK hO k_h0 (nxg (clo_cons (clo_cons hc0 kr21 (by decide)) kl21 (by decide)) k_h0 rfl) hP (fun _ h9 => h9) rfl 0 (by decide) (hts _ (wg_t kw_157)) (fun _ h9 => h9) (cd := (3, 10, 3)) rfl dSA_sampleEntry_28 (fun v24 hv24 => ?_)
  obtain ⟨r24, rfl, kr24⟩ := (show ∃ r : Nat, v24 = .ref r ∧ T r = some (10, 3) from hv24)
  obtain rfl : r21 = r24 := hU _ _ _ (by decide) kr21 kr24
  refine lv_iload hx hb dSA_sampleEntry_31 (lv_at hl 4 rfl) ?_
  refine mp_v (cx := [(r21, .inr (3, [.ref ln21, .int (nI 168), .int (nI 31), .int (nI k22)])), (ln21, .inl (g.2.1 2, 25, .inr (.inl f23)))]) (wr := []) hP hD hS hA [0, 1] [] rfl rfl rfl (by decide) (va_runV (As := [.int v2]) (rest := []) F (t_SP_absorbByte l g _ T (ln21 :: (r21 :: xs)) pl hO hU  v2 r21 ln21 168 k22 (nI 31) f23 (by omega) (by omega)) (cwV 1 hts (wg_app (wg_c kw_689 (wg_c kw_590 (wg_c kw_591 (wg_c kw_2 wg_n)))) kw_592) rfl rfl rfl (by decide +kernel) ⟨by decide, by decide⟩) (pp_V (en_ok g) (q0 := 0) hK hP hD hS hA hE [0, 1] rfl rfl rfl rfl) rfl rfl hl.1 rfl (lv_room (Nat.le_of_ble_eq_true rfl)) dSA_sampleEntry_33 ⟨by omega, by omega⟩) (fun  u27 H locs hu24 hP hD hS => ?_)
  obtain ⟨u28, pl⟩ := u27
  obtain ⟨hq24, hO⟩ := hu24
  obtain ⟨k23, f24⟩ := u28
  have hP : va_P g.1 vcl ([(r21, .inr (3, [.ref ln21, .int (nI 168), .int (nI 31), .int (nI k23)])), (ln21, .inl (g.2.1 2, 25, .inr (.inl f24)))] ++ pl) _ := hP
  have hD : va_D _ ([(r21, .inr (3, [.ref ln21, .int (nI 168), .int (nI 31), .int (nI k23)])), (ln21, .inl (g.2.1 2, 25, .inr (.inl f24)))] ++ pl) := hD
  have hq24 : k23 < 168 := hq24
  refine W.widen (k := 0) (n := 0) (by omega) (by omega) ?_
  refine lv_aload_n hx hb dSA_sampleEntry_36 rfl (lv_at hl 0 rfl) ?_
  refine ty_get (ci := 7) (C := "LatticeKeys$DsaSampler") (TT := T_SA) (N := 2) (kd := (14, 0)) hx hb hts (wg_ft i_SA) hown hK hO k_h0 (nxg (clo_cons (clo_cons hc0 kr21 (by decide)) kl21 (by decide)) k_h0 rfl) hP (fun _ h9 => h9) rfl 0 (by decide) (hts _ (wg_t kw_157)) (fun _ h9 => h9) (cd := (3, 10, 3)) rfl dSA_sampleEntry_37 (fun v25 hv25 => ?_)
  obtain ⟨r25, rfl, kr25⟩ := (show ∃ r : Nat, v25 = .ref r ∧ T r = some (10, 3) from hv25)
  obtain rfl : r21 = r25 := hU _ _ _ (by decide) kr21 kr25
  refine mp_v (cx := [(r21, .inr (3, [.ref ln21, .int (nI 168), .int (nI 31), .int (nI k23)])), (ln21, .inl (g.2.1 2, 25, .inr (.inl f24)))]) (wr := []) hP hD hS hA [0, 1] [] rfl rfl rfl (by decide) (va_runV (As := []) (rest := []) F (t_SP_finish l g _ T (ln21 :: (r21 :: xs)) pl hO hU  r21 ln21 168 k23 (nI 31) f24 (by omega) (by omega)) (cwV 0 hts (wg_app (wg_c kw_690 (wg_c kw_611 (wg_c kw_612 (wg_c kw_2 wg_n)))) kw_613) rfl rfl rfl (by decide +kernel) ⟨by decide, by decide⟩) (pp_V (en_ok g) (q0 := 0) hK hP hD hS hA hE [0, 1] rfl rfl rfl rfl) rfl rfl hl.1 rfl (lv_room (Nat.le_of_ble_eq_true rfl)) dSA_sampleEntry_40 ⟨by omega, by omega⟩) (fun  u29 H locs hu25 hP hD hS => ?_)
  obtain ⟨u30, pl⟩ := u29
  obtain ⟨hq25, hO⟩ := hu25
  have hP : va_P g.1 vcl ([(r21, .inr (3, [.ref ln21, .int (nI 168), .int (nI 31), .int (nI 168)])), (ln21, .inl (g.2.1 2, 25, .inr (.inl u30)))] ++ pl) _ := hP
  have hD : va_D _ ([(r21, .inr (3, [.ref ln21, .int (nI 168), .int (nI 31), .int (nI 168)])), (ln21, .inl (g.2.1 2, 25, .inr (.inl u30)))] ++ pl) := hD
  refine W.widen (k := 0) (n := 0) (by omega) (by omega) ?_
  refine lv_iconst (v := nI 0) hx hb dSA_sampleEntry_43 (by decide) ?_
  refine lv_istore (lv' := [(5, .int (nI 0)), (0, .ref h0), (1, .ref f), (2, .ref b), (3, .int v1), (4, .int v2)]) hx hb dSA_sampleEntry_44 hl (by decide) rfl (fun ls hl => ?_)
  refine lv_iconst (v := nI 0) hx hb dSA_sampleEntry_46 (by decide) ?_
  refine lv_istore (lv' := [(6, .int (nI 0)), (5, .int (nI 0)), (0, .ref h0), (1, .ref f), (2, .ref b), (3, .int v1), (4, .int v2)]) hx hb dSA_sampleEntry_47 hl (by decide) rfl (fun ls hl => ?_)
  have lp21 : ∀ (n21 : Nat) (i21 : Nat) (fl21 : Nat) (ps22 : Nat) (f25 : Nat → Int64) (pl : va_W) (ls : Array Slot) (H : Heap) (locs : List Loc), n21 + i21 = 1000000 → (fl21 ≤ 256) → (ps22 ≤ 168) → lv_has ls 8 [(6, .int (nI i21)), (5, .int (nI fl21)), (0, .ref h0), (1, .ref f)] → okx g T (ln21 :: (r21 :: xs)) pl → va_P g.1 vcl ([(r21, .inr (3, [.ref ln21, .int (nI 168), .int (nI 31), .int (nI ps22)])), (ln21, .inl (g.2.1 2, 25, .inr (.inl f25)))] ++ pl) H → va_D A ([(r21, .inr (3, [.ref ln21, .int (nI 168), .int (nI 31), .int (nI ps22)])), (ln21, .inl (g.2.1 2, 25, .inr (.inl f25)))] ++ pl) → va_S A s.heap H locs → W p l e ({ frames := 3, cells := 0, slots := 0, locals := 100 } : Room) s m args below meth c H locs 0 0 (MQ below (va_Qv (fun (u : va_W) => (True) ∧ okx g T xs u) (po g.1 vcl A (fun (u : va_W) => [] ++ u)) A) args s 0 0 A) (F0 m 49 ls []) := by
    intro n21
    induction n21 with
    | zero =>
      intro i21 fl21 ps22 f25 pl ls H locs hm21 hi21 hi22 hl hO hP hD hS
      refine lv_iload hx hb dSA_sampleEntry_49 (lv_at hl 1 rfl) ?_
      refine lv_sipush (v := nI 256) hx hb dSA_sampleEntry_51 (by decide) ?_
      refine mi_ge (tgt := 128) hx hb dSA_sampleEntry_54 (by decide) (by omega) (by omega) (fun h21 => ?_) (fun h21 => ?_)
      · have hO := close1 (e := .inl (g.2.1 2, 25, .inr (.inl f25))) hO kl21 ⟨_, rfl⟩
        have hO := close1 (e := .inr (3, [.ref ln21, .int (nI 168), .int (nI 31), .int (nI ps22)])) hO kr21 ⟨_, _, _, _, rfl, kl21, by omega, by omega, by omega⟩
        have hO : okx g T xs ((r21, .inr (3, [.ref ln21, .int (nI 168), .int (nI 31), .int (nI ps22)])) :: (ln21, .inl (g.2.1 2, 25, .inr (.inl f25))) :: pl) := hO
        have hP : va_P g.1 vcl ([] ++ ((r21, .inr (3, [.ref ln21, .int (nI 168), .int (nI 31), .int (nI ps22)])) :: (ln21, .inl (g.2.1 2, 25, .inr (.inl f25))) :: pl)) _ := hP
        have hD : va_D _ ([] ++ ((r21, .inr (3, [.ref ln21, .int (nI 168), .int (nI 31), .int (nI ps22)])) :: (ln21, .inl (g.2.1 2, 25, .inr (.inl f25))) :: pl)) := hD
        generalize ((r21, .inr (3, [.ref ln21, .int (nI 168), .int (nI 31), .int (nI ps22)])) :: (ln21, .inl (g.2.1 2, 25, .inr (.inl f25))) :: pl) = pl at hO hP hD
        exact mp_vret hx hb hr hlk hP hD hS pl ⟨trivial, hO⟩ [] rfl rfl rfl (by omega) (by omega) dSA_sampleEntry_128
      · refine lv_iload hx hb dSA_sampleEntry_57 (lv_at hl 0 rfl) ?_
        refine lv_ldc (v := 1000000) hx hb hown (hts _ (wg_t kw_691)) dSA_sampleEntry_59 ?_
        refine mi_as (show (1000000 : Int32) = nI 1000000 by decide) ?_
        refine mi_ge (tgt := 128) hx hb dSA_sampleEntry_61 (by decide) (by omega) (by omega) (fun h22 => ?_) (fun h22 => absurd h22 (by omega))
        have hO := close1 (e := .inl (g.2.1 2, 25, .inr (.inl f25))) hO kl21 ⟨_, rfl⟩
        have hO := close1 (e := .inr (3, [.ref ln21, .int (nI 168), .int (nI 31), .int (nI ps22)])) hO kr21 ⟨_, _, _, _, rfl, kl21, by omega, by omega, by omega⟩
        have hO : okx g T xs ((r21, .inr (3, [.ref ln21, .int (nI 168), .int (nI 31), .int (nI ps22)])) :: (ln21, .inl (g.2.1 2, 25, .inr (.inl f25))) :: pl) := hO
        have hP : va_P g.1 vcl ([] ++ ((r21, .inr (3, [.ref ln21, .int (nI 168), .int (nI 31), .int (nI ps22)])) :: (ln21, .inl (g.2.1 2, 25, .inr (.inl f25))) :: pl)) _ := hP
        have hD : va_D _ ([] ++ ((r21, .inr (3, [.ref ln21, .int (nI 168), .int (nI 31), .int (nI ps22)])) :: (ln21, .inl (g.2.1 2, 25, .inr (.inl f25))) :: pl)) := hD
        generalize ((r21, .inr (3, [.ref ln21, .int (nI 168), .int (nI 31), .int (nI ps22)])) :: (ln21, .inl (g.2.1 2, 25, .inr (.inl f25))) :: pl) = pl at hO hP hD
        exact mp_vret hx hb hr hlk hP hD hS pl ⟨trivial, hO⟩ [] rfl rfl rfl (by omega) (by omega) dSA_sampleEntry_128
    | succ n21 ih21 =>
      intro i21 fl21 ps22 f25 pl ls H locs hm21 hi21 hi22 hl hO hP hD hS
      refine lv_iload hx hb dSA_sampleEntry_49 (lv_at hl 1 rfl) ?_
      refine lv_sipush (v := nI 256) hx hb dSA_sampleEntry_51 (by decide) ?_
      refine mi_ge (tgt := 128) hx hb dSA_sampleEntry_54 (by decide) (by omega) (by omega) (fun h23 => ?_) (fun h23 => ?_)
      · have hO := close1 (e := .inl (g.2.1 2, 25, .inr (.inl f25))) hO kl21 ⟨_, rfl⟩
        have hO := close1 (e := .inr (3, [.ref ln21, .int (nI 168), .int (nI 31), .int (nI ps22)])) hO kr21 ⟨_, _, _, _, rfl, kl21, by omega, by omega, by omega⟩
        have hO : okx g T xs ((r21, .inr (3, [.ref ln21, .int (nI 168), .int (nI 31), .int (nI ps22)])) :: (ln21, .inl (g.2.1 2, 25, .inr (.inl f25))) :: pl) := hO
        have hP : va_P g.1 vcl ([] ++ ((r21, .inr (3, [.ref ln21, .int (nI 168), .int (nI 31), .int (nI ps22)])) :: (ln21, .inl (g.2.1 2, 25, .inr (.inl f25))) :: pl)) _ := hP
        have hD : va_D _ ([] ++ ((r21, .inr (3, [.ref ln21, .int (nI 168), .int (nI 31), .int (nI ps22)])) :: (ln21, .inl (g.2.1 2, 25, .inr (.inl f25))) :: pl)) := hD
        generalize ((r21, .inr (3, [.ref ln21, .int (nI 168), .int (nI 31), .int (nI ps22)])) :: (ln21, .inl (g.2.1 2, 25, .inr (.inl f25))) :: pl) = pl at hO hP hD
        exact mp_vret hx hb hr hlk hP hD hS pl ⟨trivial, hO⟩ [] rfl rfl rfl (by omega) (by omega) dSA_sampleEntry_128
      · refine lv_iload hx hb dSA_sampleEntry_57 (lv_at hl 0 rfl) ?_
        refine lv_ldc (v := 1000000) hx hb hown (hts _ (wg_t kw_691)) dSA_sampleEntry_59 ?_
        refine mi_as (show (1000000 : Int32) = nI 1000000 by decide) ?_
        refine mi_ge (tgt := 128) hx hb dSA_sampleEntry_61 (by decide) (by omega) (by omega) (fun h24 => absurd h24 (by omega)) (fun h24 => ?_)
        refine lv_aload_n hx hb dSA_sampleEntry_64 rfl (lv_at hl 2 rfl) ?_
        refine ty_get (ci := 7) (C := "LatticeKeys$DsaSampler") (TT := T_SA) (N := 2) (kd := (14, 0)) hx hb hts (wg_ft i_SA) hown hK hO k_h0 (nxg (clo_cons (clo_cons hc0 kr21 (by decide)) kl21 (by decide)) k_h0 rfl) hP (fun _ h9 => h9) rfl 0 (by decide) (hts _ (wg_t kw_157)) (fun _ h9 => h9) (cd := (3, 10, 3)) rfl dSA_sampleEntry_65 (fun v26 hv26 => ?_)
        obtain ⟨r26, rfl, kr26⟩ := (show ∃ r : Nat, v26 = .ref r ∧ T r = some (10, 3) from hv26)
        obtain rfl : r21 = r26 := hU _ _ _ (by decide) kr21 kr26
        refine mp_i (cx := [(r21, .inr (3, [.ref ln21, .int (nI 168), .int (nI 31), .int (nI ps22)])), (ln21, .inl (g.2.1 2, 25, .inr (.inl f25)))]) (wr := []) hP hD hS hA [0, 1] [] rfl rfl rfl (by decide) (va_runV (As := []) (rest := []) F (t_SP_nextByte l g _ T (ln21 :: (r21 :: xs)) pl hO hU  r21 ln21 168 ps22 (nI 31) f25 (by omega) (by omega)) (cwV 0 hts (wg_app (wg_c kw_692 (wg_c kw_619 (wg_c kw_620 (wg_c kw_2 wg_n)))) kw_621) rfl rfl rfl (by decide +kernel) ⟨by decide, by decide⟩) (pp_V (en_ok g) (q0 := 0) hK hP hD hS hA hE [0, 1] rfl rfl rfl rfl) rfl rfl hl.1 rfl (lv_room (Nat.le_of_ble_eq_true rfl)) dSA_sampleEntry_68 ⟨by omega, by omega⟩) (fun r27 u31 H locs hu26 hP hD hS => ?_)
        obtain ⟨u32, pl⟩ := u31
        obtain ⟨hq26, hO⟩ := hu26
        obtain ⟨k24, f26⟩ := u32
        have hP : va_P g.1 vcl ([(r21, .inr (3, [.ref ln21, .int (nI 168), .int (nI 31), .int (nI k24)])), (ln21, .inl (g.2.1 2, 25, .inr (.inl f26)))] ++ pl) _ := hP
        have hD : va_D _ ([(r21, .inr (3, [.ref ln21, .int (nI 168), .int (nI 31), .int (nI k24)])), (ln21, .inl (g.2.1 2, 25, .inr (.inl f26)))] ++ pl) := hD
        obtain ⟨hq26, z21, hz21, rfl⟩ := (show k24 ≤ 168 ∧ ∃ z : Nat, z < 256 ∧ r27 = nI z from hq26)
        refine W.widen (k := 0) (n := 0) (by omega) (by omega) ?_
        refine lv_istore (lv' := [(7, .int (nI z21)), (6, .int (nI i21)), (5, .int (nI fl21)), (0, .ref h0), (1, .ref f)]) hx hb dSA_sampleEntry_71 hl (by decide) rfl (fun ls hl => ?_)
        refine lv_iload hx hb dSA_sampleEntry_73 (lv_at hl 0 rfl) ?_
        refine lv_aload_n hx hb dSA_sampleEntry_75 rfl (lv_at hl 3 rfl) ?_
        refine ty_get (ci := 7) (C := "LatticeKeys$DsaSampler") (TT := T_SA) (N := 2) (kd := (14, 0)) hx hb hts (wg_ft i_SA) hown hK hO k_h0 (nxg (clo_cons (clo_cons hc0 kr21 (by decide)) kl21 (by decide)) k_h0 rfl) hP (fun _ h9 => h9) rfl 0 (by decide) (hts _ (wg_t kw_157)) (fun _ h9 => h9) (cd := (3, 10, 3)) rfl dSA_sampleEntry_76 (fun v27 hv27 => ?_)
        obtain ⟨r28, rfl, kr27⟩ := (show ∃ r : Nat, v27 = .ref r ∧ T r = some (10, 3) from hv27)
        obtain rfl : r21 = r28 := hU _ _ _ (by decide) kr21 kr27
        refine mp_i (cx := [(r21, .inr (3, [.ref ln21, .int (nI 168), .int (nI 31), .int (nI k24)])), (ln21, .inl (g.2.1 2, 25, .inr (.inl f26)))]) (wr := []) hP hD hS hA [0, 1] [] rfl rfl rfl (by decide) (va_runV (As := []) (rest := [.int (nI z21)]) F (t_SP_nextByte l g _ T (ln21 :: (r21 :: xs)) pl hO hU  r21 ln21 168 k24 (nI 31) f26 (by omega) (by omega)) (cwV 0 hts (wg_app (wg_c kw_692 (wg_c kw_619 (wg_c kw_620 (wg_c kw_2 wg_n)))) kw_621) rfl rfl rfl (by decide +kernel) ⟨by decide, by decide⟩) (pp_V (en_ok g) (q0 := 0) hK hP hD hS hA hE [0, 1] rfl rfl rfl rfl) rfl rfl hl.1 rfl (lv_room (Nat.le_of_ble_eq_true rfl)) dSA_sampleEntry_79 ⟨by omega, by omega⟩) (fun r29 u33 H locs hu27 hP hD hS => ?_)
        obtain ⟨u34, pl⟩ := u33
        obtain ⟨hq27, hO⟩ := hu27
        obtain ⟨k25, f27⟩ := u34
        have hP : va_P g.1 vcl ([(r21, .inr (3, [.ref ln21, .int (nI 168), .int (nI 31), .int (nI k25)])), (ln21, .inl (g.2.1 2, 25, .inr (.inl f27)))] ++ pl) _ := hP
        have hD : va_D _ ([(r21, .inr (3, [.ref ln21, .int (nI 168), .int (nI 31), .int (nI k25)])), (ln21, .inl (g.2.1 2, 25, .inr (.inl f27)))] ++ pl) := hD
        obtain ⟨hq27, z22, hz22, rfl⟩ := (show k25 ≤ 168 ∧ ∃ z : Nat, z < 256 ∧ r29 = nI z from hq27)
        refine W.widen (k := 0) (n := 0) (by omega) (by omega) ?_
        refine lv_bipush (v := nI 8) hx hb dSA_sampleEntry_82 (by decide) ?_
        refine lv_ishl hx hb dSA_sampleEntry_84 ?_
        refine mi_any (fun z23 => ?_)
        refine lv_ior hx hb dSA_sampleEntry_85 ?_
        refine mi_any (fun z24 => ?_)
        refine lv_istore (lv' := [(7, .int z24), (6, .int (nI i21)), (5, .int (nI fl21)), (0, .ref h0), (1, .ref f)]) hx hb dSA_sampleEntry_86 hl (by decide) rfl (fun ls hl => ?_)
        refine lv_iload hx hb dSA_sampleEntry_88 (lv_at hl 0 rfl) ?_
        refine lv_aload_n hx hb dSA_sampleEntry_90 rfl (lv_at hl 3 rfl) ?_
        refine ty_get (ci := 7) (C := "LatticeKeys$DsaSampler") (TT := T_SA) (N := 2) (kd := (14, 0)) hx hb hts (wg_ft i_SA) hown hK hO k_h0 (nxg (clo_cons (clo_cons hc0 kr21 (by decide)) kl21 (by decide)) k_h0 rfl) hP (fun _ h9 => h9) rfl 0 (by decide) (hts _ (wg_t kw_157)) (fun _ h9 => h9) (cd := (3, 10, 3)) rfl dSA_sampleEntry_91 (fun v28 hv28 => ?_)
        obtain ⟨r30, rfl, kr28⟩ := (show ∃ r : Nat, v28 = .ref r ∧ T r = some (10, 3) from hv28)
        obtain rfl : r21 = r30 := hU _ _ _ (by decide) kr21 kr28
        refine mp_i (cx := [(r21, .inr (3, [.ref ln21, .int (nI 168), .int (nI 31), .int (nI k25)])), (ln21, .inl (g.2.1 2, 25, .inr (.inl f27)))]) (wr := []) hP hD hS hA [0, 1] [] rfl rfl rfl (by decide) (va_runV (As := []) (rest := [.int z24]) F (t_SP_nextByte l g _ T (ln21 :: (r21 :: xs)) pl hO hU  r21 ln21 168 k25 (nI 31) f27 (by omega) (by omega)) (cwV 0 hts (wg_app (wg_c kw_692 (wg_c kw_619 (wg_c kw_620 (wg_c kw_2 wg_n)))) kw_621) rfl rfl rfl (by decide +kernel) ⟨by decide, by decide⟩) (pp_V (en_ok g) (q0 := 0) hK hP hD hS hA hE [0, 1] rfl rfl rfl rfl) rfl rfl hl.1 rfl (lv_room (Nat.le_of_ble_eq_true rfl)) dSA_sampleEntry_94 ⟨by omega, by omega⟩) (fun r31 u35 H locs hu28 hP hD hS => ?_)
        obtain ⟨u36, pl⟩ := u35
        obtain ⟨hq28, hO⟩ := hu28
        obtain ⟨k26, f28⟩ := u36
        have hP : va_P g.1 vcl ([(r21, .inr (3, [.ref ln21, .int (nI 168), .int (nI 31), .int (nI k26)])), (ln21, .inl (g.2.1 2, 25, .inr (.inl f28)))] ++ pl) _ := hP
        have hD : va_D _ ([(r21, .inr (3, [.ref ln21, .int (nI 168), .int (nI 31), .int (nI k26)])), (ln21, .inl (g.2.1 2, 25, .inr (.inl f28)))] ++ pl) := hD
        obtain ⟨hq28, z25, hz23, rfl⟩ := (show k26 ≤ 168 ∧ ∃ z : Nat, z < 256 ∧ r31 = nI z from hq28)
        refine W.widen (k := 0) (n := 0) (by omega) (by omega) ?_
        refine lv_bipush (v := nI 127) hx hb dSA_sampleEntry_97 (by decide) ?_
        refine mi_iand hx hb 7 dSA_sampleEntry_99 (by decide) (fun z26 hz24 => ?_)
        have hz24 : z26 < 128 := hz24
        refine lv_bipush (v := nI 16) hx hb dSA_sampleEntry_100 (by decide) ?_
        refine lv_ishl hx hb dSA_sampleEntry_102 ?_
        refine mi_any (fun z27 => ?_)
        refine lv_ior hx hb dSA_sampleEntry_103 ?_
        refine mi_any (fun z28 => ?_)
        refine lv_istore (lv' := [(7, .int z28), (6, .int (nI i21)), (5, .int (nI fl21)), (0, .ref h0), (1, .ref f)]) hx hb dSA_sampleEntry_104 hl (by decide) rfl (fun ls hl => ?_)
        refine lv_iload hx hb dSA_sampleEntry_106 (lv_at hl 0 rfl) ?_
        refine lv_ldc (v := 8380417) hx hb hown (hts _ (wg_t kw_697)) dSA_sampleEntry_108 ?_
        refine mi_as (show (8380417 : Int32) = nI 8380417 by decide) ?_
        refine lv_icmp_ge (tgt := 122) hx hb dSA_sampleEntry_110 (by decide) (fun h25 => ?_) (fun h25 => ?_)
        · refine mi_iinc (k := 1) (x := i21) (d := 1) (y := i21 + 1) (lv' := [(6, .int (nI (i21 + 1))), (7, .int z28), (5, .int (nI fl21)), (0, .ref h0), (1, .ref f)]) hx hb dSA_sampleEntry_122 hl rfl (by decide) rfl (by decide) rfl (fun ls hl => ?_)
          refine lv_goto (tgt := 49) hx hb dSA_sampleEntry_125 (by decide) ?_
          exact ih21 (i21 + 1) fl21 k26 f28 pl ls H locs (by omega) (by omega) (by omega) (lv_sub hl [0, 2, 3, 4] rfl) hO hP hD hS
        · refine lv_aload_n hx hb dSA_sampleEntry_113 rfl (lv_at hl 4 rfl) ?_
          refine lv_iload hx hb dSA_sampleEntry_114 (lv_at hl 2 rfl) ?_
          refine lv_iload hx hb dSA_sampleEntry_116 (lv_at hl 0 rfl) ?_
          refine ty_iast hx hb hK hO k_f (nxg (clo_cons (clo_cons hc0 kr21 (by decide)) kl21 (by decide)) k_f rfl) hP hD hS (vp_in_nI (by omega) (by decide)) dSA_sampleEntry_118 (fun pl H locs hO hP hD hS => ?_)
          refine mi_iinc (k := 2) (x := fl21) (d := 1) (y := fl21 + 1) (lv' := [(5, .int (nI (fl21 + 1))), (7, .int z28), (6, .int (nI i21)), (0, .ref h0), (1, .ref f)]) hx hb dSA_sampleEntry_119 hl rfl (by decide) rfl (by decide) rfl (fun ls hl => ?_)
          refine mi_iinc (k := 2) (x := i21) (d := 1) (y := i21 + 1) (lv' := [(6, .int (nI (i21 + 1))), (5, .int (nI (fl21 + 1))), (7, .int z28), (0, .ref h0), (1, .ref f)]) hx hb dSA_sampleEntry_122 hl rfl (by decide) rfl (by decide) rfl (fun ls hl => ?_)
          refine lv_goto (tgt := 49) hx hb dSA_sampleEntry_125 (by decide) ?_
          exact ih21 (i21 + 1) (fl21 + 1) k26 f28 pl ls H locs (by omega) (by omega) (by omega) (lv_sub hl [0, 1, 3, 4] rfl) hO hP hD hS
  exact lp21 1000000 0 0 168 u30 pl ls _ _ (by omega) (by omega) (by omega) (lv_sub hl [0, 1, 2, 3] rfl) hO hP hD hS
set_option maxHeartbeats 400000 in
set_option maxRecDepth 100000 in
theorem t_SA_expandMatrix_0 (l : Launch) (g : Gd) (sz : Nat) (T : Ty) (xs : List Nat) (pl : va_W) (hO : okx g T xs pl) (hU : uni T) (hc0 : clo T xs 0) (hc4 : clo T xs 4) (h0 st b mx n : Nat) (k_h0 : T h0 = some (14, 0)) (k_st : T st = some (43, 0)) (k_b : T b = some (1, n)) (k_mx : T mx = some (3, 56)) (h1 : 32 ≤ n) (h2 : n < 65536)  : Met l y_SA_expandMatrix w_SA_expandMatrix ({ frames := 4, cells := 0, slots := 0, locals := 127 } : Room) (va_Pc [.ref h0, .ref st, .ref b, .ref mx] (pr (en g) g.1 vcl sz ([] ++ pl))) (va_Qv (fun (u : va_W) => (True) ∧ okx g T xs u) (po g.1 vcl (va_A ([] ++ pl) sz) (fun (u : va_W) => [] ++ u)) (va_A ([] ++ pl) sz)) 0 0 (va_A ([] ++ pl) sz) := by
  refine mc_entry (cc := c_SA_expandMatrix) (maxL := 6) (ret := none) (by decide) rfl (Nat.le_of_ble_eq_true rfl) ?_
  intro p e s m args below meth c ls F hr hlk hnm hsz hP hD hE hA hl
  obtain ⟨hx, hb, hml, hown, hts⟩ := id F
  have hK := hE.1
  generalize va_A ([] ++ pl) sz = A at hD hE hA ⊢
  have hS : va_S A s.heap s.heap [] := va_S.rf
  have hl : lv_has ls 6 [(0, .ref h0), (1, .ref st), (2, .ref b), (3, .ref mx)] := hl
  refine lv_iconst (v := nI 0) hx hb dSA_expandMatrix_0 (by decide) ?_
  refine lv_istore (lv' := [(4, .int (nI 0)), (0, .ref h0), (1, .ref st), (2, .ref b), (3, .ref mx)]) hx hb dSA_expandMatrix_1 hl (by decide) rfl (fun ls hl => ?_)
  have lp21 : ∀ (n21 : Nat) (i21 : Nat) (pl : va_W) (ls : Array Slot) (H : Heap) (locs : List Loc), n21 + i21 = 4 → lv_has ls 6 [(4, .int (nI i21)), (0, .ref h0), (1, .ref st), (2, .ref b), (3, .ref mx)] → okx g T xs pl → va_P g.1 vcl ([] ++ pl) H → va_D A ([] ++ pl) → va_S A s.heap H locs → W p l e ({ frames := 4, cells := 0, slots := 0, locals := 127 } : Room) s m args below meth c H locs 0 0 (MQ below (va_Qv (fun (u : va_W) => (True) ∧ okx g T xs u) (po g.1 vcl A (fun (u : va_W) => [] ++ u)) A) args s 0 0 A) (F0 m 3 ls []) := by
    intro n21
    induction n21 with
    | zero =>
      intro i21 pl ls H locs hm21  hl hO hP hD hS
      refine lv_iload hx hb dSA_expandMatrix_3 (lv_at hl 0 rfl) ?_
      refine lv_aload_n hx hb dSA_expandMatrix_5 rfl (lv_at hl 2 rfl) ?_
      refine ty_get (ci := 2) (C := "LatticeKeys$DsaSet") (TT := T_DS) (N := 17) (kd := (43, 0)) hx hb hts (wg_ft i_DS) hown hK hO k_st (nxg hc0 k_st rfl) hP (fun _ h9 => h9) rfl 0 (by decide) (hts _ (wg_t kw_301)) (fun _ h9 => h9) (cd := (1, 0, 4)) rfl dSA_expandMatrix_6 (fun v21 hv21 => ?_)
      obtain rfl := (show v21 = .int (nI 4) from hv21)
      refine mi_ge (tgt := 57) hx hb dSA_expandMatrix_9 (by decide) (by omega) (by omega) (fun h21 => ?_) (fun h21 => absurd h21 (by omega))
      exact mp_vret hx hb hr hlk hP hD hS pl ⟨trivial, hO⟩ [] rfl rfl rfl (by omega) (by omega) dSA_expandMatrix_57
    | succ n21 ih21 =>
      intro i21 pl ls H locs hm21  hl hO hP hD hS
      refine lv_iload hx hb dSA_expandMatrix_3 (lv_at hl 0 rfl) ?_
      refine lv_aload_n hx hb dSA_expandMatrix_5 rfl (lv_at hl 2 rfl) ?_
      refine ty_get (ci := 2) (C := "LatticeKeys$DsaSet") (TT := T_DS) (N := 17) (kd := (43, 0)) hx hb hts (wg_ft i_DS) hown hK hO k_st (nxg hc0 k_st rfl) hP (fun _ h9 => h9) rfl 0 (by decide) (hts _ (wg_t kw_301)) (fun _ h9 => h9) (cd := (1, 0, 4)) rfl dSA_expandMatrix_6 (fun v22 hv22 => ?_)
      obtain rfl := (show v22 = .int (nI 4) from hv22)
      refine mi_ge (tgt := 57) hx hb dSA_expandMatrix_9 (by decide) (by omega) (by omega) (fun h22 => absurd h22 (by omega)) (fun h22 => ?_)
      refine lv_iconst (v := nI 0) hx hb dSA_expandMatrix_12 (by decide) ?_
      refine lv_istore (lv' := [(5, .int (nI 0)), (4, .int (nI i21)), (0, .ref h0), (1, .ref st), (2, .ref b), (3, .ref mx)]) hx hb dSA_expandMatrix_13 hl (by decide) rfl (fun ls hl => ?_)
      have lp22 : ∀ (n22 : Nat) (i22 : Nat) (pl : va_W) (ls : Array Slot) (H : Heap) (locs : List Loc), n22 + i22 = 4 → lv_has ls 6 [(5, .int (nI i22)), (4, .int (nI i21)), (0, .ref h0), (1, .ref st), (2, .ref b), (3, .ref mx)] → okx g T xs pl → va_P g.1 vcl ([] ++ pl) H → va_D A ([] ++ pl) → va_S A s.heap H locs → W p l e ({ frames := 4, cells := 0, slots := 0, locals := 127 } : Room) s m args below meth c H locs 0 0 (MQ below (va_Qv (fun (u : va_W) => (True) ∧ okx g T xs u) (po g.1 vcl A (fun (u : va_W) => [] ++ u)) A) args s 0 0 A) (F0 m 15 ls []) := by
        intro n22
        induction n22 with
        | zero =>
          intro i22 pl ls H locs hm22  hl hO hP hD hS
          refine lv_iload hx hb dSA_expandMatrix_15 (lv_at hl 0 rfl) ?_
          refine lv_aload_n hx hb dSA_expandMatrix_17 rfl (lv_at hl 3 rfl) ?_
          refine ty_get (ci := 2) (C := "LatticeKeys$DsaSet") (TT := T_DS) (N := 17) (kd := (43, 0)) hx hb hts (wg_ft i_DS) hown hK hO k_st (nxg hc0 k_st rfl) hP (fun _ h9 => h9) rfl 1 (by decide) (hts _ (wg_t kw_304)) (fun _ h9 => h9) (cd := (1, 0, 4)) rfl dSA_expandMatrix_18 (fun v23 hv23 => ?_)
          obtain rfl := (show v23 = .int (nI 4) from hv23)
          refine mi_ge (tgt := 51) hx hb dSA_expandMatrix_21 (by decide) (by omega) (by omega) (fun h23 => ?_) (fun h23 => absurd h23 (by omega))
          refine mi_iinc (k := 1) (x := i21) (d := 1) (y := i21 + 1) (lv' := [(4, .int (nI (i21 + 1))), (5, .int (nI i22)), (0, .ref h0), (1, .ref st), (2, .ref b), (3, .ref mx)]) hx hb dSA_expandMatrix_51 hl rfl (by decide) rfl (by decide) rfl (fun ls hl => ?_)
          refine lv_goto (tgt := 3) hx hb dSA_expandMatrix_54 (by decide) ?_
          exact ih21 (i21 + 1) pl ls H locs (by omega) (lv_sub hl [0, 2, 3, 4, 5] rfl) hO hP hD hS
        | succ n22 ih22 =>
          intro i22 pl ls H locs hm22  hl hO hP hD hS
          refine lv_iload hx hb dSA_expandMatrix_15 (lv_at hl 0 rfl) ?_
          refine lv_aload_n hx hb dSA_expandMatrix_17 rfl (lv_at hl 3 rfl) ?_
          refine ty_get (ci := 2) (C := "LatticeKeys$DsaSet") (TT := T_DS) (N := 17) (kd := (43, 0)) hx hb hts (wg_ft i_DS) hown hK hO k_st (nxg hc0 k_st rfl) hP (fun _ h9 => h9) rfl 1 (by decide) (hts _ (wg_t kw_304)) (fun _ h9 => h9) (cd := (1, 0, 4)) rfl dSA_expandMatrix_18 (fun v24 hv24 => ?_)
          obtain rfl := (show v24 = .int (nI 4) from hv24)
          refine mi_ge (tgt := 51) hx hb dSA_expandMatrix_21 (by decide) (by omega) (by omega) (fun h24 => absurd h24 (by omega)) (fun h24 => ?_)
          refine lv_aload_n hx hb dSA_expandMatrix_24 rfl (lv_at hl 2 rfl) ?_
          refine lv_aload_n hx hb dSA_expandMatrix_25 rfl (lv_at hl 5 rfl) ?_
          refine lv_aload_n hx hb dSA_expandMatrix_26 rfl (lv_at hl 3 rfl) ?_
          refine ty_get (ci := 2) (C := "LatticeKeys$DsaSet") (TT := T_DS) (N := 17) (kd := (43, 0)) hx hb hts (wg_ft i_DS) hown hK hO k_st (nxg hc0 k_st rfl) hP (fun _ h9 => h9) rfl 1 (by decide) (hts _ (wg_t kw_304)) (fun _ h9 => h9) (cd := (1, 0, 4)) rfl dSA_expandMatrix_27 (fun v25 hv25 => ?_)
          obtain rfl := (show v25 = .int (nI 4) from hv25)
          refine lv_iload hx hb dSA_expandMatrix_30 (lv_at hl 1 rfl) ?_
          refine mi_imul hx hb dSA_expandMatrix_32 ?_
          refine lv_iload hx hb dSA_expandMatrix_33 (lv_at hl 0 rfl) ?_
          refine mi_iadd hx hb dSA_expandMatrix_35 ?_
          refine ty_aald3 hx hb hK hO k_mx (nxg hc0 k_mx rfl) hP (by omega) (by decide) dSA_expandMatrix_36 (fun r21 kr21 => ?_)
          refine lv_aload_n hx hb dSA_expandMatrix_37 rfl (lv_at hl 4 rfl) ?_
          refine lv_iload hx hb dSA_expandMatrix_38 (lv_at hl 0 rfl) ?_
          refine lv_iload hx hb dSA_expandMatrix_40 (lv_at hl 1 rfl) ?_
          refine mp_v (cx := []) (wr := []) hP hD hS hA [] [] rfl rfl rfl (by decide) (va_runV (As := [.ref r21, .ref b, .int (nI i22), .int (nI i21)]) (rest := []) F (t_SA_sampleEntry l g _ T xs pl hO hU hc0 hc4 h0 r21 b n (nI i22) (nI i21) k_h0 kr21 k_b (by omega) (by omega)) (cwV 4 hts (wg_app (wg_c kw_707 (wg_c kw_709 (wg_c ks_14 (wg_c kw_6 wg_n)))) kw_710) rfl rfl rfl (by decide +kernel) ⟨by decide, by decide⟩) (pp_VT (en_ok g) (ci := 7) (kd := (14, 0)) hK hO k_h0 (nxg hc0 k_h0 rfl) (fun _ h9 => ko1 h9) hP hD hS hA hE [] rfl rfl rfl) rfl rfl hl.1 rfl (lv_room (Nat.le_of_ble_eq_true rfl)) dSA_expandMatrix_42 ⟨by omega, by omega⟩) (fun  pl H locs hu21 hP hD hS => ?_)
          obtain ⟨hq21, hO⟩ := hu21
          have hP : va_P g.1 vcl ([] ++ pl) _ := hP
          have hD : va_D _ ([] ++ pl) := hD
          refine W.widen (k := 0) (n := 0) (by omega) (by omega) ?_
          refine mi_iinc (k := 0) (x := i22) (d := 1) (y := i22 + 1) (lv' := [(5, .int (nI (i22 + 1))), (4, .int (nI i21)), (0, .ref h0), (1, .ref st), (2, .ref b), (3, .ref mx)]) hx hb dSA_expandMatrix_45 hl rfl (by decide) rfl (by decide) rfl (fun ls hl => ?_)
          refine lv_goto (tgt := 15) hx hb dSA_expandMatrix_48 (by decide) ?_
          exact ih22 (i22 + 1) pl ls H locs (by omega) (lv_sub hl [0, 1, 2, 3, 4, 5] rfl) hO hP hD hS
      exact lp22 4 0 pl ls _ _ (by omega) (lv_sub hl [0, 1, 2, 3, 4, 5] rfl) hO hP hD hS
  exact lp21 4 0 pl ls _ _ (by omega) (lv_sub hl [0, 1, 2, 3, 4] rfl) hO hP hD hS
set_option maxHeartbeats 400000 in
set_option maxRecDepth 100000 in
theorem t_SA_expandMatrix_1 (l : Launch) (g : Gd) (sz : Nat) (T : Ty) (xs : List Nat) (pl : va_W) (hO : okx g T xs pl) (hU : uni T) (hc0 : clo T xs 0) (hc4 : clo T xs 4) (h0 st b mx n : Nat) (k_h0 : T h0 = some (14, 0)) (k_st : T st = some (44, 0)) (k_b : T b = some (1, n)) (k_mx : T mx = some (3, 56)) (h1 : 32 ≤ n) (h2 : n < 65536)  : Met l y_SA_expandMatrix w_SA_expandMatrix ({ frames := 4, cells := 0, slots := 0, locals := 127 } : Room) (va_Pc [.ref h0, .ref st, .ref b, .ref mx] (pr (en g) g.1 vcl sz ([] ++ pl))) (va_Qv (fun (u : va_W) => (True) ∧ okx g T xs u) (po g.1 vcl (va_A ([] ++ pl) sz) (fun (u : va_W) => [] ++ u)) (va_A ([] ++ pl) sz)) 0 0 (va_A ([] ++ pl) sz) := by
  refine mc_entry (cc := c_SA_expandMatrix) (maxL := 6) (ret := none) (by decide) rfl (Nat.le_of_ble_eq_true rfl) ?_
  intro p e s m args below meth c ls F hr hlk hnm hsz hP hD hE hA hl
  obtain ⟨hx, hb, hml, hown, hts⟩ := id F
  have hK := hE.1
  generalize va_A ([] ++ pl) sz = A at hD hE hA ⊢
  have hS : va_S A s.heap s.heap [] := va_S.rf
  have hl : lv_has ls 6 [(0, .ref h0), (1, .ref st), (2, .ref b), (3, .ref mx)] := hl
  refine lv_iconst (v := nI 0) hx hb dSA_expandMatrix_0 (by decide) ?_
  refine lv_istore (lv' := [(4, .int (nI 0)), (0, .ref h0), (1, .ref st), (2, .ref b), (3, .ref mx)]) hx hb dSA_expandMatrix_1 hl (by decide) rfl (fun ls hl => ?_)
  have lp21 : ∀ (n21 : Nat) (i21 : Nat) (pl : va_W) (ls : Array Slot) (H : Heap) (locs : List Loc), n21 + i21 = 6 → lv_has ls 6 [(4, .int (nI i21)), (0, .ref h0), (1, .ref st), (2, .ref b), (3, .ref mx)] → okx g T xs pl → va_P g.1 vcl ([] ++ pl) H → va_D A ([] ++ pl) → va_S A s.heap H locs → W p l e ({ frames := 4, cells := 0, slots := 0, locals := 127 } : Room) s m args below meth c H locs 0 0 (MQ below (va_Qv (fun (u : va_W) => (True) ∧ okx g T xs u) (po g.1 vcl A (fun (u : va_W) => [] ++ u)) A) args s 0 0 A) (F0 m 3 ls []) := by
    intro n21
    induction n21 with
    | zero =>
      intro i21 pl ls H locs hm21  hl hO hP hD hS
      refine lv_iload hx hb dSA_expandMatrix_3 (lv_at hl 0 rfl) ?_
      refine lv_aload_n hx hb dSA_expandMatrix_5 rfl (lv_at hl 2 rfl) ?_
      refine ty_get (ci := 2) (C := "LatticeKeys$DsaSet") (TT := T_DS) (N := 17) (kd := (44, 0)) hx hb hts (wg_ft i_DS) hown hK hO k_st (nxg hc0 k_st rfl) hP (fun _ h9 => h9) rfl 0 (by decide) (hts _ (wg_t kw_301)) (fun _ h9 => h9) (cd := (1, 0, 6)) rfl dSA_expandMatrix_6 (fun v21 hv21 => ?_)
      obtain rfl := (show v21 = .int (nI 6) from hv21)
      refine mi_ge (tgt := 57) hx hb dSA_expandMatrix_9 (by decide) (by omega) (by omega) (fun h21 => ?_) (fun h21 => absurd h21 (by omega))
      exact mp_vret hx hb hr hlk hP hD hS pl ⟨trivial, hO⟩ [] rfl rfl rfl (by omega) (by omega) dSA_expandMatrix_57
    | succ n21 ih21 =>
      intro i21 pl ls H locs hm21  hl hO hP hD hS
      refine lv_iload hx hb dSA_expandMatrix_3 (lv_at hl 0 rfl) ?_
      refine lv_aload_n hx hb dSA_expandMatrix_5 rfl (lv_at hl 2 rfl) ?_
      refine ty_get (ci := 2) (C := "LatticeKeys$DsaSet") (TT := T_DS) (N := 17) (kd := (44, 0)) hx hb hts (wg_ft i_DS) hown hK hO k_st (nxg hc0 k_st rfl) hP (fun _ h9 => h9) rfl 0 (by decide) (hts _ (wg_t kw_301)) (fun _ h9 => h9) (cd := (1, 0, 6)) rfl dSA_expandMatrix_6 (fun v22 hv22 => ?_)
      obtain rfl := (show v22 = .int (nI 6) from hv22)
      refine mi_ge (tgt := 57) hx hb dSA_expandMatrix_9 (by decide) (by omega) (by omega) (fun h22 => absurd h22 (by omega)) (fun h22 => ?_)
      refine lv_iconst (v := nI 0) hx hb dSA_expandMatrix_12 (by decide) ?_
      refine lv_istore (lv' := [(5, .int (nI 0)), (4, .int (nI i21)), (0, .ref h0), (1, .ref st), (2, .ref b), (3, .ref mx)]) hx hb dSA_expandMatrix_13 hl (by decide) rfl (fun ls hl => ?_)
      have lp22 : ∀ (n22 : Nat) (i22 : Nat) (pl : va_W) (ls : Array Slot) (H : Heap) (locs : List Loc), n22 + i22 = 5 → lv_has ls 6 [(5, .int (nI i22)), (4, .int (nI i21)), (0, .ref h0), (1, .ref st), (2, .ref b), (3, .ref mx)] → okx g T xs pl → va_P g.1 vcl ([] ++ pl) H → va_D A ([] ++ pl) → va_S A s.heap H locs → W p l e ({ frames := 4, cells := 0, slots := 0, locals := 127 } : Room) s m args below meth c H locs 0 0 (MQ below (va_Qv (fun (u : va_W) => (True) ∧ okx g T xs u) (po g.1 vcl A (fun (u : va_W) => [] ++ u)) A) args s 0 0 A) (F0 m 15 ls []) := by
        intro n22
        induction n22 with
        | zero =>
          intro i22 pl ls H locs hm22  hl hO hP hD hS
          refine lv_iload hx hb dSA_expandMatrix_15 (lv_at hl 0 rfl) ?_
          refine lv_aload_n hx hb dSA_expandMatrix_17 rfl (lv_at hl 3 rfl) ?_
          refine ty_get (ci := 2) (C := "LatticeKeys$DsaSet") (TT := T_DS) (N := 17) (kd := (44, 0)) hx hb hts (wg_ft i_DS) hown hK hO k_st (nxg hc0 k_st rfl) hP (fun _ h9 => h9) rfl 1 (by decide) (hts _ (wg_t kw_304)) (fun _ h9 => h9) (cd := (1, 0, 5)) rfl dSA_expandMatrix_18 (fun v23 hv23 => ?_)
          obtain rfl := (show v23 = .int (nI 5) from hv23)
          refine mi_ge (tgt := 51) hx hb dSA_expandMatrix_21 (by decide) (by omega) (by omega) (fun h23 => ?_) (fun h23 => absurd h23 (by omega))
          refine mi_iinc (k := 1) (x := i21) (d := 1) (y := i21 + 1) (lv' := [(4, .int (nI (i21 + 1))), (5, .int (nI i22)), (0, .ref h0), (1, .ref st), (2, .ref b), (3, .ref mx)]) hx hb dSA_expandMatrix_51 hl rfl (by decide) rfl (by decide) rfl (fun ls hl => ?_)
          refine lv_goto (tgt := 3) hx hb dSA_expandMatrix_54 (by decide) ?_
          exact ih21 (i21 + 1) pl ls H locs (by omega) (lv_sub hl [0, 2, 3, 4, 5] rfl) hO hP hD hS
        | succ n22 ih22 =>
          intro i22 pl ls H locs hm22  hl hO hP hD hS
          refine lv_iload hx hb dSA_expandMatrix_15 (lv_at hl 0 rfl) ?_
          refine lv_aload_n hx hb dSA_expandMatrix_17 rfl (lv_at hl 3 rfl) ?_
          refine ty_get (ci := 2) (C := "LatticeKeys$DsaSet") (TT := T_DS) (N := 17) (kd := (44, 0)) hx hb hts (wg_ft i_DS) hown hK hO k_st (nxg hc0 k_st rfl) hP (fun _ h9 => h9) rfl 1 (by decide) (hts _ (wg_t kw_304)) (fun _ h9 => h9) (cd := (1, 0, 5)) rfl dSA_expandMatrix_18 (fun v24 hv24 => ?_)
          obtain rfl := (show v24 = .int (nI 5) from hv24)
          refine mi_ge (tgt := 51) hx hb dSA_expandMatrix_21 (by decide) (by omega) (by omega) (fun h24 => absurd h24 (by omega)) (fun h24 => ?_)
          refine lv_aload_n hx hb dSA_expandMatrix_24 rfl (lv_at hl 2 rfl) ?_
          refine lv_aload_n hx hb dSA_expandMatrix_25 rfl (lv_at hl 5 rfl) ?_
          refine lv_aload_n hx hb dSA_expandMatrix_26 rfl (lv_at hl 3 rfl) ?_
          refine ty_get (ci := 2) (C := "LatticeKeys$DsaSet") (TT := T_DS) (N := 17) (kd := (44, 0)) hx hb hts (wg_ft i_DS) hown hK hO k_st (nxg hc0 k_st rfl) hP (fun _ h9 => h9) rfl 1 (by decide) (hts _ (wg_t kw_304)) (fun _ h9 => h9) (cd := (1, 0, 5)) rfl dSA_expandMatrix_27 (fun v25 hv25 => ?_)
          obtain rfl := (show v25 = .int (nI 5) from hv25)
          refine lv_iload hx hb dSA_expandMatrix_30 (lv_at hl 1 rfl) ?_
          refine mi_imul hx hb dSA_expandMatrix_32 ?_
          refine lv_iload hx hb dSA_expandMatrix_33 (lv_at hl 0 rfl) ?_
          refine mi_iadd hx hb dSA_expandMatrix_35 ?_
          refine ty_aald3 hx hb hK hO k_mx (nxg hc0 k_mx rfl) hP (by omega) (by decide) dSA_expandMatrix_36 (fun r21 kr21 => ?_)
          refine lv_aload_n hx hb dSA_expandMatrix_37 rfl (lv_at hl 4 rfl) ?_
          refine lv_iload hx hb dSA_expandMatrix_38 (lv_at hl 0 rfl) ?_
          refine lv_iload hx hb dSA_expandMatrix_40 (lv_at hl 1 rfl) ?_
          refine mp_v (cx := []) (wr := []) hP hD hS hA [] [] rfl rfl rfl (by decide) (va_runV (As := [.ref r21, .ref b, .int (nI i22), .int (nI i21)]) (rest := []) F (t_SA_sampleEntry l g _ T xs pl hO hU hc0 hc4 h0 r21 b n (nI i22) (nI i21) k_h0 kr21 k_b (by omega) (by omega)) (cwV 4 hts (wg_app (wg_c kw_707 (wg_c kw_709 (wg_c ks_14 (wg_c kw_6 wg_n)))) kw_710) rfl rfl rfl (by decide +kernel) ⟨by decide, by decide⟩) (pp_VT (en_ok g) (ci := 7) (kd := (14, 0)) hK hO k_h0 (nxg hc0 k_h0 rfl) (fun _ h9 => ko1 h9) hP hD hS hA hE [] rfl rfl rfl) rfl rfl hl.1 rfl (lv_room (Nat.le_of_ble_eq_true rfl)) dSA_expandMatrix_42 ⟨by omega, by omega⟩) (fun  pl H locs hu21 hP hD hS => ?_)
          obtain ⟨hq21, hO⟩ := hu21
          have hP : va_P g.1 vcl ([] ++ pl) _ := hP
          have hD : va_D _ ([] ++ pl) := hD
          refine W.widen (k := 0) (n := 0) (by omega) (by omega) ?_
          refine mi_iinc (k := 0) (x := i22) (d := 1) (y := i22 + 1) (lv' := [(5, .int (nI (i22 + 1))), (4, .int (nI i21)), (0, .ref h0), (1, .ref st), (2, .ref b), (3, .ref mx)]) hx hb dSA_expandMatrix_45 hl rfl (by decide) rfl (by decide) rfl (fun ls hl => ?_)
          refine lv_goto (tgt := 15) hx hb dSA_expandMatrix_48 (by decide) ?_
          exact ih22 (i22 + 1) pl ls H locs (by omega) (lv_sub hl [0, 1, 2, 3, 4, 5] rfl) hO hP hD hS
      exact lp22 5 0 pl ls _ _ (by omega) (lv_sub hl [0, 1, 2, 3, 4, 5] rfl) hO hP hD hS
  exact lp21 6 0 pl ls _ _ (by omega) (lv_sub hl [0, 1, 2, 3, 4] rfl) hO hP hD hS
set_option maxHeartbeats 400000 in
set_option maxRecDepth 100000 in
theorem t_SA_expandMatrix_2 (l : Launch) (g : Gd) (sz : Nat) (T : Ty) (xs : List Nat) (pl : va_W) (hO : okx g T xs pl) (hU : uni T) (hc0 : clo T xs 0) (hc4 : clo T xs 4) (h0 st b mx n : Nat) (k_h0 : T h0 = some (14, 0)) (k_st : T st = some (45, 0)) (k_b : T b = some (1, n)) (k_mx : T mx = some (3, 56)) (h1 : 32 ≤ n) (h2 : n < 65536)  : Met l y_SA_expandMatrix w_SA_expandMatrix ({ frames := 4, cells := 0, slots := 0, locals := 127 } : Room) (va_Pc [.ref h0, .ref st, .ref b, .ref mx] (pr (en g) g.1 vcl sz ([] ++ pl))) (va_Qv (fun (u : va_W) => (True) ∧ okx g T xs u) (po g.1 vcl (va_A ([] ++ pl) sz) (fun (u : va_W) => [] ++ u)) (va_A ([] ++ pl) sz)) 0 0 (va_A ([] ++ pl) sz) := by
  refine mc_entry (cc := c_SA_expandMatrix) (maxL := 6) (ret := none) (by decide) rfl (Nat.le_of_ble_eq_true rfl) ?_
  intro p e s m args below meth c ls F hr hlk hnm hsz hP hD hE hA hl
  obtain ⟨hx, hb, hml, hown, hts⟩ := id F
  have hK := hE.1
  generalize va_A ([] ++ pl) sz = A at hD hE hA ⊢
  have hS : va_S A s.heap s.heap [] := va_S.rf
  have hl : lv_has ls 6 [(0, .ref h0), (1, .ref st), (2, .ref b), (3, .ref mx)] := hl
  refine lv_iconst (v := nI 0) hx hb dSA_expandMatrix_0 (by decide) ?_
  refine lv_istore (lv' := [(4, .int (nI 0)), (0, .ref h0), (1, .ref st), (2, .ref b), (3, .ref mx)]) hx hb dSA_expandMatrix_1 hl (by decide) rfl (fun ls hl => ?_)
  have lp21 : ∀ (n21 : Nat) (i21 : Nat) (pl : va_W) (ls : Array Slot) (H : Heap) (locs : List Loc), n21 + i21 = 8 → lv_has ls 6 [(4, .int (nI i21)), (0, .ref h0), (1, .ref st), (2, .ref b), (3, .ref mx)] → okx g T xs pl → va_P g.1 vcl ([] ++ pl) H → va_D A ([] ++ pl) → va_S A s.heap H locs → W p l e ({ frames := 4, cells := 0, slots := 0, locals := 127 } : Room) s m args below meth c H locs 0 0 (MQ below (va_Qv (fun (u : va_W) => (True) ∧ okx g T xs u) (po g.1 vcl A (fun (u : va_W) => [] ++ u)) A) args s 0 0 A) (F0 m 3 ls []) := by
    intro n21
    induction n21 with
    | zero =>
      intro i21 pl ls H locs hm21  hl hO hP hD hS
      refine lv_iload hx hb dSA_expandMatrix_3 (lv_at hl 0 rfl) ?_
      refine lv_aload_n hx hb dSA_expandMatrix_5 rfl (lv_at hl 2 rfl) ?_
      refine ty_get (ci := 2) (C := "LatticeKeys$DsaSet") (TT := T_DS) (N := 17) (kd := (45, 0)) hx hb hts (wg_ft i_DS) hown hK hO k_st (nxg hc0 k_st rfl) hP (fun _ h9 => h9) rfl 0 (by decide) (hts _ (wg_t kw_301)) (fun _ h9 => h9) (cd := (1, 0, 8)) rfl dSA_expandMatrix_6 (fun v21 hv21 => ?_)
      obtain rfl := (show v21 = .int (nI 8) from hv21)
      refine mi_ge (tgt := 57) hx hb dSA_expandMatrix_9 (by decide) (by omega) (by omega) (fun h21 => ?_) (fun h21 => absurd h21 (by omega))
      exact mp_vret hx hb hr hlk hP hD hS pl ⟨trivial, hO⟩ [] rfl rfl rfl (by omega) (by omega) dSA_expandMatrix_57
    | succ n21 ih21 =>
      intro i21 pl ls H locs hm21  hl hO hP hD hS
      refine lv_iload hx hb dSA_expandMatrix_3 (lv_at hl 0 rfl) ?_
      refine lv_aload_n hx hb dSA_expandMatrix_5 rfl (lv_at hl 2 rfl) ?_
      refine ty_get (ci := 2) (C := "LatticeKeys$DsaSet") (TT := T_DS) (N := 17) (kd := (45, 0)) hx hb hts (wg_ft i_DS) hown hK hO k_st (nxg hc0 k_st rfl) hP (fun _ h9 => h9) rfl 0 (by decide) (hts _ (wg_t kw_301)) (fun _ h9 => h9) (cd := (1, 0, 8)) rfl dSA_expandMatrix_6 (fun v22 hv22 => ?_)
      obtain rfl := (show v22 = .int (nI 8) from hv22)
      refine mi_ge (tgt := 57) hx hb dSA_expandMatrix_9 (by decide) (by omega) (by omega) (fun h22 => absurd h22 (by omega)) (fun h22 => ?_)
      refine lv_iconst (v := nI 0) hx hb dSA_expandMatrix_12 (by decide) ?_
      refine lv_istore (lv' := [(5, .int (nI 0)), (4, .int (nI i21)), (0, .ref h0), (1, .ref st), (2, .ref b), (3, .ref mx)]) hx hb dSA_expandMatrix_13 hl (by decide) rfl (fun ls hl => ?_)
      have lp22 : ∀ (n22 : Nat) (i22 : Nat) (pl : va_W) (ls : Array Slot) (H : Heap) (locs : List Loc), n22 + i22 = 7 → lv_has ls 6 [(5, .int (nI i22)), (4, .int (nI i21)), (0, .ref h0), (1, .ref st), (2, .ref b), (3, .ref mx)] → okx g T xs pl → va_P g.1 vcl ([] ++ pl) H → va_D A ([] ++ pl) → va_S A s.heap H locs → W p l e ({ frames := 4, cells := 0, slots := 0, locals := 127 } : Room) s m args below meth c H locs 0 0 (MQ below (va_Qv (fun (u : va_W) => (True) ∧ okx g T xs u) (po g.1 vcl A (fun (u : va_W) => [] ++ u)) A) args s 0 0 A) (F0 m 15 ls []) := by
        intro n22
        induction n22 with
        | zero =>
          intro i22 pl ls H locs hm22  hl hO hP hD hS
          refine lv_iload hx hb dSA_expandMatrix_15 (lv_at hl 0 rfl) ?_
          refine lv_aload_n hx hb dSA_expandMatrix_17 rfl (lv_at hl 3 rfl) ?_
          refine ty_get (ci := 2) (C := "LatticeKeys$DsaSet") (TT := T_DS) (N := 17) (kd := (45, 0)) hx hb hts (wg_ft i_DS) hown hK hO k_st (nxg hc0 k_st rfl) hP (fun _ h9 => h9) rfl 1 (by decide) (hts _ (wg_t kw_304)) (fun _ h9 => h9) (cd := (1, 0, 7)) rfl dSA_expandMatrix_18 (fun v23 hv23 => ?_)
          obtain rfl := (show v23 = .int (nI 7) from hv23)
          refine mi_ge (tgt := 51) hx hb dSA_expandMatrix_21 (by decide) (by omega) (by omega) (fun h23 => ?_) (fun h23 => absurd h23 (by omega))
          refine mi_iinc (k := 1) (x := i21) (d := 1) (y := i21 + 1) (lv' := [(4, .int (nI (i21 + 1))), (5, .int (nI i22)), (0, .ref h0), (1, .ref st), (2, .ref b), (3, .ref mx)]) hx hb dSA_expandMatrix_51 hl rfl (by decide) rfl (by decide) rfl (fun ls hl => ?_)
          refine lv_goto (tgt := 3) hx hb dSA_expandMatrix_54 (by decide) ?_
          exact ih21 (i21 + 1) pl ls H locs (by omega) (lv_sub hl [0, 2, 3, 4, 5] rfl) hO hP hD hS
        | succ n22 ih22 =>
          intro i22 pl ls H locs hm22  hl hO hP hD hS
          refine lv_iload hx hb dSA_expandMatrix_15 (lv_at hl 0 rfl) ?_
          refine lv_aload_n hx hb dSA_expandMatrix_17 rfl (lv_at hl 3 rfl) ?_
          refine ty_get (ci := 2) (C := "LatticeKeys$DsaSet") (TT := T_DS) (N := 17) (kd := (45, 0)) hx hb hts (wg_ft i_DS) hown hK hO k_st (nxg hc0 k_st rfl) hP (fun _ h9 => h9) rfl 1 (by decide) (hts _ (wg_t kw_304)) (fun _ h9 => h9) (cd := (1, 0, 7)) rfl dSA_expandMatrix_18 (fun v24 hv24 => ?_)
          obtain rfl := (show v24 = .int (nI 7) from hv24)
          refine mi_ge (tgt := 51) hx hb dSA_expandMatrix_21 (by decide) (by omega) (by omega) (fun h24 => absurd h24 (by omega)) (fun h24 => ?_)
          refine lv_aload_n hx hb dSA_expandMatrix_24 rfl (lv_at hl 2 rfl) ?_
          refine lv_aload_n hx hb dSA_expandMatrix_25 rfl (lv_at hl 5 rfl) ?_
          refine lv_aload_n hx hb dSA_expandMatrix_26 rfl (lv_at hl 3 rfl) ?_
          refine ty_get (ci := 2) (C := "LatticeKeys$DsaSet") (TT := T_DS) (N := 17) (kd := (45, 0)) hx hb hts (wg_ft i_DS) hown hK hO k_st (nxg hc0 k_st rfl) hP (fun _ h9 => h9) rfl 1 (by decide) (hts _ (wg_t kw_304)) (fun _ h9 => h9) (cd := (1, 0, 7)) rfl dSA_expandMatrix_27 (fun v25 hv25 => ?_)
          obtain rfl := (show v25 = .int (nI 7) from hv25)
          refine lv_iload hx hb dSA_expandMatrix_30 (lv_at hl 1 rfl) ?_
          refine mi_imul hx hb dSA_expandMatrix_32 ?_
          refine lv_iload hx hb dSA_expandMatrix_33 (lv_at hl 0 rfl) ?_
          refine mi_iadd hx hb dSA_expandMatrix_35 ?_
          refine ty_aald3 hx hb hK hO k_mx (nxg hc0 k_mx rfl) hP (by omega) (by decide) dSA_expandMatrix_36 (fun r21 kr21 => ?_)
          refine lv_aload_n hx hb dSA_expandMatrix_37 rfl (lv_at hl 4 rfl) ?_
          refine lv_iload hx hb dSA_expandMatrix_38 (lv_at hl 0 rfl) ?_
          refine lv_iload hx hb dSA_expandMatrix_40 (lv_at hl 1 rfl) ?_
          refine mp_v (cx := []) (wr := []) hP hD hS hA [] [] rfl rfl rfl (by decide) (va_runV (As := [.ref r21, .ref b, .int (nI i22), .int (nI i21)]) (rest := []) F (t_SA_sampleEntry l g _ T xs pl hO hU hc0 hc4 h0 r21 b n (nI i22) (nI i21) k_h0 kr21 k_b (by omega) (by omega)) (cwV 4 hts (wg_app (wg_c kw_707 (wg_c kw_709 (wg_c ks_14 (wg_c kw_6 wg_n)))) kw_710) rfl rfl rfl (by decide +kernel) ⟨by decide, by decide⟩) (pp_VT (en_ok g) (ci := 7) (kd := (14, 0)) hK hO k_h0 (nxg hc0 k_h0 rfl) (fun _ h9 => ko1 h9) hP hD hS hA hE [] rfl rfl rfl) rfl rfl hl.1 rfl (lv_room (Nat.le_of_ble_eq_true rfl)) dSA_expandMatrix_42 ⟨by omega, by omega⟩) (fun  pl H locs hu21 hP hD hS => ?_)
          obtain ⟨hq21, hO⟩ := hu21
          have hP : va_P g.1 vcl ([] ++ pl) _ := hP
          have hD : va_D _ ([] ++ pl) := hD
          refine W.widen (k := 0) (n := 0) (by omega) (by omega) ?_
          refine mi_iinc (k := 0) (x := i22) (d := 1) (y := i22 + 1) (lv' := [(5, .int (nI (i22 + 1))), (4, .int (nI i21)), (0, .ref h0), (1, .ref st), (2, .ref b), (3, .ref mx)]) hx hb dSA_expandMatrix_45 hl rfl (by decide) rfl (by decide) rfl (fun ls hl => ?_)
          refine lv_goto (tgt := 15) hx hb dSA_expandMatrix_48 (by decide) ?_
          exact ih22 (i22 + 1) pl ls H locs (by omega) (lv_sub hl [0, 1, 2, 3, 4, 5] rfl) hO hP hD hS
      exact lp22 7 0 pl ls _ _ (by omega) (lv_sub hl [0, 1, 2, 3, 4, 5] rfl) hO hP hD hS
  exact lp21 8 0 pl ls _ _ (by omega) (lv_sub hl [0, 1, 2, 3, 4] rfl) hO hP hD hS
set_option maxHeartbeats 400000 in
set_option maxRecDepth 100000 in
theorem t_SA_putSmall_2 (l : Launch) (g : Gd) (sz : Nat) (T : Ty) (xs : List Nat) (pl : va_W) (hO : okx g T xs pl) (hU : uni T) (hc0 : clo T xs 0) (h0 f fl : Nat) (hf : Int32) (k_h0 : T h0 = some (14, 0)) (k_f : T f = some (0, 256)) (h1 : fl ≤ 256)  : Met l y_SA_putSmall w_SA_putSmall ({ frames := 0, cells := 0, slots := 0, locals := 0 } : Room) (va_Pc [.ref h0, .int (nI 2), .ref f, .int (nI fl), .int hf] (pr (en g) g.1 vcl sz ([] ++ pl))) (va_Qi (fun (r : Int32) (u : va_W) => (∃ z : Nat, z ≤ 256 ∧ r = nI z) ∧ okx g T xs u) (po g.1 vcl (va_A ([] ++ pl) sz) (fun (u : va_W) => [] ++ u)) (va_A ([] ++ pl) sz)) 0 0 (va_A ([] ++ pl) sz) := by
  refine mc_entry (cc := c_SA_putSmall) (maxL := 7) (ret := (some .int)) (by decide) rfl (Nat.le_of_ble_eq_true rfl) ?_
  intro p e s m args below meth c ls F hr hlk hnm hsz hP hD hE hA hl
  obtain ⟨hx, hb, hml, hown, hts⟩ := id F
  have hK := hE.1
  generalize va_A ([] ++ pl) sz = A at hD hE hA ⊢
  have hS : va_S A s.heap s.heap [] := va_S.rf
  have hl : lv_has ls 7 [(0, .ref h0), (1, .int (nI 2)), (2, .ref f), (3, .int (nI fl)), (4, .int hf)] := hl
  refine lv_iload_n hx hb dSA_putSmall_0 rfl (lv_at hl 1 rfl) ?_
  refine lv_iconst (v := nI 2) hx hb dSA_putSmall_1 (by decide) ?_
  refine mi_ne (tgt := 10) hx hb dSA_putSmall_2 (by decide) (by omega) (by omega) (fun h21 => absurd h21 (by omega)) (fun h21 => ?_)
  refine lv_bipush (v := nI 15) hx hb dSA_putSmall_5 (by decide) ?_
  refine lv_goto (tgt := 12) hx hb dSA_putSmall_7 (by decide) ?_
  refine lv_istore (lv' := [(5, .int (nI 15)), (0, .ref h0), (1, .int (nI 2)), (2, .ref f), (3, .int (nI fl)), (4, .int hf)]) hx hb dSA_putSmall_12 hl (by decide) rfl (fun ls hl => ?_)
  refine lv_iload hx hb dSA_putSmall_14 (lv_at hl 5 rfl) ?_
  refine lv_iload hx hb dSA_putSmall_16 (lv_at hl 0 rfl) ?_
  refine lv_icmp_ge (tgt := 28) hx hb dSA_putSmall_18 (by decide) (fun h22 => ?_) (fun h22 => ?_)
  · refine lv_iload_n hx hb dSA_putSmall_28 rfl (lv_at hl 4 rfl) ?_
    exact mp_iret hx hb hr hlk hP hD hS pl ⟨⟨fl, by omega, rfl⟩, hO⟩ [] rfl rfl rfl (by omega) (by omega) dSA_putSmall_29
  · refine lv_iload_n hx hb dSA_putSmall_21 rfl (lv_at hl 4 rfl) ?_
    refine lv_sipush (v := nI 256) hx hb dSA_putSmall_22 (by decide) ?_
    refine mi_lt (tgt := 30) hx hb dSA_putSmall_25 (by decide) (by omega) (by omega) (fun h23 => ?_) (fun h23 => ?_)
    · refine lv_iload_n hx hb dSA_putSmall_30 rfl (lv_at hl 2 rfl) ?_
      refine lv_iload_n hx hb dSA_putSmall_31 rfl (lv_at hl 2 rfl) ?_
      refine lv_iconst (v := nI 2) hx hb dSA_putSmall_32 (by decide) ?_
      refine mi_ne (tgt := 43) hx hb dSA_putSmall_33 (by decide) (by omega) (by omega) (fun h24 => absurd h24 (by omega)) (fun h24 => ?_)
      refine lv_iload hx hb dSA_putSmall_36 (lv_at hl 5 rfl) ?_
      refine lv_iconst (v := nI 5) hx hb dSA_putSmall_38 (by decide) ?_
      refine lv_irem hx hb dSA_putSmall_39 (nI_ne0 (by omega) (by omega)) ?_
      refine mi_any (fun z21 => ?_)
      refine lv_goto (tgt := 45) hx hb dSA_putSmall_40 (by decide) ?_
      refine lv_isub hx hb dSA_putSmall_45 ?_
      refine mi_any (fun z22 => ?_)
      refine lv_istore (lv' := [(6, .int z22), (5, .int (nI 15)), (0, .ref h0), (1, .int (nI 2)), (2, .ref f), (3, .int (nI fl)), (4, .int hf)]) hx hb dSA_putSmall_46 hl (by decide) rfl (fun ls hl => ?_)
      refine lv_aload_n hx hb dSA_putSmall_48 rfl (lv_at hl 4 rfl) ?_
      refine lv_iload_n hx hb dSA_putSmall_49 rfl (lv_at hl 5 rfl) ?_
      refine lv_iload hx hb dSA_putSmall_50 (lv_at hl 0 rfl) ?_
      refine lv_if_ge (tgt := 63) hx hb dSA_putSmall_52 (by decide) (fun h25 => ?_) (fun h25 => ?_)
      · refine lv_iload hx hb dSA_putSmall_63 (lv_at hl 0 rfl) ?_
        refine ty_iast hx hb hK hO k_f (nxg hc0 k_f rfl) hP hD hS (vp_in_nI (by omega) (by decide)) dSA_putSmall_65 (fun pl H locs hO hP hD hS => ?_)
        refine lv_iload_n hx hb dSA_putSmall_66 rfl (lv_at hl 5 rfl) ?_
        refine lv_iconst (v := nI 1) hx hb dSA_putSmall_67 (by decide) ?_
        refine mi_iadd hx hb dSA_putSmall_68 ?_
        exact mp_iret hx hb hr hlk hP hD hS pl ⟨⟨fl + 1, by omega, rfl⟩, hO⟩ [] rfl rfl rfl (by omega) (by omega) dSA_putSmall_69
      · refine lv_iload hx hb dSA_putSmall_55 (lv_at hl 0 rfl) ?_
        refine lv_ldc (v := 8380417) hx hb hown (hts _ (wg_t kw_697)) dSA_putSmall_57 ?_
        refine mi_as (show (8380417 : Int32) = nI 8380417 by decide) ?_
        refine lv_iadd hx hb dSA_putSmall_59 ?_
        refine mi_any (fun z23 => ?_)
        refine lv_goto (tgt := 65) hx hb dSA_putSmall_60 (by decide) ?_
        refine ty_iast hx hb hK hO k_f (nxg hc0 k_f rfl) hP hD hS (vp_in_nI (by omega) (by decide)) dSA_putSmall_65 (fun pl H locs hO hP hD hS => ?_)
        refine lv_iload_n hx hb dSA_putSmall_66 rfl (lv_at hl 5 rfl) ?_
        refine lv_iconst (v := nI 1) hx hb dSA_putSmall_67 (by decide) ?_
        refine mi_iadd hx hb dSA_putSmall_68 ?_
        exact mp_iret hx hb hr hlk hP hD hS pl ⟨⟨fl + 1, by omega, rfl⟩, hO⟩ [] rfl rfl rfl (by omega) (by omega) dSA_putSmall_69
    · refine lv_iload_n hx hb dSA_putSmall_28 rfl (lv_at hl 4 rfl) ?_
      exact mp_iret hx hb hr hlk hP hD hS pl ⟨⟨fl, by omega, rfl⟩, hO⟩ [] rfl rfl rfl (by omega) (by omega) dSA_putSmall_29
set_option maxHeartbeats 400000 in
set_option maxRecDepth 100000 in
theorem t_SA_putSmall_4 (l : Launch) (g : Gd) (sz : Nat) (T : Ty) (xs : List Nat) (pl : va_W) (hO : okx g T xs pl) (hU : uni T) (hc0 : clo T xs 0) (h0 f fl : Nat) (hf : Int32) (k_h0 : T h0 = some (14, 0)) (k_f : T f = some (0, 256)) (h1 : fl ≤ 256)  : Met l y_SA_putSmall w_SA_putSmall ({ frames := 0, cells := 0, slots := 0, locals := 0 } : Room) (va_Pc [.ref h0, .int (nI 4), .ref f, .int (nI fl), .int hf] (pr (en g) g.1 vcl sz ([] ++ pl))) (va_Qi (fun (r : Int32) (u : va_W) => (∃ z : Nat, z ≤ 256 ∧ r = nI z) ∧ okx g T xs u) (po g.1 vcl (va_A ([] ++ pl) sz) (fun (u : va_W) => [] ++ u)) (va_A ([] ++ pl) sz)) 0 0 (va_A ([] ++ pl) sz) := by
  refine mc_entry (cc := c_SA_putSmall) (maxL := 7) (ret := (some .int)) (by decide) rfl (Nat.le_of_ble_eq_true rfl) ?_
  intro p e s m args below meth c ls F hr hlk hnm hsz hP hD hE hA hl
  obtain ⟨hx, hb, hml, hown, hts⟩ := id F
  have hK := hE.1
  generalize va_A ([] ++ pl) sz = A at hD hE hA ⊢
  have hS : va_S A s.heap s.heap [] := va_S.rf
  have hl : lv_has ls 7 [(0, .ref h0), (1, .int (nI 4)), (2, .ref f), (3, .int (nI fl)), (4, .int hf)] := hl
  refine lv_iload_n hx hb dSA_putSmall_0 rfl (lv_at hl 1 rfl) ?_
  refine lv_iconst (v := nI 2) hx hb dSA_putSmall_1 (by decide) ?_
  refine mi_ne (tgt := 10) hx hb dSA_putSmall_2 (by decide) (by omega) (by omega) (fun h21 => ?_) (fun h21 => absurd h21 (by omega))
  refine lv_bipush (v := nI 9) hx hb dSA_putSmall_10 (by decide) ?_
  refine lv_istore (lv' := [(5, .int (nI 9)), (0, .ref h0), (1, .int (nI 4)), (2, .ref f), (3, .int (nI fl)), (4, .int hf)]) hx hb dSA_putSmall_12 hl (by decide) rfl (fun ls hl => ?_)
  refine lv_iload hx hb dSA_putSmall_14 (lv_at hl 5 rfl) ?_
  refine lv_iload hx hb dSA_putSmall_16 (lv_at hl 0 rfl) ?_
  refine lv_icmp_ge (tgt := 28) hx hb dSA_putSmall_18 (by decide) (fun h22 => ?_) (fun h22 => ?_)
  · refine lv_iload_n hx hb dSA_putSmall_28 rfl (lv_at hl 4 rfl) ?_
    exact mp_iret hx hb hr hlk hP hD hS pl ⟨⟨fl, by omega, rfl⟩, hO⟩ [] rfl rfl rfl (by omega) (by omega) dSA_putSmall_29
  · refine lv_iload_n hx hb dSA_putSmall_21 rfl (lv_at hl 4 rfl) ?_
    refine lv_sipush (v := nI 256) hx hb dSA_putSmall_22 (by decide) ?_
    refine mi_lt (tgt := 30) hx hb dSA_putSmall_25 (by decide) (by omega) (by omega) (fun h23 => ?_) (fun h23 => ?_)
    · refine lv_iload_n hx hb dSA_putSmall_30 rfl (lv_at hl 2 rfl) ?_
      refine lv_iload_n hx hb dSA_putSmall_31 rfl (lv_at hl 2 rfl) ?_
      refine lv_iconst (v := nI 2) hx hb dSA_putSmall_32 (by decide) ?_
      refine mi_ne (tgt := 43) hx hb dSA_putSmall_33 (by decide) (by omega) (by omega) (fun h24 => ?_) (fun h24 => absurd h24 (by omega))
      refine lv_iload hx hb dSA_putSmall_43 (lv_at hl 5 rfl) ?_
      refine lv_isub hx hb dSA_putSmall_45 ?_
      refine mi_any (fun z21 => ?_)
      refine lv_istore (lv' := [(6, .int z21), (5, .int (nI 9)), (0, .ref h0), (1, .int (nI 4)), (2, .ref f), (3, .int (nI fl)), (4, .int hf)]) hx hb dSA_putSmall_46 hl (by decide) rfl (fun ls hl => ?_)
      refine lv_aload_n hx hb dSA_putSmall_48 rfl (lv_at hl 4 rfl) ?_
      refine lv_iload_n hx hb dSA_putSmall_49 rfl (lv_at hl 5 rfl) ?_
      refine lv_iload hx hb dSA_putSmall_50 (lv_at hl 0 rfl) ?_
      refine lv_if_ge (tgt := 63) hx hb dSA_putSmall_52 (by decide) (fun h25 => ?_) (fun h25 => ?_)
      · refine lv_iload hx hb dSA_putSmall_63 (lv_at hl 0 rfl) ?_
        refine ty_iast hx hb hK hO k_f (nxg hc0 k_f rfl) hP hD hS (vp_in_nI (by omega) (by decide)) dSA_putSmall_65 (fun pl H locs hO hP hD hS => ?_)
        refine lv_iload_n hx hb dSA_putSmall_66 rfl (lv_at hl 5 rfl) ?_
        refine lv_iconst (v := nI 1) hx hb dSA_putSmall_67 (by decide) ?_
        refine mi_iadd hx hb dSA_putSmall_68 ?_
        exact mp_iret hx hb hr hlk hP hD hS pl ⟨⟨fl + 1, by omega, rfl⟩, hO⟩ [] rfl rfl rfl (by omega) (by omega) dSA_putSmall_69
      · refine lv_iload hx hb dSA_putSmall_55 (lv_at hl 0 rfl) ?_
        refine lv_ldc (v := 8380417) hx hb hown (hts _ (wg_t kw_697)) dSA_putSmall_57 ?_
        refine mi_as (show (8380417 : Int32) = nI 8380417 by decide) ?_
        refine lv_iadd hx hb dSA_putSmall_59 ?_
        refine mi_any (fun z22 => ?_)
        refine lv_goto (tgt := 65) hx hb dSA_putSmall_60 (by decide) ?_
        refine ty_iast hx hb hK hO k_f (nxg hc0 k_f rfl) hP hD hS (vp_in_nI (by omega) (by decide)) dSA_putSmall_65 (fun pl H locs hO hP hD hS => ?_)
        refine lv_iload_n hx hb dSA_putSmall_66 rfl (lv_at hl 5 rfl) ?_
        refine lv_iconst (v := nI 1) hx hb dSA_putSmall_67 (by decide) ?_
        refine mi_iadd hx hb dSA_putSmall_68 ?_
        exact mp_iret hx hb hr hlk hP hD hS pl ⟨⟨fl + 1, by omega, rfl⟩, hO⟩ [] rfl rfl rfl (by omega) (by omega) dSA_putSmall_69
    · refine lv_iload_n hx hb dSA_putSmall_28 rfl (lv_at hl 4 rfl) ?_
      exact mp_iret hx hb hr hlk hP hD hS pl ⟨⟨fl, by omega, rfl⟩, hO⟩ [] rfl rfl rfl (by omega) (by omega) dSA_putSmall_29
set_option maxHeartbeats 400000 in
set_option maxRecDepth 100000 in
theorem t_SA_sampleSmall_0 (l : Launch) (g : Gd) (sz : Nat) (T : Ty) (xs : List Nat) (pl : va_W) (hO : okx g T xs pl) (hU : uni T) (hc0 : clo T xs 0) (hc4 : clo T xs 4) (h0 st f b n at_ : Nat) (wh : Int32) (k_h0 : T h0 = some (14, 0)) (k_st : T st = some (43, 0)) (k_f : T f = some (0, 256)) (k_b : T b = some (1, n)) (h1 : at_ + 64 ≤ n) (h2 : n < 65536)  : Met l y_SA_sampleSmall w_SA_sampleSmall ({ frames := 4, cells := 0, slots := 0, locals := 123 } : Room) (va_Pc [.ref h0, .ref st, .ref f, .ref b, .int (nI at_), .int wh] (pr (en g) g.1 vcl sz ([] ++ pl))) (va_Qv (fun (u : va_W) => (True) ∧ okx g T xs u) (po g.1 vcl (va_A ([] ++ pl) sz) (fun (u : va_W) => [] ++ u)) (va_A ([] ++ pl) sz)) 0 0 (va_A ([] ++ pl) sz) := by
  refine mc_entry (cc := c_SA_sampleSmall) (maxL := 9) (ret := none) (by decide) rfl (Nat.le_of_ble_eq_true rfl) ?_
  intro p e s m args below meth c ls F hr hlk hnm hsz hP hD hE hA hl
  obtain ⟨hx, hb, hml, hown, hts⟩ := id F
  have hK := hE.1
  generalize va_A ([] ++ pl) sz = A at hD hE hA ⊢
  have hS : va_S A s.heap s.heap [] := va_S.rf
  have hl : lv_has ls 9 [(0, .ref h0), (1, .ref st), (2, .ref f), (3, .ref b), (4, .int (nI at_)), (5, .int wh)] := hl
  refine lv_aload_n hx hb dSA_sampleSmall_0 rfl (lv_at hl 0 rfl) ?_
  refine lv_aload_n hx hb dSA_sampleSmall_1 rfl (lv_at hl 3 rfl) ?_
  refine lv_iload hx hb dSA_sampleSmall_2 (lv_at hl 4 rfl) ?_
  refine lv_iload hx hb dSA_sampleSmall_4 (lv_at hl 5 rfl) ?_
  refine mp_v (cx := []) (wr := []) hP hD hS hA [] [] rfl rfl rfl (by decide) (va_runV (As := [.ref b, .int (nI at_), .int wh]) (rest := []) F (t_SA_startNumbered l g _ T xs pl hO hU hc0 hc4 h0 b n at_ wh k_h0 k_b (by omega) (by omega)) (cwV 3 hts (wg_app (wg_c kw_683 (wg_c kw_685 (wg_c ks_12 (wg_c kw_6 wg_n)))) kw_686) rfl rfl rfl (by decide +kernel) ⟨by decide, by decide⟩) (pp_VT (en_ok g) (ci := 7) (kd := (14, 0)) hK hO k_h0 (nxg hc0 k_h0 rfl) (fun _ h9 => ko1 h9) hP hD hS hA hE [] rfl rfl rfl) rfl rfl hl.1 rfl (lv_room (Nat.le_of_ble_eq_true rfl)) dSA_sampleSmall_6 ⟨by omega, by omega⟩) (fun  pl H locs hu21 hP hD hS => ?_)
  obtain ⟨hq21, hO⟩ := hu21
  have hP : va_P g.1 vcl ([] ++ pl) _ := hP
  have hD : va_D _ ([] ++ pl) := hD
  refine W.widen (k := 0) (n := 0) (by omega) (by omega) ?_
  refine lv_iconst (v := nI 0) hx hb dSA_sampleSmall_9 (by decide) ?_
  refine lv_istore (lv' := [(6, .int (nI 0)), (0, .ref h0), (1, .ref st), (2, .ref f), (3, .ref b), (4, .int (nI at_)), (5, .int wh)]) hx hb dSA_sampleSmall_10 hl (by decide) rfl (fun ls hl => ?_)
  refine lv_iconst (v := nI 0) hx hb dSA_sampleSmall_12 (by decide) ?_
  refine lv_istore (lv' := [(7, .int (nI 0)), (6, .int (nI 0)), (0, .ref h0), (1, .ref st), (2, .ref f), (3, .ref b), (4, .int (nI at_)), (5, .int wh)]) hx hb dSA_sampleSmall_13 hl (by decide) rfl (fun ls hl => ?_)
  have lp21 : ∀ (n21 : Nat) (i21 : Nat) (fl21 : Nat) (pl : va_W) (ls : Array Slot) (H : Heap) (locs : List Loc), n21 + i21 = 1000000 → (fl21 ≤ 256) → lv_has ls 9 [(7, .int (nI i21)), (6, .int (nI fl21)), (0, .ref h0), (1, .ref st), (2, .ref f)] → okx g T xs pl → va_P g.1 vcl ([] ++ pl) H → va_D A ([] ++ pl) → va_S A s.heap H locs → W p l e ({ frames := 4, cells := 0, slots := 0, locals := 123 } : Room) s m args below meth c H locs 0 0 (MQ below (va_Qv (fun (u : va_W) => (True) ∧ okx g T xs u) (po g.1 vcl A (fun (u : va_W) => [] ++ u)) A) args s 0 0 A) (F0 m 15 ls []) := by
    intro n21
    induction n21 with
    | zero =>
      intro i21 fl21 pl ls H locs hm21 hi21 hl hO hP hD hS
      refine lv_iload hx hb dSA_sampleSmall_15 (lv_at hl 1 rfl) ?_
      refine lv_sipush (v := nI 256) hx hb dSA_sampleSmall_17 (by decide) ?_
      refine mi_ge (tgt := 80) hx hb dSA_sampleSmall_20 (by decide) (by omega) (by omega) (fun h21 => ?_) (fun h21 => ?_)
      · exact mp_vret hx hb hr hlk hP hD hS pl ⟨trivial, hO⟩ [] rfl rfl rfl (by omega) (by omega) dSA_sampleSmall_80
      · refine lv_iload hx hb dSA_sampleSmall_23 (lv_at hl 0 rfl) ?_
        refine lv_ldc (v := 1000000) hx hb hown (hts _ (wg_t kw_691)) dSA_sampleSmall_25 ?_
        refine mi_as (show (1000000 : Int32) = nI 1000000 by decide) ?_
        refine mi_ge (tgt := 80) hx hb dSA_sampleSmall_27 (by decide) (by omega) (by omega) (fun h22 => ?_) (fun h22 => absurd h22 (by omega))
        exact mp_vret hx hb hr hlk hP hD hS pl ⟨trivial, hO⟩ [] rfl rfl rfl (by omega) (by omega) dSA_sampleSmall_80
    | succ n21 ih21 =>
      intro i21 fl21 pl ls H locs hm21 hi21 hl hO hP hD hS
      refine lv_iload hx hb dSA_sampleSmall_15 (lv_at hl 1 rfl) ?_
      refine lv_sipush (v := nI 256) hx hb dSA_sampleSmall_17 (by decide) ?_
      refine mi_ge (tgt := 80) hx hb dSA_sampleSmall_20 (by decide) (by omega) (by omega) (fun h23 => ?_) (fun h23 => ?_)
      · exact mp_vret hx hb hr hlk hP hD hS pl ⟨trivial, hO⟩ [] rfl rfl rfl (by omega) (by omega) dSA_sampleSmall_80
      · refine lv_iload hx hb dSA_sampleSmall_23 (lv_at hl 0 rfl) ?_
        refine lv_ldc (v := 1000000) hx hb hown (hts _ (wg_t kw_691)) dSA_sampleSmall_25 ?_
        refine mi_as (show (1000000 : Int32) = nI 1000000 by decide) ?_
        refine mi_ge (tgt := 80) hx hb dSA_sampleSmall_27 (by decide) (by omega) (by omega) (fun h24 => absurd h24 (by omega)) (fun h24 => ?_)
        refine lv_aload_n hx hb dSA_sampleSmall_30 rfl (lv_at hl 2 rfl) ?_
        refine ty_get (ci := 7) (C := "LatticeKeys$DsaSampler") (TT := T_SA) (N := 2) (kd := (14, 0)) hx hb hts (wg_ft i_SA) hown hK hO k_h0 (nxg hc0 k_h0 rfl) hP (fun _ h9 => h9) rfl 0 (by decide) (hts _ (wg_t kw_157)) (fun _ h9 => h9) (cd := (3, 10, 3)) rfl dSA_sampleSmall_31 (fun v21 hv21 => ?_)
        obtain ⟨r21, rfl, kr21⟩ := (show ∃ r : Nat, v21 = .ref r ∧ T r = some (10, 3) from hv21)
        obtain ⟨e21, pl, hP, hD, hk21, hO⟩ := open1 hP hD hO kr21 (nxg hc4 kr21 rfl)
        obtain ⟨ln21, rt21, ps21, x21, rfl, kl21, hr21, hr22, hr23⟩ := hk21
        have kl21 : T ln21 = some (19, 3) := kl21
        obtain ⟨e22, pl, hP, hD, hk22, hO⟩ := open1 hP hD hO kl21 (nmc (knd_ne kl21 kr21 (by decide)) (nxg hc4 kl21 rfl))
        obtain ⟨f21, rfl⟩ := hk22
        have hP : va_P g.1 vcl ([(r21, .inr (3, [.ref ln21, .int (nI rt21), .int x21, .int (nI ps21)])), (ln21, .inl (g.2.1 2, 25, .inr (.inl f21)))] ++ pl) _ := hP
        have hD : va_D _ ([(r21, .inr (3, [.ref ln21, .int (nI rt21), .int x21, .int (nI ps21)])), (ln21, .inl (g.2.1 2, 25, .inr (.inl f21)))] ++ pl) := hD
        refine mp_i (cx := [(r21, .inr (3, [.ref ln21, .int (nI rt21), .int x21, .int (nI ps21)])), (ln21, .inl (g.2.1 2, 25, .inr (.inl f21)))]) (wr := []) hP hD hS hA [0, 1] [] rfl rfl rfl (by decide) (va_runV (As := []) (rest := []) F (t_SP_nextByte l g _ T (ln21 :: (r21 :: xs)) pl hO hU  r21 ln21 rt21 ps21 x21 f21 (by omega) (by omega)) (cwV 0 hts (wg_app (wg_c kw_692 (wg_c kw_619 (wg_c kw_620 (wg_c kw_2 wg_n)))) kw_621) rfl rfl rfl (by decide +kernel) ⟨by decide, by decide⟩) (pp_V (en_ok g) (q0 := 0) hK hP hD hS hA hE [0, 1] rfl rfl rfl rfl) rfl rfl hl.1 rfl (lv_room (Nat.le_of_ble_eq_true rfl)) dSA_sampleSmall_34 ⟨by omega, by omega⟩) (fun r22 u21 H locs hu22 hP hD hS => ?_)
        obtain ⟨u22, pl⟩ := u21
        obtain ⟨hq22, hO⟩ := hu22
        obtain ⟨k21, f22⟩ := u22
        have hP : va_P g.1 vcl ([(r21, .inr (3, [.ref ln21, .int (nI rt21), .int x21, .int (nI k21)])), (ln21, .inl (g.2.1 2, 25, .inr (.inl f22)))] ++ pl) _ := hP
        have hD : va_D _ ([(r21, .inr (3, [.ref ln21, .int (nI rt21), .int x21, .int (nI k21)])), (ln21, .inl (g.2.1 2, 25, .inr (.inl f22)))] ++ pl) := hD
        obtain ⟨hq22, z21, hz21, rfl⟩ := (show k21 ≤ rt21 ∧ ∃ z : Nat, z < 256 ∧ r22 = nI z from hq22)
        refine W.widen (k := 0) (n := 0) (by omega) (by omega) ?_
        refine lv_istore (lv' := [(8, .int (nI z21)), (7, .int (nI i21)), (6, .int (nI fl21)), (0, .ref h0), (1, .ref st), (2, .ref f)]) hx hb dSA_sampleSmall_37 hl (by decide) rfl (fun ls hl => ?_)
        refine lv_aload_n hx hb dSA_sampleSmall_39 rfl (lv_at hl 3 rfl) ?_
        refine lv_aload_n hx hb dSA_sampleSmall_40 rfl (lv_at hl 4 rfl) ?_
        refine ty_get (ci := 2) (C := "LatticeKeys$DsaSet") (TT := T_DS) (N := 17) (kd := (43, 0)) hx hb hts (wg_ft i_DS) hown hK hO k_st (nxg (clo_cons (clo_cons hc0 kr21 (by decide)) kl21 (by decide)) k_st rfl) hP (fun _ h9 => h9) rfl 2 (by decide) (hts _ (wg_t kw_308)) (fun _ h9 => h9) (cd := (1, 0, 2)) rfl dSA_sampleSmall_41 (fun v22 hv22 => ?_)
        obtain rfl := (show v22 = .int (nI 2) from hv22)
        refine lv_aload_n hx hb dSA_sampleSmall_44 rfl (lv_at hl 5 rfl) ?_
        refine lv_iload hx hb dSA_sampleSmall_45 (lv_at hl 2 rfl) ?_
        refine lv_iload hx hb dSA_sampleSmall_47 (lv_at hl 0 rfl) ?_
        refine lv_bipush (v := nI 15) hx hb dSA_sampleSmall_49 (by decide) ?_
        refine mi_iand hx hb 4 dSA_sampleSmall_51 (by decide) (fun z22 hz22 => ?_)
        have hz22 : z22 < 16 := hz22
        refine mp_i (cx := []) (wr := [(r21, .inr (3, [.ref ln21, .int (nI rt21), .int x21, .int (nI k21)])), (ln21, .inl (g.2.1 2, 25, .inr (.inl f22)))]) hP hD hS hA [] [0, 1] rfl rfl rfl (by decide) (va_runV (As := [.int (nI 2), .ref f, .int (nI fl21), .int (nI z22)]) (rest := []) F (t_SA_putSmall_2 l g _ T (ln21 :: (r21 :: xs)) pl hO hU (clo_cons (clo_cons hc0 kr21 (by decide)) kl21 (by decide)) h0 f fl21 (nI z22) k_h0 k_f (by omega)) (cwV 4 hts (wg_app (wg_c kw_693 (wg_c kw_695 (wg_c ks_13 (wg_c kw_6 wg_n)))) kw_696) rfl rfl rfl (by decide +kernel) ⟨by decide, by decide⟩) (pp_VT (en_ok g) (ci := 7) (kd := (14, 0)) hK hO k_h0 (nxg (clo_cons (clo_cons hc0 kr21 (by decide)) kl21 (by decide)) k_h0 rfl) (fun _ h9 => ko1 h9) hP hD hS hA hE [] rfl rfl rfl) rfl rfl hl.1 rfl (lv_room (Nat.le_of_ble_eq_true rfl)) dSA_sampleSmall_52 ⟨by omega, by omega⟩) (fun r23 pl H locs hu23 hP hD hS => ?_)
        obtain ⟨hq23, hO⟩ := hu23
        have hP : va_P g.1 vcl ([(r21, .inr (3, [.ref ln21, .int (nI rt21), .int x21, .int (nI k21)])), (ln21, .inl (g.2.1 2, 25, .inr (.inl f22)))] ++ pl) _ := hP
        have hD : va_D _ ([(r21, .inr (3, [.ref ln21, .int (nI rt21), .int x21, .int (nI k21)])), (ln21, .inl (g.2.1 2, 25, .inr (.inl f22)))] ++ pl) := hD
        obtain ⟨z23, hz23, rfl⟩ := hq23
        refine W.widen (k := 0) (n := 0) (by omega) (by omega) ?_
        refine lv_istore (lv' := [(6, .int (nI z23)), (8, .int (nI z21)), (7, .int (nI i21)), (0, .ref h0), (1, .ref st), (2, .ref f)]) hx hb dSA_sampleSmall_55 hl (by decide) rfl (fun ls hl => ?_)
        refine lv_aload_n hx hb dSA_sampleSmall_57 rfl (lv_at hl 3 rfl) ?_
        refine lv_aload_n hx hb dSA_sampleSmall_58 rfl (lv_at hl 4 rfl) ?_
        refine ty_get (ci := 2) (C := "LatticeKeys$DsaSet") (TT := T_DS) (N := 17) (kd := (43, 0)) hx hb hts (wg_ft i_DS) hown hK hO k_st (nxg (clo_cons (clo_cons hc0 kr21 (by decide)) kl21 (by decide)) k_st rfl) hP (fun _ h9 => h9) rfl 2 (by decide) (hts _ (wg_t kw_308)) (fun _ h9 => h9) (cd := (1, 0, 2)) rfl dSA_sampleSmall_59 (fun v23 hv23 => ?_)
        obtain rfl := (show v23 = .int (nI 2) from hv23)
        refine lv_aload_n hx hb dSA_sampleSmall_62 rfl (lv_at hl 5 rfl) ?_
        refine lv_iload hx hb dSA_sampleSmall_63 (lv_at hl 0 rfl) ?_
        refine lv_iload hx hb dSA_sampleSmall_65 (lv_at hl 1 rfl) ?_
        refine lv_iconst (v := nI 4) hx hb dSA_sampleSmall_67 (by decide) ?_
        refine mi_ishr hx hb dSA_sampleSmall_68 (by omega) (by decide) ?_
        refine mi_as (show nI (z21 / 2 ^ 4) = nI (z21 / 16) from rfl) ?_
        refine mp_i (cx := []) (wr := [(r21, .inr (3, [.ref ln21, .int (nI rt21), .int x21, .int (nI k21)])), (ln21, .inl (g.2.1 2, 25, .inr (.inl f22)))]) hP hD hS hA [] [0, 1] rfl rfl rfl (by decide) (va_runV (As := [.int (nI 2), .ref f, .int (nI z23), .int (nI (z21 / 16))]) (rest := []) F (t_SA_putSmall_2 l g _ T (ln21 :: (r21 :: xs)) pl hO hU (clo_cons (clo_cons hc0 kr21 (by decide)) kl21 (by decide)) h0 f z23 (nI (z21 / 16)) k_h0 k_f (by omega)) (cwV 4 hts (wg_app (wg_c kw_693 (wg_c kw_695 (wg_c ks_13 (wg_c kw_6 wg_n)))) kw_696) rfl rfl rfl (by decide +kernel) ⟨by decide, by decide⟩) (pp_VT (en_ok g) (ci := 7) (kd := (14, 0)) hK hO k_h0 (nxg (clo_cons (clo_cons hc0 kr21 (by decide)) kl21 (by decide)) k_h0 rfl) (fun _ h9 => ko1 h9) hP hD hS hA hE [] rfl rfl rfl) rfl rfl hl.1 rfl (lv_room (Nat.le_of_ble_eq_true rfl)) dSA_sampleSmall_69 ⟨by omega, by omega⟩) (fun r24 pl H locs hu24 hP hD hS => ?_)
        obtain ⟨hq24, hO⟩ := hu24
        have hP : va_P g.1 vcl ([(r21, .inr (3, [.ref ln21, .int (nI rt21), .int x21, .int (nI k21)])), (ln21, .inl (g.2.1 2, 25, .inr (.inl f22)))] ++ pl) _ := hP
        have hD : va_D _ ([(r21, .inr (3, [.ref ln21, .int (nI rt21), .int x21, .int (nI k21)])), (ln21, .inl (g.2.1 2, 25, .inr (.inl f22)))] ++ pl) := hD
        obtain ⟨z24, hz24, rfl⟩ := hq24
        refine W.widen (k := 0) (n := 0) (by omega) (by omega) ?_
        refine lv_istore (lv' := [(6, .int (nI z24)), (8, .int (nI z21)), (7, .int (nI i21)), (0, .ref h0), (1, .ref st), (2, .ref f)]) hx hb dSA_sampleSmall_72 hl (by decide) rfl (fun ls hl => ?_)
        refine mi_iinc (k := 2) (x := i21) (d := 1) (y := i21 + 1) (lv' := [(7, .int (nI (i21 + 1))), (6, .int (nI z24)), (8, .int (nI z21)), (0, .ref h0), (1, .ref st), (2, .ref f)]) hx hb dSA_sampleSmall_74 hl rfl (by decide) rfl (by decide) rfl (fun ls hl => ?_)
        refine lv_goto (tgt := 15) hx hb dSA_sampleSmall_77 (by decide) ?_
        have hO := close1 (e := .inl (g.2.1 2, 25, .inr (.inl f22))) hO kl21 ⟨_, rfl⟩
        have hO := close1 (e := .inr (3, [.ref ln21, .int (nI rt21), .int x21, .int (nI k21)])) hO kr21 ⟨_, _, _, _, rfl, kl21, by omega, by omega, by omega⟩
        have hO : okx g T xs ((r21, .inr (3, [.ref ln21, .int (nI rt21), .int x21, .int (nI k21)])) :: (ln21, .inl (g.2.1 2, 25, .inr (.inl f22))) :: pl) := hO
        have hP : va_P g.1 vcl ([] ++ ((r21, .inr (3, [.ref ln21, .int (nI rt21), .int x21, .int (nI k21)])) :: (ln21, .inl (g.2.1 2, 25, .inr (.inl f22))) :: pl)) _ := hP
        have hD : va_D _ ([] ++ ((r21, .inr (3, [.ref ln21, .int (nI rt21), .int x21, .int (nI k21)])) :: (ln21, .inl (g.2.1 2, 25, .inr (.inl f22))) :: pl)) := hD
        generalize ((r21, .inr (3, [.ref ln21, .int (nI rt21), .int x21, .int (nI k21)])) :: (ln21, .inl (g.2.1 2, 25, .inr (.inl f22))) :: pl) = pl at hO hP hD
        exact ih21 (i21 + 1) z24 pl ls H locs (by omega) (by omega) (lv_sub hl [0, 1, 3, 4, 5] rfl) hO hP hD hS
  exact lp21 1000000 0 0 pl ls _ _ (by omega) (by omega) (lv_sub hl [0, 1, 2, 3, 4] rfl) hO hP hD hS
set_option maxHeartbeats 400000 in
set_option maxRecDepth 100000 in
theorem t_SA_sampleSmall_1 (l : Launch) (g : Gd) (sz : Nat) (T : Ty) (xs : List Nat) (pl : va_W) (hO : okx g T xs pl) (hU : uni T) (hc0 : clo T xs 0) (hc4 : clo T xs 4) (h0 st f b n at_ : Nat) (wh : Int32) (k_h0 : T h0 = some (14, 0)) (k_st : T st = some (44, 0)) (k_f : T f = some (0, 256)) (k_b : T b = some (1, n)) (h1 : at_ + 64 ≤ n) (h2 : n < 65536)  : Met l y_SA_sampleSmall w_SA_sampleSmall ({ frames := 4, cells := 0, slots := 0, locals := 123 } : Room) (va_Pc [.ref h0, .ref st, .ref f, .ref b, .int (nI at_), .int wh] (pr (en g) g.1 vcl sz ([] ++ pl))) (va_Qv (fun (u : va_W) => (True) ∧ okx g T xs u) (po g.1 vcl (va_A ([] ++ pl) sz) (fun (u : va_W) => [] ++ u)) (va_A ([] ++ pl) sz)) 0 0 (va_A ([] ++ pl) sz) := by
  refine mc_entry (cc := c_SA_sampleSmall) (maxL := 9) (ret := none) (by decide) rfl (Nat.le_of_ble_eq_true rfl) ?_
  intro p e s m args below meth c ls F hr hlk hnm hsz hP hD hE hA hl
  obtain ⟨hx, hb, hml, hown, hts⟩ := id F
  have hK := hE.1
  generalize va_A ([] ++ pl) sz = A at hD hE hA ⊢
  have hS : va_S A s.heap s.heap [] := va_S.rf
  have hl : lv_has ls 9 [(0, .ref h0), (1, .ref st), (2, .ref f), (3, .ref b), (4, .int (nI at_)), (5, .int wh)] := hl
  refine lv_aload_n hx hb dSA_sampleSmall_0 rfl (lv_at hl 0 rfl) ?_
  refine lv_aload_n hx hb dSA_sampleSmall_1 rfl (lv_at hl 3 rfl) ?_
  refine lv_iload hx hb dSA_sampleSmall_2 (lv_at hl 4 rfl) ?_
  refine lv_iload hx hb dSA_sampleSmall_4 (lv_at hl 5 rfl) ?_
  refine mp_v (cx := []) (wr := []) hP hD hS hA [] [] rfl rfl rfl (by decide) (va_runV (As := [.ref b, .int (nI at_), .int wh]) (rest := []) F (t_SA_startNumbered l g _ T xs pl hO hU hc0 hc4 h0 b n at_ wh k_h0 k_b (by omega) (by omega)) (cwV 3 hts (wg_app (wg_c kw_683 (wg_c kw_685 (wg_c ks_12 (wg_c kw_6 wg_n)))) kw_686) rfl rfl rfl (by decide +kernel) ⟨by decide, by decide⟩) (pp_VT (en_ok g) (ci := 7) (kd := (14, 0)) hK hO k_h0 (nxg hc0 k_h0 rfl) (fun _ h9 => ko1 h9) hP hD hS hA hE [] rfl rfl rfl) rfl rfl hl.1 rfl (lv_room (Nat.le_of_ble_eq_true rfl)) dSA_sampleSmall_6 ⟨by omega, by omega⟩) (fun  pl H locs hu21 hP hD hS => ?_)
  obtain ⟨hq21, hO⟩ := hu21
  have hP : va_P g.1 vcl ([] ++ pl) _ := hP
  have hD : va_D _ ([] ++ pl) := hD
  refine W.widen (k := 0) (n := 0) (by omega) (by omega) ?_
  refine lv_iconst (v := nI 0) hx hb dSA_sampleSmall_9 (by decide) ?_
  refine lv_istore (lv' := [(6, .int (nI 0)), (0, .ref h0), (1, .ref st), (2, .ref f), (3, .ref b), (4, .int (nI at_)), (5, .int wh)]) hx hb dSA_sampleSmall_10 hl (by decide) rfl (fun ls hl => ?_)
  refine lv_iconst (v := nI 0) hx hb dSA_sampleSmall_12 (by decide) ?_
  refine lv_istore (lv' := [(7, .int (nI 0)), (6, .int (nI 0)), (0, .ref h0), (1, .ref st), (2, .ref f), (3, .ref b), (4, .int (nI at_)), (5, .int wh)]) hx hb dSA_sampleSmall_13 hl (by decide) rfl (fun ls hl => ?_)
  have lp21 : ∀ (n21 : Nat) (i21 : Nat) (fl21 : Nat) (pl : va_W) (ls : Array Slot) (H : Heap) (locs : List Loc), n21 + i21 = 1000000 → (fl21 ≤ 256) → lv_has ls 9 [(7, .int (nI i21)), (6, .int (nI fl21)), (0, .ref h0), (1, .ref st), (2, .ref f)] → okx g T xs pl → va_P g.1 vcl ([] ++ pl) H → va_D A ([] ++ pl) → va_S A s.heap H locs → W p l e ({ frames := 4, cells := 0, slots := 0, locals := 123 } : Room) s m args below meth c H locs 0 0 (MQ below (va_Qv (fun (u : va_W) => (True) ∧ okx g T xs u) (po g.1 vcl A (fun (u : va_W) => [] ++ u)) A) args s 0 0 A) (F0 m 15 ls []) := by
    intro n21
    induction n21 with
    | zero =>
      intro i21 fl21 pl ls H locs hm21 hi21 hl hO hP hD hS
      refine lv_iload hx hb dSA_sampleSmall_15 (lv_at hl 1 rfl) ?_
      refine lv_sipush (v := nI 256) hx hb dSA_sampleSmall_17 (by decide) ?_
      refine mi_ge (tgt := 80) hx hb dSA_sampleSmall_20 (by decide) (by omega) (by omega) (fun h21 => ?_) (fun h21 => ?_)
      · exact mp_vret hx hb hr hlk hP hD hS pl ⟨trivial, hO⟩ [] rfl rfl rfl (by omega) (by omega) dSA_sampleSmall_80
      · refine lv_iload hx hb dSA_sampleSmall_23 (lv_at hl 0 rfl) ?_
        refine lv_ldc (v := 1000000) hx hb hown (hts _ (wg_t kw_691)) dSA_sampleSmall_25 ?_
        refine mi_as (show (1000000 : Int32) = nI 1000000 by decide) ?_
        refine mi_ge (tgt := 80) hx hb dSA_sampleSmall_27 (by decide) (by omega) (by omega) (fun h22 => ?_) (fun h22 => absurd h22 (by omega))
        exact mp_vret hx hb hr hlk hP hD hS pl ⟨trivial, hO⟩ [] rfl rfl rfl (by omega) (by omega) dSA_sampleSmall_80
    | succ n21 ih21 =>
      intro i21 fl21 pl ls H locs hm21 hi21 hl hO hP hD hS
      refine lv_iload hx hb dSA_sampleSmall_15 (lv_at hl 1 rfl) ?_
      refine lv_sipush (v := nI 256) hx hb dSA_sampleSmall_17 (by decide) ?_
      refine mi_ge (tgt := 80) hx hb dSA_sampleSmall_20 (by decide) (by omega) (by omega) (fun h23 => ?_) (fun h23 => ?_)
      · exact mp_vret hx hb hr hlk hP hD hS pl ⟨trivial, hO⟩ [] rfl rfl rfl (by omega) (by omega) dSA_sampleSmall_80
      · refine lv_iload hx hb dSA_sampleSmall_23 (lv_at hl 0 rfl) ?_
        refine lv_ldc (v := 1000000) hx hb hown (hts _ (wg_t kw_691)) dSA_sampleSmall_25 ?_
        refine mi_as (show (1000000 : Int32) = nI 1000000 by decide) ?_
        refine mi_ge (tgt := 80) hx hb dSA_sampleSmall_27 (by decide) (by omega) (by omega) (fun h24 => absurd h24 (by omega)) (fun h24 => ?_)
        refine lv_aload_n hx hb dSA_sampleSmall_30 rfl (lv_at hl 2 rfl) ?_
        refine ty_get (ci := 7) (C := "LatticeKeys$DsaSampler") (TT := T_SA) (N := 2) (kd := (14, 0)) hx hb hts (wg_ft i_SA) hown hK hO k_h0 (nxg hc0 k_h0 rfl) hP (fun _ h9 => h9) rfl 0 (by decide) (hts _ (wg_t kw_157)) (fun _ h9 => h9) (cd := (3, 10, 3)) rfl dSA_sampleSmall_31 (fun v21 hv21 => ?_)
        obtain ⟨r21, rfl, kr21⟩ := (show ∃ r : Nat, v21 = .ref r ∧ T r = some (10, 3) from hv21)
        obtain ⟨e21, pl, hP, hD, hk21, hO⟩ := open1 hP hD hO kr21 (nxg hc4 kr21 rfl)
        obtain ⟨ln21, rt21, ps21, x21, rfl, kl21, hr21, hr22, hr23⟩ := hk21
        have kl21 : T ln21 = some (19, 3) := kl21
        obtain ⟨e22, pl, hP, hD, hk22, hO⟩ := open1 hP hD hO kl21 (nmc (knd_ne kl21 kr21 (by decide)) (nxg hc4 kl21 rfl))
        obtain ⟨f21, rfl⟩ := hk22
        have hP : va_P g.1 vcl ([(r21, .inr (3, [.ref ln21, .int (nI rt21), .int x21, .int (nI ps21)])), (ln21, .inl (g.2.1 2, 25, .inr (.inl f21)))] ++ pl) _ := hP
        have hD : va_D _ ([(r21, .inr (3, [.ref ln21, .int (nI rt21), .int x21, .int (nI ps21)])), (ln21, .inl (g.2.1 2, 25, .inr (.inl f21)))] ++ pl) := hD
        refine mp_i (cx := [(r21, .inr (3, [.ref ln21, .int (nI rt21), .int x21, .int (nI ps21)])), (ln21, .inl (g.2.1 2, 25, .inr (.inl f21)))]) (wr := []) hP hD hS hA [0, 1] [] rfl rfl rfl (by decide) (va_runV (As := []) (rest := []) F (t_SP_nextByte l g _ T (ln21 :: (r21 :: xs)) pl hO hU  r21 ln21 rt21 ps21 x21 f21 (by omega) (by omega)) (cwV 0 hts (wg_app (wg_c kw_692 (wg_c kw_619 (wg_c kw_620 (wg_c kw_2 wg_n)))) kw_621) rfl rfl rfl (by decide +kernel) ⟨by decide, by decide⟩) (pp_V (en_ok g) (q0 := 0) hK hP hD hS hA hE [0, 1] rfl rfl rfl rfl) rfl rfl hl.1 rfl (lv_room (Nat.le_of_ble_eq_true rfl)) dSA_sampleSmall_34 ⟨by omega, by omega⟩) (fun r22 u21 H locs hu22 hP hD hS => ?_)
        obtain ⟨u22, pl⟩ := u21
        obtain ⟨hq22, hO⟩ := hu22
        obtain ⟨k21, f22⟩ := u22
        have hP : va_P g.1 vcl ([(r21, .inr (3, [.ref ln21, .int (nI rt21), .int x21, .int (nI k21)])), (ln21, .inl (g.2.1 2, 25, .inr (.inl f22)))] ++ pl) _ := hP
        have hD : va_D _ ([(r21, .inr (3, [.ref ln21, .int (nI rt21), .int x21, .int (nI k21)])), (ln21, .inl (g.2.1 2, 25, .inr (.inl f22)))] ++ pl) := hD
        obtain ⟨hq22, z21, hz21, rfl⟩ := (show k21 ≤ rt21 ∧ ∃ z : Nat, z < 256 ∧ r22 = nI z from hq22)
        refine W.widen (k := 0) (n := 0) (by omega) (by omega) ?_
        refine lv_istore (lv' := [(8, .int (nI z21)), (7, .int (nI i21)), (6, .int (nI fl21)), (0, .ref h0), (1, .ref st), (2, .ref f)]) hx hb dSA_sampleSmall_37 hl (by decide) rfl (fun ls hl => ?_)
        refine lv_aload_n hx hb dSA_sampleSmall_39 rfl (lv_at hl 3 rfl) ?_
        refine lv_aload_n hx hb dSA_sampleSmall_40 rfl (lv_at hl 4 rfl) ?_
        refine ty_get (ci := 2) (C := "LatticeKeys$DsaSet") (TT := T_DS) (N := 17) (kd := (44, 0)) hx hb hts (wg_ft i_DS) hown hK hO k_st (nxg (clo_cons (clo_cons hc0 kr21 (by decide)) kl21 (by decide)) k_st rfl) hP (fun _ h9 => h9) rfl 2 (by decide) (hts _ (wg_t kw_308)) (fun _ h9 => h9) (cd := (1, 0, 4)) rfl dSA_sampleSmall_41 (fun v22 hv22 => ?_)
        obtain rfl := (show v22 = .int (nI 4) from hv22)
        refine lv_aload_n hx hb dSA_sampleSmall_44 rfl (lv_at hl 5 rfl) ?_
        refine lv_iload hx hb dSA_sampleSmall_45 (lv_at hl 2 rfl) ?_
        refine lv_iload hx hb dSA_sampleSmall_47 (lv_at hl 0 rfl) ?_
        refine lv_bipush (v := nI 15) hx hb dSA_sampleSmall_49 (by decide) ?_
        refine mi_iand hx hb 4 dSA_sampleSmall_51 (by decide) (fun z22 hz22 => ?_)
        have hz22 : z22 < 16 := hz22
        refine mp_i (cx := []) (wr := [(r21, .inr (3, [.ref ln21, .int (nI rt21), .int x21, .int (nI k21)])), (ln21, .inl (g.2.1 2, 25, .inr (.inl f22)))]) hP hD hS hA [] [0, 1] rfl rfl rfl (by decide) (va_runV (As := [.int (nI 4), .ref f, .int (nI fl21), .int (nI z22)]) (rest := []) F (t_SA_putSmall_4 l g _ T (ln21 :: (r21 :: xs)) pl hO hU (clo_cons (clo_cons hc0 kr21 (by decide)) kl21 (by decide)) h0 f fl21 (nI z22) k_h0 k_f (by omega)) (cwV 4 hts (wg_app (wg_c kw_693 (wg_c kw_695 (wg_c ks_13 (wg_c kw_6 wg_n)))) kw_696) rfl rfl rfl (by decide +kernel) ⟨by decide, by decide⟩) (pp_VT (en_ok g) (ci := 7) (kd := (14, 0)) hK hO k_h0 (nxg (clo_cons (clo_cons hc0 kr21 (by decide)) kl21 (by decide)) k_h0 rfl) (fun _ h9 => ko1 h9) hP hD hS hA hE [] rfl rfl rfl) rfl rfl hl.1 rfl (lv_room (Nat.le_of_ble_eq_true rfl)) dSA_sampleSmall_52 ⟨by omega, by omega⟩) (fun r23 pl H locs hu23 hP hD hS => ?_)
        obtain ⟨hq23, hO⟩ := hu23
        have hP : va_P g.1 vcl ([(r21, .inr (3, [.ref ln21, .int (nI rt21), .int x21, .int (nI k21)])), (ln21, .inl (g.2.1 2, 25, .inr (.inl f22)))] ++ pl) _ := hP
        have hD : va_D _ ([(r21, .inr (3, [.ref ln21, .int (nI rt21), .int x21, .int (nI k21)])), (ln21, .inl (g.2.1 2, 25, .inr (.inl f22)))] ++ pl) := hD
        obtain ⟨z23, hz23, rfl⟩ := hq23
        refine W.widen (k := 0) (n := 0) (by omega) (by omega) ?_
        refine lv_istore (lv' := [(6, .int (nI z23)), (8, .int (nI z21)), (7, .int (nI i21)), (0, .ref h0), (1, .ref st), (2, .ref f)]) hx hb dSA_sampleSmall_55 hl (by decide) rfl (fun ls hl => ?_)
        refine lv_aload_n hx hb dSA_sampleSmall_57 rfl (lv_at hl 3 rfl) ?_
        refine lv_aload_n hx hb dSA_sampleSmall_58 rfl (lv_at hl 4 rfl) ?_
        refine ty_get (ci := 2) (C := "LatticeKeys$DsaSet") (TT := T_DS) (N := 17) (kd := (44, 0)) hx hb hts (wg_ft i_DS) hown hK hO k_st (nxg (clo_cons (clo_cons hc0 kr21 (by decide)) kl21 (by decide)) k_st rfl) hP (fun _ h9 => h9) rfl 2 (by decide) (hts _ (wg_t kw_308)) (fun _ h9 => h9) (cd := (1, 0, 4)) rfl dSA_sampleSmall_59 (fun v23 hv23 => ?_)
        obtain rfl := (show v23 = .int (nI 4) from hv23)
        refine lv_aload_n hx hb dSA_sampleSmall_62 rfl (lv_at hl 5 rfl) ?_
        refine lv_iload hx hb dSA_sampleSmall_63 (lv_at hl 0 rfl) ?_
        refine lv_iload hx hb dSA_sampleSmall_65 (lv_at hl 1 rfl) ?_
        refine lv_iconst (v := nI 4) hx hb dSA_sampleSmall_67 (by decide) ?_
        refine mi_ishr hx hb dSA_sampleSmall_68 (by omega) (by decide) ?_
        refine mi_as (show nI (z21 / 2 ^ 4) = nI (z21 / 16) from rfl) ?_
        refine mp_i (cx := []) (wr := [(r21, .inr (3, [.ref ln21, .int (nI rt21), .int x21, .int (nI k21)])), (ln21, .inl (g.2.1 2, 25, .inr (.inl f22)))]) hP hD hS hA [] [0, 1] rfl rfl rfl (by decide) (va_runV (As := [.int (nI 4), .ref f, .int (nI z23), .int (nI (z21 / 16))]) (rest := []) F (t_SA_putSmall_4 l g _ T (ln21 :: (r21 :: xs)) pl hO hU (clo_cons (clo_cons hc0 kr21 (by decide)) kl21 (by decide)) h0 f z23 (nI (z21 / 16)) k_h0 k_f (by omega)) (cwV 4 hts (wg_app (wg_c kw_693 (wg_c kw_695 (wg_c ks_13 (wg_c kw_6 wg_n)))) kw_696) rfl rfl rfl (by decide +kernel) ⟨by decide, by decide⟩) (pp_VT (en_ok g) (ci := 7) (kd := (14, 0)) hK hO k_h0 (nxg (clo_cons (clo_cons hc0 kr21 (by decide)) kl21 (by decide)) k_h0 rfl) (fun _ h9 => ko1 h9) hP hD hS hA hE [] rfl rfl rfl) rfl rfl hl.1 rfl (lv_room (Nat.le_of_ble_eq_true rfl)) dSA_sampleSmall_69 ⟨by omega, by omega⟩) (fun r24 pl H locs hu24 hP hD hS => ?_)
        obtain ⟨hq24, hO⟩ := hu24
        have hP : va_P g.1 vcl ([(r21, .inr (3, [.ref ln21, .int (nI rt21), .int x21, .int (nI k21)])), (ln21, .inl (g.2.1 2, 25, .inr (.inl f22)))] ++ pl) _ := hP
        have hD : va_D _ ([(r21, .inr (3, [.ref ln21, .int (nI rt21), .int x21, .int (nI k21)])), (ln21, .inl (g.2.1 2, 25, .inr (.inl f22)))] ++ pl) := hD
        obtain ⟨z24, hz24, rfl⟩ := hq24
        refine W.widen (k := 0) (n := 0) (by omega) (by omega) ?_
        refine lv_istore (lv' := [(6, .int (nI z24)), (8, .int (nI z21)), (7, .int (nI i21)), (0, .ref h0), (1, .ref st), (2, .ref f)]) hx hb dSA_sampleSmall_72 hl (by decide) rfl (fun ls hl => ?_)
        refine mi_iinc (k := 2) (x := i21) (d := 1) (y := i21 + 1) (lv' := [(7, .int (nI (i21 + 1))), (6, .int (nI z24)), (8, .int (nI z21)), (0, .ref h0), (1, .ref st), (2, .ref f)]) hx hb dSA_sampleSmall_74 hl rfl (by decide) rfl (by decide) rfl (fun ls hl => ?_)
        refine lv_goto (tgt := 15) hx hb dSA_sampleSmall_77 (by decide) ?_
        have hO := close1 (e := .inl (g.2.1 2, 25, .inr (.inl f22))) hO kl21 ⟨_, rfl⟩
        have hO := close1 (e := .inr (3, [.ref ln21, .int (nI rt21), .int x21, .int (nI k21)])) hO kr21 ⟨_, _, _, _, rfl, kl21, by omega, by omega, by omega⟩
        have hO : okx g T xs ((r21, .inr (3, [.ref ln21, .int (nI rt21), .int x21, .int (nI k21)])) :: (ln21, .inl (g.2.1 2, 25, .inr (.inl f22))) :: pl) := hO
        have hP : va_P g.1 vcl ([] ++ ((r21, .inr (3, [.ref ln21, .int (nI rt21), .int x21, .int (nI k21)])) :: (ln21, .inl (g.2.1 2, 25, .inr (.inl f22))) :: pl)) _ := hP
        have hD : va_D _ ([] ++ ((r21, .inr (3, [.ref ln21, .int (nI rt21), .int x21, .int (nI k21)])) :: (ln21, .inl (g.2.1 2, 25, .inr (.inl f22))) :: pl)) := hD
        generalize ((r21, .inr (3, [.ref ln21, .int (nI rt21), .int x21, .int (nI k21)])) :: (ln21, .inl (g.2.1 2, 25, .inr (.inl f22))) :: pl) = pl at hO hP hD
        exact ih21 (i21 + 1) z24 pl ls H locs (by omega) (by omega) (lv_sub hl [0, 1, 3, 4, 5] rfl) hO hP hD hS
  exact lp21 1000000 0 0 pl ls _ _ (by omega) (by omega) (lv_sub hl [0, 1, 2, 3, 4] rfl) hO hP hD hS
set_option maxHeartbeats 400000 in
set_option maxRecDepth 100000 in
theorem t_SA_sampleSmall_2 (l : Launch) (g : Gd) (sz : Nat) (T : Ty) (xs : List Nat) (pl : va_W) (hO : okx g T xs pl) (hU : uni T) (hc0 : clo T xs 0) (hc4 : clo T xs 4) (h0 st f b n at_ : Nat) (wh : Int32) (k_h0 : T h0 = some (14, 0)) (k_st : T st = some (45, 0)) (k_f : T f = some (0, 256)) (k_b : T b = some (1, n)) (h1 : at_ + 64 ≤ n) (h2 : n < 65536)  : Met l y_SA_sampleSmall w_SA_sampleSmall ({ frames := 4, cells := 0, slots := 0, locals := 123 } : Room) (va_Pc [.ref h0, .ref st, .ref f, .ref b, .int (nI at_), .int wh] (pr (en g) g.1 vcl sz ([] ++ pl))) (va_Qv (fun (u : va_W) => (True) ∧ okx g T xs u) (po g.1 vcl (va_A ([] ++ pl) sz) (fun (u : va_W) => [] ++ u)) (va_A ([] ++ pl) sz)) 0 0 (va_A ([] ++ pl) sz) := by
  refine mc_entry (cc := c_SA_sampleSmall) (maxL := 9) (ret := none) (by decide) rfl (Nat.le_of_ble_eq_true rfl) ?_
  intro p e s m args below meth c ls F hr hlk hnm hsz hP hD hE hA hl
  obtain ⟨hx, hb, hml, hown, hts⟩ := id F
  have hK := hE.1
  generalize va_A ([] ++ pl) sz = A at hD hE hA ⊢
  have hS : va_S A s.heap s.heap [] := va_S.rf
  have hl : lv_has ls 9 [(0, .ref h0), (1, .ref st), (2, .ref f), (3, .ref b), (4, .int (nI at_)), (5, .int wh)] := hl
  refine lv_aload_n hx hb dSA_sampleSmall_0 rfl (lv_at hl 0 rfl) ?_
  refine lv_aload_n hx hb dSA_sampleSmall_1 rfl (lv_at hl 3 rfl) ?_
  refine lv_iload hx hb dSA_sampleSmall_2 (lv_at hl 4 rfl) ?_
  refine lv_iload hx hb dSA_sampleSmall_4 (lv_at hl 5 rfl) ?_
  refine mp_v (cx := []) (wr := []) hP hD hS hA [] [] rfl rfl rfl (by decide) (va_runV (As := [.ref b, .int (nI at_), .int wh]) (rest := []) F (t_SA_startNumbered l g _ T xs pl hO hU hc0 hc4 h0 b n at_ wh k_h0 k_b (by omega) (by omega)) (cwV 3 hts (wg_app (wg_c kw_683 (wg_c kw_685 (wg_c ks_12 (wg_c kw_6 wg_n)))) kw_686) rfl rfl rfl (by decide +kernel) ⟨by decide, by decide⟩) (pp_VT (en_ok g) (ci := 7) (kd := (14, 0)) hK hO k_h0 (nxg hc0 k_h0 rfl) (fun _ h9 => ko1 h9) hP hD hS hA hE [] rfl rfl rfl) rfl rfl hl.1 rfl (lv_room (Nat.le_of_ble_eq_true rfl)) dSA_sampleSmall_6 ⟨by omega, by omega⟩) (fun  pl H locs hu21 hP hD hS => ?_)
  obtain ⟨hq21, hO⟩ := hu21
  have hP : va_P g.1 vcl ([] ++ pl) _ := hP
  have hD : va_D _ ([] ++ pl) := hD
  refine W.widen (k := 0) (n := 0) (by omega) (by omega) ?_
  refine lv_iconst (v := nI 0) hx hb dSA_sampleSmall_9 (by decide) ?_
  refine lv_istore (lv' := [(6, .int (nI 0)), (0, .ref h0), (1, .ref st), (2, .ref f), (3, .ref b), (4, .int (nI at_)), (5, .int wh)]) hx hb dSA_sampleSmall_10 hl (by decide) rfl (fun ls hl => ?_)
  refine lv_iconst (v := nI 0) hx hb dSA_sampleSmall_12 (by decide) ?_
  refine lv_istore (lv' := [(7, .int (nI 0)), (6, .int (nI 0)), (0, .ref h0), (1, .ref st), (2, .ref f), (3, .ref b), (4, .int (nI at_)), (5, .int wh)]) hx hb dSA_sampleSmall_13 hl (by decide) rfl (fun ls hl => ?_)
  have lp21 : ∀ (n21 : Nat) (i21 : Nat) (fl21 : Nat) (pl : va_W) (ls : Array Slot) (H : Heap) (locs : List Loc), n21 + i21 = 1000000 → (fl21 ≤ 256) → lv_has ls 9 [(7, .int (nI i21)), (6, .int (nI fl21)), (0, .ref h0), (1, .ref st), (2, .ref f)] → okx g T xs pl → va_P g.1 vcl ([] ++ pl) H → va_D A ([] ++ pl) → va_S A s.heap H locs → W p l e ({ frames := 4, cells := 0, slots := 0, locals := 123 } : Room) s m args below meth c H locs 0 0 (MQ below (va_Qv (fun (u : va_W) => (True) ∧ okx g T xs u) (po g.1 vcl A (fun (u : va_W) => [] ++ u)) A) args s 0 0 A) (F0 m 15 ls []) := by
    intro n21
    induction n21 with
    | zero =>
      intro i21 fl21 pl ls H locs hm21 hi21 hl hO hP hD hS
      refine lv_iload hx hb dSA_sampleSmall_15 (lv_at hl 1 rfl) ?_
      refine lv_sipush (v := nI 256) hx hb dSA_sampleSmall_17 (by decide) ?_
      refine mi_ge (tgt := 80) hx hb dSA_sampleSmall_20 (by decide) (by omega) (by omega) (fun h21 => ?_) (fun h21 => ?_)
      · exact mp_vret hx hb hr hlk hP hD hS pl ⟨trivial, hO⟩ [] rfl rfl rfl (by omega) (by omega) dSA_sampleSmall_80
      · refine lv_iload hx hb dSA_sampleSmall_23 (lv_at hl 0 rfl) ?_
        refine lv_ldc (v := 1000000) hx hb hown (hts _ (wg_t kw_691)) dSA_sampleSmall_25 ?_
        refine mi_as (show (1000000 : Int32) = nI 1000000 by decide) ?_
        refine mi_ge (tgt := 80) hx hb dSA_sampleSmall_27 (by decide) (by omega) (by omega) (fun h22 => ?_) (fun h22 => absurd h22 (by omega))
        exact mp_vret hx hb hr hlk hP hD hS pl ⟨trivial, hO⟩ [] rfl rfl rfl (by omega) (by omega) dSA_sampleSmall_80
    | succ n21 ih21 =>
      intro i21 fl21 pl ls H locs hm21 hi21 hl hO hP hD hS
      refine lv_iload hx hb dSA_sampleSmall_15 (lv_at hl 1 rfl) ?_
      refine lv_sipush (v := nI 256) hx hb dSA_sampleSmall_17 (by decide) ?_
      refine mi_ge (tgt := 80) hx hb dSA_sampleSmall_20 (by decide) (by omega) (by omega) (fun h23 => ?_) (fun h23 => ?_)
      · exact mp_vret hx hb hr hlk hP hD hS pl ⟨trivial, hO⟩ [] rfl rfl rfl (by omega) (by omega) dSA_sampleSmall_80
      · refine lv_iload hx hb dSA_sampleSmall_23 (lv_at hl 0 rfl) ?_
        refine lv_ldc (v := 1000000) hx hb hown (hts _ (wg_t kw_691)) dSA_sampleSmall_25 ?_
        refine mi_as (show (1000000 : Int32) = nI 1000000 by decide) ?_
        refine mi_ge (tgt := 80) hx hb dSA_sampleSmall_27 (by decide) (by omega) (by omega) (fun h24 => absurd h24 (by omega)) (fun h24 => ?_)
        refine lv_aload_n hx hb dSA_sampleSmall_30 rfl (lv_at hl 2 rfl) ?_
        refine ty_get (ci := 7) (C := "LatticeKeys$DsaSampler") (TT := T_SA) (N := 2) (kd := (14, 0)) hx hb hts (wg_ft i_SA) hown hK hO k_h0 (nxg hc0 k_h0 rfl) hP (fun _ h9 => h9) rfl 0 (by decide) (hts _ (wg_t kw_157)) (fun _ h9 => h9) (cd := (3, 10, 3)) rfl dSA_sampleSmall_31 (fun v21 hv21 => ?_)
        obtain ⟨r21, rfl, kr21⟩ := (show ∃ r : Nat, v21 = .ref r ∧ T r = some (10, 3) from hv21)
        obtain ⟨e21, pl, hP, hD, hk21, hO⟩ := open1 hP hD hO kr21 (nxg hc4 kr21 rfl)
        obtain ⟨ln21, rt21, ps21, x21, rfl, kl21, hr21, hr22, hr23⟩ := hk21
        have kl21 : T ln21 = some (19, 3) := kl21
        obtain ⟨e22, pl, hP, hD, hk22, hO⟩ := open1 hP hD hO kl21 (nmc (knd_ne kl21 kr21 (by decide)) (nxg hc4 kl21 rfl))
        obtain ⟨f21, rfl⟩ := hk22
        have hP : va_P g.1 vcl ([(r21, .inr (3, [.ref ln21, .int (nI rt21), .int x21, .int (nI ps21)])), (ln21, .inl (g.2.1 2, 25, .inr (.inl f21)))] ++ pl) _ := hP
        have hD : va_D _ ([(r21, .inr (3, [.ref ln21, .int (nI rt21), .int x21, .int (nI ps21)])), (ln21, .inl (g.2.1 2, 25, .inr (.inl f21)))] ++ pl) := hD
        refine mp_i (cx := [(r21, .inr (3, [.ref ln21, .int (nI rt21), .int x21, .int (nI ps21)])), (ln21, .inl (g.2.1 2, 25, .inr (.inl f21)))]) (wr := []) hP hD hS hA [0, 1] [] rfl rfl rfl (by decide) (va_runV (As := []) (rest := []) F (t_SP_nextByte l g _ T (ln21 :: (r21 :: xs)) pl hO hU  r21 ln21 rt21 ps21 x21 f21 (by omega) (by omega)) (cwV 0 hts (wg_app (wg_c kw_692 (wg_c kw_619 (wg_c kw_620 (wg_c kw_2 wg_n)))) kw_621) rfl rfl rfl (by decide +kernel) ⟨by decide, by decide⟩) (pp_V (en_ok g) (q0 := 0) hK hP hD hS hA hE [0, 1] rfl rfl rfl rfl) rfl rfl hl.1 rfl (lv_room (Nat.le_of_ble_eq_true rfl)) dSA_sampleSmall_34 ⟨by omega, by omega⟩) (fun r22 u21 H locs hu22 hP hD hS => ?_)
        obtain ⟨u22, pl⟩ := u21
        obtain ⟨hq22, hO⟩ := hu22
        obtain ⟨k21, f22⟩ := u22
        have hP : va_P g.1 vcl ([(r21, .inr (3, [.ref ln21, .int (nI rt21), .int x21, .int (nI k21)])), (ln21, .inl (g.2.1 2, 25, .inr (.inl f22)))] ++ pl) _ := hP
        have hD : va_D _ ([(r21, .inr (3, [.ref ln21, .int (nI rt21), .int x21, .int (nI k21)])), (ln21, .inl (g.2.1 2, 25, .inr (.inl f22)))] ++ pl) := hD
        obtain ⟨hq22, z21, hz21, rfl⟩ := (show k21 ≤ rt21 ∧ ∃ z : Nat, z < 256 ∧ r22 = nI z from hq22)
        refine W.widen (k := 0) (n := 0) (by omega) (by omega) ?_
        refine lv_istore (lv' := [(8, .int (nI z21)), (7, .int (nI i21)), (6, .int (nI fl21)), (0, .ref h0), (1, .ref st), (2, .ref f)]) hx hb dSA_sampleSmall_37 hl (by decide) rfl (fun ls hl => ?_)
        refine lv_aload_n hx hb dSA_sampleSmall_39 rfl (lv_at hl 3 rfl) ?_
        refine lv_aload_n hx hb dSA_sampleSmall_40 rfl (lv_at hl 4 rfl) ?_
        refine ty_get (ci := 2) (C := "LatticeKeys$DsaSet") (TT := T_DS) (N := 17) (kd := (45, 0)) hx hb hts (wg_ft i_DS) hown hK hO k_st (nxg (clo_cons (clo_cons hc0 kr21 (by decide)) kl21 (by decide)) k_st rfl) hP (fun _ h9 => h9) rfl 2 (by decide) (hts _ (wg_t kw_308)) (fun _ h9 => h9) (cd := (1, 0, 2)) rfl dSA_sampleSmall_41 (fun v22 hv22 => ?_)
        obtain rfl := (show v22 = .int (nI 2) from hv22)
        refine lv_aload_n hx hb dSA_sampleSmall_44 rfl (lv_at hl 5 rfl) ?_
        refine lv_iload hx hb dSA_sampleSmall_45 (lv_at hl 2 rfl) ?_
        refine lv_iload hx hb dSA_sampleSmall_47 (lv_at hl 0 rfl) ?_
        refine lv_bipush (v := nI 15) hx hb dSA_sampleSmall_49 (by decide) ?_
        refine mi_iand hx hb 4 dSA_sampleSmall_51 (by decide) (fun z22 hz22 => ?_)
        have hz22 : z22 < 16 := hz22
        refine mp_i (cx := []) (wr := [(r21, .inr (3, [.ref ln21, .int (nI rt21), .int x21, .int (nI k21)])), (ln21, .inl (g.2.1 2, 25, .inr (.inl f22)))]) hP hD hS hA [] [0, 1] rfl rfl rfl (by decide) (va_runV (As := [.int (nI 2), .ref f, .int (nI fl21), .int (nI z22)]) (rest := []) F (t_SA_putSmall_2 l g _ T (ln21 :: (r21 :: xs)) pl hO hU (clo_cons (clo_cons hc0 kr21 (by decide)) kl21 (by decide)) h0 f fl21 (nI z22) k_h0 k_f (by omega)) (cwV 4 hts (wg_app (wg_c kw_693 (wg_c kw_695 (wg_c ks_13 (wg_c kw_6 wg_n)))) kw_696) rfl rfl rfl (by decide +kernel) ⟨by decide, by decide⟩) (pp_VT (en_ok g) (ci := 7) (kd := (14, 0)) hK hO k_h0 (nxg (clo_cons (clo_cons hc0 kr21 (by decide)) kl21 (by decide)) k_h0 rfl) (fun _ h9 => ko1 h9) hP hD hS hA hE [] rfl rfl rfl) rfl rfl hl.1 rfl (lv_room (Nat.le_of_ble_eq_true rfl)) dSA_sampleSmall_52 ⟨by omega, by omega⟩) (fun r23 pl H locs hu23 hP hD hS => ?_)
        obtain ⟨hq23, hO⟩ := hu23
        have hP : va_P g.1 vcl ([(r21, .inr (3, [.ref ln21, .int (nI rt21), .int x21, .int (nI k21)])), (ln21, .inl (g.2.1 2, 25, .inr (.inl f22)))] ++ pl) _ := hP
        have hD : va_D _ ([(r21, .inr (3, [.ref ln21, .int (nI rt21), .int x21, .int (nI k21)])), (ln21, .inl (g.2.1 2, 25, .inr (.inl f22)))] ++ pl) := hD
        obtain ⟨z23, hz23, rfl⟩ := hq23
        refine W.widen (k := 0) (n := 0) (by omega) (by omega) ?_
        refine lv_istore (lv' := [(6, .int (nI z23)), (8, .int (nI z21)), (7, .int (nI i21)), (0, .ref h0), (1, .ref st), (2, .ref f)]) hx hb dSA_sampleSmall_55 hl (by decide) rfl (fun ls hl => ?_)
        refine lv_aload_n hx hb dSA_sampleSmall_57 rfl (lv_at hl 3 rfl) ?_
        refine lv_aload_n hx hb dSA_sampleSmall_58 rfl (lv_at hl 4 rfl) ?_
        refine ty_get (ci := 2) (C := "LatticeKeys$DsaSet") (TT := T_DS) (N := 17) (kd := (45, 0)) hx hb hts (wg_ft i_DS) hown hK hO k_st (nxg (clo_cons (clo_cons hc0 kr21 (by decide)) kl21 (by decide)) k_st rfl) hP (fun _ h9 => h9) rfl 2 (by decide) (hts _ (wg_t kw_308)) (fun _ h9 => h9) (cd := (1, 0, 2)) rfl dSA_sampleSmall_59 (fun v23 hv23 => ?_)
        obtain rfl := (show v23 = .int (nI 2) from hv23)
        refine lv_aload_n hx hb dSA_sampleSmall_62 rfl (lv_at hl 5 rfl) ?_
        refine lv_iload hx hb dSA_sampleSmall_63 (lv_at hl 0 rfl) ?_
        refine lv_iload hx hb dSA_sampleSmall_65 (lv_at hl 1 rfl) ?_
        refine lv_iconst (v := nI 4) hx hb dSA_sampleSmall_67 (by decide) ?_
        refine mi_ishr hx hb dSA_sampleSmall_68 (by omega) (by decide) ?_
        refine mi_as (show nI (z21 / 2 ^ 4) = nI (z21 / 16) from rfl) ?_
        refine mp_i (cx := []) (wr := [(r21, .inr (3, [.ref ln21, .int (nI rt21), .int x21, .int (nI k21)])), (ln21, .inl (g.2.1 2, 25, .inr (.inl f22)))]) hP hD hS hA [] [0, 1] rfl rfl rfl (by decide) (va_runV (As := [.int (nI 2), .ref f, .int (nI z23), .int (nI (z21 / 16))]) (rest := []) F (t_SA_putSmall_2 l g _ T (ln21 :: (r21 :: xs)) pl hO hU (clo_cons (clo_cons hc0 kr21 (by decide)) kl21 (by decide)) h0 f z23 (nI (z21 / 16)) k_h0 k_f (by omega)) (cwV 4 hts (wg_app (wg_c kw_693 (wg_c kw_695 (wg_c ks_13 (wg_c kw_6 wg_n)))) kw_696) rfl rfl rfl (by decide +kernel) ⟨by decide, by decide⟩) (pp_VT (en_ok g) (ci := 7) (kd := (14, 0)) hK hO k_h0 (nxg (clo_cons (clo_cons hc0 kr21 (by decide)) kl21 (by decide)) k_h0 rfl) (fun _ h9 => ko1 h9) hP hD hS hA hE [] rfl rfl rfl) rfl rfl hl.1 rfl (lv_room (Nat.le_of_ble_eq_true rfl)) dSA_sampleSmall_69 ⟨by omega, by omega⟩) (fun r24 pl H locs hu24 hP hD hS => ?_)
        obtain ⟨hq24, hO⟩ := hu24
        have hP : va_P g.1 vcl ([(r21, .inr (3, [.ref ln21, .int (nI rt21), .int x21, .int (nI k21)])), (ln21, .inl (g.2.1 2, 25, .inr (.inl f22)))] ++ pl) _ := hP
        have hD : va_D _ ([(r21, .inr (3, [.ref ln21, .int (nI rt21), .int x21, .int (nI k21)])), (ln21, .inl (g.2.1 2, 25, .inr (.inl f22)))] ++ pl) := hD
        obtain ⟨z24, hz24, rfl⟩ := hq24
        refine W.widen (k := 0) (n := 0) (by omega) (by omega) ?_
        refine lv_istore (lv' := [(6, .int (nI z24)), (8, .int (nI z21)), (7, .int (nI i21)), (0, .ref h0), (1, .ref st), (2, .ref f)]) hx hb dSA_sampleSmall_72 hl (by decide) rfl (fun ls hl => ?_)
        refine mi_iinc (k := 2) (x := i21) (d := 1) (y := i21 + 1) (lv' := [(7, .int (nI (i21 + 1))), (6, .int (nI z24)), (8, .int (nI z21)), (0, .ref h0), (1, .ref st), (2, .ref f)]) hx hb dSA_sampleSmall_74 hl rfl (by decide) rfl (by decide) rfl (fun ls hl => ?_)
        refine lv_goto (tgt := 15) hx hb dSA_sampleSmall_77 (by decide) ?_
        have hO := close1 (e := .inl (g.2.1 2, 25, .inr (.inl f22))) hO kl21 ⟨_, rfl⟩
        have hO := close1 (e := .inr (3, [.ref ln21, .int (nI rt21), .int x21, .int (nI k21)])) hO kr21 ⟨_, _, _, _, rfl, kl21, by omega, by omega, by omega⟩
        have hO : okx g T xs ((r21, .inr (3, [.ref ln21, .int (nI rt21), .int x21, .int (nI k21)])) :: (ln21, .inl (g.2.1 2, 25, .inr (.inl f22))) :: pl) := hO
        have hP : va_P g.1 vcl ([] ++ ((r21, .inr (3, [.ref ln21, .int (nI rt21), .int x21, .int (nI k21)])) :: (ln21, .inl (g.2.1 2, 25, .inr (.inl f22))) :: pl)) _ := hP
        have hD : va_D _ ([] ++ ((r21, .inr (3, [.ref ln21, .int (nI rt21), .int x21, .int (nI k21)])) :: (ln21, .inl (g.2.1 2, 25, .inr (.inl f22))) :: pl)) := hD
        generalize ((r21, .inr (3, [.ref ln21, .int (nI rt21), .int x21, .int (nI k21)])) :: (ln21, .inl (g.2.1 2, 25, .inr (.inl f22))) :: pl) = pl at hO hP hD
        exact ih21 (i21 + 1) z24 pl ls H locs (by omega) (by omega) (lv_sub hl [0, 1, 3, 4, 5] rfl) hO hP hD hS
  exact lp21 1000000 0 0 pl ls _ _ (by omega) (by omega) (lv_sub hl [0, 1, 2, 3, 4] rfl) hO hP hD hS
set_option maxHeartbeats 400000 in
set_option maxRecDepth 100000 in
theorem t_SA_sampleMask_0 (l : Launch) (g : Gd) (sz : Nat) (T : Ty) (xs : List Nat) (pl : va_W) (hO : okx g T xs pl) (hU : uni T) (hc0 : clo T xs 0) (hc4 : clo T xs 4) (h0 st f b n : Nat) (wh : Int32) (k_h0 : T h0 = some (14, 0)) (k_st : T st = some (43, 0)) (k_f : T f = some (0, 256)) (k_b : T b = some (1, n)) (h1 : 64 ≤ n) (h2 : n < 65536)  : Met l y_SA_sampleMask w_SA_sampleMask ({ frames := 4, cells := 0, slots := 0, locals := 123 } : Room) (va_Pc [.ref h0, .ref st, .ref f, .ref b, .int wh] (pr (en g) g.1 vcl sz ([] ++ pl))) (va_Qv (fun (u : va_W) => (True) ∧ okx g T xs u) (po g.1 vcl (va_A ([] ++ pl) sz) (fun (u : va_W) => [] ++ u)) (va_A ([] ++ pl) sz)) 0 0 (va_A ([] ++ pl) sz) := by
  refine mc_entry (cc := c_SA_sampleMask) (maxL := 5) (ret := none) (by decide) rfl (Nat.le_of_ble_eq_true rfl) ?_
  intro p e s m args below meth c ls F hr hlk hnm hsz hP hD hE hA hl
  obtain ⟨hx, hb, hml, hown, hts⟩ := id F
  have hK := hE.1
  generalize va_A ([] ++ pl) sz = A at hD hE hA ⊢
  have hS : va_S A s.heap s.heap [] := va_S.rf
  have hl : lv_has ls 5 [(0, .ref h0), (1, .ref st), (2, .ref f), (3, .ref b), (4, .int wh)] := hl
  refine lv_aload_n hx hb dSA_sampleMask_0 rfl (lv_at hl 0 rfl) ?_
  refine lv_aload_n hx hb dSA_sampleMask_1 rfl (lv_at hl 3 rfl) ?_
  refine lv_iconst (v := nI 0) hx hb dSA_sampleMask_2 (by decide) ?_
  refine lv_iload hx hb dSA_sampleMask_3 (lv_at hl 4 rfl) ?_
  refine mp_v (cx := []) (wr := []) hP hD hS hA [] [] rfl rfl rfl (by decide) (va_runV (As := [.ref b, .int (nI 0), .int wh]) (rest := []) F (t_SA_startNumbered l g _ T xs pl hO hU hc0 hc4 h0 b n 0 wh k_h0 k_b (by omega) (by omega)) (cwV 3 hts (wg_app (wg_c kw_683 (wg_c kw_685 (wg_c ks_12 (wg_c kw_6 wg_n)))) kw_686) rfl rfl rfl (by decide +kernel) ⟨by decide, by decide⟩) (pp_VT (en_ok g) (ci := 7) (kd := (14, 0)) hK hO k_h0 (nxg hc0 k_h0 rfl) (fun _ h9 => ko1 h9) hP hD hS hA hE [] rfl rfl rfl) rfl rfl hl.1 rfl (lv_room (Nat.le_of_ble_eq_true rfl)) dSA_sampleMask_5 ⟨by omega, by omega⟩) (fun  pl H locs hu21 hP hD hS => ?_)
  obtain ⟨hq21, hO⟩ := hu21
  have hP : va_P g.1 vcl ([] ++ pl) _ := hP
  have hD : va_D _ ([] ++ pl) := hD
  refine W.widen (k := 0) (n := 0) (by omega) (by omega) ?_
  refine lv_aload_n hx hb dSA_sampleMask_8 rfl (lv_at hl 0 rfl) ?_
  refine ty_get (ci := 7) (C := "LatticeKeys$DsaSampler") (TT := T_SA) (N := 2) (kd := (14, 0)) hx hb hts (wg_ft i_SA) hown hK hO k_h0 (nxg hc0 k_h0 rfl) hP (fun _ h9 => h9) rfl 0 (by decide) (hts _ (wg_t kw_157)) (fun _ h9 => h9) (cd := (3, 10, 3)) rfl dSA_sampleMask_9 (fun v21 hv21 => ?_)
  obtain ⟨r21, rfl, kr21⟩ := (show ∃ r : Nat, v21 = .ref r ∧ T r = some (10, 3) from hv21)
  refine lv_aload_n hx hb dSA_sampleMask_12 rfl (lv_at hl 0 rfl) ?_
  refine ty_get (ci := 7) (C := "LatticeKeys$DsaSampler") (TT := T_SA) (N := 2) (kd := (14, 0)) hx hb hts (wg_ft i_SA) hown hK hO k_h0 (nxg hc0 k_h0 rfl) hP (fun _ h9 => h9) rfl 1 (by decide) (hts _ (wg_t kw_158)) (fun _ h9 => h9) (cd := (3, 1, 640)) rfl dSA_sampleMask_13 (fun v22 hv22 => ?_)
  obtain ⟨r22, rfl, kr22⟩ := (show ∃ r : Nat, v22 = .ref r ∧ T r = some (1, 640) from hv22)
  refine lv_iconst (v := nI 0) hx hb dSA_sampleMask_16 (by decide) ?_
  refine lv_bipush (v := nI 32) hx hb dSA_sampleMask_17 (by decide) ?_
  refine lv_aload_n hx hb dSA_sampleMask_19 rfl (lv_at hl 1 rfl) ?_
  refine ty_get (ci := 2) (C := "LatticeKeys$DsaSet") (TT := T_DS) (N := 17) (kd := (43, 0)) hx hb hts (wg_ft i_DS) hown hK hO k_st (nxg hc0 k_st rfl) hP (fun _ h9 => h9) rfl 6 (by decide) (hts _ (wg_t kw_317)) (fun _ h9 => h9) (cd := (1, 0, 18)) rfl dSA_sampleMask_20 (fun v23 hv23 => ?_)
  obtain rfl := (show v23 = .int (nI 18) from hv23)
  refine mi_imul hx hb dSA_sampleMask_23 ?_
  refine mi_as (show nI (32 * 18) = nI 576 from rfl) ?_
  obtain ⟨e21, pl, hP, hD, hk21, hO⟩ := open1 hP hD hO kr21 (nxg hc4 kr21 rfl)
  obtain ⟨ln21, rt21, ps21, x21, rfl, kl21, hr21, hr22, hr23⟩ := hk21
  have kl21 : T ln21 = some (19, 3) := kl21
  obtain ⟨e22, pl, hP, hD, hk22, hO⟩ := open1 hP hD hO kl21 (nmc (knd_ne kl21 kr21 (by decide)) (nxg hc4 kl21 rfl))
  obtain ⟨f21, rfl⟩ := hk22
  have hP : va_P g.1 vcl ([(r21, .inr (3, [.ref ln21, .int (nI rt21), .int x21, .int (nI ps21)])), (ln21, .inl (g.2.1 2, 25, .inr (.inl f21)))] ++ pl) _ := hP
  have hD : va_D _ ([(r21, .inr (3, [.ref ln21, .int (nI rt21), .int x21, .int (nI ps21)])), (ln21, .inl (g.2.1 2, 25, .inr (.inl f21)))] ++ pl) := hD
  refine mp_v (cx := [(r21, .inr (3, [.ref ln21, .int (nI rt21), .int x21, .int (nI ps21)])), (ln21, .inl (g.2.1 2, 25, .inr (.inl f21)))]) (wr := []) hP hD hS hA [0, 1] [] rfl rfl rfl (by decide) (va_runV (As := [.ref r22, .int (nI 0), .int (nI 576)]) (rest := []) F (t_SP_squeeze l g _ T (ln21 :: (r21 :: xs)) pl hO hU (clo_cons (clo_cons hc0 kr21 (by decide)) kl21 (by decide)) r22 640 0 576 r21 ln21 rt21 ps21 x21 f21 kr22 (by omega) (by omega) (by omega) (by omega)) (cwV 3 hts (wg_app (wg_c kw_1200 (wg_c kw_615 (wg_c kw_616 (wg_c kw_2 wg_n)))) kw_617) rfl rfl rfl (by decide +kernel) ⟨by decide, by decide⟩) (pp_V (en_ok g) (q0 := 0) hK hP hD hS hA hE [0, 1] rfl rfl rfl rfl) rfl rfl hl.1 rfl (lv_room (Nat.le_of_ble_eq_true rfl)) dSA_sampleMask_24 ⟨by omega, by omega⟩) (fun  u21 H locs hu22 hP hD hS => ?_)
  obtain ⟨u22, pl⟩ := u21
  obtain ⟨hq22, hO⟩ := hu22
  obtain ⟨k21, f22⟩ := u22
  have hP : va_P g.1 vcl ([(r21, .inr (3, [.ref ln21, .int (nI rt21), .int x21, .int (nI k21)])), (ln21, .inl (g.2.1 2, 25, .inr (.inl f22)))] ++ pl) _ := hP
  have hD : va_D _ ([(r21, .inr (3, [.ref ln21, .int (nI rt21), .int x21, .int (nI k21)])), (ln21, .inl (g.2.1 2, 25, .inr (.inl f22)))] ++ pl) := hD
  have hq22 : k21 ≤ rt21 := hq22
  refine W.widen (k := 0) (n := 0) (by omega) (by omega) ?_
  refine lv_aload_n hx hb dSA_sampleMask_27 rfl (lv_at hl 2 rfl) ?_
  refine lv_aload_n hx hb dSA_sampleMask_28 rfl (lv_at hl 1 rfl) ?_
  refine ty_get (ci := 2) (C := "LatticeKeys$DsaSet") (TT := T_DS) (N := 17) (kd := (43, 0)) hx hb hts (wg_ft i_DS) hown hK hO k_st (nxg (clo_cons (clo_cons hc0 kr21 (by decide)) kl21 (by decide)) k_st rfl) hP (fun _ h9 => h9) rfl 6 (by decide) (hts _ (wg_t kw_317)) (fun _ h9 => h9) (cd := (1, 0, 18)) rfl dSA_sampleMask_29 (fun v24 hv24 => ?_)
  obtain rfl := (show v24 = .int (nI 18) from hv24)
  refine lv_aload_n hx hb dSA_sampleMask_32 rfl (lv_at hl 0 rfl) ?_
  refine ty_get (ci := 7) (C := "LatticeKeys$DsaSampler") (TT := T_SA) (N := 2) (kd := (14, 0)) hx hb hts (wg_ft i_SA) hown hK hO k_h0 (nxg (clo_cons (clo_cons hc0 kr21 (by decide)) kl21 (by decide)) k_h0 rfl) hP (fun _ h9 => h9) rfl 1 (by decide) (hts _ (wg_t kw_158)) (fun _ h9 => h9) (cd := (3, 1, 640)) rfl dSA_sampleMask_33 (fun v25 hv25 => ?_)
  obtain ⟨r23, rfl, kr23⟩ := (show ∃ r : Nat, v25 = .ref r ∧ T r = some (1, 640) from hv25)
  refine lv_iconst (v := nI 0) hx hb dSA_sampleMask_36 (by decide) ?_
  refine mp_v (cx := []) (wr := [(r21, .inr (3, [.ref ln21, .int (nI rt21), .int x21, .int (nI k21)])), (ln21, .inl (g.2.1 2, 25, .inr (.inl f22)))]) hP hD hS hA [] [0, 1] rfl rfl rfl (by decide) (va_runS (As := [.ref f, .int (nI 18), .ref r23, .int (nI 0)]) (rest := []) F (t_BT_unpack l g _ T (ln21 :: (r21 :: xs)) pl hO hU (clo_cons (clo_cons hc0 kr21 (by decide)) kl21 (by decide)) f r23 640 18 0 k_f kr23 (by omega) (by omega) (by omega)) (va_cwS 4 hts (wg_app (wg_c kw_1201 (wg_c kw_628 (wg_c kw_22 wg_n))) kw_629) rfl rfl rfl (by decide +kernel) ⟨by decide, by decide⟩) (pp_S (en_ok g) hP hD hS hA hE [] rfl rfl) rfl rfl hl.1 rfl (lv_room (Nat.le_of_ble_eq_true rfl)) dSA_sampleMask_37 ⟨by omega, by omega⟩) (fun  pl H locs hu23 hP hD hS => ?_)
  obtain ⟨hq23, hO⟩ := hu23
  have hP : va_P g.1 vcl ([(r21, .inr (3, [.ref ln21, .int (nI rt21), .int x21, .int (nI k21)])), (ln21, .inl (g.2.1 2, 25, .inr (.inl f22)))] ++ pl) _ := hP
  have hD : va_D _ ([(r21, .inr (3, [.ref ln21, .int (nI rt21), .int x21, .int (nI k21)])), (ln21, .inl (g.2.1 2, 25, .inr (.inl f22)))] ++ pl) := hD
  refine W.widen (k := 0) (n := 0) (by omega) (by omega) ?_
  have hO := close1 (e := .inl (g.2.1 2, 25, .inr (.inl f22))) hO kl21 ⟨_, rfl⟩
  have hO := close1 (e := .inr (3, [.ref ln21, .int (nI rt21), .int x21, .int (nI k21)])) hO kr21 ⟨_, _, _, _, rfl, kl21, by omega, by omega, by omega⟩
  have hO : okx g T xs ((r21, .inr (3, [.ref ln21, .int (nI rt21), .int x21, .int (nI k21)])) :: (ln21, .inl (g.2.1 2, 25, .inr (.inl f22))) :: pl) := hO
  have hP : va_P g.1 vcl ([] ++ ((r21, .inr (3, [.ref ln21, .int (nI rt21), .int x21, .int (nI k21)])) :: (ln21, .inl (g.2.1 2, 25, .inr (.inl f22))) :: pl)) _ := hP
  have hD : va_D _ ([] ++ ((r21, .inr (3, [.ref ln21, .int (nI rt21), .int x21, .int (nI k21)])) :: (ln21, .inl (g.2.1 2, 25, .inr (.inl f22))) :: pl)) := hD
  generalize ((r21, .inr (3, [.ref ln21, .int (nI rt21), .int x21, .int (nI k21)])) :: (ln21, .inl (g.2.1 2, 25, .inr (.inl f22))) :: pl) = pl at hO hP hD
  exact mp_vret hx hb hr hlk hP hD hS pl ⟨trivial, hO⟩ [] rfl rfl rfl (by omega) (by omega) dSA_sampleMask_40
set_option maxHeartbeats 400000 in
set_option maxRecDepth 100000 in
theorem t_SA_sampleMask_1 (l : Launch) (g : Gd) (sz : Nat) (T : Ty) (xs : List Nat) (pl : va_W) (hO : okx g T xs pl) (hU : uni T) (hc0 : clo T xs 0) (hc4 : clo T xs 4) (h0 st f b n : Nat) (wh : Int32) (k_h0 : T h0 = some (14, 0)) (k_st : T st = some (44, 0)) (k_f : T f = some (0, 256)) (k_b : T b = some (1, n)) (h1 : 64 ≤ n) (h2 : n < 65536)  : Met l y_SA_sampleMask w_SA_sampleMask ({ frames := 4, cells := 0, slots := 0, locals := 123 } : Room) (va_Pc [.ref h0, .ref st, .ref f, .ref b, .int wh] (pr (en g) g.1 vcl sz ([] ++ pl))) (va_Qv (fun (u : va_W) => (True) ∧ okx g T xs u) (po g.1 vcl (va_A ([] ++ pl) sz) (fun (u : va_W) => [] ++ u)) (va_A ([] ++ pl) sz)) 0 0 (va_A ([] ++ pl) sz) := by
  refine mc_entry (cc := c_SA_sampleMask) (maxL := 5) (ret := none) (by decide) rfl (Nat.le_of_ble_eq_true rfl) ?_
  intro p e s m args below meth c ls F hr hlk hnm hsz hP hD hE hA hl
  obtain ⟨hx, hb, hml, hown, hts⟩ := id F
  have hK := hE.1
  generalize va_A ([] ++ pl) sz = A at hD hE hA ⊢
  have hS : va_S A s.heap s.heap [] := va_S.rf
  have hl : lv_has ls 5 [(0, .ref h0), (1, .ref st), (2, .ref f), (3, .ref b), (4, .int wh)] := hl
  refine lv_aload_n hx hb dSA_sampleMask_0 rfl (lv_at hl 0 rfl) ?_
  refine lv_aload_n hx hb dSA_sampleMask_1 rfl (lv_at hl 3 rfl) ?_
  refine lv_iconst (v := nI 0) hx hb dSA_sampleMask_2 (by decide) ?_
  refine lv_iload hx hb dSA_sampleMask_3 (lv_at hl 4 rfl) ?_
  refine mp_v (cx := []) (wr := []) hP hD hS hA [] [] rfl rfl rfl (by decide) (va_runV (As := [.ref b, .int (nI 0), .int wh]) (rest := []) F (t_SA_startNumbered l g _ T xs pl hO hU hc0 hc4 h0 b n 0 wh k_h0 k_b (by omega) (by omega)) (cwV 3 hts (wg_app (wg_c kw_683 (wg_c kw_685 (wg_c ks_12 (wg_c kw_6 wg_n)))) kw_686) rfl rfl rfl (by decide +kernel) ⟨by decide, by decide⟩) (pp_VT (en_ok g) (ci := 7) (kd := (14, 0)) hK hO k_h0 (nxg hc0 k_h0 rfl) (fun _ h9 => ko1 h9) hP hD hS hA hE [] rfl rfl rfl) rfl rfl hl.1 rfl (lv_room (Nat.le_of_ble_eq_true rfl)) dSA_sampleMask_5 ⟨by omega, by omega⟩) (fun  pl H locs hu21 hP hD hS => ?_)
  obtain ⟨hq21, hO⟩ := hu21
  have hP : va_P g.1 vcl ([] ++ pl) _ := hP
  have hD : va_D _ ([] ++ pl) := hD
  refine W.widen (k := 0) (n := 0) (by omega) (by omega) ?_
  refine lv_aload_n hx hb dSA_sampleMask_8 rfl (lv_at hl 0 rfl) ?_
  refine ty_get (ci := 7) (C := "LatticeKeys$DsaSampler") (TT := T_SA) (N := 2) (kd := (14, 0)) hx hb hts (wg_ft i_SA) hown hK hO k_h0 (nxg hc0 k_h0 rfl) hP (fun _ h9 => h9) rfl 0 (by decide) (hts _ (wg_t kw_157)) (fun _ h9 => h9) (cd := (3, 10, 3)) rfl dSA_sampleMask_9 (fun v21 hv21 => ?_)
  obtain ⟨r21, rfl, kr21⟩ := (show ∃ r : Nat, v21 = .ref r ∧ T r = some (10, 3) from hv21)
  refine lv_aload_n hx hb dSA_sampleMask_12 rfl (lv_at hl 0 rfl) ?_
  refine ty_get (ci := 7) (C := "LatticeKeys$DsaSampler") (TT := T_SA) (N := 2) (kd := (14, 0)) hx hb hts (wg_ft i_SA) hown hK hO k_h0 (nxg hc0 k_h0 rfl) hP (fun _ h9 => h9) rfl 1 (by decide) (hts _ (wg_t kw_158)) (fun _ h9 => h9) (cd := (3, 1, 640)) rfl dSA_sampleMask_13 (fun v22 hv22 => ?_)
  obtain ⟨r22, rfl, kr22⟩ := (show ∃ r : Nat, v22 = .ref r ∧ T r = some (1, 640) from hv22)
  refine lv_iconst (v := nI 0) hx hb dSA_sampleMask_16 (by decide) ?_
  refine lv_bipush (v := nI 32) hx hb dSA_sampleMask_17 (by decide) ?_
  refine lv_aload_n hx hb dSA_sampleMask_19 rfl (lv_at hl 1 rfl) ?_
  refine ty_get (ci := 2) (C := "LatticeKeys$DsaSet") (TT := T_DS) (N := 17) (kd := (44, 0)) hx hb hts (wg_ft i_DS) hown hK hO k_st (nxg hc0 k_st rfl) hP (fun _ h9 => h9) rfl 6 (by decide) (hts _ (wg_t kw_317)) (fun _ h9 => h9) (cd := (1, 0, 20)) rfl dSA_sampleMask_20 (fun v23 hv23 => ?_)
  obtain rfl := (show v23 = .int (nI 20) from hv23)
  refine mi_imul hx hb dSA_sampleMask_23 ?_
  refine mi_as (show nI (32 * 20) = nI 640 from rfl) ?_
  obtain ⟨e21, pl, hP, hD, hk21, hO⟩ := open1 hP hD hO kr21 (nxg hc4 kr21 rfl)
  obtain ⟨ln21, rt21, ps21, x21, rfl, kl21, hr21, hr22, hr23⟩ := hk21
  have kl21 : T ln21 = some (19, 3) := kl21
  obtain ⟨e22, pl, hP, hD, hk22, hO⟩ := open1 hP hD hO kl21 (nmc (knd_ne kl21 kr21 (by decide)) (nxg hc4 kl21 rfl))
  obtain ⟨f21, rfl⟩ := hk22
  have hP : va_P g.1 vcl ([(r21, .inr (3, [.ref ln21, .int (nI rt21), .int x21, .int (nI ps21)])), (ln21, .inl (g.2.1 2, 25, .inr (.inl f21)))] ++ pl) _ := hP
  have hD : va_D _ ([(r21, .inr (3, [.ref ln21, .int (nI rt21), .int x21, .int (nI ps21)])), (ln21, .inl (g.2.1 2, 25, .inr (.inl f21)))] ++ pl) := hD
  refine mp_v (cx := [(r21, .inr (3, [.ref ln21, .int (nI rt21), .int x21, .int (nI ps21)])), (ln21, .inl (g.2.1 2, 25, .inr (.inl f21)))]) (wr := []) hP hD hS hA [0, 1] [] rfl rfl rfl (by decide) (va_runV (As := [.ref r22, .int (nI 0), .int (nI 640)]) (rest := []) F (t_SP_squeeze l g _ T (ln21 :: (r21 :: xs)) pl hO hU (clo_cons (clo_cons hc0 kr21 (by decide)) kl21 (by decide)) r22 640 0 640 r21 ln21 rt21 ps21 x21 f21 kr22 (by omega) (by omega) (by omega) (by omega)) (cwV 3 hts (wg_app (wg_c kw_1200 (wg_c kw_615 (wg_c kw_616 (wg_c kw_2 wg_n)))) kw_617) rfl rfl rfl (by decide +kernel) ⟨by decide, by decide⟩) (pp_V (en_ok g) (q0 := 0) hK hP hD hS hA hE [0, 1] rfl rfl rfl rfl) rfl rfl hl.1 rfl (lv_room (Nat.le_of_ble_eq_true rfl)) dSA_sampleMask_24 ⟨by omega, by omega⟩) (fun  u21 H locs hu22 hP hD hS => ?_)
  obtain ⟨u22, pl⟩ := u21
  obtain ⟨hq22, hO⟩ := hu22
  obtain ⟨k21, f22⟩ := u22
  have hP : va_P g.1 vcl ([(r21, .inr (3, [.ref ln21, .int (nI rt21), .int x21, .int (nI k21)])), (ln21, .inl (g.2.1 2, 25, .inr (.inl f22)))] ++ pl) _ := hP
  have hD : va_D _ ([(r21, .inr (3, [.ref ln21, .int (nI rt21), .int x21, .int (nI k21)])), (ln21, .inl (g.2.1 2, 25, .inr (.inl f22)))] ++ pl) := hD
  have hq22 : k21 ≤ rt21 := hq22
  refine W.widen (k := 0) (n := 0) (by omega) (by omega) ?_
  refine lv_aload_n hx hb dSA_sampleMask_27 rfl (lv_at hl 2 rfl) ?_
  refine lv_aload_n hx hb dSA_sampleMask_28 rfl (lv_at hl 1 rfl) ?_
  refine ty_get (ci := 2) (C := "LatticeKeys$DsaSet") (TT := T_DS) (N := 17) (kd := (44, 0)) hx hb hts (wg_ft i_DS) hown hK hO k_st (nxg (clo_cons (clo_cons hc0 kr21 (by decide)) kl21 (by decide)) k_st rfl) hP (fun _ h9 => h9) rfl 6 (by decide) (hts _ (wg_t kw_317)) (fun _ h9 => h9) (cd := (1, 0, 20)) rfl dSA_sampleMask_29 (fun v24 hv24 => ?_)
  obtain rfl := (show v24 = .int (nI 20) from hv24)
  refine lv_aload_n hx hb dSA_sampleMask_32 rfl (lv_at hl 0 rfl) ?_
  refine ty_get (ci := 7) (C := "LatticeKeys$DsaSampler") (TT := T_SA) (N := 2) (kd := (14, 0)) hx hb hts (wg_ft i_SA) hown hK hO k_h0 (nxg (clo_cons (clo_cons hc0 kr21 (by decide)) kl21 (by decide)) k_h0 rfl) hP (fun _ h9 => h9) rfl 1 (by decide) (hts _ (wg_t kw_158)) (fun _ h9 => h9) (cd := (3, 1, 640)) rfl dSA_sampleMask_33 (fun v25 hv25 => ?_)
  obtain ⟨r23, rfl, kr23⟩ := (show ∃ r : Nat, v25 = .ref r ∧ T r = some (1, 640) from hv25)
  refine lv_iconst (v := nI 0) hx hb dSA_sampleMask_36 (by decide) ?_
  refine mp_v (cx := []) (wr := [(r21, .inr (3, [.ref ln21, .int (nI rt21), .int x21, .int (nI k21)])), (ln21, .inl (g.2.1 2, 25, .inr (.inl f22)))]) hP hD hS hA [] [0, 1] rfl rfl rfl (by decide) (va_runS (As := [.ref f, .int (nI 20), .ref r23, .int (nI 0)]) (rest := []) F (t_BT_unpack l g _ T (ln21 :: (r21 :: xs)) pl hO hU (clo_cons (clo_cons hc0 kr21 (by decide)) kl21 (by decide)) f r23 640 20 0 k_f kr23 (by omega) (by omega) (by omega)) (va_cwS 4 hts (wg_app (wg_c kw_1201 (wg_c kw_628 (wg_c kw_22 wg_n))) kw_629) rfl rfl rfl (by decide +kernel) ⟨by decide, by decide⟩) (pp_S (en_ok g) hP hD hS hA hE [] rfl rfl) rfl rfl hl.1 rfl (lv_room (Nat.le_of_ble_eq_true rfl)) dSA_sampleMask_37 ⟨by omega, by omega⟩) (fun  pl H locs hu23 hP hD hS => ?_)
  obtain ⟨hq23, hO⟩ := hu23
  have hP : va_P g.1 vcl ([(r21, .inr (3, [.ref ln21, .int (nI rt21), .int x21, .int (nI k21)])), (ln21, .inl (g.2.1 2, 25, .inr (.inl f22)))] ++ pl) _ := hP
  have hD : va_D _ ([(r21, .inr (3, [.ref ln21, .int (nI rt21), .int x21, .int (nI k21)])), (ln21, .inl (g.2.1 2, 25, .inr (.inl f22)))] ++ pl) := hD
  refine W.widen (k := 0) (n := 0) (by omega) (by omega) ?_
  have hO := close1 (e := .inl (g.2.1 2, 25, .inr (.inl f22))) hO kl21 ⟨_, rfl⟩
  have hO := close1 (e := .inr (3, [.ref ln21, .int (nI rt21), .int x21, .int (nI k21)])) hO kr21 ⟨_, _, _, _, rfl, kl21, by omega, by omega, by omega⟩
  have hO : okx g T xs ((r21, .inr (3, [.ref ln21, .int (nI rt21), .int x21, .int (nI k21)])) :: (ln21, .inl (g.2.1 2, 25, .inr (.inl f22))) :: pl) := hO
  have hP : va_P g.1 vcl ([] ++ ((r21, .inr (3, [.ref ln21, .int (nI rt21), .int x21, .int (nI k21)])) :: (ln21, .inl (g.2.1 2, 25, .inr (.inl f22))) :: pl)) _ := hP
  have hD : va_D _ ([] ++ ((r21, .inr (3, [.ref ln21, .int (nI rt21), .int x21, .int (nI k21)])) :: (ln21, .inl (g.2.1 2, 25, .inr (.inl f22))) :: pl)) := hD
  generalize ((r21, .inr (3, [.ref ln21, .int (nI rt21), .int x21, .int (nI k21)])) :: (ln21, .inl (g.2.1 2, 25, .inr (.inl f22))) :: pl) = pl at hO hP hD
  exact mp_vret hx hb hr hlk hP hD hS pl ⟨trivial, hO⟩ [] rfl rfl rfl (by omega) (by omega) dSA_sampleMask_40
set_option maxHeartbeats 400000 in
set_option maxRecDepth 100000 in
theorem t_SA_sampleMask_2 (l : Launch) (g : Gd) (sz : Nat) (T : Ty) (xs : List Nat) (pl : va_W) (hO : okx g T xs pl) (hU : uni T) (hc0 : clo T xs 0) (hc4 : clo T xs 4) (h0 st f b n : Nat) (wh : Int32) (k_h0 : T h0 = some (14, 0)) (k_st : T st = some (45, 0)) (k_f : T f = some (0, 256)) (k_b : T b = some (1, n)) (h1 : 64 ≤ n) (h2 : n < 65536)  : Met l y_SA_sampleMask w_SA_sampleMask ({ frames := 4, cells := 0, slots := 0, locals := 123 } : Room) (va_Pc [.ref h0, .ref st, .ref f, .ref b, .int wh] (pr (en g) g.1 vcl sz ([] ++ pl))) (va_Qv (fun (u : va_W) => (True) ∧ okx g T xs u) (po g.1 vcl (va_A ([] ++ pl) sz) (fun (u : va_W) => [] ++ u)) (va_A ([] ++ pl) sz)) 0 0 (va_A ([] ++ pl) sz) := by
  refine mc_entry (cc := c_SA_sampleMask) (maxL := 5) (ret := none) (by decide) rfl (Nat.le_of_ble_eq_true rfl) ?_
  intro p e s m args below meth c ls F hr hlk hnm hsz hP hD hE hA hl
  obtain ⟨hx, hb, hml, hown, hts⟩ := id F
  have hK := hE.1
  generalize va_A ([] ++ pl) sz = A at hD hE hA ⊢
  have hS : va_S A s.heap s.heap [] := va_S.rf
  have hl : lv_has ls 5 [(0, .ref h0), (1, .ref st), (2, .ref f), (3, .ref b), (4, .int wh)] := hl
  refine lv_aload_n hx hb dSA_sampleMask_0 rfl (lv_at hl 0 rfl) ?_
  refine lv_aload_n hx hb dSA_sampleMask_1 rfl (lv_at hl 3 rfl) ?_
  refine lv_iconst (v := nI 0) hx hb dSA_sampleMask_2 (by decide) ?_
  refine lv_iload hx hb dSA_sampleMask_3 (lv_at hl 4 rfl) ?_
  refine mp_v (cx := []) (wr := []) hP hD hS hA [] [] rfl rfl rfl (by decide) (va_runV (As := [.ref b, .int (nI 0), .int wh]) (rest := []) F (t_SA_startNumbered l g _ T xs pl hO hU hc0 hc4 h0 b n 0 wh k_h0 k_b (by omega) (by omega)) (cwV 3 hts (wg_app (wg_c kw_683 (wg_c kw_685 (wg_c ks_12 (wg_c kw_6 wg_n)))) kw_686) rfl rfl rfl (by decide +kernel) ⟨by decide, by decide⟩) (pp_VT (en_ok g) (ci := 7) (kd := (14, 0)) hK hO k_h0 (nxg hc0 k_h0 rfl) (fun _ h9 => ko1 h9) hP hD hS hA hE [] rfl rfl rfl) rfl rfl hl.1 rfl (lv_room (Nat.le_of_ble_eq_true rfl)) dSA_sampleMask_5 ⟨by omega, by omega⟩) (fun  pl H locs hu21 hP hD hS => ?_)
  obtain ⟨hq21, hO⟩ := hu21
  have hP : va_P g.1 vcl ([] ++ pl) _ := hP
  have hD : va_D _ ([] ++ pl) := hD
  refine W.widen (k := 0) (n := 0) (by omega) (by omega) ?_
  refine lv_aload_n hx hb dSA_sampleMask_8 rfl (lv_at hl 0 rfl) ?_
  refine ty_get (ci := 7) (C := "LatticeKeys$DsaSampler") (TT := T_SA) (N := 2) (kd := (14, 0)) hx hb hts (wg_ft i_SA) hown hK hO k_h0 (nxg hc0 k_h0 rfl) hP (fun _ h9 => h9) rfl 0 (by decide) (hts _ (wg_t kw_157)) (fun _ h9 => h9) (cd := (3, 10, 3)) rfl dSA_sampleMask_9 (fun v21 hv21 => ?_)
  obtain ⟨r21, rfl, kr21⟩ := (show ∃ r : Nat, v21 = .ref r ∧ T r = some (10, 3) from hv21)
  refine lv_aload_n hx hb dSA_sampleMask_12 rfl (lv_at hl 0 rfl) ?_
  refine ty_get (ci := 7) (C := "LatticeKeys$DsaSampler") (TT := T_SA) (N := 2) (kd := (14, 0)) hx hb hts (wg_ft i_SA) hown hK hO k_h0 (nxg hc0 k_h0 rfl) hP (fun _ h9 => h9) rfl 1 (by decide) (hts _ (wg_t kw_158)) (fun _ h9 => h9) (cd := (3, 1, 640)) rfl dSA_sampleMask_13 (fun v22 hv22 => ?_)
  obtain ⟨r22, rfl, kr22⟩ := (show ∃ r : Nat, v22 = .ref r ∧ T r = some (1, 640) from hv22)
  refine lv_iconst (v := nI 0) hx hb dSA_sampleMask_16 (by decide) ?_
  refine lv_bipush (v := nI 32) hx hb dSA_sampleMask_17 (by decide) ?_
  refine lv_aload_n hx hb dSA_sampleMask_19 rfl (lv_at hl 1 rfl) ?_
  refine ty_get (ci := 2) (C := "LatticeKeys$DsaSet") (TT := T_DS) (N := 17) (kd := (45, 0)) hx hb hts (wg_ft i_DS) hown hK hO k_st (nxg hc0 k_st rfl) hP (fun _ h9 => h9) rfl 6 (by decide) (hts _ (wg_t kw_317)) (fun _ h9 => h9) (cd := (1, 0, 20)) rfl dSA_sampleMask_20 (fun v23 hv23 => ?_)
  obtain rfl := (show v23 = .int (nI 20) from hv23)
  refine mi_imul hx hb dSA_sampleMask_23 ?_
  refine mi_as (show nI (32 * 20) = nI 640 from rfl) ?_
  obtain ⟨e21, pl, hP, hD, hk21, hO⟩ := open1 hP hD hO kr21 (nxg hc4 kr21 rfl)
  obtain ⟨ln21, rt21, ps21, x21, rfl, kl21, hr21, hr22, hr23⟩ := hk21
  have kl21 : T ln21 = some (19, 3) := kl21
  obtain ⟨e22, pl, hP, hD, hk22, hO⟩ := open1 hP hD hO kl21 (nmc (knd_ne kl21 kr21 (by decide)) (nxg hc4 kl21 rfl))
  obtain ⟨f21, rfl⟩ := hk22
  have hP : va_P g.1 vcl ([(r21, .inr (3, [.ref ln21, .int (nI rt21), .int x21, .int (nI ps21)])), (ln21, .inl (g.2.1 2, 25, .inr (.inl f21)))] ++ pl) _ := hP
  have hD : va_D _ ([(r21, .inr (3, [.ref ln21, .int (nI rt21), .int x21, .int (nI ps21)])), (ln21, .inl (g.2.1 2, 25, .inr (.inl f21)))] ++ pl) := hD
  refine mp_v (cx := [(r21, .inr (3, [.ref ln21, .int (nI rt21), .int x21, .int (nI ps21)])), (ln21, .inl (g.2.1 2, 25, .inr (.inl f21)))]) (wr := []) hP hD hS hA [0, 1] [] rfl rfl rfl (by decide) (va_runV (As := [.ref r22, .int (nI 0), .int (nI 640)]) (rest := []) F (t_SP_squeeze l g _ T (ln21 :: (r21 :: xs)) pl hO hU (clo_cons (clo_cons hc0 kr21 (by decide)) kl21 (by decide)) r22 640 0 640 r21 ln21 rt21 ps21 x21 f21 kr22 (by omega) (by omega) (by omega) (by omega)) (cwV 3 hts (wg_app (wg_c kw_1200 (wg_c kw_615 (wg_c kw_616 (wg_c kw_2 wg_n)))) kw_617) rfl rfl rfl (by decide +kernel) ⟨by decide, by decide⟩) (pp_V (en_ok g) (q0 := 0) hK hP hD hS hA hE [0, 1] rfl rfl rfl rfl) rfl rfl hl.1 rfl (lv_room (Nat.le_of_ble_eq_true rfl)) dSA_sampleMask_24 ⟨by omega, by omega⟩) (fun  u21 H locs hu22 hP hD hS => ?_)
  obtain ⟨u22, pl⟩ := u21
  obtain ⟨hq22, hO⟩ := hu22
  obtain ⟨k21, f22⟩ := u22
  have hP : va_P g.1 vcl ([(r21, .inr (3, [.ref ln21, .int (nI rt21), .int x21, .int (nI k21)])), (ln21, .inl (g.2.1 2, 25, .inr (.inl f22)))] ++ pl) _ := hP
  have hD : va_D _ ([(r21, .inr (3, [.ref ln21, .int (nI rt21), .int x21, .int (nI k21)])), (ln21, .inl (g.2.1 2, 25, .inr (.inl f22)))] ++ pl) := hD
  have hq22 : k21 ≤ rt21 := hq22
  refine W.widen (k := 0) (n := 0) (by omega) (by omega) ?_
  refine lv_aload_n hx hb dSA_sampleMask_27 rfl (lv_at hl 2 rfl) ?_
  refine lv_aload_n hx hb dSA_sampleMask_28 rfl (lv_at hl 1 rfl) ?_
  refine ty_get (ci := 2) (C := "LatticeKeys$DsaSet") (TT := T_DS) (N := 17) (kd := (45, 0)) hx hb hts (wg_ft i_DS) hown hK hO k_st (nxg (clo_cons (clo_cons hc0 kr21 (by decide)) kl21 (by decide)) k_st rfl) hP (fun _ h9 => h9) rfl 6 (by decide) (hts _ (wg_t kw_317)) (fun _ h9 => h9) (cd := (1, 0, 20)) rfl dSA_sampleMask_29 (fun v24 hv24 => ?_)
  obtain rfl := (show v24 = .int (nI 20) from hv24)
  refine lv_aload_n hx hb dSA_sampleMask_32 rfl (lv_at hl 0 rfl) ?_
  refine ty_get (ci := 7) (C := "LatticeKeys$DsaSampler") (TT := T_SA) (N := 2) (kd := (14, 0)) hx hb hts (wg_ft i_SA) hown hK hO k_h0 (nxg (clo_cons (clo_cons hc0 kr21 (by decide)) kl21 (by decide)) k_h0 rfl) hP (fun _ h9 => h9) rfl 1 (by decide) (hts _ (wg_t kw_158)) (fun _ h9 => h9) (cd := (3, 1, 640)) rfl dSA_sampleMask_33 (fun v25 hv25 => ?_)
  obtain ⟨r23, rfl, kr23⟩ := (show ∃ r : Nat, v25 = .ref r ∧ T r = some (1, 640) from hv25)
  refine lv_iconst (v := nI 0) hx hb dSA_sampleMask_36 (by decide) ?_
  refine mp_v (cx := []) (wr := [(r21, .inr (3, [.ref ln21, .int (nI rt21), .int x21, .int (nI k21)])), (ln21, .inl (g.2.1 2, 25, .inr (.inl f22)))]) hP hD hS hA [] [0, 1] rfl rfl rfl (by decide) (va_runS (As := [.ref f, .int (nI 20), .ref r23, .int (nI 0)]) (rest := []) F (t_BT_unpack l g _ T (ln21 :: (r21 :: xs)) pl hO hU (clo_cons (clo_cons hc0 kr21 (by decide)) kl21 (by decide)) f r23 640 20 0 k_f kr23 (by omega) (by omega) (by omega)) (va_cwS 4 hts (wg_app (wg_c kw_1201 (wg_c kw_628 (wg_c kw_22 wg_n))) kw_629) rfl rfl rfl (by decide +kernel) ⟨by decide, by decide⟩) (pp_S (en_ok g) hP hD hS hA hE [] rfl rfl) rfl rfl hl.1 rfl (lv_room (Nat.le_of_ble_eq_true rfl)) dSA_sampleMask_37 ⟨by omega, by omega⟩) (fun  pl H locs hu23 hP hD hS => ?_)
  obtain ⟨hq23, hO⟩ := hu23
  have hP : va_P g.1 vcl ([(r21, .inr (3, [.ref ln21, .int (nI rt21), .int x21, .int (nI k21)])), (ln21, .inl (g.2.1 2, 25, .inr (.inl f22)))] ++ pl) _ := hP
  have hD : va_D _ ([(r21, .inr (3, [.ref ln21, .int (nI rt21), .int x21, .int (nI k21)])), (ln21, .inl (g.2.1 2, 25, .inr (.inl f22)))] ++ pl) := hD
  refine W.widen (k := 0) (n := 0) (by omega) (by omega) ?_
  have hO := close1 (e := .inl (g.2.1 2, 25, .inr (.inl f22))) hO kl21 ⟨_, rfl⟩
  have hO := close1 (e := .inr (3, [.ref ln21, .int (nI rt21), .int x21, .int (nI k21)])) hO kr21 ⟨_, _, _, _, rfl, kl21, by omega, by omega, by omega⟩
  have hO : okx g T xs ((r21, .inr (3, [.ref ln21, .int (nI rt21), .int x21, .int (nI k21)])) :: (ln21, .inl (g.2.1 2, 25, .inr (.inl f22))) :: pl) := hO
  have hP : va_P g.1 vcl ([] ++ ((r21, .inr (3, [.ref ln21, .int (nI rt21), .int x21, .int (nI k21)])) :: (ln21, .inl (g.2.1 2, 25, .inr (.inl f22))) :: pl)) _ := hP
  have hD : va_D _ ([] ++ ((r21, .inr (3, [.ref ln21, .int (nI rt21), .int x21, .int (nI k21)])) :: (ln21, .inl (g.2.1 2, 25, .inr (.inl f22))) :: pl)) := hD
  generalize ((r21, .inr (3, [.ref ln21, .int (nI rt21), .int x21, .int (nI k21)])) :: (ln21, .inl (g.2.1 2, 25, .inr (.inl f22))) :: pl) = pl at hO hP hD
  exact mp_vret hx hb hr hlk hP hD hS pl ⟨trivial, hO⟩ [] rfl rfl rfl (by omega) (by omega) dSA_sampleMask_40
set_option maxHeartbeats 400000 in
set_option maxRecDepth 100000 in
theorem t_SA_sampleBall_0 (l : Launch) (g : Gd) (sz : Nat) (T : Ty) (xs : List Nat) (pl : va_W) (hO : okx g T xs pl) (hU : uni T) (hc0 : clo T xs 0) (hc4 : clo T xs 4) (h0 st f b n : Nat) (k_h0 : T h0 = some (14, 0)) (k_st : T st = some (43, 0)) (k_f : T f = some (0, 256)) (k_b : T b = some (1, n)) (h1 : 32 ≤ n) (h2 : n < 65536)  : Met l y_SA_sampleBall w_SA_sampleBall ({ frames := 3, cells := 0, slots := 0, locals := 100 } : Room) (va_Pc [.ref h0, .ref st, .ref f, .ref b] (pr (en g) g.1 vcl sz ([] ++ pl))) (va_Qv (fun (u : va_W) => (True) ∧ okx g T xs u) (po g.1 vcl (va_A ([] ++ pl) sz) (fun (u : va_W) => [] ++ u)) (va_A ([] ++ pl) sz)) 0 0 (va_A ([] ++ pl) sz) := by
  refine mc_entry (cc := c_SA_sampleBall) (maxL := 9) (ret := none) (by decide) rfl (Nat.le_of_ble_eq_true rfl) ?_
  intro p e s m args below meth c ls F hr hlk hnm hsz hP hD hE hA hl
  obtain ⟨hx, hb, hml, hown, hts⟩ := id F
  have hK := hE.1
  generalize va_A ([] ++ pl) sz = A at hD hE hA ⊢
  have hS : va_S A s.heap s.heap [] := va_S.rf
  have hl : lv_has ls 9 [(0, .ref h0), (1, .ref st), (2, .ref f), (3, .ref b)] := hl
  refine lv_aload_n hx hb dSA_sampleBall_0 rfl (lv_at hl 0 rfl) ?_
  refine ty_get (ci := 7) (C := "LatticeKeys$DsaSampler") (TT := T_SA) (N := 2) (kd := (14, 0)) hx hb hts (wg_ft i_SA) hown hK hO k_h0 (nxg hc0 k_h0 rfl) hP (fun _ h9 => h9) rfl 0 (by decide) (hts _ (wg_t kw_157)) (fun _ h9 => h9) (cd := (3, 10, 3)) rfl dSA_sampleBall_1 (fun v21 hv21 => ?_)
  obtain ⟨r21, rfl, kr21⟩ := (show ∃ r : Nat, v21 = .ref r ∧ T r = some (10, 3) from hv21)
  refine lv_iconst (v := nI 3) hx hb dSA_sampleBall_4 (by decide) ?_
  obtain ⟨e21, pl, hP, hD, hk21, hO⟩ := open1 hP hD hO kr21 (nxg hc4 kr21 rfl)
  obtain ⟨ln21, rt21, ps21, x21, rfl, kl21, hr21, hr22, hr23⟩ := hk21
  have kl21 : T ln21 = some (19, 3) := kl21
  obtain ⟨e22, pl, hP, hD, hk22, hO⟩ := open1 hP hD hO kl21 (nmc (knd_ne kl21 kr21 (by decide)) (nxg hc4 kl21 rfl))
  obtain ⟨f21, rfl⟩ := hk22
  have hP : va_P g.1 vcl ([(r21, .inr (3, [.ref ln21, .int (nI rt21), .int x21, .int (nI ps21)])), (ln21, .inl (g.2.1 2, 25, .inr (.inl f21)))] ++ pl) _ := hP
  have hD : va_D _ ([(r21, .inr (3, [.ref ln21, .int (nI rt21), .int x21, .int (nI ps21)])), (ln21, .inl (g.2.1 2, 25, .inr (.inl f21)))] ++ pl) := hD
  refine mp_v (cx := [(r21, .inr (3, [.ref ln21, .int (nI rt21), .int x21, .int (nI ps21)])), (ln21, .inl (g.2.1 2, 25, .inr (.inl f21)))]) (wr := []) hP hD hS hA [0, 1] [] rfl rfl rfl (by decide) (va_runV (As := [.int (nI 3)]) (rest := []) F (t_SP_start_3 l g _ T (ln21 :: (r21 :: xs)) pl hO hU  r21 ln21 rt21 ps21 x21 f21) (cwV 1 hts (wg_app (wg_c kw_687 (wg_c kw_579 (wg_c kw_580 (wg_c kw_2 wg_n)))) kw_581) rfl rfl rfl (by decide +kernel) ⟨by decide, by decide⟩) (pp_V (en_ok g) (q0 := 0) hK hP hD hS hA hE [0, 1] rfl rfl rfl rfl) rfl rfl hl.1 rfl (lv_room (Nat.le_of_ble_eq_true rfl)) dSA_sampleBall_5 ⟨by omega, by omega⟩) (fun  u21 H locs hu21 hP hD hS => ?_)
  obtain ⟨u22, pl⟩ := u21
  obtain ⟨hq21, hO⟩ := hu21
  have hP : va_P g.1 vcl ([(r21, .inr (3, [.ref ln21, .int (nI 136), .int (nI 31), .int (nI 0)])), (ln21, .inl (g.2.1 2, 25, .inr (.inl u22)))] ++ pl) _ := hP
  have hD : va_D _ ([(r21, .inr (3, [.ref ln21, .int (nI 136), .int (nI 31), .int (nI 0)])), (ln21, .inl (g.2.1 2, 25, .inr (.inl u22)))] ++ pl) := hD
  refine W.widen (k := 0) (n := 0) (by omega) (by omega) ?_
  refine lv_aload_n hx hb dSA_sampleBall_8 rfl (lv_at hl 0 rfl) ?_
  refine ty_get (ci := 7) (C := "LatticeKeys$DsaSampler") (TT := T_SA) (N := 2) (kd := (14, 0)) hx hb hts (wg_ft i_SA) hown hK hO k_h0 (nxg (clo_cons (clo_cons hc0 kr21 (by decide)) kl21 (by decide)) k_h0 rfl) hP (fun _ h9 => h9) rfl 0 (by decide) (hts _ (wg_t kw_157)) (fun _ h9 => h9) (cd := (3, 10, 3)) rfl dSA_sampleBall_9 (fun v22 hv22 => ?_)
  obtain ⟨r22, rfl, kr22⟩ := (show ∃ r : Nat, v22 = .ref r ∧ T r = some (10, 3) from hv22)
  obtain rfl : r21 = r22 := hU _ _ _ (by decide) kr21 kr22
  refine lv_aload_n hx hb dSA_sampleBall_12 rfl (lv_at hl 3 rfl) ?_
  refine lv_iconst (v := nI 0) hx hb dSA_sampleBall_13 (by decide) ?_
  refine lv_aload_n hx hb dSA_sampleBall_14 rfl (lv_at hl 1 rfl) ?_
  refine ty_get (ci := 2) (C := "LatticeKeys$DsaSet") (TT := T_DS) (N := 17) (kd := (43, 0)) hx hb hts (wg_ft i_DS) hown hK hO k_st (nxg (clo_cons (clo_cons hc0 kr21 (by decide)) kl21 (by decide)) k_st rfl) hP (fun _ h9 => h9) rfl 5 (by decide) (hts _ (wg_t kw_314)) (fun _ h9 => h9) (cd := (1, 0, 32)) rfl dSA_sampleBall_15 (fun v23 hv23 => ?_)
  obtain rfl := (show v23 = .int (nI 32) from hv23)
  refine mp_v (cx := [(r21, .inr (3, [.ref ln21, .int (nI 136), .int (nI 31), .int (nI 0)])), (ln21, .inl (g.2.1 2, 25, .inr (.inl u22)))]) (wr := []) hP hD hS hA [0, 1] [] rfl rfl rfl (by decide) (va_runV (As := [.ref b, .int (nI 0), .int (nI 32)]) (rest := []) F (t_SP_absorb l g _ T (ln21 :: (r21 :: xs)) pl hO hU (clo_cons (clo_cons hc0 kr21 (by decide)) kl21 (by decide)) b n 0 32 r21 ln21 136 0 (nI 31) u22 k_b (by omega) (by omega) (by omega) (by omega)) (cwV 3 hts (wg_app (wg_c kw_688 (wg_c kw_586 (wg_c kw_587 (wg_c kw_2 wg_n)))) kw_588) rfl rfl rfl (by decide +kernel) ⟨by decide, by decide⟩) (pp_V (en_ok g) (q0 := 0) hK hP hD hS hA hE [0, 1] rfl rfl rfl rfl) rfl rfl hl.1 rfl (lv_room (Nat.le_of_ble_eq_true rfl)) dSA_sampleBall_18 ⟨by omega, by omega⟩) (fun  u23 H locs hu22 hP hD hS => ?_)
  obtain ⟨u24, pl⟩ := u23
  obtain ⟨hq22, hO⟩ := hu22
  obtain ⟨k21, f22⟩ := u24
  have hP : va_P g.1 vcl ([(r21, .inr (3, [.ref ln21, .int (nI 136), .int (nI 31), .int (nI k21)])), (ln21, .inl (g.2.1 2, 25, .inr (.inl f22)))] ++ pl) _ := hP
  have hD : va_D _ ([(r21, .inr (3, [.ref ln21, .int (nI 136), .int (nI 31), .int (nI k21)])), (ln21, .inl (g.2.1 2, 25, .inr (.inl f22)))] ++ pl) := hD
  have hq22 : k21 < 136 := hq22
  refine W.widen (k := 0) (n := 0) (by omega) (by omega) ?_
  refine lv_aload_n hx hb dSA_sampleBall_21 rfl (lv_at hl 0 rfl) ?_
  refine ty_get (ci := 7) (C := "LatticeKeys$DsaSampler") (TT := T_SA) (N := 2) (kd := (14, 0)) hx hb hts (wg_ft i_SA) hown hK hO k_h0 (nxg (clo_cons (clo_cons hc0 kr21 (by decide)) kl21 (by decide)) k_h0 rfl) hP (fun _ h9 => h9) rfl 0 (by decide) (hts _ (wg_t kw_157)) (fun _ h9 => h9) (cd := (3, 10, 3)) rfl dSA_sampleBall_22 (fun v24 hv24 => ?_)
  obtain ⟨r23, rfl, kr23⟩ := (show ∃ r : Nat, v24 = .ref r ∧ T r = some (10, 3) from hv24)
  obtain rfl : r21 = r23 := hU _ _ _ (by decide) kr21 kr23
  refine mp_v (cx := [(r21, .inr (3, [.ref ln21, .int (nI 136), .int (nI 31), .int (nI k21)])), (ln21, .inl (g.2.1 2, 25, .inr (.inl f22)))]) (wr := []) hP hD hS hA [0, 1] [] rfl rfl rfl (by decide) (va_runV (As := []) (rest := []) F (t_SP_finish l g _ T (ln21 :: (r21 :: xs)) pl hO hU  r21 ln21 136 k21 (nI 31) f22 (by omega) (by omega)) (cwV 0 hts (wg_app (wg_c kw_690 (wg_c kw_611 (wg_c kw_612 (wg_c kw_2 wg_n)))) kw_613) rfl rfl rfl (by decide +kernel) ⟨by decide, by decide⟩) (pp_V (en_ok g) (q0 := 0) hK hP hD hS hA hE [0, 1] rfl rfl rfl rfl) rfl rfl hl.1 rfl (lv_room (Nat.le_of_ble_eq_true rfl)) dSA_sampleBall_25 ⟨by omega, by omega⟩) (fun  u25 H locs hu23 hP hD hS => ?_)
  obtain ⟨u26, pl⟩ := u25
  obtain ⟨hq23, hO⟩ := hu23
  have hP : va_P g.1 vcl ([(r21, .inr (3, [.ref ln21, .int (nI 136), .int (nI 31), .int (nI 136)])), (ln21, .inl (g.2.1 2, 25, .inr (.inl u26)))] ++ pl) _ := hP
  have hD : va_D _ ([(r21, .inr (3, [.ref ln21, .int (nI 136), .int (nI 31), .int (nI 136)])), (ln21, .inl (g.2.1 2, 25, .inr (.inl u26)))] ++ pl) := hD
  refine W.widen (k := 0) (n := 0) (by omega) (by omega) ?_
  refine lv_lconst (v := 0) hx hb dSA_sampleBall_28 (by decide) ?_
  refine lv_lstore (lv' := [(4, .long 0), (0, .ref h0), (1, .ref st), (2, .ref f), (3, .ref b)]) hx hb dSA_sampleBall_29 hl (by decide) rfl (fun ls hl => ?_)
  refine lv_iconst (v := nI 0) hx hb dSA_sampleBall_31 (by decide) ?_
  refine lv_istore (lv' := [(6, .int (nI 0)), (4, .long 0), (0, .ref h0), (1, .ref st), (2, .ref f), (3, .ref b)]) hx hb dSA_sampleBall_32 hl (by decide) rfl (fun ls hl => ?_)
  have lp21 : ∀ (n21 : Nat) (i21 : Nat) (y21 : Int64) (ps22 : Nat) (f23 : Nat → Int64) (pl : va_W) (ls : Array Slot) (H : Heap) (locs : List Loc), n21 + i21 = 8 → (ps22 ≤ 136) → lv_has ls 9 [(6, .int (nI i21)), (4, .long y21), (0, .ref h0), (1, .ref st), (2, .ref f)] → okx g T (ln21 :: (r21 :: xs)) pl → va_P g.1 vcl ([(r21, .inr (3, [.ref ln21, .int (nI 136), .int (nI 31), .int (nI ps22)])), (ln21, .inl (g.2.1 2, 25, .inr (.inl f23)))] ++ pl) H → va_D A ([(r21, .inr (3, [.ref ln21, .int (nI 136), .int (nI 31), .int (nI ps22)])), (ln21, .inl (g.2.1 2, 25, .inr (.inl f23)))] ++ pl) → va_S A s.heap H locs → W p l e ({ frames := 3, cells := 0, slots := 0, locals := 100 } : Room) s m args below meth c H locs 0 0 (MQ below (va_Qv (fun (u : va_W) => (True) ∧ okx g T xs u) (po g.1 vcl A (fun (u : va_W) => [] ++ u)) A) args s 0 0 A) (F0 m 34 ls []) := by
    intro n21
    induction n21 with
    | zero =>
      intro i21 y21 ps22 f23 pl ls H locs hm21 hi21 hl hO hP hD hS
      refine lv_iload hx hb dSA_sampleBall_34 (lv_at hl 0 rfl) ?_
      refine lv_bipush (v := nI 8) hx hb dSA_sampleBall_36 (by decide) ?_
      refine mi_ge (tgt := 66) hx hb dSA_sampleBall_38 (by decide) (by omega) (by omega) (fun h21 => ?_) (fun h21 => absurd h21 (by omega))
      refine lv_aload_n hx hb dSA_sampleBall_66 rfl (lv_at hl 4 rfl) ?_
      refine lv_iconst (v := nI 0) hx hb dSA_sampleBall_67 (by decide) ?_
      refine mp_v (cx := []) (wr := [(r21, .inr (3, [.ref ln21, .int (nI 136), .int (nI 31), .int (nI ps22)])), (ln21, .inl (g.2.1 2, 25, .inr (.inl f23)))]) hP hD hS hA [] [0, 1] rfl rfl rfl (by decide) (va_runS (As := [.ref f, .int (nI 0)]) (rest := []) F (t_fillI l g _ T (ln21 :: (r21 :: xs)) pl hO hU (clo_cons (clo_cons hc0 kr21 (by decide)) kl21 (by decide)) f 256 (nI 0) k_f (by omega)) (va_cwS 2 hts (wg_app (wg_c kw_1218 (wg_c kw_717 (wg_c kw_21 wg_n))) kw_718) rfl rfl rfl (by decide +kernel) ⟨by decide, by decide⟩) (pp_S (en_ok g) hP hD hS hA hE [] rfl rfl) rfl rfl hl.1 rfl (lv_room (Nat.le_of_ble_eq_true rfl)) dSA_sampleBall_68 ⟨by omega, by omega⟩) (fun  pl H locs hu24 hP hD hS => ?_)
      obtain ⟨hq24, hO⟩ := hu24
      have hP : va_P g.1 vcl ([(r21, .inr (3, [.ref ln21, .int (nI 136), .int (nI 31), .int (nI ps22)])), (ln21, .inl (g.2.1 2, 25, .inr (.inl f23)))] ++ pl) _ := hP
      have hD : va_D _ ([(r21, .inr (3, [.ref ln21, .int (nI 136), .int (nI 31), .int (nI ps22)])), (ln21, .inl (g.2.1 2, 25, .inr (.inl f23)))] ++ pl) := hD
      refine W.widen (k := 0) (n := 0) (by omega) (by omega) ?_
      refine lv_sipush (v := nI 256) hx hb dSA_sampleBall_71 (by decide) ?_
      refine lv_aload_n hx hb dSA_sampleBall_74 rfl (lv_at hl 3 rfl) ?_
      refine ty_get (ci := 2) (C := "LatticeKeys$DsaSet") (TT := T_DS) (N := 17) (kd := (43, 0)) hx hb hts (wg_ft i_DS) hown hK hO k_st (nxg (clo_cons (clo_cons hc0 kr21 (by decide)) kl21 (by decide)) k_st rfl) hP (fun _ h9 => h9) rfl 4 (by decide) (hts _ (wg_t kw_312)) (fun _ h9 => h9) (cd := (1, 0, 39)) rfl dSA_sampleBall_75 (fun v25 hv25 => ?_)
      obtain rfl := (show v25 = .int (nI 39) from hv25)
      refine mi_isub hx hb dSA_sampleBall_78 (by omega) ?_
      refine mi_as (show nI (256 - 39) = nI 217 from rfl) ?_
      refine lv_istore (lv' := [(6, .int (nI 217)), (4, .long y21), (0, .ref h0), (1, .ref st), (2, .ref f)]) hx hb dSA_sampleBall_79 hl (by decide) rfl (fun ls hl => ?_)
      have lp22 : ∀ (n22 : Nat) (i22 : Nat) (y22 : Int64) (ps23 : Nat) (f24 : Nat → Int64) (pl : va_W) (ls : Array Slot) (H : Heap) (locs : List Loc), n22 + i22 = 256 → (ps23 ≤ 136) → (217 ≤ i22) → lv_has ls 9 [(6, .int (nI i22)), (4, .long y22), (0, .ref h0), (2, .ref f)] → okx g T (ln21 :: (r21 :: xs)) pl → va_P g.1 vcl ([(r21, .inr (3, [.ref ln21, .int (nI 136), .int (nI 31), .int (nI ps23)])), (ln21, .inl (g.2.1 2, 25, .inr (.inl f24)))] ++ pl) H → va_D A ([(r21, .inr (3, [.ref ln21, .int (nI 136), .int (nI 31), .int (nI ps23)])), (ln21, .inl (g.2.1 2, 25, .inr (.inl f24)))] ++ pl) → va_S A s.heap H locs → W p l e ({ frames := 3, cells := 0, slots := 0, locals := 100 } : Room) s m args below meth c H locs 0 0 (MQ below (va_Qv (fun (u : va_W) => (True) ∧ okx g T xs u) (po g.1 vcl A (fun (u : va_W) => [] ++ u)) A) args s 0 0 A) (F0 m 81 ls []) := by
        intro n22
        induction n22 with
        | zero =>
          intro i22 y22 ps23 f24 pl ls H locs hm22 hi22 hi23 hl hO hP hD hS
          refine lv_iload hx hb dSA_sampleBall_81 (lv_at hl 0 rfl) ?_
          refine lv_sipush (v := nI 256) hx hb dSA_sampleBall_83 (by decide) ?_
          refine mi_ge (tgt := 169) hx hb dSA_sampleBall_86 (by decide) (by omega) (by omega) (fun h22 => ?_) (fun h22 => absurd h22 (by omega))
          have hO := close1 (e := .inl (g.2.1 2, 25, .inr (.inl f24))) hO kl21 ⟨_, rfl⟩
          have hO := close1 (e := .inr (3, [.ref ln21, .int (nI 136), .int (nI 31), .int (nI ps23)])) hO kr21 ⟨_, _, _, _, rfl, kl21, by omega, by omega, by omega⟩
          have hO : okx g T xs ((r21, .inr (3, [.ref ln21, .int (nI 136), .int (nI 31), .int (nI ps23)])) :: (ln21, .inl (g.2.1 2, 25, .inr (.inl f24))) :: pl) := hO
          have hP : va_P g.1 vcl ([] ++ ((r21, .inr (3, [.ref ln21, .int (nI 136), .int (nI 31), .int (nI ps23)])) :: (ln21, .inl (g.2.1 2, 25, .inr (.inl f24))) :: pl)) _ := hP
          have hD : va_D _ ([] ++ ((r21, .inr (3, [.ref ln21, .int (nI 136), .int (nI 31), .int (nI ps23)])) :: (ln21, .inl (g.2.1 2, 25, .inr (.inl f24))) :: pl)) := hD
          generalize ((r21, .inr (3, [.ref ln21, .int (nI 136), .int (nI 31), .int (nI ps23)])) :: (ln21, .inl (g.2.1 2, 25, .inr (.inl f24))) :: pl) = pl at hO hP hD
          exact mp_vret hx hb hr hlk hP hD hS pl ⟨trivial, hO⟩ [] rfl rfl rfl (by omega) (by omega) dSA_sampleBall_169
        | succ n22 ih22 =>
          intro i22 y22 ps23 f24 pl ls H locs hm22 hi22 hi23 hl hO hP hD hS
          refine lv_iload hx hb dSA_sampleBall_81 (lv_at hl 0 rfl) ?_
          refine lv_sipush (v := nI 256) hx hb dSA_sampleBall_83 (by decide) ?_
          refine mi_ge (tgt := 169) hx hb dSA_sampleBall_86 (by decide) (by omega) (by omega) (fun h23 => absurd h23 (by omega)) (fun h23 => ?_)
          refine lv_aload_n hx hb dSA_sampleBall_89 rfl (lv_at hl 2 rfl) ?_
          refine ty_get (ci := 7) (C := "LatticeKeys$DsaSampler") (TT := T_SA) (N := 2) (kd := (14, 0)) hx hb hts (wg_ft i_SA) hown hK hO k_h0 (nxg (clo_cons (clo_cons hc0 kr21 (by decide)) kl21 (by decide)) k_h0 rfl) hP (fun _ h9 => h9) rfl 0 (by decide) (hts _ (wg_t kw_157)) (fun _ h9 => h9) (cd := (3, 10, 3)) rfl dSA_sampleBall_90 (fun v26 hv26 => ?_)
          obtain ⟨r24, rfl, kr24⟩ := (show ∃ r : Nat, v26 = .ref r ∧ T r = some (10, 3) from hv26)
          obtain rfl : r21 = r24 := hU _ _ _ (by decide) kr21 kr24
          refine mp_i (cx := [(r21, .inr (3, [.ref ln21, .int (nI 136), .int (nI 31), .int (nI ps23)])), (ln21, .inl (g.2.1 2, 25, .inr (.inl f24)))]) (wr := []) hP hD hS hA [0, 1] [] rfl rfl rfl (by decide) (va_runV (As := []) (rest := []) F (t_SP_nextByte l g _ T (ln21 :: (r21 :: xs)) pl hO hU  r21 ln21 136 ps23 (nI 31) f24 (by omega) (by omega)) (cwV 0 hts (wg_app (wg_c kw_692 (wg_c kw_619 (wg_c kw_620 (wg_c kw_2 wg_n)))) kw_621) rfl rfl rfl (by decide +kernel) ⟨by decide, by decide⟩) (pp_V (en_ok g) (q0 := 0) hK hP hD hS hA hE [0, 1] rfl rfl rfl rfl) rfl rfl hl.1 rfl (lv_room (Nat.le_of_ble_eq_true rfl)) dSA_sampleBall_93 ⟨by omega, by omega⟩) (fun r25 u27 H locs hu25 hP hD hS => ?_)
          obtain ⟨u28, pl⟩ := u27
          obtain ⟨hq25, hO⟩ := hu25
          obtain ⟨k22, f25⟩ := u28
          have hP : va_P g.1 vcl ([(r21, .inr (3, [.ref ln21, .int (nI 136), .int (nI 31), .int (nI k22)])), (ln21, .inl (g.2.1 2, 25, .inr (.inl f25)))] ++ pl) _ := hP
          have hD : va_D _ ([(r21, .inr (3, [.ref ln21, .int (nI 136), .int (nI 31), .int (nI k22)])), (ln21, .inl (g.2.1 2, 25, .inr (.inl f25)))] ++ pl) := hD
          obtain ⟨hq25, z21, hz21, rfl⟩ := (show k22 ≤ 136 ∧ ∃ z : Nat, z < 256 ∧ r25 = nI z from hq25)
          refine W.widen (k := 0) (n := 0) (by omega) (by omega) ?_
          refine lv_istore (lv' := [(7, .int (nI z21)), (6, .int (nI i22)), (4, .long y22), (0, .ref h0), (2, .ref f)]) hx hb dSA_sampleBall_96 hl (by decide) rfl (fun ls hl => ?_)
          refine lv_iconst (v := nI 0) hx hb dSA_sampleBall_98 (by decide) ?_
          refine lv_istore (lv' := [(8, .int (nI 0)), (7, .int (nI z21)), (6, .int (nI i22)), (4, .long y22), (0, .ref h0), (2, .ref f)]) hx hb dSA_sampleBall_99 hl (by decide) rfl (fun ls hl => ?_)
          have lp23 : ∀ (n23 : Nat) (i23 : Nat) (fl21 : Nat) (ps24 : Nat) (f26 : Nat → Int64) (pl : va_W) (ls : Array Slot) (H : Heap) (locs : List Loc), n23 + i23 = 1000000 → (fl21 < 256) → (ps24 ≤ 136) → lv_has ls 9 [(8, .int (nI i23)), (7, .int (nI fl21)), (6, .int (nI i22)), (4, .long y22), (0, .ref h0), (2, .ref f)] → okx g T (ln21 :: (r21 :: xs)) pl → va_P g.1 vcl ([(r21, .inr (3, [.ref ln21, .int (nI 136), .int (nI 31), .int (nI ps24)])), (ln21, .inl (g.2.1 2, 25, .inr (.inl f26)))] ++ pl) H → va_D A ([(r21, .inr (3, [.ref ln21, .int (nI 136), .int (nI 31), .int (nI ps24)])), (ln21, .inl (g.2.1 2, 25, .inr (.inl f26)))] ++ pl) → va_S A s.heap H locs → W p l e ({ frames := 3, cells := 0, slots := 0, locals := 100 } : Room) s m args below meth c H locs 0 0 (MQ below (va_Qv (fun (u : va_W) => (True) ∧ okx g T xs u) (po g.1 vcl A (fun (u : va_W) => [] ++ u)) A) args s 0 0 A) (F0 m 101 ls []) := by
            intro n23
            induction n23 with
            | zero =>
              intro i23 fl21 ps24 f26 pl ls H locs hm23 hi24 hi25 hl hO hP hD hS
              refine lv_iload hx hb dSA_sampleBall_101 (lv_at hl 1 rfl) ?_
              refine lv_iload hx hb dSA_sampleBall_103 (lv_at hl 2 rfl) ?_
              refine mi_le (tgt := 130) hx hb dSA_sampleBall_105 (by decide) (by omega) (by omega) (fun h24 => ?_) (fun h24 => ?_)
              · refine lv_aload_n hx hb dSA_sampleBall_130 rfl (lv_at hl 5 rfl) ?_
                refine lv_iload hx hb dSA_sampleBall_131 (lv_at hl 2 rfl) ?_
                refine lv_aload_n hx hb dSA_sampleBall_133 rfl (lv_at hl 5 rfl) ?_
                refine lv_iload hx hb dSA_sampleBall_134 (lv_at hl 1 rfl) ?_
                refine ty_iald hx hb hK hO k_f (nxg (clo_cons (clo_cons hc0 kr21 (by decide)) kl21 (by decide)) k_f rfl) hP (vp_in_nI (by omega) (by decide)) dSA_sampleBall_136 (fun z22 => ?_)
                refine ty_iast hx hb hK hO k_f (nxg (clo_cons (clo_cons hc0 kr21 (by decide)) kl21 (by decide)) k_f rfl) hP hD hS (vp_in_nI (by omega) (by decide)) dSA_sampleBall_137 (fun pl H locs hO hP hD hS => ?_)
                refine lv_aload_n hx hb dSA_sampleBall_138 rfl (lv_at hl 5 rfl) ?_
                refine lv_iload hx hb dSA_sampleBall_139 (lv_at hl 1 rfl) ?_
                refine lv_lload hx hb dSA_sampleBall_141 (lv_at hl 3 rfl) ?_
                refine lv_lconst (v := 1) hx hb dSA_sampleBall_143 (by decide) ?_
                refine lv_land hx hb dSA_sampleBall_144 ?_
                refine ml_any (fun y23 => ?_)
                refine lv_lconst (v := 0) hx hb dSA_sampleBall_145 (by decide) ?_
                refine W.lcmp hx hb dSA_sampleBall_146 ?_
                refine mi_any (fun z23 => ?_)
                refine lv_if_ne (tgt := 154) hx hb dSA_sampleBall_147 (by decide) (fun h25 => ?_) (fun h25 => ?_)
                · refine lv_ldc (v := 8380416) hx hb hown (hts _ (wg_t kw_1219)) dSA_sampleBall_154 ?_
                  refine mi_as (show (8380416 : Int32) = nI 8380416 by decide) ?_
                  refine ty_iast hx hb hK hO k_f (nxg (clo_cons (clo_cons hc0 kr21 (by decide)) kl21 (by decide)) k_f rfl) hP hD hS (vp_in_nI (by omega) (by decide)) dSA_sampleBall_156 (fun pl H locs hO hP hD hS => ?_)
                  refine lv_lload hx hb dSA_sampleBall_157 (lv_at hl 3 rfl) ?_
                  refine lv_iconst (v := nI 1) hx hb dSA_sampleBall_159 (by decide) ?_
                  refine lv_lushr hx hb dSA_sampleBall_160 rfl ?_
                  refine ml_any (fun y24 => ?_)
                  refine lv_lstore (lv' := [(4, .long y24), (8, .int (nI i23)), (7, .int (nI fl21)), (6, .int (nI i22)), (0, .ref h0), (2, .ref f)]) hx hb dSA_sampleBall_161 hl (by decide) rfl (fun ls hl => ?_)
                  refine mi_iinc (k := 3) (x := i22) (d := 1) (y := i22 + 1) (lv' := [(6, .int (nI (i22 + 1))), (4, .long y24), (8, .int (nI i23)), (7, .int (nI fl21)), (0, .ref h0), (2, .ref f)]) hx hb dSA_sampleBall_163 hl rfl (by decide) rfl (by decide) rfl (fun ls hl => ?_)
                  refine lv_goto (tgt := 81) hx hb dSA_sampleBall_166 (by decide) ?_
                  exact ih22 (i22 + 1) y24 ps24 f26 pl ls H locs (by omega) (by omega) (by omega) (lv_sub hl [0, 1, 4, 5] rfl) hO hP hD hS
                · refine lv_iconst (v := nI 1) hx hb dSA_sampleBall_150 (by decide) ?_
                  refine lv_goto (tgt := 156) hx hb dSA_sampleBall_151 (by decide) ?_
                  refine ty_iast hx hb hK hO k_f (nxg (clo_cons (clo_cons hc0 kr21 (by decide)) kl21 (by decide)) k_f rfl) hP hD hS (vp_in_nI (by omega) (by decide)) dSA_sampleBall_156 (fun pl H locs hO hP hD hS => ?_)
                  refine lv_lload hx hb dSA_sampleBall_157 (lv_at hl 3 rfl) ?_
                  refine lv_iconst (v := nI 1) hx hb dSA_sampleBall_159 (by decide) ?_
                  refine lv_lushr hx hb dSA_sampleBall_160 rfl ?_
                  refine ml_any (fun y25 => ?_)
                  refine lv_lstore (lv' := [(4, .long y25), (8, .int (nI i23)), (7, .int (nI fl21)), (6, .int (nI i22)), (0, .ref h0), (2, .ref f)]) hx hb dSA_sampleBall_161 hl (by decide) rfl (fun ls hl => ?_)
                  refine mi_iinc (k := 3) (x := i22) (d := 1) (y := i22 + 1) (lv' := [(6, .int (nI (i22 + 1))), (4, .long y25), (8, .int (nI i23)), (7, .int (nI fl21)), (0, .ref h0), (2, .ref f)]) hx hb dSA_sampleBall_163 hl rfl (by decide) rfl (by decide) rfl (fun ls hl => ?_)
                  refine lv_goto (tgt := 81) hx hb dSA_sampleBall_166 (by decide) ?_
                  exact ih22 (i22 + 1) y25 ps24 f26 pl ls H locs (by omega) (by omega) (by omega) (lv_sub hl [0, 1, 4, 5] rfl) hO hP hD hS
              · refine lv_iload hx hb dSA_sampleBall_108 (lv_at hl 0 rfl) ?_
                refine lv_ldc (v := 1000000) hx hb hown (hts _ (wg_t kw_691)) dSA_sampleBall_110 ?_
                refine mi_as (show (1000000 : Int32) = nI 1000000 by decide) ?_
                refine mi_ge (tgt := 130) hx hb dSA_sampleBall_112 (by decide) (by omega) (by omega) (fun h26 => ?_) (fun h26 => absurd h26 (by omega))
                refine lv_aload_n hx hb dSA_sampleBall_130 rfl (lv_at hl 5 rfl) ?_
                refine lv_iload hx hb dSA_sampleBall_131 (lv_at hl 2 rfl) ?_
                refine lv_aload_n hx hb dSA_sampleBall_133 rfl (lv_at hl 5 rfl) ?_
                refine lv_iload hx hb dSA_sampleBall_134 (lv_at hl 1 rfl) ?_
                refine ty_iald hx hb hK hO k_f (nxg (clo_cons (clo_cons hc0 kr21 (by decide)) kl21 (by decide)) k_f rfl) hP (vp_in_nI (by omega) (by decide)) dSA_sampleBall_136 (fun z24 => ?_)
                refine ty_iast hx hb hK hO k_f (nxg (clo_cons (clo_cons hc0 kr21 (by decide)) kl21 (by decide)) k_f rfl) hP hD hS (vp_in_nI (by omega) (by decide)) dSA_sampleBall_137 (fun pl H locs hO hP hD hS => ?_)
                refine lv_aload_n hx hb dSA_sampleBall_138 rfl (lv_at hl 5 rfl) ?_
                refine lv_iload hx hb dSA_sampleBall_139 (lv_at hl 1 rfl) ?_
                refine lv_lload hx hb dSA_sampleBall_141 (lv_at hl 3 rfl) ?_
                refine lv_lconst (v := 1) hx hb dSA_sampleBall_143 (by decide) ?_
                refine lv_land hx hb dSA_sampleBall_144 ?_
                refine ml_any (fun y26 => ?_)
                refine lv_lconst (v := 0) hx hb dSA_sampleBall_145 (by decide) ?_
                refine W.lcmp hx hb dSA_sampleBall_146 ?_
                refine mi_any (fun z25 => ?_)
                refine lv_if_ne (tgt := 154) hx hb dSA_sampleBall_147 (by decide) (fun h27 => ?_) (fun h27 => ?_)
                · refine lv_ldc (v := 8380416) hx hb hown (hts _ (wg_t kw_1219)) dSA_sampleBall_154 ?_
                  refine mi_as (show (8380416 : Int32) = nI 8380416 by decide) ?_
                  refine ty_iast hx hb hK hO k_f (nxg (clo_cons (clo_cons hc0 kr21 (by decide)) kl21 (by decide)) k_f rfl) hP hD hS (vp_in_nI (by omega) (by decide)) dSA_sampleBall_156 (fun pl H locs hO hP hD hS => ?_)
                  refine lv_lload hx hb dSA_sampleBall_157 (lv_at hl 3 rfl) ?_
                  refine lv_iconst (v := nI 1) hx hb dSA_sampleBall_159 (by decide) ?_
                  refine lv_lushr hx hb dSA_sampleBall_160 rfl ?_
                  refine ml_any (fun y27 => ?_)
                  refine lv_lstore (lv' := [(4, .long y27), (8, .int (nI i23)), (7, .int (nI fl21)), (6, .int (nI i22)), (0, .ref h0), (2, .ref f)]) hx hb dSA_sampleBall_161 hl (by decide) rfl (fun ls hl => ?_)
                  refine mi_iinc (k := 3) (x := i22) (d := 1) (y := i22 + 1) (lv' := [(6, .int (nI (i22 + 1))), (4, .long y27), (8, .int (nI i23)), (7, .int (nI fl21)), (0, .ref h0), (2, .ref f)]) hx hb dSA_sampleBall_163 hl rfl (by decide) rfl (by decide) rfl (fun ls hl => ?_)
                  refine lv_goto (tgt := 81) hx hb dSA_sampleBall_166 (by decide) ?_
                  exact ih22 (i22 + 1) y27 ps24 f26 pl ls H locs (by omega) (by omega) (by omega) (lv_sub hl [0, 1, 4, 5] rfl) hO hP hD hS
                · refine lv_iconst (v := nI 1) hx hb dSA_sampleBall_150 (by decide) ?_
                  refine lv_goto (tgt := 156) hx hb dSA_sampleBall_151 (by decide) ?_
                  refine ty_iast hx hb hK hO k_f (nxg (clo_cons (clo_cons hc0 kr21 (by decide)) kl21 (by decide)) k_f rfl) hP hD hS (vp_in_nI (by omega) (by decide)) dSA_sampleBall_156 (fun pl H locs hO hP hD hS => ?_)
                  refine lv_lload hx hb dSA_sampleBall_157 (lv_at hl 3 rfl) ?_
                  refine lv_iconst (v := nI 1) hx hb dSA_sampleBall_159 (by decide) ?_
                  refine lv_lushr hx hb dSA_sampleBall_160 rfl ?_
                  refine ml_any (fun y28 => ?_)
                  refine lv_lstore (lv' := [(4, .long y28), (8, .int (nI i23)), (7, .int (nI fl21)), (6, .int (nI i22)), (0, .ref h0), (2, .ref f)]) hx hb dSA_sampleBall_161 hl (by decide) rfl (fun ls hl => ?_)
                  refine mi_iinc (k := 3) (x := i22) (d := 1) (y := i22 + 1) (lv' := [(6, .int (nI (i22 + 1))), (4, .long y28), (8, .int (nI i23)), (7, .int (nI fl21)), (0, .ref h0), (2, .ref f)]) hx hb dSA_sampleBall_163 hl rfl (by decide) rfl (by decide) rfl (fun ls hl => ?_)
                  refine lv_goto (tgt := 81) hx hb dSA_sampleBall_166 (by decide) ?_
                  exact ih22 (i22 + 1) y28 ps24 f26 pl ls H locs (by omega) (by omega) (by omega) (lv_sub hl [0, 1, 4, 5] rfl) hO hP hD hS
            | succ n23 ih23 =>
              intro i23 fl21 ps24 f26 pl ls H locs hm23 hi24 hi25 hl hO hP hD hS
              refine lv_iload hx hb dSA_sampleBall_101 (lv_at hl 1 rfl) ?_
              refine lv_iload hx hb dSA_sampleBall_103 (lv_at hl 2 rfl) ?_
              refine mi_le (tgt := 130) hx hb dSA_sampleBall_105 (by decide) (by omega) (by omega) (fun h28 => ?_) (fun h28 => ?_)
              · refine lv_aload_n hx hb dSA_sampleBall_130 rfl (lv_at hl 5 rfl) ?_
                refine lv_iload hx hb dSA_sampleBall_131 (lv_at hl 2 rfl) ?_
                refine lv_aload_n hx hb dSA_sampleBall_133 rfl (lv_at hl 5 rfl) ?_
                refine lv_iload hx hb dSA_sampleBall_134 (lv_at hl 1 rfl) ?_
                refine ty_iald hx hb hK hO k_f (nxg (clo_cons (clo_cons hc0 kr21 (by decide)) kl21 (by decide)) k_f rfl) hP (vp_in_nI (by omega) (by decide)) dSA_sampleBall_136 (fun z26 => ?_)
                refine ty_iast hx hb hK hO k_f (nxg (clo_cons (clo_cons hc0 kr21 (by decide)) kl21 (by decide)) k_f rfl) hP hD hS (vp_in_nI (by omega) (by decide)) dSA_sampleBall_137 (fun pl H locs hO hP hD hS => ?_)
                refine lv_aload_n hx hb dSA_sampleBall_138 rfl (lv_at hl 5 rfl) ?_
                refine lv_iload hx hb dSA_sampleBall_139 (lv_at hl 1 rfl) ?_
                refine lv_lload hx hb dSA_sampleBall_141 (lv_at hl 3 rfl) ?_
                refine lv_lconst (v := 1) hx hb dSA_sampleBall_143 (by decide) ?_
                refine lv_land hx hb dSA_sampleBall_144 ?_
                refine ml_any (fun y29 => ?_)
                refine lv_lconst (v := 0) hx hb dSA_sampleBall_145 (by decide) ?_
                refine W.lcmp hx hb dSA_sampleBall_146 ?_
                refine mi_any (fun z27 => ?_)
                refine lv_if_ne (tgt := 154) hx hb dSA_sampleBall_147 (by decide) (fun h29 => ?_) (fun h29 => ?_)
                · refine lv_ldc (v := 8380416) hx hb hown (hts _ (wg_t kw_1219)) dSA_sampleBall_154 ?_
                  refine mi_as (show (8380416 : Int32) = nI 8380416 by decide) ?_
                  refine ty_iast hx hb hK hO k_f (nxg (clo_cons (clo_cons hc0 kr21 (by decide)) kl21 (by decide)) k_f rfl) hP hD hS (vp_in_nI (by omega) (by decide)) dSA_sampleBall_156 (fun pl H locs hO hP hD hS => ?_)
                  refine lv_lload hx hb dSA_sampleBall_157 (lv_at hl 3 rfl) ?_
                  refine lv_iconst (v := nI 1) hx hb dSA_sampleBall_159 (by decide) ?_
                  refine lv_lushr hx hb dSA_sampleBall_160 rfl ?_
                  refine ml_any (fun y30 => ?_)
                  refine lv_lstore (lv' := [(4, .long y30), (8, .int (nI i23)), (7, .int (nI fl21)), (6, .int (nI i22)), (0, .ref h0), (2, .ref f)]) hx hb dSA_sampleBall_161 hl (by decide) rfl (fun ls hl => ?_)
                  refine mi_iinc (k := 3) (x := i22) (d := 1) (y := i22 + 1) (lv' := [(6, .int (nI (i22 + 1))), (4, .long y30), (8, .int (nI i23)), (7, .int (nI fl21)), (0, .ref h0), (2, .ref f)]) hx hb dSA_sampleBall_163 hl rfl (by decide) rfl (by decide) rfl (fun ls hl => ?_)
                  refine lv_goto (tgt := 81) hx hb dSA_sampleBall_166 (by decide) ?_
                  exact ih22 (i22 + 1) y30 ps24 f26 pl ls H locs (by omega) (by omega) (by omega) (lv_sub hl [0, 1, 4, 5] rfl) hO hP hD hS
                · refine lv_iconst (v := nI 1) hx hb dSA_sampleBall_150 (by decide) ?_
                  refine lv_goto (tgt := 156) hx hb dSA_sampleBall_151 (by decide) ?_
                  refine ty_iast hx hb hK hO k_f (nxg (clo_cons (clo_cons hc0 kr21 (by decide)) kl21 (by decide)) k_f rfl) hP hD hS (vp_in_nI (by omega) (by decide)) dSA_sampleBall_156 (fun pl H locs hO hP hD hS => ?_)
                  refine lv_lload hx hb dSA_sampleBall_157 (lv_at hl 3 rfl) ?_
                  refine lv_iconst (v := nI 1) hx hb dSA_sampleBall_159 (by decide) ?_
                  refine lv_lushr hx hb dSA_sampleBall_160 rfl ?_
                  refine ml_any (fun y31 => ?_)
                  refine lv_lstore (lv' := [(4, .long y31), (8, .int (nI i23)), (7, .int (nI fl21)), (6, .int (nI i22)), (0, .ref h0), (2, .ref f)]) hx hb dSA_sampleBall_161 hl (by decide) rfl (fun ls hl => ?_)
                  refine mi_iinc (k := 3) (x := i22) (d := 1) (y := i22 + 1) (lv' := [(6, .int (nI (i22 + 1))), (4, .long y31), (8, .int (nI i23)), (7, .int (nI fl21)), (0, .ref h0), (2, .ref f)]) hx hb dSA_sampleBall_163 hl rfl (by decide) rfl (by decide) rfl (fun ls hl => ?_)
                  refine lv_goto (tgt := 81) hx hb dSA_sampleBall_166 (by decide) ?_
                  exact ih22 (i22 + 1) y31 ps24 f26 pl ls H locs (by omega) (by omega) (by omega) (lv_sub hl [0, 1, 4, 5] rfl) hO hP hD hS
              · refine lv_iload hx hb dSA_sampleBall_108 (lv_at hl 0 rfl) ?_
                refine lv_ldc (v := 1000000) hx hb hown (hts _ (wg_t kw_691)) dSA_sampleBall_110 ?_
                refine mi_as (show (1000000 : Int32) = nI 1000000 by decide) ?_
                refine mi_ge (tgt := 130) hx hb dSA_sampleBall_112 (by decide) (by omega) (by omega) (fun h30 => absurd h30 (by omega)) (fun h30 => ?_)
                refine lv_aload_n hx hb dSA_sampleBall_115 rfl (lv_at hl 4 rfl) ?_
                refine ty_get (ci := 7) (C := "LatticeKeys$DsaSampler") (TT := T_SA) (N := 2) (kd := (14, 0)) hx hb hts (wg_ft i_SA) hown hK hO k_h0 (nxg (clo_cons (clo_cons hc0 kr21 (by decide)) kl21 (by decide)) k_h0 rfl) hP (fun _ h9 => h9) rfl 0 (by decide) (hts _ (wg_t kw_157)) (fun _ h9 => h9) (cd := (3, 10, 3)) rfl dSA_sampleBall_116 (fun v27 hv27 => ?_)
                obtain ⟨r26, rfl, kr25⟩ := (show ∃ r : Nat, v27 = .ref r ∧ T r = some (10, 3) from hv27)
                obtain rfl : r21 = r26 := hU _ _ _ (by decide) kr21 kr25
                refine mp_i (cx := [(r21, .inr (3, [.ref ln21, .int (nI 136), .int (nI 31), .int (nI ps24)])), (ln21, .inl (g.2.1 2, 25, .inr (.inl f26)))]) (wr := []) hP hD hS hA [0, 1] [] rfl rfl rfl (by decide) (va_runV (As := []) (rest := []) F (t_SP_nextByte l g _ T (ln21 :: (r21 :: xs)) pl hO hU  r21 ln21 136 ps24 (nI 31) f26 (by omega) (by omega)) (cwV 0 hts (wg_app (wg_c kw_692 (wg_c kw_619 (wg_c kw_620 (wg_c kw_2 wg_n)))) kw_621) rfl rfl rfl (by decide +kernel) ⟨by decide, by decide⟩) (pp_V (en_ok g) (q0 := 0) hK hP hD hS hA hE [0, 1] rfl rfl rfl rfl) rfl rfl hl.1 rfl (lv_room (Nat.le_of_ble_eq_true rfl)) dSA_sampleBall_119 ⟨by omega, by omega⟩) (fun r27 u29 H locs hu26 hP hD hS => ?_)
                obtain ⟨u30, pl⟩ := u29
                obtain ⟨hq26, hO⟩ := hu26
                obtain ⟨k23, f27⟩ := u30
                have hP : va_P g.1 vcl ([(r21, .inr (3, [.ref ln21, .int (nI 136), .int (nI 31), .int (nI k23)])), (ln21, .inl (g.2.1 2, 25, .inr (.inl f27)))] ++ pl) _ := hP
                have hD : va_D _ ([(r21, .inr (3, [.ref ln21, .int (nI 136), .int (nI 31), .int (nI k23)])), (ln21, .inl (g.2.1 2, 25, .inr (.inl f27)))] ++ pl) := hD
                obtain ⟨hq26, z28, hz22, rfl⟩ := (show k23 ≤ 136 ∧ ∃ z : Nat, z < 256 ∧ r27 = nI z from hq26)
                refine W.widen (k := 0) (n := 0) (by omega) (by omega) ?_
                refine lv_istore (lv' := [(7, .int (nI z28)), (8, .int (nI i23)), (6, .int (nI i22)), (4, .long y22), (0, .ref h0), (2, .ref f)]) hx hb dSA_sampleBall_122 hl (by decide) rfl (fun ls hl => ?_)
                refine mi_iinc (k := 1) (x := i23) (d := 1) (y := i23 + 1) (lv' := [(8, .int (nI (i23 + 1))), (7, .int (nI z28)), (6, .int (nI i22)), (4, .long y22), (0, .ref h0), (2, .ref f)]) hx hb dSA_sampleBall_124 hl rfl (by decide) rfl (by decide) rfl (fun ls hl => ?_)
                refine lv_goto (tgt := 101) hx hb dSA_sampleBall_127 (by decide) ?_
                exact ih23 (i23 + 1) z28 k23 f27 pl ls H locs (by omega) (by omega) (by omega) (lv_sub hl [0, 1, 2, 3, 4, 5] rfl) hO hP hD hS
          exact lp23 1000000 0 z21 k22 f25 pl ls _ _ (by omega) (by omega) (by omega) (lv_sub hl [0, 1, 2, 3, 4, 5] rfl) hO hP hD hS
      exact lp22 (256 - 217) 217 y21 ps22 f23 pl ls _ _ (by omega) (by omega) (by omega) (lv_sub hl [0, 1, 2, 4] rfl) hO hP hD hS
    | succ n21 ih21 =>
      intro i21 y21 ps22 f23 pl ls H locs hm21 hi21 hl hO hP hD hS
      refine lv_iload hx hb dSA_sampleBall_34 (lv_at hl 0 rfl) ?_
      refine lv_bipush (v := nI 8) hx hb dSA_sampleBall_36 (by decide) ?_
      refine mi_ge (tgt := 66) hx hb dSA_sampleBall_38 (by decide) (by omega) (by omega) (fun h31 => absurd h31 (by omega)) (fun h31 => ?_)
      refine lv_lload hx hb dSA_sampleBall_41 (lv_at hl 1 rfl) ?_
      refine lv_aload_n hx hb dSA_sampleBall_43 rfl (lv_at hl 2 rfl) ?_
      refine ty_get (ci := 7) (C := "LatticeKeys$DsaSampler") (TT := T_SA) (N := 2) (kd := (14, 0)) hx hb hts (wg_ft i_SA) hown hK hO k_h0 (nxg (clo_cons (clo_cons hc0 kr21 (by decide)) kl21 (by decide)) k_h0 rfl) hP (fun _ h9 => h9) rfl 0 (by decide) (hts _ (wg_t kw_157)) (fun _ h9 => h9) (cd := (3, 10, 3)) rfl dSA_sampleBall_44 (fun v28 hv28 => ?_)
      obtain ⟨r28, rfl, kr26⟩ := (show ∃ r : Nat, v28 = .ref r ∧ T r = some (10, 3) from hv28)
      obtain rfl : r21 = r28 := hU _ _ _ (by decide) kr21 kr26
      refine mp_i (cx := [(r21, .inr (3, [.ref ln21, .int (nI 136), .int (nI 31), .int (nI ps22)])), (ln21, .inl (g.2.1 2, 25, .inr (.inl f23)))]) (wr := []) hP hD hS hA [0, 1] [] rfl rfl rfl (by decide) (va_runV (As := []) (rest := [.long y21]) F (t_SP_nextByte l g _ T (ln21 :: (r21 :: xs)) pl hO hU  r21 ln21 136 ps22 (nI 31) f23 (by omega) (by omega)) (cwV 0 hts (wg_app (wg_c kw_692 (wg_c kw_619 (wg_c kw_620 (wg_c kw_2 wg_n)))) kw_621) rfl rfl rfl (by decide +kernel) ⟨by decide, by decide⟩) (pp_V (en_ok g) (q0 := 0) hK hP hD hS hA hE [0, 1] rfl rfl rfl rfl) rfl rfl hl.1 rfl (lv_room (Nat.le_of_ble_eq_true rfl)) dSA_sampleBall_47 ⟨by omega, by omega⟩) (fun r29 u31 H locs hu27 hP hD hS => ?_)
      obtain ⟨u32, pl⟩ := u31
      obtain ⟨hq27, hO⟩ := hu27
      obtain ⟨k24, f28⟩ := u32
      have hP : va_P g.1 vcl ([(r21, .inr (3, [.ref ln21, .int (nI 136), .int (nI 31), .int (nI k24)])), (ln21, .inl (g.2.1 2, 25, .inr (.inl f28)))] ++ pl) _ := hP
      have hD : va_D _ ([(r21, .inr (3, [.ref ln21, .int (nI 136), .int (nI 31), .int (nI k24)])), (ln21, .inl (g.2.1 2, 25, .inr (.inl f28)))] ++ pl) := hD
      obtain ⟨hq27, z29, hz23, rfl⟩ := (show k24 ≤ 136 ∧ ∃ z : Nat, z < 256 ∧ r29 = nI z from hq27)
      refine W.widen (k := 0) (n := 0) (by omega) (by omega) ?_
      refine lv_i2l hx hb dSA_sampleBall_50 rfl ?_
      refine ml_any (fun y32 => ?_)
      refine lv_bipush (v := nI 8) hx hb dSA_sampleBall_51 (by decide) ?_
      refine lv_iload hx hb dSA_sampleBall_53 (lv_at hl 0 rfl) ?_
      refine mi_imul hx hb dSA_sampleBall_55 ?_
      refine lv_lshl hx hb dSA_sampleBall_56 rfl ?_
      refine ml_any (fun y33 => ?_)
      refine lv_lor hx hb dSA_sampleBall_57 ?_
      refine ml_any (fun y34 => ?_)
      refine lv_lstore (lv' := [(4, .long y34), (6, .int (nI i21)), (0, .ref h0), (1, .ref st), (2, .ref f)]) hx hb dSA_sampleBall_58 hl (by decide) rfl (fun ls hl => ?_)
      refine mi_iinc (k := 1) (x := i21) (d := 1) (y := i21 + 1) (lv' := [(6, .int (nI (i21 + 1))), (4, .long y34), (0, .ref h0), (1, .ref st), (2, .ref f)]) hx hb dSA_sampleBall_60 hl rfl (by decide) rfl (by decide) rfl (fun ls hl => ?_)
      refine lv_goto (tgt := 34) hx hb dSA_sampleBall_63 (by decide) ?_
      exact ih21 (i21 + 1) y34 k24 f28 pl ls H locs (by omega) (by omega) (lv_sub hl [0, 1, 2, 3, 4] rfl) hO hP hD hS
  exact lp21 8 0 0 136 u26 pl ls _ _ (by omega) (by omega) (lv_sub hl [0, 1, 2, 3, 4] rfl) hO hP hD hS
set_option maxHeartbeats 400000 in
set_option maxRecDepth 100000 in
theorem t_SA_sampleBall_1 (l : Launch) (g : Gd) (sz : Nat) (T : Ty) (xs : List Nat) (pl : va_W) (hO : okx g T xs pl) (hU : uni T) (hc0 : clo T xs 0) (hc4 : clo T xs 4) (h0 st f b n : Nat) (k_h0 : T h0 = some (14, 0)) (k_st : T st = some (44, 0)) (k_f : T f = some (0, 256)) (k_b : T b = some (1, n)) (h1 : 48 ≤ n) (h2 : n < 65536)  : Met l y_SA_sampleBall w_SA_sampleBall ({ frames := 3, cells := 0, slots := 0, locals := 100 } : Room) (va_Pc [.ref h0, .ref st, .ref f, .ref b] (pr (en g) g.1 vcl sz ([] ++ pl))) (va_Qv (fun (u : va_W) => (True) ∧ okx g T xs u) (po g.1 vcl (va_A ([] ++ pl) sz) (fun (u : va_W) => [] ++ u)) (va_A ([] ++ pl) sz)) 0 0 (va_A ([] ++ pl) sz) := by
  refine mc_entry (cc := c_SA_sampleBall) (maxL := 9) (ret := none) (by decide) rfl (Nat.le_of_ble_eq_true rfl) ?_
  intro p e s m args below meth c ls F hr hlk hnm hsz hP hD hE hA hl
  obtain ⟨hx, hb, hml, hown, hts⟩ := id F
  have hK := hE.1
  generalize va_A ([] ++ pl) sz = A at hD hE hA ⊢
  have hS : va_S A s.heap s.heap [] := va_S.rf
  have hl : lv_has ls 9 [(0, .ref h0), (1, .ref st), (2, .ref f), (3, .ref b)] := hl
  refine lv_aload_n hx hb dSA_sampleBall_0 rfl (lv_at hl 0 rfl) ?_
  refine ty_get (ci := 7) (C := "LatticeKeys$DsaSampler") (TT := T_SA) (N := 2) (kd := (14, 0)) hx hb hts (wg_ft i_SA) hown hK hO k_h0 (nxg hc0 k_h0 rfl) hP (fun _ h9 => h9) rfl 0 (by decide) (hts _ (wg_t kw_157)) (fun _ h9 => h9) (cd := (3, 10, 3)) rfl dSA_sampleBall_1 (fun v21 hv21 => ?_)
  obtain ⟨r21, rfl, kr21⟩ := (show ∃ r : Nat, v21 = .ref r ∧ T r = some (10, 3) from hv21)
  refine lv_iconst (v := nI 3) hx hb dSA_sampleBall_4 (by decide) ?_
  obtain ⟨e21, pl, hP, hD, hk21, hO⟩ := open1 hP hD hO kr21 (nxg hc4 kr21 rfl)
  obtain ⟨ln21, rt21, ps21, x21, rfl, kl21, hr21, hr22, hr23⟩ := hk21
  have kl21 : T ln21 = some (19, 3) := kl21
  obtain ⟨e22, pl, hP, hD, hk22, hO⟩ := open1 hP hD hO kl21 (nmc (knd_ne kl21 kr21 (by decide)) (nxg hc4 kl21 rfl))
  obtain ⟨f21, rfl⟩ := hk22
  have hP : va_P g.1 vcl ([(r21, .inr (3, [.ref ln21, .int (nI rt21), .int x21, .int (nI ps21)])), (ln21, .inl (g.2.1 2, 25, .inr (.inl f21)))] ++ pl) _ := hP
  have hD : va_D _ ([(r21, .inr (3, [.ref ln21, .int (nI rt21), .int x21, .int (nI ps21)])), (ln21, .inl (g.2.1 2, 25, .inr (.inl f21)))] ++ pl) := hD
  refine mp_v (cx := [(r21, .inr (3, [.ref ln21, .int (nI rt21), .int x21, .int (nI ps21)])), (ln21, .inl (g.2.1 2, 25, .inr (.inl f21)))]) (wr := []) hP hD hS hA [0, 1] [] rfl rfl rfl (by decide) (va_runV (As := [.int (nI 3)]) (rest := []) F (t_SP_start_3 l g _ T (ln21 :: (r21 :: xs)) pl hO hU  r21 ln21 rt21 ps21 x21 f21) (cwV 1 hts (wg_app (wg_c kw_687 (wg_c kw_579 (wg_c kw_580 (wg_c kw_2 wg_n)))) kw_581) rfl rfl rfl (by decide +kernel) ⟨by decide, by decide⟩) (pp_V (en_ok g) (q0 := 0) hK hP hD hS hA hE [0, 1] rfl rfl rfl rfl) rfl rfl hl.1 rfl (lv_room (Nat.le_of_ble_eq_true rfl)) dSA_sampleBall_5 ⟨by omega, by omega⟩) (fun  u21 H locs hu21 hP hD hS => ?_)
  obtain ⟨u22, pl⟩ := u21
  obtain ⟨hq21, hO⟩ := hu21
  have hP : va_P g.1 vcl ([(r21, .inr (3, [.ref ln21, .int (nI 136), .int (nI 31), .int (nI 0)])), (ln21, .inl (g.2.1 2, 25, .inr (.inl u22)))] ++ pl) _ := hP
  have hD : va_D _ ([(r21, .inr (3, [.ref ln21, .int (nI 136), .int (nI 31), .int (nI 0)])), (ln21, .inl (g.2.1 2, 25, .inr (.inl u22)))] ++ pl) := hD
  refine W.widen (k := 0) (n := 0) (by omega) (by omega) ?_
  refine lv_aload_n hx hb dSA_sampleBall_8 rfl (lv_at hl 0 rfl) ?_
  refine ty_get (ci := 7) (C := "LatticeKeys$DsaSampler") (TT := T_SA) (N := 2) (kd := (14, 0)) hx hb hts (wg_ft i_SA) hown hK hO k_h0 (nxg (clo_cons (clo_cons hc0 kr21 (by decide)) kl21 (by decide)) k_h0 rfl) hP (fun _ h9 => h9) rfl 0 (by decide) (hts _ (wg_t kw_157)) (fun _ h9 => h9) (cd := (3, 10, 3)) rfl dSA_sampleBall_9 (fun v22 hv22 => ?_)
  obtain ⟨r22, rfl, kr22⟩ := (show ∃ r : Nat, v22 = .ref r ∧ T r = some (10, 3) from hv22)
  obtain rfl : r21 = r22 := hU _ _ _ (by decide) kr21 kr22
  refine lv_aload_n hx hb dSA_sampleBall_12 rfl (lv_at hl 3 rfl) ?_
  refine lv_iconst (v := nI 0) hx hb dSA_sampleBall_13 (by decide) ?_
  refine lv_aload_n hx hb dSA_sampleBall_14 rfl (lv_at hl 1 rfl) ?_
  refine ty_get (ci := 2) (C := "LatticeKeys$DsaSet") (TT := T_DS) (N := 17) (kd := (44, 0)) hx hb hts (wg_ft i_DS) hown hK hO k_st (nxg (clo_cons (clo_cons hc0 kr21 (by decide)) kl21 (by decide)) k_st rfl) hP (fun _ h9 => h9) rfl 5 (by decide) (hts _ (wg_t kw_314)) (fun _ h9 => h9) (cd := (1, 0, 48)) rfl dSA_sampleBall_15 (fun v23 hv23 => ?_)
  obtain rfl := (show v23 = .int (nI 48) from hv23)
  refine mp_v (cx := [(r21, .inr (3, [.ref ln21, .int (nI 136), .int (nI 31), .int (nI 0)])), (ln21, .inl (g.2.1 2, 25, .inr (.inl u22)))]) (wr := []) hP hD hS hA [0, 1] [] rfl rfl rfl (by decide) (va_runV (As := [.ref b, .int (nI 0), .int (nI 48)]) (rest := []) F (t_SP_absorb l g _ T (ln21 :: (r21 :: xs)) pl hO hU (clo_cons (clo_cons hc0 kr21 (by decide)) kl21 (by decide)) b n 0 48 r21 ln21 136 0 (nI 31) u22 k_b (by omega) (by omega) (by omega) (by omega)) (cwV 3 hts (wg_app (wg_c kw_688 (wg_c kw_586 (wg_c kw_587 (wg_c kw_2 wg_n)))) kw_588) rfl rfl rfl (by decide +kernel) ⟨by decide, by decide⟩) (pp_V (en_ok g) (q0 := 0) hK hP hD hS hA hE [0, 1] rfl rfl rfl rfl) rfl rfl hl.1 rfl (lv_room (Nat.le_of_ble_eq_true rfl)) dSA_sampleBall_18 ⟨by omega, by omega⟩) (fun  u23 H locs hu22 hP hD hS => ?_)
  obtain ⟨u24, pl⟩ := u23
  obtain ⟨hq22, hO⟩ := hu22
  obtain ⟨k21, f22⟩ := u24
  have hP : va_P g.1 vcl ([(r21, .inr (3, [.ref ln21, .int (nI 136), .int (nI 31), .int (nI k21)])), (ln21, .inl (g.2.1 2, 25, .inr (.inl f22)))] ++ pl) _ := hP
  have hD : va_D _ ([(r21, .inr (3, [.ref ln21, .int (nI 136), .int (nI 31), .int (nI k21)])), (ln21, .inl (g.2.1 2, 25, .inr (.inl f22)))] ++ pl) := hD
  have hq22 : k21 < 136 := hq22
  refine W.widen (k := 0) (n := 0) (by omega) (by omega) ?_
  refine lv_aload_n hx hb dSA_sampleBall_21 rfl (lv_at hl 0 rfl) ?_
  refine ty_get (ci := 7) (C := "LatticeKeys$DsaSampler") (TT := T_SA) (N := 2) (kd := (14, 0)) hx hb hts (wg_ft i_SA) hown hK hO k_h0 (nxg (clo_cons (clo_cons hc0 kr21 (by decide)) kl21 (by decide)) k_h0 rfl) hP (fun _ h9 => h9) rfl 0 (by decide) (hts _ (wg_t kw_157)) (fun _ h9 => h9) (cd := (3, 10, 3)) rfl dSA_sampleBall_22 (fun v24 hv24 => ?_)
  obtain ⟨r23, rfl, kr23⟩ := (show ∃ r : Nat, v24 = .ref r ∧ T r = some (10, 3) from hv24)
  obtain rfl : r21 = r23 := hU _ _ _ (by decide) kr21 kr23
  refine mp_v (cx := [(r21, .inr (3, [.ref ln21, .int (nI 136), .int (nI 31), .int (nI k21)])), (ln21, .inl (g.2.1 2, 25, .inr (.inl f22)))]) (wr := []) hP hD hS hA [0, 1] [] rfl rfl rfl (by decide) (va_runV (As := []) (rest := []) F (t_SP_finish l g _ T (ln21 :: (r21 :: xs)) pl hO hU  r21 ln21 136 k21 (nI 31) f22 (by omega) (by omega)) (cwV 0 hts (wg_app (wg_c kw_690 (wg_c kw_611 (wg_c kw_612 (wg_c kw_2 wg_n)))) kw_613) rfl rfl rfl (by decide +kernel) ⟨by decide, by decide⟩) (pp_V (en_ok g) (q0 := 0) hK hP hD hS hA hE [0, 1] rfl rfl rfl rfl) rfl rfl hl.1 rfl (lv_room (Nat.le_of_ble_eq_true rfl)) dSA_sampleBall_25 ⟨by omega, by omega⟩) (fun  u25 H locs hu23 hP hD hS => ?_)
  obtain ⟨u26, pl⟩ := u25
  obtain ⟨hq23, hO⟩ := hu23
  have hP : va_P g.1 vcl ([(r21, .inr (3, [.ref ln21, .int (nI 136), .int (nI 31), .int (nI 136)])), (ln21, .inl (g.2.1 2, 25, .inr (.inl u26)))] ++ pl) _ := hP
  have hD : va_D _ ([(r21, .inr (3, [.ref ln21, .int (nI 136), .int (nI 31), .int (nI 136)])), (ln21, .inl (g.2.1 2, 25, .inr (.inl u26)))] ++ pl) := hD
  refine W.widen (k := 0) (n := 0) (by omega) (by omega) ?_
  refine lv_lconst (v := 0) hx hb dSA_sampleBall_28 (by decide) ?_
  refine lv_lstore (lv' := [(4, .long 0), (0, .ref h0), (1, .ref st), (2, .ref f), (3, .ref b)]) hx hb dSA_sampleBall_29 hl (by decide) rfl (fun ls hl => ?_)
  refine lv_iconst (v := nI 0) hx hb dSA_sampleBall_31 (by decide) ?_
  refine lv_istore (lv' := [(6, .int (nI 0)), (4, .long 0), (0, .ref h0), (1, .ref st), (2, .ref f), (3, .ref b)]) hx hb dSA_sampleBall_32 hl (by decide) rfl (fun ls hl => ?_)
  have lp21 : ∀ (n21 : Nat) (i21 : Nat) (y21 : Int64) (ps22 : Nat) (f23 : Nat → Int64) (pl : va_W) (ls : Array Slot) (H : Heap) (locs : List Loc), n21 + i21 = 8 → (ps22 ≤ 136) → lv_has ls 9 [(6, .int (nI i21)), (4, .long y21), (0, .ref h0), (1, .ref st), (2, .ref f)] → okx g T (ln21 :: (r21 :: xs)) pl → va_P g.1 vcl ([(r21, .inr (3, [.ref ln21, .int (nI 136), .int (nI 31), .int (nI ps22)])), (ln21, .inl (g.2.1 2, 25, .inr (.inl f23)))] ++ pl) H → va_D A ([(r21, .inr (3, [.ref ln21, .int (nI 136), .int (nI 31), .int (nI ps22)])), (ln21, .inl (g.2.1 2, 25, .inr (.inl f23)))] ++ pl) → va_S A s.heap H locs → W p l e ({ frames := 3, cells := 0, slots := 0, locals := 100 } : Room) s m args below meth c H locs 0 0 (MQ below (va_Qv (fun (u : va_W) => (True) ∧ okx g T xs u) (po g.1 vcl A (fun (u : va_W) => [] ++ u)) A) args s 0 0 A) (F0 m 34 ls []) := by
    intro n21
    induction n21 with
    | zero =>
      intro i21 y21 ps22 f23 pl ls H locs hm21 hi21 hl hO hP hD hS
      refine lv_iload hx hb dSA_sampleBall_34 (lv_at hl 0 rfl) ?_
      refine lv_bipush (v := nI 8) hx hb dSA_sampleBall_36 (by decide) ?_
      refine mi_ge (tgt := 66) hx hb dSA_sampleBall_38 (by decide) (by omega) (by omega) (fun h21 => ?_) (fun h21 => absurd h21 (by omega))
      refine lv_aload_n hx hb dSA_sampleBall_66 rfl (lv_at hl 4 rfl) ?_
      refine lv_iconst (v := nI 0) hx hb dSA_sampleBall_67 (by decide) ?_
      refine mp_v (cx := []) (wr := [(r21, .inr (3, [.ref ln21, .int (nI 136), .int (nI 31), .int (nI ps22)])), (ln21, .inl (g.2.1 2, 25, .inr (.inl f23)))]) hP hD hS hA [] [0, 1] rfl rfl rfl (by decide) (va_runS (As := [.ref f, .int (nI 0)]) (rest := []) F (t_fillI l g _ T (ln21 :: (r21 :: xs)) pl hO hU (clo_cons (clo_cons hc0 kr21 (by decide)) kl21 (by decide)) f 256 (nI 0) k_f (by omega)) (va_cwS 2 hts (wg_app (wg_c kw_1218 (wg_c kw_717 (wg_c kw_21 wg_n))) kw_718) rfl rfl rfl (by decide +kernel) ⟨by decide, by decide⟩) (pp_S (en_ok g) hP hD hS hA hE [] rfl rfl) rfl rfl hl.1 rfl (lv_room (Nat.le_of_ble_eq_true rfl)) dSA_sampleBall_68 ⟨by omega, by omega⟩) (fun  pl H locs hu24 hP hD hS => ?_)
      obtain ⟨hq24, hO⟩ := hu24
      have hP : va_P g.1 vcl ([(r21, .inr (3, [.ref ln21, .int (nI 136), .int (nI 31), .int (nI ps22)])), (ln21, .inl (g.2.1 2, 25, .inr (.inl f23)))] ++ pl) _ := hP
      have hD : va_D _ ([(r21, .inr (3, [.ref ln21, .int (nI 136), .int (nI 31), .int (nI ps22)])), (ln21, .inl (g.2.1 2, 25, .inr (.inl f23)))] ++ pl) := hD
      refine W.widen (k := 0) (n := 0) (by omega) (by omega) ?_
      refine lv_sipush (v := nI 256) hx hb dSA_sampleBall_71 (by decide) ?_
      refine lv_aload_n hx hb dSA_sampleBall_74 rfl (lv_at hl 3 rfl) ?_
      refine ty_get (ci := 2) (C := "LatticeKeys$DsaSet") (TT := T_DS) (N := 17) (kd := (44, 0)) hx hb hts (wg_ft i_DS) hown hK hO k_st (nxg (clo_cons (clo_cons hc0 kr21 (by decide)) kl21 (by decide)) k_st rfl) hP (fun _ h9 => h9) rfl 4 (by decide) (hts _ (wg_t kw_312)) (fun _ h9 => h9) (cd := (1, 0, 49)) rfl dSA_sampleBall_75 (fun v25 hv25 => ?_)
      obtain rfl := (show v25 = .int (nI 49) from hv25)
      refine mi_isub hx hb dSA_sampleBall_78 (by omega) ?_
      refine mi_as (show nI (256 - 49) = nI 207 from rfl) ?_
      refine lv_istore (lv' := [(6, .int (nI 207)), (4, .long y21), (0, .ref h0), (1, .ref st), (2, .ref f)]) hx hb dSA_sampleBall_79 hl (by decide) rfl (fun ls hl => ?_)
      have lp22 : ∀ (n22 : Nat) (i22 : Nat) (y22 : Int64) (ps23 : Nat) (f24 : Nat → Int64) (pl : va_W) (ls : Array Slot) (H : Heap) (locs : List Loc), n22 + i22 = 256 → (ps23 ≤ 136) → (207 ≤ i22) → lv_has ls 9 [(6, .int (nI i22)), (4, .long y22), (0, .ref h0), (2, .ref f)] → okx g T (ln21 :: (r21 :: xs)) pl → va_P g.1 vcl ([(r21, .inr (3, [.ref ln21, .int (nI 136), .int (nI 31), .int (nI ps23)])), (ln21, .inl (g.2.1 2, 25, .inr (.inl f24)))] ++ pl) H → va_D A ([(r21, .inr (3, [.ref ln21, .int (nI 136), .int (nI 31), .int (nI ps23)])), (ln21, .inl (g.2.1 2, 25, .inr (.inl f24)))] ++ pl) → va_S A s.heap H locs → W p l e ({ frames := 3, cells := 0, slots := 0, locals := 100 } : Room) s m args below meth c H locs 0 0 (MQ below (va_Qv (fun (u : va_W) => (True) ∧ okx g T xs u) (po g.1 vcl A (fun (u : va_W) => [] ++ u)) A) args s 0 0 A) (F0 m 81 ls []) := by
        intro n22
        induction n22 with
        | zero =>
          intro i22 y22 ps23 f24 pl ls H locs hm22 hi22 hi23 hl hO hP hD hS
          refine lv_iload hx hb dSA_sampleBall_81 (lv_at hl 0 rfl) ?_
          refine lv_sipush (v := nI 256) hx hb dSA_sampleBall_83 (by decide) ?_
          refine mi_ge (tgt := 169) hx hb dSA_sampleBall_86 (by decide) (by omega) (by omega) (fun h22 => ?_) (fun h22 => absurd h22 (by omega))
          have hO := close1 (e := .inl (g.2.1 2, 25, .inr (.inl f24))) hO kl21 ⟨_, rfl⟩
          have hO := close1 (e := .inr (3, [.ref ln21, .int (nI 136), .int (nI 31), .int (nI ps23)])) hO kr21 ⟨_, _, _, _, rfl, kl21, by omega, by omega, by omega⟩
          have hO : okx g T xs ((r21, .inr (3, [.ref ln21, .int (nI 136), .int (nI 31), .int (nI ps23)])) :: (ln21, .inl (g.2.1 2, 25, .inr (.inl f24))) :: pl) := hO
          have hP : va_P g.1 vcl ([] ++ ((r21, .inr (3, [.ref ln21, .int (nI 136), .int (nI 31), .int (nI ps23)])) :: (ln21, .inl (g.2.1 2, 25, .inr (.inl f24))) :: pl)) _ := hP
          have hD : va_D _ ([] ++ ((r21, .inr (3, [.ref ln21, .int (nI 136), .int (nI 31), .int (nI ps23)])) :: (ln21, .inl (g.2.1 2, 25, .inr (.inl f24))) :: pl)) := hD
          generalize ((r21, .inr (3, [.ref ln21, .int (nI 136), .int (nI 31), .int (nI ps23)])) :: (ln21, .inl (g.2.1 2, 25, .inr (.inl f24))) :: pl) = pl at hO hP hD
          exact mp_vret hx hb hr hlk hP hD hS pl ⟨trivial, hO⟩ [] rfl rfl rfl (by omega) (by omega) dSA_sampleBall_169
        | succ n22 ih22 =>
          intro i22 y22 ps23 f24 pl ls H locs hm22 hi22 hi23 hl hO hP hD hS
          refine lv_iload hx hb dSA_sampleBall_81 (lv_at hl 0 rfl) ?_
          refine lv_sipush (v := nI 256) hx hb dSA_sampleBall_83 (by decide) ?_
          refine mi_ge (tgt := 169) hx hb dSA_sampleBall_86 (by decide) (by omega) (by omega) (fun h23 => absurd h23 (by omega)) (fun h23 => ?_)
          refine lv_aload_n hx hb dSA_sampleBall_89 rfl (lv_at hl 2 rfl) ?_
          refine ty_get (ci := 7) (C := "LatticeKeys$DsaSampler") (TT := T_SA) (N := 2) (kd := (14, 0)) hx hb hts (wg_ft i_SA) hown hK hO k_h0 (nxg (clo_cons (clo_cons hc0 kr21 (by decide)) kl21 (by decide)) k_h0 rfl) hP (fun _ h9 => h9) rfl 0 (by decide) (hts _ (wg_t kw_157)) (fun _ h9 => h9) (cd := (3, 10, 3)) rfl dSA_sampleBall_90 (fun v26 hv26 => ?_)
          obtain ⟨r24, rfl, kr24⟩ := (show ∃ r : Nat, v26 = .ref r ∧ T r = some (10, 3) from hv26)
          obtain rfl : r21 = r24 := hU _ _ _ (by decide) kr21 kr24
          refine mp_i (cx := [(r21, .inr (3, [.ref ln21, .int (nI 136), .int (nI 31), .int (nI ps23)])), (ln21, .inl (g.2.1 2, 25, .inr (.inl f24)))]) (wr := []) hP hD hS hA [0, 1] [] rfl rfl rfl (by decide) (va_runV (As := []) (rest := []) F (t_SP_nextByte l g _ T (ln21 :: (r21 :: xs)) pl hO hU  r21 ln21 136 ps23 (nI 31) f24 (by omega) (by omega)) (cwV 0 hts (wg_app (wg_c kw_692 (wg_c kw_619 (wg_c kw_620 (wg_c kw_2 wg_n)))) kw_621) rfl rfl rfl (by decide +kernel) ⟨by decide, by decide⟩) (pp_V (en_ok g) (q0 := 0) hK hP hD hS hA hE [0, 1] rfl rfl rfl rfl) rfl rfl hl.1 rfl (lv_room (Nat.le_of_ble_eq_true rfl)) dSA_sampleBall_93 ⟨by omega, by omega⟩) (fun r25 u27 H locs hu25 hP hD hS => ?_)
          obtain ⟨u28, pl⟩ := u27
          obtain ⟨hq25, hO⟩ := hu25
          obtain ⟨k22, f25⟩ := u28
          have hP : va_P g.1 vcl ([(r21, .inr (3, [.ref ln21, .int (nI 136), .int (nI 31), .int (nI k22)])), (ln21, .inl (g.2.1 2, 25, .inr (.inl f25)))] ++ pl) _ := hP
          have hD : va_D _ ([(r21, .inr (3, [.ref ln21, .int (nI 136), .int (nI 31), .int (nI k22)])), (ln21, .inl (g.2.1 2, 25, .inr (.inl f25)))] ++ pl) := hD
          obtain ⟨hq25, z21, hz21, rfl⟩ := (show k22 ≤ 136 ∧ ∃ z : Nat, z < 256 ∧ r25 = nI z from hq25)
          refine W.widen (k := 0) (n := 0) (by omega) (by omega) ?_
          refine lv_istore (lv' := [(7, .int (nI z21)), (6, .int (nI i22)), (4, .long y22), (0, .ref h0), (2, .ref f)]) hx hb dSA_sampleBall_96 hl (by decide) rfl (fun ls hl => ?_)
          refine lv_iconst (v := nI 0) hx hb dSA_sampleBall_98 (by decide) ?_
          refine lv_istore (lv' := [(8, .int (nI 0)), (7, .int (nI z21)), (6, .int (nI i22)), (4, .long y22), (0, .ref h0), (2, .ref f)]) hx hb dSA_sampleBall_99 hl (by decide) rfl (fun ls hl => ?_)
          have lp23 : ∀ (n23 : Nat) (i23 : Nat) (fl21 : Nat) (ps24 : Nat) (f26 : Nat → Int64) (pl : va_W) (ls : Array Slot) (H : Heap) (locs : List Loc), n23 + i23 = 1000000 → (fl21 < 256) → (ps24 ≤ 136) → lv_has ls 9 [(8, .int (nI i23)), (7, .int (nI fl21)), (6, .int (nI i22)), (4, .long y22), (0, .ref h0), (2, .ref f)] → okx g T (ln21 :: (r21 :: xs)) pl → va_P g.1 vcl ([(r21, .inr (3, [.ref ln21, .int (nI 136), .int (nI 31), .int (nI ps24)])), (ln21, .inl (g.2.1 2, 25, .inr (.inl f26)))] ++ pl) H → va_D A ([(r21, .inr (3, [.ref ln21, .int (nI 136), .int (nI 31), .int (nI ps24)])), (ln21, .inl (g.2.1 2, 25, .inr (.inl f26)))] ++ pl) → va_S A s.heap H locs → W p l e ({ frames := 3, cells := 0, slots := 0, locals := 100 } : Room) s m args below meth c H locs 0 0 (MQ below (va_Qv (fun (u : va_W) => (True) ∧ okx g T xs u) (po g.1 vcl A (fun (u : va_W) => [] ++ u)) A) args s 0 0 A) (F0 m 101 ls []) := by
            intro n23
            induction n23 with
            | zero =>
              intro i23 fl21 ps24 f26 pl ls H locs hm23 hi24 hi25 hl hO hP hD hS
              refine lv_iload hx hb dSA_sampleBall_101 (lv_at hl 1 rfl) ?_
              refine lv_iload hx hb dSA_sampleBall_103 (lv_at hl 2 rfl) ?_
              refine mi_le (tgt := 130) hx hb dSA_sampleBall_105 (by decide) (by omega) (by omega) (fun h24 => ?_) (fun h24 => ?_)
              · refine lv_aload_n hx hb dSA_sampleBall_130 rfl (lv_at hl 5 rfl) ?_
                refine lv_iload hx hb dSA_sampleBall_131 (lv_at hl 2 rfl) ?_
                refine lv_aload_n hx hb dSA_sampleBall_133 rfl (lv_at hl 5 rfl) ?_
                refine lv_iload hx hb dSA_sampleBall_134 (lv_at hl 1 rfl) ?_
                refine ty_iald hx hb hK hO k_f (nxg (clo_cons (clo_cons hc0 kr21 (by decide)) kl21 (by decide)) k_f rfl) hP (vp_in_nI (by omega) (by decide)) dSA_sampleBall_136 (fun z22 => ?_)
                refine ty_iast hx hb hK hO k_f (nxg (clo_cons (clo_cons hc0 kr21 (by decide)) kl21 (by decide)) k_f rfl) hP hD hS (vp_in_nI (by omega) (by decide)) dSA_sampleBall_137 (fun pl H locs hO hP hD hS => ?_)
                refine lv_aload_n hx hb dSA_sampleBall_138 rfl (lv_at hl 5 rfl) ?_
                refine lv_iload hx hb dSA_sampleBall_139 (lv_at hl 1 rfl) ?_
                refine lv_lload hx hb dSA_sampleBall_141 (lv_at hl 3 rfl) ?_
                refine lv_lconst (v := 1) hx hb dSA_sampleBall_143 (by decide) ?_
                refine lv_land hx hb dSA_sampleBall_144 ?_
                refine ml_any (fun y23 => ?_)
                refine lv_lconst (v := 0) hx hb dSA_sampleBall_145 (by decide) ?_
                refine W.lcmp hx hb dSA_sampleBall_146 ?_
                refine mi_any (fun z23 => ?_)
                refine lv_if_ne (tgt := 154) hx hb dSA_sampleBall_147 (by decide) (fun h25 => ?_) (fun h25 => ?_)
                · refine lv_ldc (v := 8380416) hx hb hown (hts _ (wg_t kw_1219)) dSA_sampleBall_154 ?_
                  refine mi_as (show (8380416 : Int32) = nI 8380416 by decide) ?_
                  refine ty_iast hx hb hK hO k_f (nxg (clo_cons (clo_cons hc0 kr21 (by decide)) kl21 (by decide)) k_f rfl) hP hD hS (vp_in_nI (by omega) (by decide)) dSA_sampleBall_156 (fun pl H locs hO hP hD hS => ?_)
                  refine lv_lload hx hb dSA_sampleBall_157 (lv_at hl 3 rfl) ?_
                  refine lv_iconst (v := nI 1) hx hb dSA_sampleBall_159 (by decide) ?_
                  refine lv_lushr hx hb dSA_sampleBall_160 rfl ?_
                  refine ml_any (fun y24 => ?_)
                  refine lv_lstore (lv' := [(4, .long y24), (8, .int (nI i23)), (7, .int (nI fl21)), (6, .int (nI i22)), (0, .ref h0), (2, .ref f)]) hx hb dSA_sampleBall_161 hl (by decide) rfl (fun ls hl => ?_)
                  refine mi_iinc (k := 3) (x := i22) (d := 1) (y := i22 + 1) (lv' := [(6, .int (nI (i22 + 1))), (4, .long y24), (8, .int (nI i23)), (7, .int (nI fl21)), (0, .ref h0), (2, .ref f)]) hx hb dSA_sampleBall_163 hl rfl (by decide) rfl (by decide) rfl (fun ls hl => ?_)
                  refine lv_goto (tgt := 81) hx hb dSA_sampleBall_166 (by decide) ?_
                  exact ih22 (i22 + 1) y24 ps24 f26 pl ls H locs (by omega) (by omega) (by omega) (lv_sub hl [0, 1, 4, 5] rfl) hO hP hD hS
                · refine lv_iconst (v := nI 1) hx hb dSA_sampleBall_150 (by decide) ?_
                  refine lv_goto (tgt := 156) hx hb dSA_sampleBall_151 (by decide) ?_
                  refine ty_iast hx hb hK hO k_f (nxg (clo_cons (clo_cons hc0 kr21 (by decide)) kl21 (by decide)) k_f rfl) hP hD hS (vp_in_nI (by omega) (by decide)) dSA_sampleBall_156 (fun pl H locs hO hP hD hS => ?_)
                  refine lv_lload hx hb dSA_sampleBall_157 (lv_at hl 3 rfl) ?_
                  refine lv_iconst (v := nI 1) hx hb dSA_sampleBall_159 (by decide) ?_
                  refine lv_lushr hx hb dSA_sampleBall_160 rfl ?_
                  refine ml_any (fun y25 => ?_)
                  refine lv_lstore (lv' := [(4, .long y25), (8, .int (nI i23)), (7, .int (nI fl21)), (6, .int (nI i22)), (0, .ref h0), (2, .ref f)]) hx hb dSA_sampleBall_161 hl (by decide) rfl (fun ls hl => ?_)
                  refine mi_iinc (k := 3) (x := i22) (d := 1) (y := i22 + 1) (lv' := [(6, .int (nI (i22 + 1))), (4, .long y25), (8, .int (nI i23)), (7, .int (nI fl21)), (0, .ref h0), (2, .ref f)]) hx hb dSA_sampleBall_163 hl rfl (by decide) rfl (by decide) rfl (fun ls hl => ?_)
                  refine lv_goto (tgt := 81) hx hb dSA_sampleBall_166 (by decide) ?_
                  exact ih22 (i22 + 1) y25 ps24 f26 pl ls H locs (by omega) (by omega) (by omega) (lv_sub hl [0, 1, 4, 5] rfl) hO hP hD hS
              · refine lv_iload hx hb dSA_sampleBall_108 (lv_at hl 0 rfl) ?_
                refine lv_ldc (v := 1000000) hx hb hown (hts _ (wg_t kw_691)) dSA_sampleBall_110 ?_
                refine mi_as (show (1000000 : Int32) = nI 1000000 by decide) ?_
                refine mi_ge (tgt := 130) hx hb dSA_sampleBall_112 (by decide) (by omega) (by omega) (fun h26 => ?_) (fun h26 => absurd h26 (by omega))
                refine lv_aload_n hx hb dSA_sampleBall_130 rfl (lv_at hl 5 rfl) ?_
                refine lv_iload hx hb dSA_sampleBall_131 (lv_at hl 2 rfl) ?_
                refine lv_aload_n hx hb dSA_sampleBall_133 rfl (lv_at hl 5 rfl) ?_
                refine lv_iload hx hb dSA_sampleBall_134 (lv_at hl 1 rfl) ?_
                refine ty_iald hx hb hK hO k_f (nxg (clo_cons (clo_cons hc0 kr21 (by decide)) kl21 (by decide)) k_f rfl) hP (vp_in_nI (by omega) (by decide)) dSA_sampleBall_136 (fun z24 => ?_)
                refine ty_iast hx hb hK hO k_f (nxg (clo_cons (clo_cons hc0 kr21 (by decide)) kl21 (by decide)) k_f rfl) hP hD hS (vp_in_nI (by omega) (by decide)) dSA_sampleBall_137 (fun pl H locs hO hP hD hS => ?_)
                refine lv_aload_n hx hb dSA_sampleBall_138 rfl (lv_at hl 5 rfl) ?_
                refine lv_iload hx hb dSA_sampleBall_139 (lv_at hl 1 rfl) ?_
                refine lv_lload hx hb dSA_sampleBall_141 (lv_at hl 3 rfl) ?_
                refine lv_lconst (v := 1) hx hb dSA_sampleBall_143 (by decide) ?_
                refine lv_land hx hb dSA_sampleBall_144 ?_
                refine ml_any (fun y26 => ?_)
                refine lv_lconst (v := 0) hx hb dSA_sampleBall_145 (by decide) ?_
                refine W.lcmp hx hb dSA_sampleBall_146 ?_
                refine mi_any (fun z25 => ?_)
                refine lv_if_ne (tgt := 154) hx hb dSA_sampleBall_147 (by decide) (fun h27 => ?_) (fun h27 => ?_)
                · refine lv_ldc (v := 8380416) hx hb hown (hts _ (wg_t kw_1219)) dSA_sampleBall_154 ?_
                  refine mi_as (show (8380416 : Int32) = nI 8380416 by decide) ?_
                  refine ty_iast hx hb hK hO k_f (nxg (clo_cons (clo_cons hc0 kr21 (by decide)) kl21 (by decide)) k_f rfl) hP hD hS (vp_in_nI (by omega) (by decide)) dSA_sampleBall_156 (fun pl H locs hO hP hD hS => ?_)
                  refine lv_lload hx hb dSA_sampleBall_157 (lv_at hl 3 rfl) ?_
                  refine lv_iconst (v := nI 1) hx hb dSA_sampleBall_159 (by decide) ?_
                  refine lv_lushr hx hb dSA_sampleBall_160 rfl ?_
                  refine ml_any (fun y27 => ?_)
                  refine lv_lstore (lv' := [(4, .long y27), (8, .int (nI i23)), (7, .int (nI fl21)), (6, .int (nI i22)), (0, .ref h0), (2, .ref f)]) hx hb dSA_sampleBall_161 hl (by decide) rfl (fun ls hl => ?_)
                  refine mi_iinc (k := 3) (x := i22) (d := 1) (y := i22 + 1) (lv' := [(6, .int (nI (i22 + 1))), (4, .long y27), (8, .int (nI i23)), (7, .int (nI fl21)), (0, .ref h0), (2, .ref f)]) hx hb dSA_sampleBall_163 hl rfl (by decide) rfl (by decide) rfl (fun ls hl => ?_)
                  refine lv_goto (tgt := 81) hx hb dSA_sampleBall_166 (by decide) ?_
                  exact ih22 (i22 + 1) y27 ps24 f26 pl ls H locs (by omega) (by omega) (by omega) (lv_sub hl [0, 1, 4, 5] rfl) hO hP hD hS
                · refine lv_iconst (v := nI 1) hx hb dSA_sampleBall_150 (by decide) ?_
                  refine lv_goto (tgt := 156) hx hb dSA_sampleBall_151 (by decide) ?_
                  refine ty_iast hx hb hK hO k_f (nxg (clo_cons (clo_cons hc0 kr21 (by decide)) kl21 (by decide)) k_f rfl) hP hD hS (vp_in_nI (by omega) (by decide)) dSA_sampleBall_156 (fun pl H locs hO hP hD hS => ?_)
                  refine lv_lload hx hb dSA_sampleBall_157 (lv_at hl 3 rfl) ?_
                  refine lv_iconst (v := nI 1) hx hb dSA_sampleBall_159 (by decide) ?_
                  refine lv_lushr hx hb dSA_sampleBall_160 rfl ?_
                  refine ml_any (fun y28 => ?_)
                  refine lv_lstore (lv' := [(4, .long y28), (8, .int (nI i23)), (7, .int (nI fl21)), (6, .int (nI i22)), (0, .ref h0), (2, .ref f)]) hx hb dSA_sampleBall_161 hl (by decide) rfl (fun ls hl => ?_)
                  refine mi_iinc (k := 3) (x := i22) (d := 1) (y := i22 + 1) (lv' := [(6, .int (nI (i22 + 1))), (4, .long y28), (8, .int (nI i23)), (7, .int (nI fl21)), (0, .ref h0), (2, .ref f)]) hx hb dSA_sampleBall_163 hl rfl (by decide) rfl (by decide) rfl (fun ls hl => ?_)
                  refine lv_goto (tgt := 81) hx hb dSA_sampleBall_166 (by decide) ?_
                  exact ih22 (i22 + 1) y28 ps24 f26 pl ls H locs (by omega) (by omega) (by omega) (lv_sub hl [0, 1, 4, 5] rfl) hO hP hD hS
            | succ n23 ih23 =>
              intro i23 fl21 ps24 f26 pl ls H locs hm23 hi24 hi25 hl hO hP hD hS
              refine lv_iload hx hb dSA_sampleBall_101 (lv_at hl 1 rfl) ?_
              refine lv_iload hx hb dSA_sampleBall_103 (lv_at hl 2 rfl) ?_
              refine mi_le (tgt := 130) hx hb dSA_sampleBall_105 (by decide) (by omega) (by omega) (fun h28 => ?_) (fun h28 => ?_)
              · refine lv_aload_n hx hb dSA_sampleBall_130 rfl (lv_at hl 5 rfl) ?_
                refine lv_iload hx hb dSA_sampleBall_131 (lv_at hl 2 rfl) ?_
                refine lv_aload_n hx hb dSA_sampleBall_133 rfl (lv_at hl 5 rfl) ?_
                refine lv_iload hx hb dSA_sampleBall_134 (lv_at hl 1 rfl) ?_
                refine ty_iald hx hb hK hO k_f (nxg (clo_cons (clo_cons hc0 kr21 (by decide)) kl21 (by decide)) k_f rfl) hP (vp_in_nI (by omega) (by decide)) dSA_sampleBall_136 (fun z26 => ?_)
                refine ty_iast hx hb hK hO k_f (nxg (clo_cons (clo_cons hc0 kr21 (by decide)) kl21 (by decide)) k_f rfl) hP hD hS (vp_in_nI (by omega) (by decide)) dSA_sampleBall_137 (fun pl H locs hO hP hD hS => ?_)
                refine lv_aload_n hx hb dSA_sampleBall_138 rfl (lv_at hl 5 rfl) ?_
                refine lv_iload hx hb dSA_sampleBall_139 (lv_at hl 1 rfl) ?_
                refine lv_lload hx hb dSA_sampleBall_141 (lv_at hl 3 rfl) ?_
                refine lv_lconst (v := 1) hx hb dSA_sampleBall_143 (by decide) ?_
                refine lv_land hx hb dSA_sampleBall_144 ?_
                refine ml_any (fun y29 => ?_)
                refine lv_lconst (v := 0) hx hb dSA_sampleBall_145 (by decide) ?_
                refine W.lcmp hx hb dSA_sampleBall_146 ?_
                refine mi_any (fun z27 => ?_)
                refine lv_if_ne (tgt := 154) hx hb dSA_sampleBall_147 (by decide) (fun h29 => ?_) (fun h29 => ?_)
                · refine lv_ldc (v := 8380416) hx hb hown (hts _ (wg_t kw_1219)) dSA_sampleBall_154 ?_
                  refine mi_as (show (8380416 : Int32) = nI 8380416 by decide) ?_
                  refine ty_iast hx hb hK hO k_f (nxg (clo_cons (clo_cons hc0 kr21 (by decide)) kl21 (by decide)) k_f rfl) hP hD hS (vp_in_nI (by omega) (by decide)) dSA_sampleBall_156 (fun pl H locs hO hP hD hS => ?_)
                  refine lv_lload hx hb dSA_sampleBall_157 (lv_at hl 3 rfl) ?_
                  refine lv_iconst (v := nI 1) hx hb dSA_sampleBall_159 (by decide) ?_
                  refine lv_lushr hx hb dSA_sampleBall_160 rfl ?_
                  refine ml_any (fun y30 => ?_)
                  refine lv_lstore (lv' := [(4, .long y30), (8, .int (nI i23)), (7, .int (nI fl21)), (6, .int (nI i22)), (0, .ref h0), (2, .ref f)]) hx hb dSA_sampleBall_161 hl (by decide) rfl (fun ls hl => ?_)
                  refine mi_iinc (k := 3) (x := i22) (d := 1) (y := i22 + 1) (lv' := [(6, .int (nI (i22 + 1))), (4, .long y30), (8, .int (nI i23)), (7, .int (nI fl21)), (0, .ref h0), (2, .ref f)]) hx hb dSA_sampleBall_163 hl rfl (by decide) rfl (by decide) rfl (fun ls hl => ?_)
                  refine lv_goto (tgt := 81) hx hb dSA_sampleBall_166 (by decide) ?_
                  exact ih22 (i22 + 1) y30 ps24 f26 pl ls H locs (by omega) (by omega) (by omega) (lv_sub hl [0, 1, 4, 5] rfl) hO hP hD hS
                · refine lv_iconst (v := nI 1) hx hb dSA_sampleBall_150 (by decide) ?_
                  refine lv_goto (tgt := 156) hx hb dSA_sampleBall_151 (by decide) ?_
                  refine ty_iast hx hb hK hO k_f (nxg (clo_cons (clo_cons hc0 kr21 (by decide)) kl21 (by decide)) k_f rfl) hP hD hS (vp_in_nI (by omega) (by decide)) dSA_sampleBall_156 (fun pl H locs hO hP hD hS => ?_)
                  refine lv_lload hx hb dSA_sampleBall_157 (lv_at hl 3 rfl) ?_
                  refine lv_iconst (v := nI 1) hx hb dSA_sampleBall_159 (by decide) ?_
                  refine lv_lushr hx hb dSA_sampleBall_160 rfl ?_
                  refine ml_any (fun y31 => ?_)
                  refine lv_lstore (lv' := [(4, .long y31), (8, .int (nI i23)), (7, .int (nI fl21)), (6, .int (nI i22)), (0, .ref h0), (2, .ref f)]) hx hb dSA_sampleBall_161 hl (by decide) rfl (fun ls hl => ?_)
                  refine mi_iinc (k := 3) (x := i22) (d := 1) (y := i22 + 1) (lv' := [(6, .int (nI (i22 + 1))), (4, .long y31), (8, .int (nI i23)), (7, .int (nI fl21)), (0, .ref h0), (2, .ref f)]) hx hb dSA_sampleBall_163 hl rfl (by decide) rfl (by decide) rfl (fun ls hl => ?_)
                  refine lv_goto (tgt := 81) hx hb dSA_sampleBall_166 (by decide) ?_
                  exact ih22 (i22 + 1) y31 ps24 f26 pl ls H locs (by omega) (by omega) (by omega) (lv_sub hl [0, 1, 4, 5] rfl) hO hP hD hS
              · refine lv_iload hx hb dSA_sampleBall_108 (lv_at hl 0 rfl) ?_
                refine lv_ldc (v := 1000000) hx hb hown (hts _ (wg_t kw_691)) dSA_sampleBall_110 ?_
                refine mi_as (show (1000000 : Int32) = nI 1000000 by decide) ?_
                refine mi_ge (tgt := 130) hx hb dSA_sampleBall_112 (by decide) (by omega) (by omega) (fun h30 => absurd h30 (by omega)) (fun h30 => ?_)
                refine lv_aload_n hx hb dSA_sampleBall_115 rfl (lv_at hl 4 rfl) ?_
                refine ty_get (ci := 7) (C := "LatticeKeys$DsaSampler") (TT := T_SA) (N := 2) (kd := (14, 0)) hx hb hts (wg_ft i_SA) hown hK hO k_h0 (nxg (clo_cons (clo_cons hc0 kr21 (by decide)) kl21 (by decide)) k_h0 rfl) hP (fun _ h9 => h9) rfl 0 (by decide) (hts _ (wg_t kw_157)) (fun _ h9 => h9) (cd := (3, 10, 3)) rfl dSA_sampleBall_116 (fun v27 hv27 => ?_)
                obtain ⟨r26, rfl, kr25⟩ := (show ∃ r : Nat, v27 = .ref r ∧ T r = some (10, 3) from hv27)
                obtain rfl : r21 = r26 := hU _ _ _ (by decide) kr21 kr25
                refine mp_i (cx := [(r21, .inr (3, [.ref ln21, .int (nI 136), .int (nI 31), .int (nI ps24)])), (ln21, .inl (g.2.1 2, 25, .inr (.inl f26)))]) (wr := []) hP hD hS hA [0, 1] [] rfl rfl rfl (by decide) (va_runV (As := []) (rest := []) F (t_SP_nextByte l g _ T (ln21 :: (r21 :: xs)) pl hO hU  r21 ln21 136 ps24 (nI 31) f26 (by omega) (by omega)) (cwV 0 hts (wg_app (wg_c kw_692 (wg_c kw_619 (wg_c kw_620 (wg_c kw_2 wg_n)))) kw_621) rfl rfl rfl (by decide +kernel) ⟨by decide, by decide⟩) (pp_V (en_ok g) (q0 := 0) hK hP hD hS hA hE [0, 1] rfl rfl rfl rfl) rfl rfl hl.1 rfl (lv_room (Nat.le_of_ble_eq_true rfl)) dSA_sampleBall_119 ⟨by omega, by omega⟩) (fun r27 u29 H locs hu26 hP hD hS => ?_)
                obtain ⟨u30, pl⟩ := u29
                obtain ⟨hq26, hO⟩ := hu26
                obtain ⟨k23, f27⟩ := u30
                have hP : va_P g.1 vcl ([(r21, .inr (3, [.ref ln21, .int (nI 136), .int (nI 31), .int (nI k23)])), (ln21, .inl (g.2.1 2, 25, .inr (.inl f27)))] ++ pl) _ := hP
                have hD : va_D _ ([(r21, .inr (3, [.ref ln21, .int (nI 136), .int (nI 31), .int (nI k23)])), (ln21, .inl (g.2.1 2, 25, .inr (.inl f27)))] ++ pl) := hD
                obtain ⟨hq26, z28, hz22, rfl⟩ := (show k23 ≤ 136 ∧ ∃ z : Nat, z < 256 ∧ r27 = nI z from hq26)
                refine W.widen (k := 0) (n := 0) (by omega) (by omega) ?_
                refine lv_istore (lv' := [(7, .int (nI z28)), (8, .int (nI i23)), (6, .int (nI i22)), (4, .long y22), (0, .ref h0), (2, .ref f)]) hx hb dSA_sampleBall_122 hl (by decide) rfl (fun ls hl => ?_)
                refine mi_iinc (k := 1) (x := i23) (d := 1) (y := i23 + 1) (lv' := [(8, .int (nI (i23 + 1))), (7, .int (nI z28)), (6, .int (nI i22)), (4, .long y22), (0, .ref h0), (2, .ref f)]) hx hb dSA_sampleBall_124 hl rfl (by decide) rfl (by decide) rfl (fun ls hl => ?_)
                refine lv_goto (tgt := 101) hx hb dSA_sampleBall_127 (by decide) ?_
                exact ih23 (i23 + 1) z28 k23 f27 pl ls H locs (by omega) (by omega) (by omega) (lv_sub hl [0, 1, 2, 3, 4, 5] rfl) hO hP hD hS
          exact lp23 1000000 0 z21 k22 f25 pl ls _ _ (by omega) (by omega) (by omega) (lv_sub hl [0, 1, 2, 3, 4, 5] rfl) hO hP hD hS
      exact lp22 (256 - 207) 207 y21 ps22 f23 pl ls _ _ (by omega) (by omega) (by omega) (lv_sub hl [0, 1, 2, 4] rfl) hO hP hD hS
    | succ n21 ih21 =>
      intro i21 y21 ps22 f23 pl ls H locs hm21 hi21 hl hO hP hD hS
      refine lv_iload hx hb dSA_sampleBall_34 (lv_at hl 0 rfl) ?_
      refine lv_bipush (v := nI 8) hx hb dSA_sampleBall_36 (by decide) ?_
      refine mi_ge (tgt := 66) hx hb dSA_sampleBall_38 (by decide) (by omega) (by omega) (fun h31 => absurd h31 (by omega)) (fun h31 => ?_)
      refine lv_lload hx hb dSA_sampleBall_41 (lv_at hl 1 rfl) ?_
      refine lv_aload_n hx hb dSA_sampleBall_43 rfl (lv_at hl 2 rfl) ?_
      refine ty_get (ci := 7) (C := "LatticeKeys$DsaSampler") (TT := T_SA) (N := 2) (kd := (14, 0)) hx hb hts (wg_ft i_SA) hown hK hO k_h0 (nxg (clo_cons (clo_cons hc0 kr21 (by decide)) kl21 (by decide)) k_h0 rfl) hP (fun _ h9 => h9) rfl 0 (by decide) (hts _ (wg_t kw_157)) (fun _ h9 => h9) (cd := (3, 10, 3)) rfl dSA_sampleBall_44 (fun v28 hv28 => ?_)
      obtain ⟨r28, rfl, kr26⟩ := (show ∃ r : Nat, v28 = .ref r ∧ T r = some (10, 3) from hv28)
      obtain rfl : r21 = r28 := hU _ _ _ (by decide) kr21 kr26
      refine mp_i (cx := [(r21, .inr (3, [.ref ln21, .int (nI 136), .int (nI 31), .int (nI ps22)])), (ln21, .inl (g.2.1 2, 25, .inr (.inl f23)))]) (wr := []) hP hD hS hA [0, 1] [] rfl rfl rfl (by decide) (va_runV (As := []) (rest := [.long y21]) F (t_SP_nextByte l g _ T (ln21 :: (r21 :: xs)) pl hO hU  r21 ln21 136 ps22 (nI 31) f23 (by omega) (by omega)) (cwV 0 hts (wg_app (wg_c kw_692 (wg_c kw_619 (wg_c kw_620 (wg_c kw_2 wg_n)))) kw_621) rfl rfl rfl (by decide +kernel) ⟨by decide, by decide⟩) (pp_V (en_ok g) (q0 := 0) hK hP hD hS hA hE [0, 1] rfl rfl rfl rfl) rfl rfl hl.1 rfl (lv_room (Nat.le_of_ble_eq_true rfl)) dSA_sampleBall_47 ⟨by omega, by omega⟩) (fun r29 u31 H locs hu27 hP hD hS => ?_)
      obtain ⟨u32, pl⟩ := u31
      obtain ⟨hq27, hO⟩ := hu27
      obtain ⟨k24, f28⟩ := u32
      have hP : va_P g.1 vcl ([(r21, .inr (3, [.ref ln21, .int (nI 136), .int (nI 31), .int (nI k24)])), (ln21, .inl (g.2.1 2, 25, .inr (.inl f28)))] ++ pl) _ := hP
      have hD : va_D _ ([(r21, .inr (3, [.ref ln21, .int (nI 136), .int (nI 31), .int (nI k24)])), (ln21, .inl (g.2.1 2, 25, .inr (.inl f28)))] ++ pl) := hD
      obtain ⟨hq27, z29, hz23, rfl⟩ := (show k24 ≤ 136 ∧ ∃ z : Nat, z < 256 ∧ r29 = nI z from hq27)
      refine W.widen (k := 0) (n := 0) (by omega) (by omega) ?_
      refine lv_i2l hx hb dSA_sampleBall_50 rfl ?_
      refine ml_any (fun y32 => ?_)
      refine lv_bipush (v := nI 8) hx hb dSA_sampleBall_51 (by decide) ?_
      refine lv_iload hx hb dSA_sampleBall_53 (lv_at hl 0 rfl) ?_
      refine mi_imul hx hb dSA_sampleBall_55 ?_
      refine lv_lshl hx hb dSA_sampleBall_56 rfl ?_
      refine ml_any (fun y33 => ?_)
      refine lv_lor hx hb dSA_sampleBall_57 ?_
      refine ml_any (fun y34 => ?_)
      refine lv_lstore (lv' := [(4, .long y34), (6, .int (nI i21)), (0, .ref h0), (1, .ref st), (2, .ref f)]) hx hb dSA_sampleBall_58 hl (by decide) rfl (fun ls hl => ?_)
      refine mi_iinc (k := 1) (x := i21) (d := 1) (y := i21 + 1) (lv' := [(6, .int (nI (i21 + 1))), (4, .long y34), (0, .ref h0), (1, .ref st), (2, .ref f)]) hx hb dSA_sampleBall_60 hl rfl (by decide) rfl (by decide) rfl (fun ls hl => ?_)
      refine lv_goto (tgt := 34) hx hb dSA_sampleBall_63 (by decide) ?_
      exact ih21 (i21 + 1) y34 k24 f28 pl ls H locs (by omega) (by omega) (lv_sub hl [0, 1, 2, 3, 4] rfl) hO hP hD hS
  exact lp21 8 0 0 136 u26 pl ls _ _ (by omega) (by omega) (lv_sub hl [0, 1, 2, 3, 4] rfl) hO hP hD hS
set_option maxHeartbeats 400000 in
set_option maxRecDepth 100000 in
theorem t_SA_sampleBall_2 (l : Launch) (g : Gd) (sz : Nat) (T : Ty) (xs : List Nat) (pl : va_W) (hO : okx g T xs pl) (hU : uni T) (hc0 : clo T xs 0) (hc4 : clo T xs 4) (h0 st f b n : Nat) (k_h0 : T h0 = some (14, 0)) (k_st : T st = some (45, 0)) (k_f : T f = some (0, 256)) (k_b : T b = some (1, n)) (h1 : 64 ≤ n) (h2 : n < 65536)  : Met l y_SA_sampleBall w_SA_sampleBall ({ frames := 3, cells := 0, slots := 0, locals := 100 } : Room) (va_Pc [.ref h0, .ref st, .ref f, .ref b] (pr (en g) g.1 vcl sz ([] ++ pl))) (va_Qv (fun (u : va_W) => (True) ∧ okx g T xs u) (po g.1 vcl (va_A ([] ++ pl) sz) (fun (u : va_W) => [] ++ u)) (va_A ([] ++ pl) sz)) 0 0 (va_A ([] ++ pl) sz) := by
  refine mc_entry (cc := c_SA_sampleBall) (maxL := 9) (ret := none) (by decide) rfl (Nat.le_of_ble_eq_true rfl) ?_
  intro p e s m args below meth c ls F hr hlk hnm hsz hP hD hE hA hl
  obtain ⟨hx, hb, hml, hown, hts⟩ := id F
  have hK := hE.1
  generalize va_A ([] ++ pl) sz = A at hD hE hA ⊢
  have hS : va_S A s.heap s.heap [] := va_S.rf
  have hl : lv_has ls 9 [(0, .ref h0), (1, .ref st), (2, .ref f), (3, .ref b)] := hl
  refine lv_aload_n hx hb dSA_sampleBall_0 rfl (lv_at hl 0 rfl) ?_
  refine ty_get (ci := 7) (C := "LatticeKeys$DsaSampler") (TT := T_SA) (N := 2) (kd := (14, 0)) hx hb hts (wg_ft i_SA) hown hK hO k_h0 (nxg hc0 k_h0 rfl) hP (fun _ h9 => h9) rfl 0 (by decide) (hts _ (wg_t kw_157)) (fun _ h9 => h9) (cd := (3, 10, 3)) rfl dSA_sampleBall_1 (fun v21 hv21 => ?_)
  obtain ⟨r21, rfl, kr21⟩ := (show ∃ r : Nat, v21 = .ref r ∧ T r = some (10, 3) from hv21)
  refine lv_iconst (v := nI 3) hx hb dSA_sampleBall_4 (by decide) ?_
  obtain ⟨e21, pl, hP, hD, hk21, hO⟩ := open1 hP hD hO kr21 (nxg hc4 kr21 rfl)
  obtain ⟨ln21, rt21, ps21, x21, rfl, kl21, hr21, hr22, hr23⟩ := hk21
  have kl21 : T ln21 = some (19, 3) := kl21
  obtain ⟨e22, pl, hP, hD, hk22, hO⟩ := open1 hP hD hO kl21 (nmc (knd_ne kl21 kr21 (by decide)) (nxg hc4 kl21 rfl))
  obtain ⟨f21, rfl⟩ := hk22
  have hP : va_P g.1 vcl ([(r21, .inr (3, [.ref ln21, .int (nI rt21), .int x21, .int (nI ps21)])), (ln21, .inl (g.2.1 2, 25, .inr (.inl f21)))] ++ pl) _ := hP
  have hD : va_D _ ([(r21, .inr (3, [.ref ln21, .int (nI rt21), .int x21, .int (nI ps21)])), (ln21, .inl (g.2.1 2, 25, .inr (.inl f21)))] ++ pl) := hD
  refine mp_v (cx := [(r21, .inr (3, [.ref ln21, .int (nI rt21), .int x21, .int (nI ps21)])), (ln21, .inl (g.2.1 2, 25, .inr (.inl f21)))]) (wr := []) hP hD hS hA [0, 1] [] rfl rfl rfl (by decide) (va_runV (As := [.int (nI 3)]) (rest := []) F (t_SP_start_3 l g _ T (ln21 :: (r21 :: xs)) pl hO hU  r21 ln21 rt21 ps21 x21 f21) (cwV 1 hts (wg_app (wg_c kw_687 (wg_c kw_579 (wg_c kw_580 (wg_c kw_2 wg_n)))) kw_581) rfl rfl rfl (by decide +kernel) ⟨by decide, by decide⟩) (pp_V (en_ok g) (q0 := 0) hK hP hD hS hA hE [0, 1] rfl rfl rfl rfl) rfl rfl hl.1 rfl (lv_room (Nat.le_of_ble_eq_true rfl)) dSA_sampleBall_5 ⟨by omega, by omega⟩) (fun  u21 H locs hu21 hP hD hS => ?_)
  obtain ⟨u22, pl⟩ := u21
  obtain ⟨hq21, hO⟩ := hu21
  have hP : va_P g.1 vcl ([(r21, .inr (3, [.ref ln21, .int (nI 136), .int (nI 31), .int (nI 0)])), (ln21, .inl (g.2.1 2, 25, .inr (.inl u22)))] ++ pl) _ := hP
  have hD : va_D _ ([(r21, .inr (3, [.ref ln21, .int (nI 136), .int (nI 31), .int (nI 0)])), (ln21, .inl (g.2.1 2, 25, .inr (.inl u22)))] ++ pl) := hD
  refine W.widen (k := 0) (n := 0) (by omega) (by omega) ?_
  refine lv_aload_n hx hb dSA_sampleBall_8 rfl (lv_at hl 0 rfl) ?_
  refine ty_get (ci := 7) (C := "LatticeKeys$DsaSampler") (TT := T_SA) (N := 2) (kd := (14, 0)) hx hb hts (wg_ft i_SA) hown hK hO k_h0 (nxg (clo_cons (clo_cons hc0 kr21 (by decide)) kl21 (by decide)) k_h0 rfl) hP (fun _ h9 => h9) rfl 0 (by decide) (hts _ (wg_t kw_157)) (fun _ h9 => h9) (cd := (3, 10, 3)) rfl dSA_sampleBall_9 (fun v22 hv22 => ?_)
  obtain ⟨r22, rfl, kr22⟩ := (show ∃ r : Nat, v22 = .ref r ∧ T r = some (10, 3) from hv22)
  obtain rfl : r21 = r22 := hU _ _ _ (by decide) kr21 kr22
  refine lv_aload_n hx hb dSA_sampleBall_12 rfl (lv_at hl 3 rfl) ?_
  refine lv_iconst (v := nI 0) hx hb dSA_sampleBall_13 (by decide) ?_
  refine lv_aload_n hx hb dSA_sampleBall_14 rfl (lv_at hl 1 rfl) ?_
  refine ty_get (ci := 2) (C := "LatticeKeys$DsaSet") (TT := T_DS) (N := 17) (kd := (45, 0)) hx hb hts (wg_ft i_DS) hown hK hO k_st (nxg (clo_cons (clo_cons hc0 kr21 (by decide)) kl21 (by decide)) k_st rfl) hP (fun _ h9 => h9) rfl 5 (by decide) (hts _ (wg_t kw_314)) (fun _ h9 => h9) (cd := (1, 0, 64)) rfl dSA_sampleBall_15 (fun v23 hv23 => ?_)
  obtain rfl := (show v23 = .int (nI 64) from hv23)
  refine mp_v (cx := [(r21, .inr (3, [.ref ln21, .int (nI 136), .int (nI 31), .int (nI 0)])), (ln21, .inl (g.2.1 2, 25, .inr (.inl u22)))]) (wr := []) hP hD hS hA [0, 1] [] rfl rfl rfl (by decide) (va_runV (As := [.ref b, .int (nI 0), .int (nI 64)]) (rest := []) F (t_SP_absorb l g _ T (ln21 :: (r21 :: xs)) pl hO hU (clo_cons (clo_cons hc0 kr21 (by decide)) kl21 (by decide)) b n 0 64 r21 ln21 136 0 (nI 31) u22 k_b (by omega) (by omega) (by omega) (by omega)) (cwV 3 hts (wg_app (wg_c kw_688 (wg_c kw_586 (wg_c kw_587 (wg_c kw_2 wg_n)))) kw_588) rfl rfl rfl (by decide +kernel) ⟨by decide, by decide⟩) (pp_V (en_ok g) (q0 := 0) hK hP hD hS hA hE [0, 1] rfl rfl rfl rfl) rfl rfl hl.1 rfl (lv_room (Nat.le_of_ble_eq_true rfl)) dSA_sampleBall_18 ⟨by omega, by omega⟩) (fun  u23 H locs hu22 hP hD hS => ?_)
  obtain ⟨u24, pl⟩ := u23
  obtain ⟨hq22, hO⟩ := hu22
  obtain ⟨k21, f22⟩ := u24
  have hP : va_P g.1 vcl ([(r21, .inr (3, [.ref ln21, .int (nI 136), .int (nI 31), .int (nI k21)])), (ln21, .inl (g.2.1 2, 25, .inr (.inl f22)))] ++ pl) _ := hP
  have hD : va_D _ ([(r21, .inr (3, [.ref ln21, .int (nI 136), .int (nI 31), .int (nI k21)])), (ln21, .inl (g.2.1 2, 25, .inr (.inl f22)))] ++ pl) := hD
  have hq22 : k21 < 136 := hq22
  refine W.widen (k := 0) (n := 0) (by omega) (by omega) ?_
  refine lv_aload_n hx hb dSA_sampleBall_21 rfl (lv_at hl 0 rfl) ?_
  refine ty_get (ci := 7) (C := "LatticeKeys$DsaSampler") (TT := T_SA) (N := 2) (kd := (14, 0)) hx hb hts (wg_ft i_SA) hown hK hO k_h0 (nxg (clo_cons (clo_cons hc0 kr21 (by decide)) kl21 (by decide)) k_h0 rfl) hP (fun _ h9 => h9) rfl 0 (by decide) (hts _ (wg_t kw_157)) (fun _ h9 => h9) (cd := (3, 10, 3)) rfl dSA_sampleBall_22 (fun v24 hv24 => ?_)
  obtain ⟨r23, rfl, kr23⟩ := (show ∃ r : Nat, v24 = .ref r ∧ T r = some (10, 3) from hv24)
  obtain rfl : r21 = r23 := hU _ _ _ (by decide) kr21 kr23
  refine mp_v (cx := [(r21, .inr (3, [.ref ln21, .int (nI 136), .int (nI 31), .int (nI k21)])), (ln21, .inl (g.2.1 2, 25, .inr (.inl f22)))]) (wr := []) hP hD hS hA [0, 1] [] rfl rfl rfl (by decide) (va_runV (As := []) (rest := []) F (t_SP_finish l g _ T (ln21 :: (r21 :: xs)) pl hO hU  r21 ln21 136 k21 (nI 31) f22 (by omega) (by omega)) (cwV 0 hts (wg_app (wg_c kw_690 (wg_c kw_611 (wg_c kw_612 (wg_c kw_2 wg_n)))) kw_613) rfl rfl rfl (by decide +kernel) ⟨by decide, by decide⟩) (pp_V (en_ok g) (q0 := 0) hK hP hD hS hA hE [0, 1] rfl rfl rfl rfl) rfl rfl hl.1 rfl (lv_room (Nat.le_of_ble_eq_true rfl)) dSA_sampleBall_25 ⟨by omega, by omega⟩) (fun  u25 H locs hu23 hP hD hS => ?_)
  obtain ⟨u26, pl⟩ := u25
  obtain ⟨hq23, hO⟩ := hu23
  have hP : va_P g.1 vcl ([(r21, .inr (3, [.ref ln21, .int (nI 136), .int (nI 31), .int (nI 136)])), (ln21, .inl (g.2.1 2, 25, .inr (.inl u26)))] ++ pl) _ := hP
  have hD : va_D _ ([(r21, .inr (3, [.ref ln21, .int (nI 136), .int (nI 31), .int (nI 136)])), (ln21, .inl (g.2.1 2, 25, .inr (.inl u26)))] ++ pl) := hD
  refine W.widen (k := 0) (n := 0) (by omega) (by omega) ?_
  refine lv_lconst (v := 0) hx hb dSA_sampleBall_28 (by decide) ?_
  refine lv_lstore (lv' := [(4, .long 0), (0, .ref h0), (1, .ref st), (2, .ref f), (3, .ref b)]) hx hb dSA_sampleBall_29 hl (by decide) rfl (fun ls hl => ?_)
  refine lv_iconst (v := nI 0) hx hb dSA_sampleBall_31 (by decide) ?_
  refine lv_istore (lv' := [(6, .int (nI 0)), (4, .long 0), (0, .ref h0), (1, .ref st), (2, .ref f), (3, .ref b)]) hx hb dSA_sampleBall_32 hl (by decide) rfl (fun ls hl => ?_)
  have lp21 : ∀ (n21 : Nat) (i21 : Nat) (y21 : Int64) (ps22 : Nat) (f23 : Nat → Int64) (pl : va_W) (ls : Array Slot) (H : Heap) (locs : List Loc), n21 + i21 = 8 → (ps22 ≤ 136) → lv_has ls 9 [(6, .int (nI i21)), (4, .long y21), (0, .ref h0), (1, .ref st), (2, .ref f)] → okx g T (ln21 :: (r21 :: xs)) pl → va_P g.1 vcl ([(r21, .inr (3, [.ref ln21, .int (nI 136), .int (nI 31), .int (nI ps22)])), (ln21, .inl (g.2.1 2, 25, .inr (.inl f23)))] ++ pl) H → va_D A ([(r21, .inr (3, [.ref ln21, .int (nI 136), .int (nI 31), .int (nI ps22)])), (ln21, .inl (g.2.1 2, 25, .inr (.inl f23)))] ++ pl) → va_S A s.heap H locs → W p l e ({ frames := 3, cells := 0, slots := 0, locals := 100 } : Room) s m args below meth c H locs 0 0 (MQ below (va_Qv (fun (u : va_W) => (True) ∧ okx g T xs u) (po g.1 vcl A (fun (u : va_W) => [] ++ u)) A) args s 0 0 A) (F0 m 34 ls []) := by
    intro n21
    induction n21 with
    | zero =>
      intro i21 y21 ps22 f23 pl ls H locs hm21 hi21 hl hO hP hD hS
      refine lv_iload hx hb dSA_sampleBall_34 (lv_at hl 0 rfl) ?_
      refine lv_bipush (v := nI 8) hx hb dSA_sampleBall_36 (by decide) ?_
      refine mi_ge (tgt := 66) hx hb dSA_sampleBall_38 (by decide) (by omega) (by omega) (fun h21 => ?_) (fun h21 => absurd h21 (by omega))
      refine lv_aload_n hx hb dSA_sampleBall_66 rfl (lv_at hl 4 rfl) ?_
      refine lv_iconst (v := nI 0) hx hb dSA_sampleBall_67 (by decide) ?_
      refine mp_v (cx := []) (wr := [(r21, .inr (3, [.ref ln21, .int (nI 136), .int (nI 31), .int (nI ps22)])), (ln21, .inl (g.2.1 2, 25, .inr (.inl f23)))]) hP hD hS hA [] [0, 1] rfl rfl rfl (by decide) (va_runS (As := [.ref f, .int (nI 0)]) (rest := []) F (t_fillI l g _ T (ln21 :: (r21 :: xs)) pl hO hU (clo_cons (clo_cons hc0 kr21 (by decide)) kl21 (by decide)) f 256 (nI 0) k_f (by omega)) (va_cwS 2 hts (wg_app (wg_c kw_1218 (wg_c kw_717 (wg_c kw_21 wg_n))) kw_718) rfl rfl rfl (by decide +kernel) ⟨by decide, by decide⟩) (pp_S (en_ok g) hP hD hS hA hE [] rfl rfl) rfl rfl hl.1 rfl (lv_room (Nat.le_of_ble_eq_true rfl)) dSA_sampleBall_68 ⟨by omega, by omega⟩) (fun  pl H locs hu24 hP hD hS => ?_)
      obtain ⟨hq24, hO⟩ := hu24
      have hP : va_P g.1 vcl ([(r21, .inr (3, [.ref ln21, .int (nI 136), .int (nI 31), .int (nI ps22)])), (ln21, .inl (g.2.1 2, 25, .inr (.inl f23)))] ++ pl) _ := hP
      have hD : va_D _ ([(r21, .inr (3, [.ref ln21, .int (nI 136), .int (nI 31), .int (nI ps22)])), (ln21, .inl (g.2.1 2, 25, .inr (.inl f23)))] ++ pl) := hD
      refine W.widen (k := 0) (n := 0) (by omega) (by omega) ?_
      refine lv_sipush (v := nI 256) hx hb dSA_sampleBall_71 (by decide) ?_
      refine lv_aload_n hx hb dSA_sampleBall_74 rfl (lv_at hl 3 rfl) ?_
      refine ty_get (ci := 2) (C := "LatticeKeys$DsaSet") (TT := T_DS) (N := 17) (kd := (45, 0)) hx hb hts (wg_ft i_DS) hown hK hO k_st (nxg (clo_cons (clo_cons hc0 kr21 (by decide)) kl21 (by decide)) k_st rfl) hP (fun _ h9 => h9) rfl 4 (by decide) (hts _ (wg_t kw_312)) (fun _ h9 => h9) (cd := (1, 0, 60)) rfl dSA_sampleBall_75 (fun v25 hv25 => ?_)
      obtain rfl := (show v25 = .int (nI 60) from hv25)
      refine mi_isub hx hb dSA_sampleBall_78 (by omega) ?_
      refine mi_as (show nI (256 - 60) = nI 196 from rfl) ?_
      refine lv_istore (lv' := [(6, .int (nI 196)), (4, .long y21), (0, .ref h0), (1, .ref st), (2, .ref f)]) hx hb dSA_sampleBall_79 hl (by decide) rfl (fun ls hl => ?_)
      have lp22 : ∀ (n22 : Nat) (i22 : Nat) (y22 : Int64) (ps23 : Nat) (f24 : Nat → Int64) (pl : va_W) (ls : Array Slot) (H : Heap) (locs : List Loc), n22 + i22 = 256 → (ps23 ≤ 136) → (196 ≤ i22) → lv_has ls 9 [(6, .int (nI i22)), (4, .long y22), (0, .ref h0), (2, .ref f)] → okx g T (ln21 :: (r21 :: xs)) pl → va_P g.1 vcl ([(r21, .inr (3, [.ref ln21, .int (nI 136), .int (nI 31), .int (nI ps23)])), (ln21, .inl (g.2.1 2, 25, .inr (.inl f24)))] ++ pl) H → va_D A ([(r21, .inr (3, [.ref ln21, .int (nI 136), .int (nI 31), .int (nI ps23)])), (ln21, .inl (g.2.1 2, 25, .inr (.inl f24)))] ++ pl) → va_S A s.heap H locs → W p l e ({ frames := 3, cells := 0, slots := 0, locals := 100 } : Room) s m args below meth c H locs 0 0 (MQ below (va_Qv (fun (u : va_W) => (True) ∧ okx g T xs u) (po g.1 vcl A (fun (u : va_W) => [] ++ u)) A) args s 0 0 A) (F0 m 81 ls []) := by
        intro n22
        induction n22 with
        | zero =>
          intro i22 y22 ps23 f24 pl ls H locs hm22 hi22 hi23 hl hO hP hD hS
          refine lv_iload hx hb dSA_sampleBall_81 (lv_at hl 0 rfl) ?_
          refine lv_sipush (v := nI 256) hx hb dSA_sampleBall_83 (by decide) ?_
          refine mi_ge (tgt := 169) hx hb dSA_sampleBall_86 (by decide) (by omega) (by omega) (fun h22 => ?_) (fun h22 => absurd h22 (by omega))
          have hO := close1 (e := .inl (g.2.1 2, 25, .inr (.inl f24))) hO kl21 ⟨_, rfl⟩
          have hO := close1 (e := .inr (3, [.ref ln21, .int (nI 136), .int (nI 31), .int (nI ps23)])) hO kr21 ⟨_, _, _, _, rfl, kl21, by omega, by omega, by omega⟩
          have hO : okx g T xs ((r21, .inr (3, [.ref ln21, .int (nI 136), .int (nI 31), .int (nI ps23)])) :: (ln21, .inl (g.2.1 2, 25, .inr (.inl f24))) :: pl) := hO
          have hP : va_P g.1 vcl ([] ++ ((r21, .inr (3, [.ref ln21, .int (nI 136), .int (nI 31), .int (nI ps23)])) :: (ln21, .inl (g.2.1 2, 25, .inr (.inl f24))) :: pl)) _ := hP
          have hD : va_D _ ([] ++ ((r21, .inr (3, [.ref ln21, .int (nI 136), .int (nI 31), .int (nI ps23)])) :: (ln21, .inl (g.2.1 2, 25, .inr (.inl f24))) :: pl)) := hD
          generalize ((r21, .inr (3, [.ref ln21, .int (nI 136), .int (nI 31), .int (nI ps23)])) :: (ln21, .inl (g.2.1 2, 25, .inr (.inl f24))) :: pl) = pl at hO hP hD
          exact mp_vret hx hb hr hlk hP hD hS pl ⟨trivial, hO⟩ [] rfl rfl rfl (by omega) (by omega) dSA_sampleBall_169
        | succ n22 ih22 =>
          intro i22 y22 ps23 f24 pl ls H locs hm22 hi22 hi23 hl hO hP hD hS
          refine lv_iload hx hb dSA_sampleBall_81 (lv_at hl 0 rfl) ?_
          refine lv_sipush (v := nI 256) hx hb dSA_sampleBall_83 (by decide) ?_
          refine mi_ge (tgt := 169) hx hb dSA_sampleBall_86 (by decide) (by omega) (by omega) (fun h23 => absurd h23 (by omega)) (fun h23 => ?_)
          refine lv_aload_n hx hb dSA_sampleBall_89 rfl (lv_at hl 2 rfl) ?_
          refine ty_get (ci := 7) (C := "LatticeKeys$DsaSampler") (TT := T_SA) (N := 2) (kd := (14, 0)) hx hb hts (wg_ft i_SA) hown hK hO k_h0 (nxg (clo_cons (clo_cons hc0 kr21 (by decide)) kl21 (by decide)) k_h0 rfl) hP (fun _ h9 => h9) rfl 0 (by decide) (hts _ (wg_t kw_157)) (fun _ h9 => h9) (cd := (3, 10, 3)) rfl dSA_sampleBall_90 (fun v26 hv26 => ?_)
          obtain ⟨r24, rfl, kr24⟩ := (show ∃ r : Nat, v26 = .ref r ∧ T r = some (10, 3) from hv26)
          obtain rfl : r21 = r24 := hU _ _ _ (by decide) kr21 kr24
          refine mp_i (cx := [(r21, .inr (3, [.ref ln21, .int (nI 136), .int (nI 31), .int (nI ps23)])), (ln21, .inl (g.2.1 2, 25, .inr (.inl f24)))]) (wr := []) hP hD hS hA [0, 1] [] rfl rfl rfl (by decide) (va_runV (As := []) (rest := []) F (t_SP_nextByte l g _ T (ln21 :: (r21 :: xs)) pl hO hU  r21 ln21 136 ps23 (nI 31) f24 (by omega) (by omega)) (cwV 0 hts (wg_app (wg_c kw_692 (wg_c kw_619 (wg_c kw_620 (wg_c kw_2 wg_n)))) kw_621) rfl rfl rfl (by decide +kernel) ⟨by decide, by decide⟩) (pp_V (en_ok g) (q0 := 0) hK hP hD hS hA hE [0, 1] rfl rfl rfl rfl) rfl rfl hl.1 rfl (lv_room (Nat.le_of_ble_eq_true rfl)) dSA_sampleBall_93 ⟨by omega, by omega⟩) (fun r25 u27 H locs hu25 hP hD hS => ?_)
          obtain ⟨u28, pl⟩ := u27
          obtain ⟨hq25, hO⟩ := hu25
          obtain ⟨k22, f25⟩ := u28
          have hP : va_P g.1 vcl ([(r21, .inr (3, [.ref ln21, .int (nI 136), .int (nI 31), .int (nI k22)])), (ln21, .inl (g.2.1 2, 25, .inr (.inl f25)))] ++ pl) _ := hP
          have hD : va_D _ ([(r21, .inr (3, [.ref ln21, .int (nI 136), .int (nI 31), .int (nI k22)])), (ln21, .inl (g.2.1 2, 25, .inr (.inl f25)))] ++ pl) := hD
          obtain ⟨hq25, z21, hz21, rfl⟩ := (show k22 ≤ 136 ∧ ∃ z : Nat, z < 256 ∧ r25 = nI z from hq25)
          refine W.widen (k := 0) (n := 0) (by omega) (by omega) ?_
          refine lv_istore (lv' := [(7, .int (nI z21)), (6, .int (nI i22)), (4, .long y22), (0, .ref h0), (2, .ref f)]) hx hb dSA_sampleBall_96 hl (by decide) rfl (fun ls hl => ?_)
          refine lv_iconst (v := nI 0) hx hb dSA_sampleBall_98 (by decide) ?_
          refine lv_istore (lv' := [(8, .int (nI 0)), (7, .int (nI z21)), (6, .int (nI i22)), (4, .long y22), (0, .ref h0), (2, .ref f)]) hx hb dSA_sampleBall_99 hl (by decide) rfl (fun ls hl => ?_)
          have lp23 : ∀ (n23 : Nat) (i23 : Nat) (fl21 : Nat) (ps24 : Nat) (f26 : Nat → Int64) (pl : va_W) (ls : Array Slot) (H : Heap) (locs : List Loc), n23 + i23 = 1000000 → (fl21 < 256) → (ps24 ≤ 136) → lv_has ls 9 [(8, .int (nI i23)), (7, .int (nI fl21)), (6, .int (nI i22)), (4, .long y22), (0, .ref h0), (2, .ref f)] → okx g T (ln21 :: (r21 :: xs)) pl → va_P g.1 vcl ([(r21, .inr (3, [.ref ln21, .int (nI 136), .int (nI 31), .int (nI ps24)])), (ln21, .inl (g.2.1 2, 25, .inr (.inl f26)))] ++ pl) H → va_D A ([(r21, .inr (3, [.ref ln21, .int (nI 136), .int (nI 31), .int (nI ps24)])), (ln21, .inl (g.2.1 2, 25, .inr (.inl f26)))] ++ pl) → va_S A s.heap H locs → W p l e ({ frames := 3, cells := 0, slots := 0, locals := 100 } : Room) s m args below meth c H locs 0 0 (MQ below (va_Qv (fun (u : va_W) => (True) ∧ okx g T xs u) (po g.1 vcl A (fun (u : va_W) => [] ++ u)) A) args s 0 0 A) (F0 m 101 ls []) := by
            intro n23
            induction n23 with
            | zero =>
              intro i23 fl21 ps24 f26 pl ls H locs hm23 hi24 hi25 hl hO hP hD hS
              refine lv_iload hx hb dSA_sampleBall_101 (lv_at hl 1 rfl) ?_
              refine lv_iload hx hb dSA_sampleBall_103 (lv_at hl 2 rfl) ?_
              refine mi_le (tgt := 130) hx hb dSA_sampleBall_105 (by decide) (by omega) (by omega) (fun h24 => ?_) (fun h24 => ?_)
              · refine lv_aload_n hx hb dSA_sampleBall_130 rfl (lv_at hl 5 rfl) ?_
                refine lv_iload hx hb dSA_sampleBall_131 (lv_at hl 2 rfl) ?_
                refine lv_aload_n hx hb dSA_sampleBall_133 rfl (lv_at hl 5 rfl) ?_
                refine lv_iload hx hb dSA_sampleBall_134 (lv_at hl 1 rfl) ?_
                refine ty_iald hx hb hK hO k_f (nxg (clo_cons (clo_cons hc0 kr21 (by decide)) kl21 (by decide)) k_f rfl) hP (vp_in_nI (by omega) (by decide)) dSA_sampleBall_136 (fun z22 => ?_)
                refine ty_iast hx hb hK hO k_f (nxg (clo_cons (clo_cons hc0 kr21 (by decide)) kl21 (by decide)) k_f rfl) hP hD hS (vp_in_nI (by omega) (by decide)) dSA_sampleBall_137 (fun pl H locs hO hP hD hS => ?_)
                refine lv_aload_n hx hb dSA_sampleBall_138 rfl (lv_at hl 5 rfl) ?_
                refine lv_iload hx hb dSA_sampleBall_139 (lv_at hl 1 rfl) ?_
                refine lv_lload hx hb dSA_sampleBall_141 (lv_at hl 3 rfl) ?_
                refine lv_lconst (v := 1) hx hb dSA_sampleBall_143 (by decide) ?_
                refine lv_land hx hb dSA_sampleBall_144 ?_
                refine ml_any (fun y23 => ?_)
                refine lv_lconst (v := 0) hx hb dSA_sampleBall_145 (by decide) ?_
                refine W.lcmp hx hb dSA_sampleBall_146 ?_
                refine mi_any (fun z23 => ?_)
                refine lv_if_ne (tgt := 154) hx hb dSA_sampleBall_147 (by decide) (fun h25 => ?_) (fun h25 => ?_)
                · refine lv_ldc (v := 8380416) hx hb hown (hts _ (wg_t kw_1219)) dSA_sampleBall_154 ?_
                  refine mi_as (show (8380416 : Int32) = nI 8380416 by decide) ?_
                  refine ty_iast hx hb hK hO k_f (nxg (clo_cons (clo_cons hc0 kr21 (by decide)) kl21 (by decide)) k_f rfl) hP hD hS (vp_in_nI (by omega) (by decide)) dSA_sampleBall_156 (fun pl H locs hO hP hD hS => ?_)
                  refine lv_lload hx hb dSA_sampleBall_157 (lv_at hl 3 rfl) ?_
                  refine lv_iconst (v := nI 1) hx hb dSA_sampleBall_159 (by decide) ?_
                  refine lv_lushr hx hb dSA_sampleBall_160 rfl ?_
                  refine ml_any (fun y24 => ?_)
                  refine lv_lstore (lv' := [(4, .long y24), (8, .int (nI i23)), (7, .int (nI fl21)), (6, .int (nI i22)), (0, .ref h0), (2, .ref f)]) hx hb dSA_sampleBall_161 hl (by decide) rfl (fun ls hl => ?_)
                  refine mi_iinc (k := 3) (x := i22) (d := 1) (y := i22 + 1) (lv' := [(6, .int (nI (i22 + 1))), (4, .long y24), (8, .int (nI i23)), (7, .int (nI fl21)), (0, .ref h0), (2, .ref f)]) hx hb dSA_sampleBall_163 hl rfl (by decide) rfl (by decide) rfl (fun ls hl => ?_)
                  refine lv_goto (tgt := 81) hx hb dSA_sampleBall_166 (by decide) ?_
                  exact ih22 (i22 + 1) y24 ps24 f26 pl ls H locs (by omega) (by omega) (by omega) (lv_sub hl [0, 1, 4, 5] rfl) hO hP hD hS
                · refine lv_iconst (v := nI 1) hx hb dSA_sampleBall_150 (by decide) ?_
                  refine lv_goto (tgt := 156) hx hb dSA_sampleBall_151 (by decide) ?_
                  refine ty_iast hx hb hK hO k_f (nxg (clo_cons (clo_cons hc0 kr21 (by decide)) kl21 (by decide)) k_f rfl) hP hD hS (vp_in_nI (by omega) (by decide)) dSA_sampleBall_156 (fun pl H locs hO hP hD hS => ?_)
                  refine lv_lload hx hb dSA_sampleBall_157 (lv_at hl 3 rfl) ?_
                  refine lv_iconst (v := nI 1) hx hb dSA_sampleBall_159 (by decide) ?_
                  refine lv_lushr hx hb dSA_sampleBall_160 rfl ?_
                  refine ml_any (fun y25 => ?_)
                  refine lv_lstore (lv' := [(4, .long y25), (8, .int (nI i23)), (7, .int (nI fl21)), (6, .int (nI i22)), (0, .ref h0), (2, .ref f)]) hx hb dSA_sampleBall_161 hl (by decide) rfl (fun ls hl => ?_)
                  refine mi_iinc (k := 3) (x := i22) (d := 1) (y := i22 + 1) (lv' := [(6, .int (nI (i22 + 1))), (4, .long y25), (8, .int (nI i23)), (7, .int (nI fl21)), (0, .ref h0), (2, .ref f)]) hx hb dSA_sampleBall_163 hl rfl (by decide) rfl (by decide) rfl (fun ls hl => ?_)
                  refine lv_goto (tgt := 81) hx hb dSA_sampleBall_166 (by decide) ?_
                  exact ih22 (i22 + 1) y25 ps24 f26 pl ls H locs (by omega) (by omega) (by omega) (lv_sub hl [0, 1, 4, 5] rfl) hO hP hD hS
              · refine lv_iload hx hb dSA_sampleBall_108 (lv_at hl 0 rfl) ?_
                refine lv_ldc (v := 1000000) hx hb hown (hts _ (wg_t kw_691)) dSA_sampleBall_110 ?_
                refine mi_as (show (1000000 : Int32) = nI 1000000 by decide) ?_
                refine mi_ge (tgt := 130) hx hb dSA_sampleBall_112 (by decide) (by omega) (by omega) (fun h26 => ?_) (fun h26 => absurd h26 (by omega))
                refine lv_aload_n hx hb dSA_sampleBall_130 rfl (lv_at hl 5 rfl) ?_
                refine lv_iload hx hb dSA_sampleBall_131 (lv_at hl 2 rfl) ?_
                refine lv_aload_n hx hb dSA_sampleBall_133 rfl (lv_at hl 5 rfl) ?_
                refine lv_iload hx hb dSA_sampleBall_134 (lv_at hl 1 rfl) ?_
                refine ty_iald hx hb hK hO k_f (nxg (clo_cons (clo_cons hc0 kr21 (by decide)) kl21 (by decide)) k_f rfl) hP (vp_in_nI (by omega) (by decide)) dSA_sampleBall_136 (fun z24 => ?_)
                refine ty_iast hx hb hK hO k_f (nxg (clo_cons (clo_cons hc0 kr21 (by decide)) kl21 (by decide)) k_f rfl) hP hD hS (vp_in_nI (by omega) (by decide)) dSA_sampleBall_137 (fun pl H locs hO hP hD hS => ?_)
                refine lv_aload_n hx hb dSA_sampleBall_138 rfl (lv_at hl 5 rfl) ?_
                refine lv_iload hx hb dSA_sampleBall_139 (lv_at hl 1 rfl) ?_
                refine lv_lload hx hb dSA_sampleBall_141 (lv_at hl 3 rfl) ?_
                refine lv_lconst (v := 1) hx hb dSA_sampleBall_143 (by decide) ?_
                refine lv_land hx hb dSA_sampleBall_144 ?_
                refine ml_any (fun y26 => ?_)
                refine lv_lconst (v := 0) hx hb dSA_sampleBall_145 (by decide) ?_
                refine W.lcmp hx hb dSA_sampleBall_146 ?_
                refine mi_any (fun z25 => ?_)
                refine lv_if_ne (tgt := 154) hx hb dSA_sampleBall_147 (by decide) (fun h27 => ?_) (fun h27 => ?_)
                · refine lv_ldc (v := 8380416) hx hb hown (hts _ (wg_t kw_1219)) dSA_sampleBall_154 ?_
                  refine mi_as (show (8380416 : Int32) = nI 8380416 by decide) ?_
                  refine ty_iast hx hb hK hO k_f (nxg (clo_cons (clo_cons hc0 kr21 (by decide)) kl21 (by decide)) k_f rfl) hP hD hS (vp_in_nI (by omega) (by decide)) dSA_sampleBall_156 (fun pl H locs hO hP hD hS => ?_)
                  refine lv_lload hx hb dSA_sampleBall_157 (lv_at hl 3 rfl) ?_
                  refine lv_iconst (v := nI 1) hx hb dSA_sampleBall_159 (by decide) ?_
                  refine lv_lushr hx hb dSA_sampleBall_160 rfl ?_
                  refine ml_any (fun y27 => ?_)
                  refine lv_lstore (lv' := [(4, .long y27), (8, .int (nI i23)), (7, .int (nI fl21)), (6, .int (nI i22)), (0, .ref h0), (2, .ref f)]) hx hb dSA_sampleBall_161 hl (by decide) rfl (fun ls hl => ?_)
                  refine mi_iinc (k := 3) (x := i22) (d := 1) (y := i22 + 1) (lv' := [(6, .int (nI (i22 + 1))), (4, .long y27), (8, .int (nI i23)), (7, .int (nI fl21)), (0, .ref h0), (2, .ref f)]) hx hb dSA_sampleBall_163 hl rfl (by decide) rfl (by decide) rfl (fun ls hl => ?_)
                  refine lv_goto (tgt := 81) hx hb dSA_sampleBall_166 (by decide) ?_
                  exact ih22 (i22 + 1) y27 ps24 f26 pl ls H locs (by omega) (by omega) (by omega) (lv_sub hl [0, 1, 4, 5] rfl) hO hP hD hS
                · refine lv_iconst (v := nI 1) hx hb dSA_sampleBall_150 (by decide) ?_
                  refine lv_goto (tgt := 156) hx hb dSA_sampleBall_151 (by decide) ?_
                  refine ty_iast hx hb hK hO k_f (nxg (clo_cons (clo_cons hc0 kr21 (by decide)) kl21 (by decide)) k_f rfl) hP hD hS (vp_in_nI (by omega) (by decide)) dSA_sampleBall_156 (fun pl H locs hO hP hD hS => ?_)
                  refine lv_lload hx hb dSA_sampleBall_157 (lv_at hl 3 rfl) ?_
                  refine lv_iconst (v := nI 1) hx hb dSA_sampleBall_159 (by decide) ?_
                  refine lv_lushr hx hb dSA_sampleBall_160 rfl ?_
                  refine ml_any (fun y28 => ?_)
                  refine lv_lstore (lv' := [(4, .long y28), (8, .int (nI i23)), (7, .int (nI fl21)), (6, .int (nI i22)), (0, .ref h0), (2, .ref f)]) hx hb dSA_sampleBall_161 hl (by decide) rfl (fun ls hl => ?_)
                  refine mi_iinc (k := 3) (x := i22) (d := 1) (y := i22 + 1) (lv' := [(6, .int (nI (i22 + 1))), (4, .long y28), (8, .int (nI i23)), (7, .int (nI fl21)), (0, .ref h0), (2, .ref f)]) hx hb dSA_sampleBall_163 hl rfl (by decide) rfl (by decide) rfl (fun ls hl => ?_)
                  refine lv_goto (tgt := 81) hx hb dSA_sampleBall_166 (by decide) ?_
                  exact ih22 (i22 + 1) y28 ps24 f26 pl ls H locs (by omega) (by omega) (by omega) (lv_sub hl [0, 1, 4, 5] rfl) hO hP hD hS
            | succ n23 ih23 =>
              intro i23 fl21 ps24 f26 pl ls H locs hm23 hi24 hi25 hl hO hP hD hS
              refine lv_iload hx hb dSA_sampleBall_101 (lv_at hl 1 rfl) ?_
              refine lv_iload hx hb dSA_sampleBall_103 (lv_at hl 2 rfl) ?_
              refine mi_le (tgt := 130) hx hb dSA_sampleBall_105 (by decide) (by omega) (by omega) (fun h28 => ?_) (fun h28 => ?_)
              · refine lv_aload_n hx hb dSA_sampleBall_130 rfl (lv_at hl 5 rfl) ?_
                refine lv_iload hx hb dSA_sampleBall_131 (lv_at hl 2 rfl) ?_
                refine lv_aload_n hx hb dSA_sampleBall_133 rfl (lv_at hl 5 rfl) ?_
                refine lv_iload hx hb dSA_sampleBall_134 (lv_at hl 1 rfl) ?_
                refine ty_iald hx hb hK hO k_f (nxg (clo_cons (clo_cons hc0 kr21 (by decide)) kl21 (by decide)) k_f rfl) hP (vp_in_nI (by omega) (by decide)) dSA_sampleBall_136 (fun z26 => ?_)
                refine ty_iast hx hb hK hO k_f (nxg (clo_cons (clo_cons hc0 kr21 (by decide)) kl21 (by decide)) k_f rfl) hP hD hS (vp_in_nI (by omega) (by decide)) dSA_sampleBall_137 (fun pl H locs hO hP hD hS => ?_)
                refine lv_aload_n hx hb dSA_sampleBall_138 rfl (lv_at hl 5 rfl) ?_
                refine lv_iload hx hb dSA_sampleBall_139 (lv_at hl 1 rfl) ?_
                refine lv_lload hx hb dSA_sampleBall_141 (lv_at hl 3 rfl) ?_
                refine lv_lconst (v := 1) hx hb dSA_sampleBall_143 (by decide) ?_
                refine lv_land hx hb dSA_sampleBall_144 ?_
                refine ml_any (fun y29 => ?_)
                refine lv_lconst (v := 0) hx hb dSA_sampleBall_145 (by decide) ?_
                refine W.lcmp hx hb dSA_sampleBall_146 ?_
                refine mi_any (fun z27 => ?_)
                refine lv_if_ne (tgt := 154) hx hb dSA_sampleBall_147 (by decide) (fun h29 => ?_) (fun h29 => ?_)
                · refine lv_ldc (v := 8380416) hx hb hown (hts _ (wg_t kw_1219)) dSA_sampleBall_154 ?_
                  refine mi_as (show (8380416 : Int32) = nI 8380416 by decide) ?_
                  refine ty_iast hx hb hK hO k_f (nxg (clo_cons (clo_cons hc0 kr21 (by decide)) kl21 (by decide)) k_f rfl) hP hD hS (vp_in_nI (by omega) (by decide)) dSA_sampleBall_156 (fun pl H locs hO hP hD hS => ?_)
                  refine lv_lload hx hb dSA_sampleBall_157 (lv_at hl 3 rfl) ?_
                  refine lv_iconst (v := nI 1) hx hb dSA_sampleBall_159 (by decide) ?_
                  refine lv_lushr hx hb dSA_sampleBall_160 rfl ?_
                  refine ml_any (fun y30 => ?_)
                  refine lv_lstore (lv' := [(4, .long y30), (8, .int (nI i23)), (7, .int (nI fl21)), (6, .int (nI i22)), (0, .ref h0), (2, .ref f)]) hx hb dSA_sampleBall_161 hl (by decide) rfl (fun ls hl => ?_)
                  refine mi_iinc (k := 3) (x := i22) (d := 1) (y := i22 + 1) (lv' := [(6, .int (nI (i22 + 1))), (4, .long y30), (8, .int (nI i23)), (7, .int (nI fl21)), (0, .ref h0), (2, .ref f)]) hx hb dSA_sampleBall_163 hl rfl (by decide) rfl (by decide) rfl (fun ls hl => ?_)
                  refine lv_goto (tgt := 81) hx hb dSA_sampleBall_166 (by decide) ?_
                  exact ih22 (i22 + 1) y30 ps24 f26 pl ls H locs (by omega) (by omega) (by omega) (lv_sub hl [0, 1, 4, 5] rfl) hO hP hD hS
                · refine lv_iconst (v := nI 1) hx hb dSA_sampleBall_150 (by decide) ?_
                  refine lv_goto (tgt := 156) hx hb dSA_sampleBall_151 (by decide) ?_
                  refine ty_iast hx hb hK hO k_f (nxg (clo_cons (clo_cons hc0 kr21 (by decide)) kl21 (by decide)) k_f rfl) hP hD hS (vp_in_nI (by omega) (by decide)) dSA_sampleBall_156 (fun pl H locs hO hP hD hS => ?_)
                  refine lv_lload hx hb dSA_sampleBall_157 (lv_at hl 3 rfl) ?_
                  refine lv_iconst (v := nI 1) hx hb dSA_sampleBall_159 (by decide) ?_
                  refine lv_lushr hx hb dSA_sampleBall_160 rfl ?_
                  refine ml_any (fun y31 => ?_)
                  refine lv_lstore (lv' := [(4, .long y31), (8, .int (nI i23)), (7, .int (nI fl21)), (6, .int (nI i22)), (0, .ref h0), (2, .ref f)]) hx hb dSA_sampleBall_161 hl (by decide) rfl (fun ls hl => ?_)
                  refine mi_iinc (k := 3) (x := i22) (d := 1) (y := i22 + 1) (lv' := [(6, .int (nI (i22 + 1))), (4, .long y31), (8, .int (nI i23)), (7, .int (nI fl21)), (0, .ref h0), (2, .ref f)]) hx hb dSA_sampleBall_163 hl rfl (by decide) rfl (by decide) rfl (fun ls hl => ?_)
                  refine lv_goto (tgt := 81) hx hb dSA_sampleBall_166 (by decide) ?_
                  exact ih22 (i22 + 1) y31 ps24 f26 pl ls H locs (by omega) (by omega) (by omega) (lv_sub hl [0, 1, 4, 5] rfl) hO hP hD hS
              · refine lv_iload hx hb dSA_sampleBall_108 (lv_at hl 0 rfl) ?_
                refine lv_ldc (v := 1000000) hx hb hown (hts _ (wg_t kw_691)) dSA_sampleBall_110 ?_
                refine mi_as (show (1000000 : Int32) = nI 1000000 by decide) ?_
                refine mi_ge (tgt := 130) hx hb dSA_sampleBall_112 (by decide) (by omega) (by omega) (fun h30 => absurd h30 (by omega)) (fun h30 => ?_)
                refine lv_aload_n hx hb dSA_sampleBall_115 rfl (lv_at hl 4 rfl) ?_
                refine ty_get (ci := 7) (C := "LatticeKeys$DsaSampler") (TT := T_SA) (N := 2) (kd := (14, 0)) hx hb hts (wg_ft i_SA) hown hK hO k_h0 (nxg (clo_cons (clo_cons hc0 kr21 (by decide)) kl21 (by decide)) k_h0 rfl) hP (fun _ h9 => h9) rfl 0 (by decide) (hts _ (wg_t kw_157)) (fun _ h9 => h9) (cd := (3, 10, 3)) rfl dSA_sampleBall_116 (fun v27 hv27 => ?_)
                obtain ⟨r26, rfl, kr25⟩ := (show ∃ r : Nat, v27 = .ref r ∧ T r = some (10, 3) from hv27)
                obtain rfl : r21 = r26 := hU _ _ _ (by decide) kr21 kr25
                refine mp_i (cx := [(r21, .inr (3, [.ref ln21, .int (nI 136), .int (nI 31), .int (nI ps24)])), (ln21, .inl (g.2.1 2, 25, .inr (.inl f26)))]) (wr := []) hP hD hS hA [0, 1] [] rfl rfl rfl (by decide) (va_runV (As := []) (rest := []) F (t_SP_nextByte l g _ T (ln21 :: (r21 :: xs)) pl hO hU  r21 ln21 136 ps24 (nI 31) f26 (by omega) (by omega)) (cwV 0 hts (wg_app (wg_c kw_692 (wg_c kw_619 (wg_c kw_620 (wg_c kw_2 wg_n)))) kw_621) rfl rfl rfl (by decide +kernel) ⟨by decide, by decide⟩) (pp_V (en_ok g) (q0 := 0) hK hP hD hS hA hE [0, 1] rfl rfl rfl rfl) rfl rfl hl.1 rfl (lv_room (Nat.le_of_ble_eq_true rfl)) dSA_sampleBall_119 ⟨by omega, by omega⟩) (fun r27 u29 H locs hu26 hP hD hS => ?_)
                obtain ⟨u30, pl⟩ := u29
                obtain ⟨hq26, hO⟩ := hu26
                obtain ⟨k23, f27⟩ := u30
                have hP : va_P g.1 vcl ([(r21, .inr (3, [.ref ln21, .int (nI 136), .int (nI 31), .int (nI k23)])), (ln21, .inl (g.2.1 2, 25, .inr (.inl f27)))] ++ pl) _ := hP
                have hD : va_D _ ([(r21, .inr (3, [.ref ln21, .int (nI 136), .int (nI 31), .int (nI k23)])), (ln21, .inl (g.2.1 2, 25, .inr (.inl f27)))] ++ pl) := hD
                obtain ⟨hq26, z28, hz22, rfl⟩ := (show k23 ≤ 136 ∧ ∃ z : Nat, z < 256 ∧ r27 = nI z from hq26)
                refine W.widen (k := 0) (n := 0) (by omega) (by omega) ?_
                refine lv_istore (lv' := [(7, .int (nI z28)), (8, .int (nI i23)), (6, .int (nI i22)), (4, .long y22), (0, .ref h0), (2, .ref f)]) hx hb dSA_sampleBall_122 hl (by decide) rfl (fun ls hl => ?_)
                refine mi_iinc (k := 1) (x := i23) (d := 1) (y := i23 + 1) (lv' := [(8, .int (nI (i23 + 1))), (7, .int (nI z28)), (6, .int (nI i22)), (4, .long y22), (0, .ref h0), (2, .ref f)]) hx hb dSA_sampleBall_124 hl rfl (by decide) rfl (by decide) rfl (fun ls hl => ?_)
                refine lv_goto (tgt := 101) hx hb dSA_sampleBall_127 (by decide) ?_
                exact ih23 (i23 + 1) z28 k23 f27 pl ls H locs (by omega) (by omega) (by omega) (lv_sub hl [0, 1, 2, 3, 4, 5] rfl) hO hP hD hS
          exact lp23 1000000 0 z21 k22 f25 pl ls _ _ (by omega) (by omega) (by omega) (lv_sub hl [0, 1, 2, 3, 4, 5] rfl) hO hP hD hS
      exact lp22 (256 - 196) 196 y21 ps22 f23 pl ls _ _ (by omega) (by omega) (by omega) (lv_sub hl [0, 1, 2, 4] rfl) hO hP hD hS
    | succ n21 ih21 =>
      intro i21 y21 ps22 f23 pl ls H locs hm21 hi21 hl hO hP hD hS
      refine lv_iload hx hb dSA_sampleBall_34 (lv_at hl 0 rfl) ?_
      refine lv_bipush (v := nI 8) hx hb dSA_sampleBall_36 (by decide) ?_
      refine mi_ge (tgt := 66) hx hb dSA_sampleBall_38 (by decide) (by omega) (by omega) (fun h31 => absurd h31 (by omega)) (fun h31 => ?_)
      refine lv_lload hx hb dSA_sampleBall_41 (lv_at hl 1 rfl) ?_
      refine lv_aload_n hx hb dSA_sampleBall_43 rfl (lv_at hl 2 rfl) ?_
      refine ty_get (ci := 7) (C := "LatticeKeys$DsaSampler") (TT := T_SA) (N := 2) (kd := (14, 0)) hx hb hts (wg_ft i_SA) hown hK hO k_h0 (nxg (clo_cons (clo_cons hc0 kr21 (by decide)) kl21 (by decide)) k_h0 rfl) hP (fun _ h9 => h9) rfl 0 (by decide) (hts _ (wg_t kw_157)) (fun _ h9 => h9) (cd := (3, 10, 3)) rfl dSA_sampleBall_44 (fun v28 hv28 => ?_)
      obtain ⟨r28, rfl, kr26⟩ := (show ∃ r : Nat, v28 = .ref r ∧ T r = some (10, 3) from hv28)
      obtain rfl : r21 = r28 := hU _ _ _ (by decide) kr21 kr26
      refine mp_i (cx := [(r21, .inr (3, [.ref ln21, .int (nI 136), .int (nI 31), .int (nI ps22)])), (ln21, .inl (g.2.1 2, 25, .inr (.inl f23)))]) (wr := []) hP hD hS hA [0, 1] [] rfl rfl rfl (by decide) (va_runV (As := []) (rest := [.long y21]) F (t_SP_nextByte l g _ T (ln21 :: (r21 :: xs)) pl hO hU  r21 ln21 136 ps22 (nI 31) f23 (by omega) (by omega)) (cwV 0 hts (wg_app (wg_c kw_692 (wg_c kw_619 (wg_c kw_620 (wg_c kw_2 wg_n)))) kw_621) rfl rfl rfl (by decide +kernel) ⟨by decide, by decide⟩) (pp_V (en_ok g) (q0 := 0) hK hP hD hS hA hE [0, 1] rfl rfl rfl rfl) rfl rfl hl.1 rfl (lv_room (Nat.le_of_ble_eq_true rfl)) dSA_sampleBall_47 ⟨by omega, by omega⟩) (fun r29 u31 H locs hu27 hP hD hS => ?_)
      obtain ⟨u32, pl⟩ := u31
      obtain ⟨hq27, hO⟩ := hu27
      obtain ⟨k24, f28⟩ := u32
      have hP : va_P g.1 vcl ([(r21, .inr (3, [.ref ln21, .int (nI 136), .int (nI 31), .int (nI k24)])), (ln21, .inl (g.2.1 2, 25, .inr (.inl f28)))] ++ pl) _ := hP
      have hD : va_D _ ([(r21, .inr (3, [.ref ln21, .int (nI 136), .int (nI 31), .int (nI k24)])), (ln21, .inl (g.2.1 2, 25, .inr (.inl f28)))] ++ pl) := hD
      obtain ⟨hq27, z29, hz23, rfl⟩ := (show k24 ≤ 136 ∧ ∃ z : Nat, z < 256 ∧ r29 = nI z from hq27)
      refine W.widen (k := 0) (n := 0) (by omega) (by omega) ?_
      refine lv_i2l hx hb dSA_sampleBall_50 rfl ?_
      refine ml_any (fun y32 => ?_)
      refine lv_bipush (v := nI 8) hx hb dSA_sampleBall_51 (by decide) ?_
      refine lv_iload hx hb dSA_sampleBall_53 (lv_at hl 0 rfl) ?_
      refine mi_imul hx hb dSA_sampleBall_55 ?_
      refine lv_lshl hx hb dSA_sampleBall_56 rfl ?_
      refine ml_any (fun y33 => ?_)
      refine lv_lor hx hb dSA_sampleBall_57 ?_
      refine ml_any (fun y34 => ?_)
      refine lv_lstore (lv' := [(4, .long y34), (6, .int (nI i21)), (0, .ref h0), (1, .ref st), (2, .ref f)]) hx hb dSA_sampleBall_58 hl (by decide) rfl (fun ls hl => ?_)
      refine mi_iinc (k := 1) (x := i21) (d := 1) (y := i21 + 1) (lv' := [(6, .int (nI (i21 + 1))), (4, .long y34), (0, .ref h0), (1, .ref st), (2, .ref f)]) hx hb dSA_sampleBall_60 hl rfl (by decide) rfl (by decide) rfl (fun ls hl => ?_)
      refine lv_goto (tgt := 34) hx hb dSA_sampleBall_63 (by decide) ?_
      exact ih21 (i21 + 1) y34 k24 f28 pl ls H locs (by omega) (by omega) (lv_sub hl [0, 1, 2, 3, 4] rfl) hO hP hD hS
  exact lp21 8 0 0 136 u26 pl ls _ _ (by omega) (by omega) (lv_sub hl [0, 1, 2, 3, 4] rfl) hO hP hD hS
