abbrev c_SP_init : ByteArray := prog_10_method_1_code
abbrev y_SP_init : MethodName := ⟨"LatticeKeys$Sponge", "<init>", "()V"⟩
abbrev w_SP_init : List Cond := Cond.code y_SP_init c_SP_init 1 none :: WG
theorem dSP_init_0 : decode c_SP_init 0 = .ok (.aload_n 0, 1) := by decide +kernel
theorem dSP_init_1 : decode c_SP_init 1 = .ok (.invokespecial 1, 3) := by decide +kernel
theorem dSP_init_4 : decode c_SP_init 4 = .ok (.aload_n 0, 1) := by decide +kernel
theorem dSP_init_5 : decode c_SP_init 5 = .ok (.bipush 25, 2) := by decide +kernel
theorem dSP_init_7 : decode c_SP_init 7 = .ok (.newarray .long, 2) := by decide +kernel
theorem dSP_init_9 : decode c_SP_init 9 = .ok (.putfield 7, 3) := by decide +kernel
theorem dSP_init_12 : decode c_SP_init 12 = .ok (.aload_n 0, 1) := by decide +kernel
theorem dSP_init_13 : decode c_SP_init 13 = .ok (.getstatic 13, 3) := by decide +kernel
theorem dSP_init_16 : decode c_SP_init 16 = .ok (.iconst 0, 1) := by decide +kernel
theorem dSP_init_17 : decode c_SP_init 17 = .ok (.iaload, 1) := by decide +kernel
theorem dSP_init_18 : decode c_SP_init 18 = .ok (.putfield 17, 3) := by decide +kernel
theorem dSP_init_21 : decode c_SP_init 21 = .ok (.aload_n 0, 1) := by decide +kernel
theorem dSP_init_22 : decode c_SP_init 22 = .ok (.getstatic 21, 3) := by decide +kernel
theorem dSP_init_25 : decode c_SP_init 25 = .ok (.iconst 0, 1) := by decide +kernel
theorem dSP_init_26 : decode c_SP_init 26 = .ok (.iaload, 1) := by decide +kernel
theorem dSP_init_27 : decode c_SP_init 27 = .ok (.putfield 24, 3) := by decide +kernel
theorem dSP_init_30 : decode c_SP_init 30 = .ok (.aload_n 0, 1) := by decide +kernel
theorem dSP_init_31 : decode c_SP_init 31 = .ok (.iconst 0, 1) := by decide +kernel
theorem dSP_init_32 : decode c_SP_init 32 = .ok (.putfield 27, 3) := by decide +kernel
theorem dSP_init_35 : decode c_SP_init 35 = .ok (.return_, 1) := by decide +kernel
abbrev c_RG_init : ByteArray := prog_9_method_1_code
abbrev y_RG_init : MethodName := ⟨"LatticeKeys$Ring", "<init>", "(III)V"⟩
abbrev w_RG_init : List Cond := Cond.code y_RG_init c_RG_init 8 none :: WG
theorem dRG_init_0 : decode c_RG_init 0 = .ok (.aload_n 0, 1) := by decide +kernel
theorem dRG_init_1 : decode c_RG_init 1 = .ok (.invokespecial 1, 3) := by decide +kernel
theorem dRG_init_4 : decode c_RG_init 4 = .ok (.aload_n 0, 1) := by decide +kernel
theorem dRG_init_5 : decode c_RG_init 5 = .ok (.iload_n 1, 1) := by decide +kernel
theorem dRG_init_6 : decode c_RG_init 6 = .ok (.putfield 7, 3) := by decide +kernel
theorem dRG_init_9 : decode c_RG_init 9 = .ok (.aload_n 0, 1) := by decide +kernel
theorem dRG_init_10 : decode c_RG_init 10 = .ok (.iload_n 3, 1) := by decide +kernel
theorem dRG_init_11 : decode c_RG_init 11 = .ok (.putfield 13, 3) := by decide +kernel
theorem dRG_init_14 : decode c_RG_init 14 = .ok (.iconst 1, 1) := by decide +kernel
theorem dRG_init_15 : decode c_RG_init 15 = .ok (.iload_n 3, 1) := by decide +kernel
theorem dRG_init_16 : decode c_RG_init 16 = .ok (.ishl, 1) := by decide +kernel
theorem dRG_init_17 : decode c_RG_init 17 = .ok (.istore 4, 2) := by decide +kernel
theorem dRG_init_19 : decode c_RG_init 19 = .ok (.aload_n 0, 1) := by decide +kernel
theorem dRG_init_20 : decode c_RG_init 20 = .ok (.iload_n 1, 1) := by decide +kernel
theorem dRG_init_21 : decode c_RG_init 21 = .ok (.iload_n 1, 1) := by decide +kernel
theorem dRG_init_22 : decode c_RG_init 22 = .ok (.iconst 1, 1) := by decide +kernel
theorem dRG_init_23 : decode c_RG_init 23 = .ok (.isub, 1) := by decide +kernel
theorem dRG_init_24 : decode c_RG_init 24 = .ok (.iload 4, 2) := by decide +kernel
theorem dRG_init_26 : decode c_RG_init 26 = .ok (.idiv, 1) := by decide +kernel
theorem dRG_init_27 : decode c_RG_init 27 = .ok (.isub, 1) := by decide +kernel
theorem dRG_init_28 : decode c_RG_init 28 = .ok (.putfield 16, 3) := by decide +kernel
theorem dRG_init_31 : decode c_RG_init 31 = .ok (.aload_n 0, 1) := by decide +kernel
theorem dRG_init_32 : decode c_RG_init 32 = .ok (.iload 4, 2) := by decide +kernel
theorem dRG_init_34 : decode c_RG_init 34 = .ok (.newarray .int, 2) := by decide +kernel
theorem dRG_init_36 : decode c_RG_init 36 = .ok (.putfield 19, 3) := by decide +kernel
theorem dRG_init_39 : decode c_RG_init 39 = .ok (.lconst 1, 1) := by decide +kernel
theorem dRG_init_40 : decode c_RG_init 40 = .ok (.lstore 5, 2) := by decide +kernel
theorem dRG_init_42 : decode c_RG_init 42 = .ok (.iconst 0, 1) := by decide +kernel
theorem dRG_init_43 : decode c_RG_init 43 = .ok (.istore 7, 2) := by decide +kernel
theorem dRG_init_45 : decode c_RG_init 45 = .ok (.iload 7, 2) := by decide +kernel
theorem dRG_init_47 : decode c_RG_init 47 = .ok (.iload 4, 2) := by decide +kernel
theorem dRG_init_49 : decode c_RG_init 49 = .ok (.if_icmp .ge 33, 3) := by decide +kernel
theorem dRG_init_52 : decode c_RG_init 52 = .ok (.aload_n 0, 1) := by decide +kernel
theorem dRG_init_53 : decode c_RG_init 53 = .ok (.getfield 19, 3) := by decide +kernel
theorem dRG_init_56 : decode c_RG_init 56 = .ok (.iload 7, 2) := by decide +kernel
theorem dRG_init_58 : decode c_RG_init 58 = .ok (.iload_n 3, 1) := by decide +kernel
theorem dRG_init_59 : decode c_RG_init 59 = .ok (.invokestatic 23, 3) := by decide +kernel
theorem dRG_init_62 : decode c_RG_init 62 = .ok (.lload 5, 2) := by decide +kernel
theorem dRG_init_64 : decode c_RG_init 64 = .ok (.l2i, 1) := by decide +kernel
theorem dRG_init_65 : decode c_RG_init 65 = .ok (.iastore, 1) := by decide +kernel
theorem dRG_init_66 : decode c_RG_init 66 = .ok (.lload 5, 2) := by decide +kernel
theorem dRG_init_68 : decode c_RG_init 68 = .ok (.iload_n 2, 1) := by decide +kernel
theorem dRG_init_69 : decode c_RG_init 69 = .ok (.i2l, 1) := by decide +kernel
theorem dRG_init_70 : decode c_RG_init 70 = .ok (.lmul, 1) := by decide +kernel
theorem dRG_init_71 : decode c_RG_init 71 = .ok (.iload_n 1, 1) := by decide +kernel
theorem dRG_init_72 : decode c_RG_init 72 = .ok (.i2l, 1) := by decide +kernel
theorem dRG_init_73 : decode c_RG_init 73 = .ok (.lrem, 1) := by decide +kernel
theorem dRG_init_74 : decode c_RG_init 74 = .ok (.lstore 5, 2) := by decide +kernel
theorem dRG_init_76 : decode c_RG_init 76 = .ok (.iinc 7 1, 3) := by decide +kernel
theorem dRG_init_79 : decode c_RG_init 79 = .ok (.goto (-34), 3) := by decide +kernel
theorem dRG_init_82 : decode c_RG_init 82 = .ok (.return_, 1) := by decide +kernel
abbrev c_KS_init : ByteArray := prog_7_method_1_code
abbrev y_KS_init : MethodName := ⟨"LatticeKeys$KemSet", "<init>", "(I)V"⟩
abbrev w_KS_init : List Cond := Cond.code y_KS_init c_KS_init 2 none :: WG
theorem dKS_init_0 : decode c_KS_init 0 = .ok (.aload_n 0, 1) := by decide +kernel
theorem dKS_init_1 : decode c_KS_init 1 = .ok (.invokespecial 1, 3) := by decide +kernel
theorem dKS_init_4 : decode c_KS_init 4 = .ok (.aload_n 0, 1) := by decide +kernel
theorem dKS_init_5 : decode c_KS_init 5 = .ok (.getstatic 7, 3) := by decide +kernel
theorem dKS_init_8 : decode c_KS_init 8 = .ok (.iload_n 1, 1) := by decide +kernel
theorem dKS_init_9 : decode c_KS_init 9 = .ok (.iaload, 1) := by decide +kernel
theorem dKS_init_10 : decode c_KS_init 10 = .ok (.putfield 13, 3) := by decide +kernel
theorem dKS_init_13 : decode c_KS_init 13 = .ok (.aload_n 0, 1) := by decide +kernel
theorem dKS_init_14 : decode c_KS_init 14 = .ok (.getstatic 17, 3) := by decide +kernel
theorem dKS_init_17 : decode c_KS_init 17 = .ok (.iload_n 1, 1) := by decide +kernel
theorem dKS_init_18 : decode c_KS_init 18 = .ok (.iaload, 1) := by decide +kernel
theorem dKS_init_19 : decode c_KS_init 19 = .ok (.putfield 20, 3) := by decide +kernel
theorem dKS_init_22 : decode c_KS_init 22 = .ok (.aload_n 0, 1) := by decide +kernel
theorem dKS_init_23 : decode c_KS_init 23 = .ok (.getstatic 23, 3) := by decide +kernel
theorem dKS_init_26 : decode c_KS_init 26 = .ok (.iload_n 1, 1) := by decide +kernel
theorem dKS_init_27 : decode c_KS_init 27 = .ok (.iaload, 1) := by decide +kernel
theorem dKS_init_28 : decode c_KS_init 28 = .ok (.putfield 26, 3) := by decide +kernel
theorem dKS_init_31 : decode c_KS_init 31 = .ok (.aload_n 0, 1) := by decide +kernel
theorem dKS_init_32 : decode c_KS_init 32 = .ok (.getstatic 29, 3) := by decide +kernel
theorem dKS_init_35 : decode c_KS_init 35 = .ok (.iload_n 1, 1) := by decide +kernel
theorem dKS_init_36 : decode c_KS_init 36 = .ok (.iaload, 1) := by decide +kernel
theorem dKS_init_37 : decode c_KS_init 37 = .ok (.putfield 32, 3) := by decide +kernel
theorem dKS_init_40 : decode c_KS_init 40 = .ok (.aload_n 0, 1) := by decide +kernel
theorem dKS_init_41 : decode c_KS_init 41 = .ok (.sipush 384, 3) := by decide +kernel
theorem dKS_init_44 : decode c_KS_init 44 = .ok (.aload_n 0, 1) := by decide +kernel
theorem dKS_init_45 : decode c_KS_init 45 = .ok (.getfield 13, 3) := by decide +kernel
theorem dKS_init_48 : decode c_KS_init 48 = .ok (.imul, 1) := by decide +kernel
theorem dKS_init_49 : decode c_KS_init 49 = .ok (.bipush 32, 2) := by decide +kernel
theorem dKS_init_51 : decode c_KS_init 51 = .ok (.iadd, 1) := by decide +kernel
theorem dKS_init_52 : decode c_KS_init 52 = .ok (.putfield 37, 3) := by decide +kernel
theorem dKS_init_55 : decode c_KS_init 55 = .ok (.aload_n 0, 1) := by decide +kernel
theorem dKS_init_56 : decode c_KS_init 56 = .ok (.bipush 32, 2) := by decide +kernel
theorem dKS_init_58 : decode c_KS_init 58 = .ok (.aload_n 0, 1) := by decide +kernel
theorem dKS_init_59 : decode c_KS_init 59 = .ok (.getfield 26, 3) := by decide +kernel
theorem dKS_init_62 : decode c_KS_init 62 = .ok (.aload_n 0, 1) := by decide +kernel
theorem dKS_init_63 : decode c_KS_init 63 = .ok (.getfield 13, 3) := by decide +kernel
theorem dKS_init_66 : decode c_KS_init 66 = .ok (.imul, 1) := by decide +kernel
theorem dKS_init_67 : decode c_KS_init 67 = .ok (.aload_n 0, 1) := by decide +kernel
theorem dKS_init_68 : decode c_KS_init 68 = .ok (.getfield 32, 3) := by decide +kernel
theorem dKS_init_71 : decode c_KS_init 71 = .ok (.iadd, 1) := by decide +kernel
theorem dKS_init_72 : decode c_KS_init 72 = .ok (.imul, 1) := by decide +kernel
theorem dKS_init_73 : decode c_KS_init 73 = .ok (.putfield 40, 3) := by decide +kernel
theorem dKS_init_76 : decode c_KS_init 76 = .ok (.aload_n 0, 1) := by decide +kernel
theorem dKS_init_77 : decode c_KS_init 77 = .ok (.sipush 384, 3) := by decide +kernel
theorem dKS_init_80 : decode c_KS_init 80 = .ok (.aload_n 0, 1) := by decide +kernel
theorem dKS_init_81 : decode c_KS_init 81 = .ok (.getfield 13, 3) := by decide +kernel
theorem dKS_init_84 : decode c_KS_init 84 = .ok (.imul, 1) := by decide +kernel
theorem dKS_init_85 : decode c_KS_init 85 = .ok (.putfield 43, 3) := by decide +kernel
theorem dKS_init_88 : decode c_KS_init 88 = .ok (.aload_n 0, 1) := by decide +kernel
theorem dKS_init_89 : decode c_KS_init 89 = .ok (.aload_n 0, 1) := by decide +kernel
theorem dKS_init_90 : decode c_KS_init 90 = .ok (.getfield 43, 3) := by decide +kernel
theorem dKS_init_93 : decode c_KS_init 93 = .ok (.aload_n 0, 1) := by decide +kernel
theorem dKS_init_94 : decode c_KS_init 94 = .ok (.getfield 37, 3) := by decide +kernel
theorem dKS_init_97 : decode c_KS_init 97 = .ok (.iadd, 1) := by decide +kernel
theorem dKS_init_98 : decode c_KS_init 98 = .ok (.putfield 46, 3) := by decide +kernel
theorem dKS_init_101 : decode c_KS_init 101 = .ok (.aload_n 0, 1) := by decide +kernel
theorem dKS_init_102 : decode c_KS_init 102 = .ok (.aload_n 0, 1) := by decide +kernel
theorem dKS_init_103 : decode c_KS_init 103 = .ok (.getfield 46, 3) := by decide +kernel
theorem dKS_init_106 : decode c_KS_init 106 = .ok (.bipush 32, 2) := by decide +kernel
theorem dKS_init_108 : decode c_KS_init 108 = .ok (.iadd, 1) := by decide +kernel
theorem dKS_init_109 : decode c_KS_init 109 = .ok (.putfield 49, 3) := by decide +kernel
theorem dKS_init_112 : decode c_KS_init 112 = .ok (.aload_n 0, 1) := by decide +kernel
theorem dKS_init_113 : decode c_KS_init 113 = .ok (.aload_n 0, 1) := by decide +kernel
theorem dKS_init_114 : decode c_KS_init 114 = .ok (.getfield 49, 3) := by decide +kernel
theorem dKS_init_117 : decode c_KS_init 117 = .ok (.bipush 32, 2) := by decide +kernel
theorem dKS_init_119 : decode c_KS_init 119 = .ok (.iadd, 1) := by decide +kernel
theorem dKS_init_120 : decode c_KS_init 120 = .ok (.putfield 52, 3) := by decide +kernel
theorem dKS_init_123 : decode c_KS_init 123 = .ok (.return_, 1) := by decide +kernel
abbrev c_DS_init : ByteArray := prog_5_method_1_code
abbrev y_DS_init : MethodName := ⟨"LatticeKeys$DsaSet", "<init>", "(I)V"⟩
abbrev w_DS_init : List Cond := Cond.code y_DS_init c_DS_init 2 none :: WG
theorem dDS_init_0 : decode c_DS_init 0 = .ok (.aload_n 0, 1) := by decide +kernel
theorem dDS_init_1 : decode c_DS_init 1 = .ok (.invokespecial 1, 3) := by decide +kernel
theorem dDS_init_4 : decode c_DS_init 4 = .ok (.aload_n 0, 1) := by decide +kernel
theorem dDS_init_5 : decode c_DS_init 5 = .ok (.getstatic 7, 3) := by decide +kernel
theorem dDS_init_8 : decode c_DS_init 8 = .ok (.iload_n 1, 1) := by decide +kernel
theorem dDS_init_9 : decode c_DS_init 9 = .ok (.iaload, 1) := by decide +kernel
theorem dDS_init_10 : decode c_DS_init 10 = .ok (.putfield 13, 3) := by decide +kernel
theorem dDS_init_13 : decode c_DS_init 13 = .ok (.aload_n 0, 1) := by decide +kernel
theorem dDS_init_14 : decode c_DS_init 14 = .ok (.getstatic 17, 3) := by decide +kernel
theorem dDS_init_17 : decode c_DS_init 17 = .ok (.iload_n 1, 1) := by decide +kernel
theorem dDS_init_18 : decode c_DS_init 18 = .ok (.iaload, 1) := by decide +kernel
theorem dDS_init_19 : decode c_DS_init 19 = .ok (.putfield 20, 3) := by decide +kernel
theorem dDS_init_22 : decode c_DS_init 22 = .ok (.aload_n 0, 1) := by decide +kernel
theorem dDS_init_23 : decode c_DS_init 23 = .ok (.getstatic 23, 3) := by decide +kernel
theorem dDS_init_26 : decode c_DS_init 26 = .ok (.iload_n 1, 1) := by decide +kernel
theorem dDS_init_27 : decode c_DS_init 27 = .ok (.iaload, 1) := by decide +kernel
theorem dDS_init_28 : decode c_DS_init 28 = .ok (.putfield 26, 3) := by decide +kernel
theorem dDS_init_31 : decode c_DS_init 31 = .ok (.aload_n 0, 1) := by decide +kernel
theorem dDS_init_32 : decode c_DS_init 32 = .ok (.getstatic 29, 3) := by decide +kernel
theorem dDS_init_35 : decode c_DS_init 35 = .ok (.iload_n 1, 1) := by decide +kernel
theorem dDS_init_36 : decode c_DS_init 36 = .ok (.iaload, 1) := by decide +kernel
theorem dDS_init_37 : decode c_DS_init 37 = .ok (.putfield 32, 3) := by decide +kernel
theorem dDS_init_40 : decode c_DS_init 40 = .ok (.aload_n 0, 1) := by decide +kernel
theorem dDS_init_41 : decode c_DS_init 41 = .ok (.getstatic 35, 3) := by decide +kernel
theorem dDS_init_44 : decode c_DS_init 44 = .ok (.iload_n 1, 1) := by decide +kernel
theorem dDS_init_45 : decode c_DS_init 45 = .ok (.iaload, 1) := by decide +kernel
theorem dDS_init_46 : decode c_DS_init 46 = .ok (.putfield 38, 3) := by decide +kernel
theorem dDS_init_49 : decode c_DS_init 49 = .ok (.aload_n 0, 1) := by decide +kernel
theorem dDS_init_50 : decode c_DS_init 50 = .ok (.getstatic 41, 3) := by decide +kernel
theorem dDS_init_53 : decode c_DS_init 53 = .ok (.iload_n 1, 1) := by decide +kernel
theorem dDS_init_54 : decode c_DS_init 54 = .ok (.iaload, 1) := by decide +kernel
theorem dDS_init_55 : decode c_DS_init 55 = .ok (.putfield 44, 3) := by decide +kernel
theorem dDS_init_58 : decode c_DS_init 58 = .ok (.aload_n 0, 1) := by decide +kernel
theorem dDS_init_59 : decode c_DS_init 59 = .ok (.getstatic 47, 3) := by decide +kernel
theorem dDS_init_62 : decode c_DS_init 62 = .ok (.iload_n 1, 1) := by decide +kernel
theorem dDS_init_63 : decode c_DS_init 63 = .ok (.iaload, 1) := by decide +kernel
theorem dDS_init_64 : decode c_DS_init 64 = .ok (.putfield 50, 3) := by decide +kernel
theorem dDS_init_67 : decode c_DS_init 67 = .ok (.aload_n 0, 1) := by decide +kernel
theorem dDS_init_68 : decode c_DS_init 68 = .ok (.iconst 1, 1) := by decide +kernel
theorem dDS_init_69 : decode c_DS_init 69 = .ok (.aload_n 0, 1) := by decide +kernel
theorem dDS_init_70 : decode c_DS_init 70 = .ok (.getfield 50, 3) := by decide +kernel
theorem dDS_init_73 : decode c_DS_init 73 = .ok (.iconst 1, 1) := by decide +kernel
theorem dDS_init_74 : decode c_DS_init 74 = .ok (.isub, 1) := by decide +kernel
theorem dDS_init_75 : decode c_DS_init 75 = .ok (.ishl, 1) := by decide +kernel
theorem dDS_init_76 : decode c_DS_init 76 = .ok (.putfield 53, 3) := by decide +kernel
theorem dDS_init_79 : decode c_DS_init 79 = .ok (.aload_n 0, 1) := by decide +kernel
theorem dDS_init_80 : decode c_DS_init 80 = .ok (.getstatic 56, 3) := by decide +kernel
theorem dDS_init_83 : decode c_DS_init 83 = .ok (.iload_n 1, 1) := by decide +kernel
theorem dDS_init_84 : decode c_DS_init 84 = .ok (.iaload, 1) := by decide +kernel
theorem dDS_init_85 : decode c_DS_init 85 = .ok (.putfield 59, 3) := by decide +kernel
theorem dDS_init_88 : decode c_DS_init 88 = .ok (.aload_n 0, 1) := by decide +kernel
theorem dDS_init_89 : decode c_DS_init 89 = .ok (.getstatic 62, 3) := by decide +kernel
theorem dDS_init_92 : decode c_DS_init 92 = .ok (.iload_n 1, 1) := by decide +kernel
theorem dDS_init_93 : decode c_DS_init 93 = .ok (.iaload, 1) := by decide +kernel
theorem dDS_init_94 : decode c_DS_init 94 = .ok (.putfield 65, 3) := by decide +kernel
theorem dDS_init_97 : decode c_DS_init 97 = .ok (.aload_n 0, 1) := by decide +kernel
theorem dDS_init_98 : decode c_DS_init 98 = .ok (.ldc 70, 2) := by decide +kernel
theorem dDS_init_100 : decode c_DS_init 100 = .ok (.aload_n 0, 1) := by decide +kernel
theorem dDS_init_101 : decode c_DS_init 101 = .ok (.getfield 59, 3) := by decide +kernel
theorem dDS_init_104 : decode c_DS_init 104 = .ok (.idiv, 1) := by decide +kernel
theorem dDS_init_105 : decode c_DS_init 105 = .ok (.iconst 2, 1) := by decide +kernel
theorem dDS_init_106 : decode c_DS_init 106 = .ok (.idiv, 1) := by decide +kernel
theorem dDS_init_107 : decode c_DS_init 107 = .ok (.putfield 71, 3) := by decide +kernel
theorem dDS_init_110 : decode c_DS_init 110 = .ok (.aload_n 0, 1) := by decide +kernel
theorem dDS_init_111 : decode c_DS_init 111 = .ok (.getstatic 74, 3) := by decide +kernel
theorem dDS_init_114 : decode c_DS_init 114 = .ok (.iload_n 1, 1) := by decide +kernel
theorem dDS_init_115 : decode c_DS_init 115 = .ok (.iaload, 1) := by decide +kernel
theorem dDS_init_116 : decode c_DS_init 116 = .ok (.putfield 77, 3) := by decide +kernel
theorem dDS_init_119 : decode c_DS_init 119 = .ok (.aload_n 0, 1) := by decide +kernel
theorem dDS_init_120 : decode c_DS_init 120 = .ok (.aload_n 0, 1) := by decide +kernel
theorem dDS_init_121 : decode c_DS_init 121 = .ok (.getfield 38, 3) := by decide +kernel
theorem dDS_init_124 : decode c_DS_init 124 = .ok (.aload_n 0, 1) := by decide +kernel
theorem dDS_init_125 : decode c_DS_init 125 = .ok (.getfield 26, 3) := by decide +kernel
theorem dDS_init_128 : decode c_DS_init 128 = .ok (.imul, 1) := by decide +kernel
theorem dDS_init_129 : decode c_DS_init 129 = .ok (.putfield 80, 3) := by decide +kernel
theorem dDS_init_132 : decode c_DS_init 132 = .ok (.aload_n 0, 1) := by decide +kernel
theorem dDS_init_133 : decode c_DS_init 133 = .ok (.bipush 32, 2) := by decide +kernel
theorem dDS_init_135 : decode c_DS_init 135 = .ok (.sipush 320, 3) := by decide +kernel
theorem dDS_init_138 : decode c_DS_init 138 = .ok (.aload_n 0, 1) := by decide +kernel
theorem dDS_init_139 : decode c_DS_init 139 = .ok (.getfield 13, 3) := by decide +kernel
theorem dDS_init_142 : decode c_DS_init 142 = .ok (.imul, 1) := by decide +kernel
theorem dDS_init_143 : decode c_DS_init 143 = .ok (.iadd, 1) := by decide +kernel
theorem dDS_init_144 : decode c_DS_init 144 = .ok (.putfield 83, 3) := by decide +kernel
theorem dDS_init_147 : decode c_DS_init 147 = .ok (.aload_n 0, 1) := by decide +kernel
theorem dDS_init_148 : decode c_DS_init 148 = .ok (.sipush 128, 3) := by decide +kernel
theorem dDS_init_151 : decode c_DS_init 151 = .ok (.bipush 32, 2) := by decide +kernel
theorem dDS_init_153 : decode c_DS_init 153 = .ok (.aload_n 0, 1) := by decide +kernel
theorem dDS_init_154 : decode c_DS_init 154 = .ok (.getfield 32, 3) := by decide +kernel
theorem dDS_init_157 : decode c_DS_init 157 = .ok (.aload_n 0, 1) := by decide +kernel
theorem dDS_init_158 : decode c_DS_init 158 = .ok (.getfield 13, 3) := by decide +kernel
theorem dDS_init_161 : decode c_DS_init 161 = .ok (.aload_n 0, 1) := by decide +kernel
theorem dDS_init_162 : decode c_DS_init 162 = .ok (.getfield 20, 3) := by decide +kernel
theorem dDS_init_165 : decode c_DS_init 165 = .ok (.iadd, 1) := by decide +kernel
theorem dDS_init_166 : decode c_DS_init 166 = .ok (.imul, 1) := by decide +kernel
theorem dDS_init_167 : decode c_DS_init 167 = .ok (.bipush 13, 2) := by decide +kernel
theorem dDS_init_169 : decode c_DS_init 169 = .ok (.aload_n 0, 1) := by decide +kernel
theorem dDS_init_170 : decode c_DS_init 170 = .ok (.getfield 13, 3) := by decide +kernel
theorem dDS_init_173 : decode c_DS_init 173 = .ok (.imul, 1) := by decide +kernel
theorem dDS_init_174 : decode c_DS_init 174 = .ok (.iadd, 1) := by decide +kernel
theorem dDS_init_175 : decode c_DS_init 175 = .ok (.imul, 1) := by decide +kernel
theorem dDS_init_176 : decode c_DS_init 176 = .ok (.iadd, 1) := by decide +kernel
theorem dDS_init_177 : decode c_DS_init 177 = .ok (.putfield 86, 3) := by decide +kernel
theorem dDS_init_180 : decode c_DS_init 180 = .ok (.aload_n 0, 1) := by decide +kernel
theorem dDS_init_181 : decode c_DS_init 181 = .ok (.aload_n 0, 1) := by decide +kernel
theorem dDS_init_182 : decode c_DS_init 182 = .ok (.getfield 44, 3) := by decide +kernel
theorem dDS_init_185 : decode c_DS_init 185 = .ok (.bipush 32, 2) := by decide +kernel
theorem dDS_init_187 : decode c_DS_init 187 = .ok (.aload_n 0, 1) := by decide +kernel
theorem dDS_init_188 : decode c_DS_init 188 = .ok (.getfield 50, 3) := by decide +kernel
theorem dDS_init_191 : decode c_DS_init 191 = .ok (.imul, 1) := by decide +kernel
theorem dDS_init_192 : decode c_DS_init 192 = .ok (.aload_n 0, 1) := by decide +kernel
theorem dDS_init_193 : decode c_DS_init 193 = .ok (.getfield 20, 3) := by decide +kernel
theorem dDS_init_196 : decode c_DS_init 196 = .ok (.imul, 1) := by decide +kernel
theorem dDS_init_197 : decode c_DS_init 197 = .ok (.iadd, 1) := by decide +kernel
theorem dDS_init_198 : decode c_DS_init 198 = .ok (.putfield 89, 3) := by decide +kernel
theorem dDS_init_201 : decode c_DS_init 201 = .ok (.aload_n 0, 1) := by decide +kernel
theorem dDS_init_202 : decode c_DS_init 202 = .ok (.aload_n 0, 1) := by decide +kernel
theorem dDS_init_203 : decode c_DS_init 203 = .ok (.getfield 89, 3) := by decide +kernel
theorem dDS_init_206 : decode c_DS_init 206 = .ok (.aload_n 0, 1) := by decide +kernel
theorem dDS_init_207 : decode c_DS_init 207 = .ok (.getfield 77, 3) := by decide +kernel
theorem dDS_init_210 : decode c_DS_init 210 = .ok (.iadd, 1) := by decide +kernel
theorem dDS_init_211 : decode c_DS_init 211 = .ok (.aload_n 0, 1) := by decide +kernel
theorem dDS_init_212 : decode c_DS_init 212 = .ok (.getfield 13, 3) := by decide +kernel
theorem dDS_init_215 : decode c_DS_init 215 = .ok (.iadd, 1) := by decide +kernel
theorem dDS_init_216 : decode c_DS_init 216 = .ok (.putfield 92, 3) := by decide +kernel
theorem dDS_init_219 : decode c_DS_init 219 = .ok (.return_, 1) := by decide +kernel
abbrev c_SA_init : ByteArray := prog_4_method_1_code
abbrev y_SA_init : MethodName := ⟨"LatticeKeys$DsaSampler", "<init>", "()V"⟩
abbrev w_SA_init : List Cond := Cond.code y_SA_init c_SA_init 1 none :: WG
theorem dSA_init_0 : decode c_SA_init 0 = .ok (.aload_n 0, 1) := by decide +kernel
theorem dSA_init_1 : decode c_SA_init 1 = .ok (.invokespecial 1, 3) := by decide +kernel
theorem dSA_init_4 : decode c_SA_init 4 = .ok (.aload_n 0, 1) := by decide +kernel
theorem dSA_init_5 : decode c_SA_init 5 = .ok (.new 7, 3) := by decide +kernel
theorem dSA_init_8 : decode c_SA_init 8 = .ok (.dup, 1) := by decide +kernel
theorem dSA_init_9 : decode c_SA_init 9 = .ok (.invokespecial 9, 3) := by decide +kernel
theorem dSA_init_12 : decode c_SA_init 12 = .ok (.putfield 10, 3) := by decide +kernel
theorem dSA_init_15 : decode c_SA_init 15 = .ok (.aload_n 0, 1) := by decide +kernel
theorem dSA_init_16 : decode c_SA_init 16 = .ok (.sipush 640, 3) := by decide +kernel
theorem dSA_init_19 : decode c_SA_init 19 = .ok (.newarray .byte, 2) := by decide +kernel
theorem dSA_init_21 : decode c_SA_init 21 = .ok (.putfield 16, 3) := by decide +kernel
theorem dSA_init_24 : decode c_SA_init 24 = .ok (.return_, 1) := by decide +kernel
abbrev c_KM_init : ByteArray := prog_6_method_1_code
abbrev y_KM_init : MethodName := ⟨"LatticeKeys$Kem", "<init>", "()V"⟩
abbrev w_KM_init : List Cond := Cond.code y_KM_init c_KM_init 1 none :: WG
theorem dKM_init_0 : decode c_KM_init 0 = .ok (.aload_n 0, 1) := by decide +kernel
theorem dKM_init_1 : decode c_KM_init 1 = .ok (.invokespecial 1, 3) := by decide +kernel
theorem dKM_init_4 : decode c_KM_init 4 = .ok (.aload_n 0, 1) := by decide +kernel
theorem dKM_init_5 : decode c_KM_init 5 = .ok (.new 7, 3) := by decide +kernel
theorem dKM_init_8 : decode c_KM_init 8 = .ok (.dup, 1) := by decide +kernel
theorem dKM_init_9 : decode c_KM_init 9 = .ok (.invokespecial 9, 3) := by decide +kernel
theorem dKM_init_12 : decode c_KM_init 12 = .ok (.putfield 10, 3) := by decide +kernel
theorem dKM_init_15 : decode c_KM_init 15 = .ok (.aload_n 0, 1) := by decide +kernel
theorem dKM_init_16 : decode c_KM_init 16 = .ok (.new 16, 3) := by decide +kernel
theorem dKM_init_19 : decode c_KM_init 19 = .ok (.dup, 1) := by decide +kernel
theorem dKM_init_20 : decode c_KM_init 20 = .ok (.sipush 3329, 3) := by decide +kernel
theorem dKM_init_23 : decode c_KM_init 23 = .ok (.bipush 17, 2) := by decide +kernel
theorem dKM_init_25 : decode c_KM_init 25 = .ok (.bipush 7, 2) := by decide +kernel
theorem dKM_init_27 : decode c_KM_init 27 = .ok (.invokespecial 18, 3) := by decide +kernel
theorem dKM_init_30 : decode c_KM_init 30 = .ok (.putfield 21, 3) := by decide +kernel
theorem dKM_init_33 : decode c_KM_init 33 = .ok (.aload_n 0, 1) := by decide +kernel
theorem dKM_init_34 : decode c_KM_init 34 = .ok (.iconst 4, 1) := by decide +kernel
theorem dKM_init_35 : decode c_KM_init 35 = .ok (.sipush 256, 3) := by decide +kernel
theorem dKM_init_38 : decode c_KM_init 38 = .ok (.multianewarray 25 2, 4) := by decide +kernel
theorem dKM_init_42 : decode c_KM_init 42 = .ok (.putfield 27, 3) := by decide +kernel
theorem dKM_init_45 : decode c_KM_init 45 = .ok (.aload_n 0, 1) := by decide +kernel
theorem dKM_init_46 : decode c_KM_init 46 = .ok (.sipush 256, 3) := by decide +kernel
theorem dKM_init_49 : decode c_KM_init 49 = .ok (.newarray .int, 2) := by decide +kernel
theorem dKM_init_51 : decode c_KM_init 51 = .ok (.putfield 30, 3) := by decide +kernel
theorem dKM_init_54 : decode c_KM_init 54 = .ok (.aload_n 0, 1) := by decide +kernel
theorem dKM_init_55 : decode c_KM_init 55 = .ok (.sipush 256, 3) := by decide +kernel
theorem dKM_init_58 : decode c_KM_init 58 = .ok (.newarray .int, 2) := by decide +kernel
theorem dKM_init_60 : decode c_KM_init 60 = .ok (.putfield 34, 3) := by decide +kernel
theorem dKM_init_63 : decode c_KM_init 63 = .ok (.aload_n 0, 1) := by decide +kernel
theorem dKM_init_64 : decode c_KM_init 64 = .ok (.bipush 32, 2) := by decide +kernel
theorem dKM_init_66 : decode c_KM_init 66 = .ok (.newarray .byte, 2) := by decide +kernel
theorem dKM_init_68 : decode c_KM_init 68 = .ok (.putfield 37, 3) := by decide +kernel
theorem dKM_init_71 : decode c_KM_init 71 = .ok (.aload_n 0, 1) := by decide +kernel
theorem dKM_init_72 : decode c_KM_init 72 = .ok (.bipush 32, 2) := by decide +kernel
theorem dKM_init_74 : decode c_KM_init 74 = .ok (.newarray .byte, 2) := by decide +kernel
theorem dKM_init_76 : decode c_KM_init 76 = .ok (.putfield 41, 3) := by decide +kernel
theorem dKM_init_79 : decode c_KM_init 79 = .ok (.aload_n 0, 1) := by decide +kernel
theorem dKM_init_80 : decode c_KM_init 80 = .ok (.bipush 64, 2) := by decide +kernel
theorem dKM_init_82 : decode c_KM_init 82 = .ok (.newarray .byte, 2) := by decide +kernel
theorem dKM_init_84 : decode c_KM_init 84 = .ok (.putfield 44, 3) := by decide +kernel
theorem dKM_init_87 : decode c_KM_init 87 = .ok (.aload_n 0, 1) := by decide +kernel
theorem dKM_init_88 : decode c_KM_init 88 = .ok (.sipush 192, 3) := by decide +kernel
theorem dKM_init_91 : decode c_KM_init 91 = .ok (.newarray .byte, 2) := by decide +kernel
theorem dKM_init_93 : decode c_KM_init 93 = .ok (.putfield 47, 3) := by decide +kernel
theorem dKM_init_96 : decode c_KM_init 96 = .ok (.aload_n 0, 1) := by decide +kernel
theorem dKM_init_97 : decode c_KM_init 97 = .ok (.sipush 1568, 3) := by decide +kernel
theorem dKM_init_100 : decode c_KM_init 100 = .ok (.newarray .byte, 2) := by decide +kernel
theorem dKM_init_102 : decode c_KM_init 102 = .ok (.putfield 50, 3) := by decide +kernel
theorem dKM_init_105 : decode c_KM_init 105 = .ok (.return_, 1) := by decide +kernel
abbrev c_DA_init : ByteArray := prog_3_method_1_code
abbrev y_DA_init : MethodName := ⟨"LatticeKeys$Dsa", "<init>", "()V"⟩
abbrev w_DA_init : List Cond := Cond.code y_DA_init c_DA_init 1 none :: WG
theorem dDA_init_0 : decode c_DA_init 0 = .ok (.aload_n 0, 1) := by decide +kernel
theorem dDA_init_1 : decode c_DA_init 1 = .ok (.invokespecial 1, 3) := by decide +kernel
theorem dDA_init_4 : decode c_DA_init 4 = .ok (.aload_n 0, 1) := by decide +kernel
theorem dDA_init_5 : decode c_DA_init 5 = .ok (.new 7, 3) := by decide +kernel
theorem dDA_init_8 : decode c_DA_init 8 = .ok (.dup, 1) := by decide +kernel
theorem dDA_init_9 : decode c_DA_init 9 = .ok (.invokespecial 9, 3) := by decide +kernel
theorem dDA_init_12 : decode c_DA_init 12 = .ok (.putfield 10, 3) := by decide +kernel
theorem dDA_init_15 : decode c_DA_init 15 = .ok (.aload_n 0, 1) := by decide +kernel
theorem dDA_init_16 : decode c_DA_init 16 = .ok (.new 16, 3) := by decide +kernel
theorem dDA_init_19 : decode c_DA_init 19 = .ok (.dup, 1) := by decide +kernel
theorem dDA_init_20 : decode c_DA_init 20 = .ok (.ldc 18, 2) := by decide +kernel
theorem dDA_init_22 : decode c_DA_init 22 = .ok (.sipush 1753, 3) := by decide +kernel
theorem dDA_init_25 : decode c_DA_init 25 = .ok (.bipush 8, 2) := by decide +kernel
theorem dDA_init_27 : decode c_DA_init 27 = .ok (.invokespecial 19, 3) := by decide +kernel
theorem dDA_init_30 : decode c_DA_init 30 = .ok (.putfield 22, 3) := by decide +kernel
theorem dDA_init_33 : decode c_DA_init 33 = .ok (.aload_n 0, 1) := by decide +kernel
theorem dDA_init_34 : decode c_DA_init 34 = .ok (.new 26, 3) := by decide +kernel
theorem dDA_init_37 : decode c_DA_init 37 = .ok (.dup, 1) := by decide +kernel
theorem dDA_init_38 : decode c_DA_init 38 = .ok (.invokespecial 28, 3) := by decide +kernel
theorem dDA_init_41 : decode c_DA_init 41 = .ok (.putfield 29, 3) := by decide +kernel
theorem dDA_init_44 : decode c_DA_init 44 = .ok (.aload_n 0, 1) := by decide +kernel
theorem dDA_init_45 : decode c_DA_init 45 = .ok (.bipush 56, 2) := by decide +kernel
theorem dDA_init_47 : decode c_DA_init 47 = .ok (.sipush 256, 3) := by decide +kernel
theorem dDA_init_50 : decode c_DA_init 50 = .ok (.multianewarray 33 2, 4) := by decide +kernel
theorem dDA_init_54 : decode c_DA_init 54 = .ok (.putfield 35, 3) := by decide +kernel
theorem dDA_init_57 : decode c_DA_init 57 = .ok (.aload_n 0, 1) := by decide +kernel
theorem dDA_init_58 : decode c_DA_init 58 = .ok (.bipush 7, 2) := by decide +kernel
theorem dDA_init_60 : decode c_DA_init 60 = .ok (.sipush 256, 3) := by decide +kernel
theorem dDA_init_63 : decode c_DA_init 63 = .ok (.multianewarray 33 2, 4) := by decide +kernel
theorem dDA_init_67 : decode c_DA_init 67 = .ok (.putfield 38, 3) := by decide +kernel
theorem dDA_init_70 : decode c_DA_init 70 = .ok (.aload_n 0, 1) := by decide +kernel
theorem dDA_init_71 : decode c_DA_init 71 = .ok (.bipush 8, 2) := by decide +kernel
theorem dDA_init_73 : decode c_DA_init 73 = .ok (.sipush 256, 3) := by decide +kernel
theorem dDA_init_76 : decode c_DA_init 76 = .ok (.multianewarray 33 2, 4) := by decide +kernel
theorem dDA_init_80 : decode c_DA_init 80 = .ok (.putfield 41, 3) := by decide +kernel
theorem dDA_init_83 : decode c_DA_init 83 = .ok (.aload_n 0, 1) := by decide +kernel
theorem dDA_init_84 : decode c_DA_init 84 = .ok (.bipush 8, 2) := by decide +kernel
theorem dDA_init_86 : decode c_DA_init 86 = .ok (.sipush 256, 3) := by decide +kernel
theorem dDA_init_89 : decode c_DA_init 89 = .ok (.multianewarray 33 2, 4) := by decide +kernel
theorem dDA_init_93 : decode c_DA_init 93 = .ok (.putfield 44, 3) := by decide +kernel
theorem dDA_init_96 : decode c_DA_init 96 = .ok (.aload_n 0, 1) := by decide +kernel
theorem dDA_init_97 : decode c_DA_init 97 = .ok (.bipush 7, 2) := by decide +kernel
theorem dDA_init_99 : decode c_DA_init 99 = .ok (.sipush 256, 3) := by decide +kernel
theorem dDA_init_102 : decode c_DA_init 102 = .ok (.multianewarray 33 2, 4) := by decide +kernel
theorem dDA_init_106 : decode c_DA_init 106 = .ok (.putfield 47, 3) := by decide +kernel
theorem dDA_init_109 : decode c_DA_init 109 = .ok (.aload_n 0, 1) := by decide +kernel
theorem dDA_init_110 : decode c_DA_init 110 = .ok (.bipush 8, 2) := by decide +kernel
theorem dDA_init_112 : decode c_DA_init 112 = .ok (.sipush 256, 3) := by decide +kernel
theorem dDA_init_115 : decode c_DA_init 115 = .ok (.multianewarray 33 2, 4) := by decide +kernel
theorem dDA_init_119 : decode c_DA_init 119 = .ok (.putfield 50, 3) := by decide +kernel
theorem dDA_init_122 : decode c_DA_init 122 = .ok (.aload_n 0, 1) := by decide +kernel
theorem dDA_init_123 : decode c_DA_init 123 = .ok (.sipush 256, 3) := by decide +kernel
theorem dDA_init_126 : decode c_DA_init 126 = .ok (.newarray .int, 2) := by decide +kernel
theorem dDA_init_128 : decode c_DA_init 128 = .ok (.putfield 53, 3) := by decide +kernel
theorem dDA_init_131 : decode c_DA_init 131 = .ok (.aload_n 0, 1) := by decide +kernel
theorem dDA_init_132 : decode c_DA_init 132 = .ok (.sipush 256, 3) := by decide +kernel
theorem dDA_init_135 : decode c_DA_init 135 = .ok (.newarray .int, 2) := by decide +kernel
theorem dDA_init_137 : decode c_DA_init 137 = .ok (.putfield 57, 3) := by decide +kernel
theorem dDA_init_140 : decode c_DA_init 140 = .ok (.aload_n 0, 1) := by decide +kernel
theorem dDA_init_141 : decode c_DA_init 141 = .ok (.sipush 128, 3) := by decide +kernel
theorem dDA_init_144 : decode c_DA_init 144 = .ok (.newarray .byte, 2) := by decide +kernel
theorem dDA_init_146 : decode c_DA_init 146 = .ok (.putfield 60, 3) := by decide +kernel
theorem dDA_init_149 : decode c_DA_init 149 = .ok (.aload_n 0, 1) := by decide +kernel
theorem dDA_init_150 : decode c_DA_init 150 = .ok (.bipush 64, 2) := by decide +kernel
theorem dDA_init_152 : decode c_DA_init 152 = .ok (.newarray .byte, 2) := by decide +kernel
theorem dDA_init_154 : decode c_DA_init 154 = .ok (.putfield 64, 3) := by decide +kernel
theorem dDA_init_157 : decode c_DA_init 157 = .ok (.aload_n 0, 1) := by decide +kernel
theorem dDA_init_158 : decode c_DA_init 158 = .ok (.bipush 64, 2) := by decide +kernel
theorem dDA_init_160 : decode c_DA_init 160 = .ok (.newarray .byte, 2) := by decide +kernel
theorem dDA_init_162 : decode c_DA_init 162 = .ok (.putfield 67, 3) := by decide +kernel
theorem dDA_init_165 : decode c_DA_init 165 = .ok (.aload_n 0, 1) := by decide +kernel
theorem dDA_init_166 : decode c_DA_init 166 = .ok (.bipush 64, 2) := by decide +kernel
theorem dDA_init_168 : decode c_DA_init 168 = .ok (.newarray .byte, 2) := by decide +kernel
theorem dDA_init_170 : decode c_DA_init 170 = .ok (.putfield 70, 3) := by decide +kernel
theorem dDA_init_173 : decode c_DA_init 173 = .ok (.aload_n 0, 1) := by decide +kernel
theorem dDA_init_174 : decode c_DA_init 174 = .ok (.bipush 84, 2) := by decide +kernel
theorem dDA_init_176 : decode c_DA_init 176 = .ok (.newarray .byte, 2) := by decide +kernel
theorem dDA_init_178 : decode c_DA_init 178 = .ok (.putfield 73, 3) := by decide +kernel
theorem dDA_init_181 : decode c_DA_init 181 = .ok (.aload_n 0, 1) := by decide +kernel
theorem dDA_init_182 : decode c_DA_init 182 = .ok (.sipush 192, 3) := by decide +kernel
theorem dDA_init_185 : decode c_DA_init 185 = .ok (.newarray .byte, 2) := by decide +kernel
theorem dDA_init_187 : decode c_DA_init 187 = .ok (.putfield 76, 3) := by decide +kernel
theorem dDA_init_190 : decode c_DA_init 190 = .ok (.return_, 1) := by decide +kernel
abbrev c_K_init : ByteArray := prog_1_method_1_code
abbrev y_K_init : MethodName := ⟨"LatticeKeys", "<init>", "()V"⟩
abbrev w_K_init : List Cond := Cond.code y_K_init c_K_init 2 none :: WG
theorem dK_init_0 : decode c_K_init 0 = .ok (.aload_n 0, 1) := by decide +kernel
theorem dK_init_1 : decode c_K_init 1 = .ok (.invokespecial 1, 3) := by decide +kernel
theorem dK_init_4 : decode c_K_init 4 = .ok (.aload_n 0, 1) := by decide +kernel
theorem dK_init_5 : decode c_K_init 5 = .ok (.sipush 16384, 3) := by decide +kernel
theorem dK_init_8 : decode c_K_init 8 = .ok (.newarray .byte, 2) := by decide +kernel
theorem dK_init_10 : decode c_K_init 10 = .ok (.putfield 9, 3) := by decide +kernel
theorem dK_init_13 : decode c_K_init 13 = .ok (.aload_n 0, 1) := by decide +kernel
theorem dK_init_14 : decode c_K_init 14 = .ok (.iconst 0, 1) := by decide +kernel
theorem dK_init_15 : decode c_K_init 15 = .ok (.putfield 13, 3) := by decide +kernel
theorem dK_init_18 : decode c_K_init 18 = .ok (.aload_n 0, 1) := by decide +kernel
theorem dK_init_19 : decode c_K_init 19 = .ok (.sipush 8192, 3) := by decide +kernel
theorem dK_init_22 : decode c_K_init 22 = .ok (.newarray .byte, 2) := by decide +kernel
theorem dK_init_24 : decode c_K_init 24 = .ok (.putfield 17, 3) := by decide +kernel
theorem dK_init_27 : decode c_K_init 27 = .ok (.aload_n 0, 1) := by decide +kernel
theorem dK_init_28 : decode c_K_init 28 = .ok (.iconst 0, 1) := by decide +kernel
theorem dK_init_29 : decode c_K_init 29 = .ok (.putfield 20, 3) := by decide +kernel
theorem dK_init_32 : decode c_K_init 32 = .ok (.aload_n 0, 1) := by decide +kernel
theorem dK_init_33 : decode c_K_init 33 = .ok (.bipush 8, 2) := by decide +kernel
theorem dK_init_35 : decode c_K_init 35 = .ok (.anewarray 23, 3) := by decide +kernel
theorem dK_init_38 : decode c_K_init 38 = .ok (.putfield 25, 3) := by decide +kernel
theorem dK_init_41 : decode c_K_init 41 = .ok (.aload_n 0, 1) := by decide +kernel
theorem dK_init_42 : decode c_K_init 42 = .ok (.iconst 0, 1) := by decide +kernel
theorem dK_init_43 : decode c_K_init 43 = .ok (.putfield 29, 3) := by decide +kernel
theorem dK_init_46 : decode c_K_init 46 = .ok (.aload_n 0, 1) := by decide +kernel
theorem dK_init_47 : decode c_K_init 47 = .ok (.iconst 3, 1) := by decide +kernel
theorem dK_init_48 : decode c_K_init 48 = .ok (.anewarray 32, 3) := by decide +kernel
theorem dK_init_51 : decode c_K_init 51 = .ok (.putfield 34, 3) := by decide +kernel
theorem dK_init_54 : decode c_K_init 54 = .ok (.aload_n 0, 1) := by decide +kernel
theorem dK_init_55 : decode c_K_init 55 = .ok (.iconst 3, 1) := by decide +kernel
theorem dK_init_56 : decode c_K_init 56 = .ok (.anewarray 38, 3) := by decide +kernel
theorem dK_init_59 : decode c_K_init 59 = .ok (.putfield 40, 3) := by decide +kernel
theorem dK_init_62 : decode c_K_init 62 = .ok (.aload_n 0, 1) := by decide +kernel
theorem dK_init_63 : decode c_K_init 63 = .ok (.new 44, 3) := by decide +kernel
theorem dK_init_66 : decode c_K_init 66 = .ok (.dup, 1) := by decide +kernel
theorem dK_init_67 : decode c_K_init 67 = .ok (.invokespecial 46, 3) := by decide +kernel
theorem dK_init_70 : decode c_K_init 70 = .ok (.putfield 47, 3) := by decide +kernel
theorem dK_init_73 : decode c_K_init 73 = .ok (.aload_n 0, 1) := by decide +kernel
theorem dK_init_74 : decode c_K_init 74 = .ok (.new 51, 3) := by decide +kernel
theorem dK_init_77 : decode c_K_init 77 = .ok (.dup, 1) := by decide +kernel
theorem dK_init_78 : decode c_K_init 78 = .ok (.invokespecial 53, 3) := by decide +kernel
theorem dK_init_81 : decode c_K_init 81 = .ok (.putfield 54, 3) := by decide +kernel
theorem dK_init_84 : decode c_K_init 84 = .ok (.aload_n 0, 1) := by decide +kernel
theorem dK_init_85 : decode c_K_init 85 = .ok (.new 58, 3) := by decide +kernel
theorem dK_init_88 : decode c_K_init 88 = .ok (.dup, 1) := by decide +kernel
theorem dK_init_89 : decode c_K_init 89 = .ok (.invokespecial 60, 3) := by decide +kernel
theorem dK_init_92 : decode c_K_init 92 = .ok (.putfield 61, 3) := by decide +kernel
theorem dK_init_95 : decode c_K_init 95 = .ok (.iconst 0, 1) := by decide +kernel
theorem dK_init_96 : decode c_K_init 96 = .ok (.istore_n 1, 1) := by decide +kernel
theorem dK_init_97 : decode c_K_init 97 = .ok (.iload_n 1, 1) := by decide +kernel
theorem dK_init_98 : decode c_K_init 98 = .ok (.iconst 3, 1) := by decide +kernel
theorem dK_init_99 : decode c_K_init 99 = .ok (.if_icmp .ge 23, 3) := by decide +kernel
theorem dK_init_102 : decode c_K_init 102 = .ok (.aload_n 0, 1) := by decide +kernel
theorem dK_init_103 : decode c_K_init 103 = .ok (.getfield 34, 3) := by decide +kernel
theorem dK_init_106 : decode c_K_init 106 = .ok (.iload_n 1, 1) := by decide +kernel
theorem dK_init_107 : decode c_K_init 107 = .ok (.new 32, 3) := by decide +kernel
theorem dK_init_110 : decode c_K_init 110 = .ok (.dup, 1) := by decide +kernel
theorem dK_init_111 : decode c_K_init 111 = .ok (.iload_n 1, 1) := by decide +kernel
theorem dK_init_112 : decode c_K_init 112 = .ok (.invokespecial 65, 3) := by decide +kernel
theorem dK_init_115 : decode c_K_init 115 = .ok (.aastore, 1) := by decide +kernel
theorem dK_init_116 : decode c_K_init 116 = .ok (.iinc 1 1, 3) := by decide +kernel
theorem dK_init_119 : decode c_K_init 119 = .ok (.goto (-22), 3) := by decide +kernel
theorem dK_init_122 : decode c_K_init 122 = .ok (.iconst 0, 1) := by decide +kernel
theorem dK_init_123 : decode c_K_init 123 = .ok (.istore_n 1, 1) := by decide +kernel
theorem dK_init_124 : decode c_K_init 124 = .ok (.iload_n 1, 1) := by decide +kernel
theorem dK_init_125 : decode c_K_init 125 = .ok (.iconst 3, 1) := by decide +kernel
theorem dK_init_126 : decode c_K_init 126 = .ok (.if_icmp .ge 23, 3) := by decide +kernel
theorem dK_init_129 : decode c_K_init 129 = .ok (.aload_n 0, 1) := by decide +kernel
theorem dK_init_130 : decode c_K_init 130 = .ok (.getfield 40, 3) := by decide +kernel
theorem dK_init_133 : decode c_K_init 133 = .ok (.iload_n 1, 1) := by decide +kernel
theorem dK_init_134 : decode c_K_init 134 = .ok (.new 38, 3) := by decide +kernel
theorem dK_init_137 : decode c_K_init 137 = .ok (.dup, 1) := by decide +kernel
theorem dK_init_138 : decode c_K_init 138 = .ok (.iload_n 1, 1) := by decide +kernel
theorem dK_init_139 : decode c_K_init 139 = .ok (.invokespecial 68, 3) := by decide +kernel
theorem dK_init_142 : decode c_K_init 142 = .ok (.aastore, 1) := by decide +kernel
theorem dK_init_143 : decode c_K_init 143 = .ok (.iinc 1 1, 3) := by decide +kernel
theorem dK_init_146 : decode c_K_init 146 = .ok (.goto (-22), 3) := by decide +kernel
theorem dK_init_149 : decode c_K_init 149 = .ok (.return_, 1) := by decide +kernel
set_option maxHeartbeats 4000000 in
set_option maxRecDepth 100000 in
theorem t_SP_init_0 (l : Launch) (g : Gd) (sz : Nat) (T0 : Ty) (pl : va_W) (hO : okx g T0 [] pl) (hU : uni T0) (h0 : Nat) (n_10_0 : nk T0 (10, 0)) (n_19_0 : nk T0 (19, 0))  : Met l y_SP_init w_SP_init ({ frames := 1, cells := 1, slots := 25, locals := 40 } : Room) (va_Pc [.ref h0] (pr (en g) g.1 vcl sz ([(h0, .inr (3, [.null, .int 0, .int 0, .int 0]))] ++ pl))) (va_Qv (fun (u : (Ty) × va_W) => (ext T0 u.1 ∧ uni u.1 ∧ u.1 h0 = some (10, 0) ∧ pass T0 u.1 [(10, 0), (19, 0)]) ∧ okx g u.1 [] u.2) (po g.1 vcl (va_A ([(h0, .inr (3, [.null, .int 0, .int 0, .int 0]))] ++ pl) sz) (fun (u : (Ty) × va_W) => [] ++ u.2)) (va_A ([(h0, .inr (3, [.null, .int 0, .int 0, .int 0]))] ++ pl) sz)) 1 25 (va_A ([(h0, .inr (3, [.null, .int 0, .int 0, .int 0]))] ++ pl) sz) := by
  refine mc_entry (cc := c_SP_init) (maxL := 1) (ret := none) (by decide) rfl (Nat.le_of_ble_eq_true rfl) ?_
  intro p e s m args below meth c ls F hr hlk hnm hsz hP hD hE hA hl
  obtain ⟨hx, hb, hml, hown, hts⟩ := id F
  have hK := hE.1
  generalize va_A ([(h0, .inr (3, [.null, .int 0, .int 0, .int 0]))] ++ pl) sz = A at hD hE hA ⊢
  obtain ⟨T, hXT, hPS, hO, hU, n_10_0, n_19_0⟩ : ∃ T, ext T0 T ∧ pass T0 T [(10, 0), (19, 0)] ∧ okx g T [] pl ∧ uni T ∧ nk T (10, 0) ∧ nk T (19, 0) := ⟨T0, ext_rf, pass_rf, hO, hU, n_10_0, n_19_0⟩
  have hS : va_S A s.heap s.heap [] := va_S.rf
  have hl : lv_has ls 1 [(0, .ref h0)] := hl
  refine lv_aload_n hx hb dSP_init_0 rfl (lv_at hl 0 rfl) ?_
  refine W.objInit hx hb hown (hts _ (wg_t kw_54)) (hts _ (wg_t kw_41)) (hts _ (wg_t kobj)) rfl (by rw [hml]; exact hl.1) rfl dSP_init_1 (Nat.le_of_ble_eq_true rfl) (Nat.le_of_ble_eq_true rfl) ?_
  refine W.eq (g2 := F0 m 4 ls []) rfl ?_
  refine lv_aload_n hx hb dSP_init_4 rfl (lv_at hl 0 rfl) ?_
  refine lv_bipush (v := nI 25) hx hb dSP_init_5 (by decide) ?_
  refine ma_newa (ws := [(h0, .inr (3, [.null, .int 0, .int 0, .int 0]))] ++ pl) (atype := .long) hx hb (hts _ (wg_t kw_73)) rfl hK hP hD hS hA 2 rfl (N' := 25) (a0 := (25, .inr (.inl (fun _ => 0)))) (fun _ => rfl) (nI_pos (by omega)) (nI_clamp (by omega)) (by show (25) * 8 ≤ 536870912; omega) (Nat.le_of_ble_eq_true rfl) (Nat.le_of_ble_eq_true rfl) dSP_init_7 (fun q21 H hP hD hS => ?_)
  refine W.widen (k := 1) (n := 25) (by omega) (by omega) ?_
  obtain ⟨T, pl, hxt21, hU, kr21, hO, hP, hD, hnk21⟩ := absorb (X := [(h0, .inr (3, [.null, .int 0, .int 0, .int 0]))]) (19, 0) hP hD hO hU (Or.inr n_19_0) (fun _ _ _ => ⟨_, rfl⟩)
  have hXT := ext_tr hXT hxt21
  have n_10_0 := hnk21 _ (by decide) n_10_0
  have hP : va_P g.1 vcl ([(h0, .inr (3, [.null, .int 0, .int 0, .int 0]))] ++ pl) _ := hP
  have hD : va_D _ ([(h0, .inr (3, [.null, .int 0, .int 0, .int 0]))] ++ pl) := hD
  have hPS := pass_one hPS hnk21 (Or.inr (by decide))
  refine va_putF (D := g.1) (ci := 3) (v := .ref q21) (ty := .array .long) (C := "LatticeKeys$Sponge") (T := T_SP) (N := 4) hx hb hts (wg_ft i_SP) ty_SP k_SP n_SP hown hK hP hD hS 0 rfl rfl 0 (by decide) (hts _ (wg_t kw_59)) (fun _ h9 => h9) rfl hnm rfl (by decide +kernel) rfl rfl (Nat.le_of_ble_eq_true rfl) dSP_init_9 (fun H locs hP hD hS => ?_)
  have hP : va_P g.1 vcl ([(h0, .inr (3, [.ref q21, .int 0, .int 0, .int 0]))] ++ pl) _ := hP
  have hD : va_D _ ([(h0, .inr (3, [.ref q21, .int 0, .int 0, .int 0]))] ++ pl) := hD
  refine lv_aload_n hx hb dSP_init_12 rfl (lv_at hl 0 rfl) ?_
  refine va_gets hx hb (hE.2.1 0 _ rfl).1 hS hown (hts _ (wg_t kw_55)) (fun _ h9 => h9) dSP_init_13 ?_
  refine lv_iconst (v := nI 0) hx hb dSP_init_16 (by decide) ?_
  refine va_ti (v := .int (nI 136)) hx hb (hE.2.1 0 _ rfl).2 hS (vp_in_nI (by decide) (by decide)) (by decide +kernel) dSP_init_17 ?_
  refine va_put (D := g.1) (ci := 3) (v := .int (nI 136)) (ty := .int) (C := "LatticeKeys$Sponge") (T := T_SP) (N := 4) hx hb hts (wg_ft i_SP) ty_SP k_SP n_SP hown hK hP hD hS 0 rfl rfl 1 (by decide) (hts _ (wg_t kw_60)) (fun _ h9 => h9) rfl (by decide +kernel) rfl rfl (Nat.le_of_ble_eq_true rfl) dSP_init_18 (fun H locs hP hD hS => ?_)
  have hP : va_P g.1 vcl ([(h0, .inr (3, [.ref q21, .int (nI 136), .int 0, .int 0]))] ++ pl) _ := hP
  have hD : va_D _ ([(h0, .inr (3, [.ref q21, .int (nI 136), .int 0, .int 0]))] ++ pl) := hD
  refine lv_aload_n hx hb dSP_init_21 rfl (lv_at hl 0 rfl) ?_
  refine va_gets hx hb (hE.2.1 1 _ rfl).1 hS hown (hts _ (wg_t kw_57)) (fun _ h9 => h9) dSP_init_22 ?_
  refine lv_iconst (v := nI 0) hx hb dSP_init_25 (by decide) ?_
  refine va_ti (v := .int (nI 6)) hx hb (hE.2.1 1 _ rfl).2 hS (vp_in_nI (by decide) (by decide)) (by decide +kernel) dSP_init_26 ?_
  refine va_put (D := g.1) (ci := 3) (v := .int (nI 6)) (ty := .int) (C := "LatticeKeys$Sponge") (T := T_SP) (N := 4) hx hb hts (wg_ft i_SP) ty_SP k_SP n_SP hown hK hP hD hS 0 rfl rfl 2 (by decide) (hts _ (wg_t kw_61)) (fun _ h9 => h9) rfl (by decide +kernel) rfl rfl (Nat.le_of_ble_eq_true rfl) dSP_init_27 (fun H locs hP hD hS => ?_)
  have hP : va_P g.1 vcl ([(h0, .inr (3, [.ref q21, .int (nI 136), .int (nI 6), .int 0]))] ++ pl) _ := hP
  have hD : va_D _ ([(h0, .inr (3, [.ref q21, .int (nI 136), .int (nI 6), .int 0]))] ++ pl) := hD
  refine lv_aload_n hx hb dSP_init_30 rfl (lv_at hl 0 rfl) ?_
  refine lv_iconst (v := nI 0) hx hb dSP_init_31 (by decide) ?_
  refine va_put (D := g.1) (ci := 3) (v := .int (nI 0)) (ty := .int) (C := "LatticeKeys$Sponge") (T := T_SP) (N := 4) hx hb hts (wg_ft i_SP) ty_SP k_SP n_SP hown hK hP hD hS 0 rfl rfl 3 (by decide) (hts _ (wg_t kw_62)) (fun _ h9 => h9) rfl (by decide +kernel) rfl rfl (Nat.le_of_ble_eq_true rfl) dSP_init_32 (fun H locs hP hD hS => ?_)
  have hP : va_P g.1 vcl ([(h0, .inr (3, [.ref q21, .int (nI 136), .int (nI 6), .int (nI 0)]))] ++ pl) _ := hP
  have hD : va_D _ ([(h0, .inr (3, [.ref q21, .int (nI 136), .int (nI 6), .int (nI 0)]))] ++ pl) := hD
  obtain ⟨hP, hD⟩ := mv_last (X := []) (c := (h0, .inr (3, [.ref q21, .int (nI 136), .int (nI 6), .int (nI 0)]))) hP hD
  obtain ⟨T, pl, hxt22, hU, kr22, hO, hP, hD, hnk22⟩ := absorb (X := []) (10, 0) hP hD hO hU (Or.inr n_10_0) (fun T9 h9 _ => ⟨_, _, _, _, rfl, h9 _ _ kr21, by decide, by decide, by decide⟩)
  have kr21 := hxt22 _ _ kr21
  have hXT := ext_tr hXT hxt22
  have hP : va_P g.1 vcl ([] ++ pl) _ := hP
  have hD : va_D _ ([] ++ pl) := hD
  have hPS := pass_one hPS hnk22 (Or.inr (by decide))
  exact mp_vret hx hb hr hlk hP hD hS (T, pl) ⟨⟨hXT, hU, kr22, hPS⟩, hO⟩ [] rfl rfl rfl (by omega) (by omega) dSP_init_35
set_option maxHeartbeats 4000000 in
set_option maxRecDepth 100000 in
theorem t_SP_init_1 (l : Launch) (g : Gd) (sz : Nat) (T0 : Ty) (pl : va_W) (hO : okx g T0 [] pl) (hU : uni T0) (h0 : Nat) (n_10_1 : nk T0 (10, 1)) (n_19_1 : nk T0 (19, 1))  : Met l y_SP_init w_SP_init ({ frames := 1, cells := 1, slots := 25, locals := 40 } : Room) (va_Pc [.ref h0] (pr (en g) g.1 vcl sz ([(h0, .inr (3, [.null, .int 0, .int 0, .int 0]))] ++ pl))) (va_Qv (fun (u : (Ty) × va_W) => (ext T0 u.1 ∧ uni u.1 ∧ u.1 h0 = some (10, 1) ∧ pass T0 u.1 [(10, 1), (19, 1)]) ∧ okx g u.1 [] u.2) (po g.1 vcl (va_A ([(h0, .inr (3, [.null, .int 0, .int 0, .int 0]))] ++ pl) sz) (fun (u : (Ty) × va_W) => [] ++ u.2)) (va_A ([(h0, .inr (3, [.null, .int 0, .int 0, .int 0]))] ++ pl) sz)) 1 25 (va_A ([(h0, .inr (3, [.null, .int 0, .int 0, .int 0]))] ++ pl) sz) := by
  refine mc_entry (cc := c_SP_init) (maxL := 1) (ret := none) (by decide) rfl (Nat.le_of_ble_eq_true rfl) ?_
  intro p e s m args below meth c ls F hr hlk hnm hsz hP hD hE hA hl
  obtain ⟨hx, hb, hml, hown, hts⟩ := id F
  have hK := hE.1
  generalize va_A ([(h0, .inr (3, [.null, .int 0, .int 0, .int 0]))] ++ pl) sz = A at hD hE hA ⊢
  obtain ⟨T, hXT, hPS, hO, hU, n_10_1, n_19_1⟩ : ∃ T, ext T0 T ∧ pass T0 T [(10, 1), (19, 1)] ∧ okx g T [] pl ∧ uni T ∧ nk T (10, 1) ∧ nk T (19, 1) := ⟨T0, ext_rf, pass_rf, hO, hU, n_10_1, n_19_1⟩
  have hS : va_S A s.heap s.heap [] := va_S.rf
  have hl : lv_has ls 1 [(0, .ref h0)] := hl
  refine lv_aload_n hx hb dSP_init_0 rfl (lv_at hl 0 rfl) ?_
  refine W.objInit hx hb hown (hts _ (wg_t kw_54)) (hts _ (wg_t kw_41)) (hts _ (wg_t kobj)) rfl (by rw [hml]; exact hl.1) rfl dSP_init_1 (Nat.le_of_ble_eq_true rfl) (Nat.le_of_ble_eq_true rfl) ?_
  refine W.eq (g2 := F0 m 4 ls []) rfl ?_
  refine lv_aload_n hx hb dSP_init_4 rfl (lv_at hl 0 rfl) ?_
  refine lv_bipush (v := nI 25) hx hb dSP_init_5 (by decide) ?_
  refine ma_newa (ws := [(h0, .inr (3, [.null, .int 0, .int 0, .int 0]))] ++ pl) (atype := .long) hx hb (hts _ (wg_t kw_73)) rfl hK hP hD hS hA 2 rfl (N' := 25) (a0 := (25, .inr (.inl (fun _ => 0)))) (fun _ => rfl) (nI_pos (by omega)) (nI_clamp (by omega)) (by show (25) * 8 ≤ 536870912; omega) (Nat.le_of_ble_eq_true rfl) (Nat.le_of_ble_eq_true rfl) dSP_init_7 (fun q21 H hP hD hS => ?_)
  refine W.widen (k := 1) (n := 25) (by omega) (by omega) ?_
  obtain ⟨T, pl, hxt21, hU, kr21, hO, hP, hD, hnk21⟩ := absorb (X := [(h0, .inr (3, [.null, .int 0, .int 0, .int 0]))]) (19, 1) hP hD hO hU (Or.inr n_19_1) (fun _ _ _ => ⟨_, rfl⟩)
  have hXT := ext_tr hXT hxt21
  have n_10_1 := hnk21 _ (by decide) n_10_1
  have hP : va_P g.1 vcl ([(h0, .inr (3, [.null, .int 0, .int 0, .int 0]))] ++ pl) _ := hP
  have hD : va_D _ ([(h0, .inr (3, [.null, .int 0, .int 0, .int 0]))] ++ pl) := hD
  have hPS := pass_one hPS hnk21 (Or.inr (by decide))
  refine va_putF (D := g.1) (ci := 3) (v := .ref q21) (ty := .array .long) (C := "LatticeKeys$Sponge") (T := T_SP) (N := 4) hx hb hts (wg_ft i_SP) ty_SP k_SP n_SP hown hK hP hD hS 0 rfl rfl 0 (by decide) (hts _ (wg_t kw_59)) (fun _ h9 => h9) rfl hnm rfl (by decide +kernel) rfl rfl (Nat.le_of_ble_eq_true rfl) dSP_init_9 (fun H locs hP hD hS => ?_)
  have hP : va_P g.1 vcl ([(h0, .inr (3, [.ref q21, .int 0, .int 0, .int 0]))] ++ pl) _ := hP
  have hD : va_D _ ([(h0, .inr (3, [.ref q21, .int 0, .int 0, .int 0]))] ++ pl) := hD
  refine lv_aload_n hx hb dSP_init_12 rfl (lv_at hl 0 rfl) ?_
  refine va_gets hx hb (hE.2.1 0 _ rfl).1 hS hown (hts _ (wg_t kw_55)) (fun _ h9 => h9) dSP_init_13 ?_
  refine lv_iconst (v := nI 0) hx hb dSP_init_16 (by decide) ?_
  refine va_ti (v := .int (nI 136)) hx hb (hE.2.1 0 _ rfl).2 hS (vp_in_nI (by decide) (by decide)) (by decide +kernel) dSP_init_17 ?_
  refine va_put (D := g.1) (ci := 3) (v := .int (nI 136)) (ty := .int) (C := "LatticeKeys$Sponge") (T := T_SP) (N := 4) hx hb hts (wg_ft i_SP) ty_SP k_SP n_SP hown hK hP hD hS 0 rfl rfl 1 (by decide) (hts _ (wg_t kw_60)) (fun _ h9 => h9) rfl (by decide +kernel) rfl rfl (Nat.le_of_ble_eq_true rfl) dSP_init_18 (fun H locs hP hD hS => ?_)
  have hP : va_P g.1 vcl ([(h0, .inr (3, [.ref q21, .int (nI 136), .int 0, .int 0]))] ++ pl) _ := hP
  have hD : va_D _ ([(h0, .inr (3, [.ref q21, .int (nI 136), .int 0, .int 0]))] ++ pl) := hD
  refine lv_aload_n hx hb dSP_init_21 rfl (lv_at hl 0 rfl) ?_
  refine va_gets hx hb (hE.2.1 1 _ rfl).1 hS hown (hts _ (wg_t kw_57)) (fun _ h9 => h9) dSP_init_22 ?_
  refine lv_iconst (v := nI 0) hx hb dSP_init_25 (by decide) ?_
  refine va_ti (v := .int (nI 6)) hx hb (hE.2.1 1 _ rfl).2 hS (vp_in_nI (by decide) (by decide)) (by decide +kernel) dSP_init_26 ?_
  refine va_put (D := g.1) (ci := 3) (v := .int (nI 6)) (ty := .int) (C := "LatticeKeys$Sponge") (T := T_SP) (N := 4) hx hb hts (wg_ft i_SP) ty_SP k_SP n_SP hown hK hP hD hS 0 rfl rfl 2 (by decide) (hts _ (wg_t kw_61)) (fun _ h9 => h9) rfl (by decide +kernel) rfl rfl (Nat.le_of_ble_eq_true rfl) dSP_init_27 (fun H locs hP hD hS => ?_)
  have hP : va_P g.1 vcl ([(h0, .inr (3, [.ref q21, .int (nI 136), .int (nI 6), .int 0]))] ++ pl) _ := hP
  have hD : va_D _ ([(h0, .inr (3, [.ref q21, .int (nI 136), .int (nI 6), .int 0]))] ++ pl) := hD
  refine lv_aload_n hx hb dSP_init_30 rfl (lv_at hl 0 rfl) ?_
  refine lv_iconst (v := nI 0) hx hb dSP_init_31 (by decide) ?_
  refine va_put (D := g.1) (ci := 3) (v := .int (nI 0)) (ty := .int) (C := "LatticeKeys$Sponge") (T := T_SP) (N := 4) hx hb hts (wg_ft i_SP) ty_SP k_SP n_SP hown hK hP hD hS 0 rfl rfl 3 (by decide) (hts _ (wg_t kw_62)) (fun _ h9 => h9) rfl (by decide +kernel) rfl rfl (Nat.le_of_ble_eq_true rfl) dSP_init_32 (fun H locs hP hD hS => ?_)
  have hP : va_P g.1 vcl ([(h0, .inr (3, [.ref q21, .int (nI 136), .int (nI 6), .int (nI 0)]))] ++ pl) _ := hP
  have hD : va_D _ ([(h0, .inr (3, [.ref q21, .int (nI 136), .int (nI 6), .int (nI 0)]))] ++ pl) := hD
  obtain ⟨hP, hD⟩ := mv_last (X := []) (c := (h0, .inr (3, [.ref q21, .int (nI 136), .int (nI 6), .int (nI 0)]))) hP hD
  obtain ⟨T, pl, hxt22, hU, kr22, hO, hP, hD, hnk22⟩ := absorb (X := []) (10, 1) hP hD hO hU (Or.inr n_10_1) (fun T9 h9 _ => ⟨_, _, _, _, rfl, h9 _ _ kr21, by decide, by decide, by decide⟩)
  have kr21 := hxt22 _ _ kr21
  have hXT := ext_tr hXT hxt22
  have hP : va_P g.1 vcl ([] ++ pl) _ := hP
  have hD : va_D _ ([] ++ pl) := hD
  have hPS := pass_one hPS hnk22 (Or.inr (by decide))
  exact mp_vret hx hb hr hlk hP hD hS (T, pl) ⟨⟨hXT, hU, kr22, hPS⟩, hO⟩ [] rfl rfl rfl (by omega) (by omega) dSP_init_35
set_option maxHeartbeats 4000000 in
set_option maxRecDepth 100000 in
theorem t_SP_init_2 (l : Launch) (g : Gd) (sz : Nat) (T0 : Ty) (pl : va_W) (hO : okx g T0 [] pl) (hU : uni T0) (h0 : Nat) (n_10_2 : nk T0 (10, 2)) (n_19_2 : nk T0 (19, 2))  : Met l y_SP_init w_SP_init ({ frames := 1, cells := 1, slots := 25, locals := 40 } : Room) (va_Pc [.ref h0] (pr (en g) g.1 vcl sz ([(h0, .inr (3, [.null, .int 0, .int 0, .int 0]))] ++ pl))) (va_Qv (fun (u : (Ty) × va_W) => (ext T0 u.1 ∧ uni u.1 ∧ u.1 h0 = some (10, 2) ∧ pass T0 u.1 [(10, 2), (19, 2)]) ∧ okx g u.1 [] u.2) (po g.1 vcl (va_A ([(h0, .inr (3, [.null, .int 0, .int 0, .int 0]))] ++ pl) sz) (fun (u : (Ty) × va_W) => [] ++ u.2)) (va_A ([(h0, .inr (3, [.null, .int 0, .int 0, .int 0]))] ++ pl) sz)) 1 25 (va_A ([(h0, .inr (3, [.null, .int 0, .int 0, .int 0]))] ++ pl) sz) := by
  refine mc_entry (cc := c_SP_init) (maxL := 1) (ret := none) (by decide) rfl (Nat.le_of_ble_eq_true rfl) ?_
  intro p e s m args below meth c ls F hr hlk hnm hsz hP hD hE hA hl
  obtain ⟨hx, hb, hml, hown, hts⟩ := id F
  have hK := hE.1
  generalize va_A ([(h0, .inr (3, [.null, .int 0, .int 0, .int 0]))] ++ pl) sz = A at hD hE hA ⊢
  obtain ⟨T, hXT, hPS, hO, hU, n_10_2, n_19_2⟩ : ∃ T, ext T0 T ∧ pass T0 T [(10, 2), (19, 2)] ∧ okx g T [] pl ∧ uni T ∧ nk T (10, 2) ∧ nk T (19, 2) := ⟨T0, ext_rf, pass_rf, hO, hU, n_10_2, n_19_2⟩
  have hS : va_S A s.heap s.heap [] := va_S.rf
  have hl : lv_has ls 1 [(0, .ref h0)] := hl
  refine lv_aload_n hx hb dSP_init_0 rfl (lv_at hl 0 rfl) ?_
  refine W.objInit hx hb hown (hts _ (wg_t kw_54)) (hts _ (wg_t kw_41)) (hts _ (wg_t kobj)) rfl (by rw [hml]; exact hl.1) rfl dSP_init_1 (Nat.le_of_ble_eq_true rfl) (Nat.le_of_ble_eq_true rfl) ?_
  refine W.eq (g2 := F0 m 4 ls []) rfl ?_
  refine lv_aload_n hx hb dSP_init_4 rfl (lv_at hl 0 rfl) ?_
  refine lv_bipush (v := nI 25) hx hb dSP_init_5 (by decide) ?_
  refine ma_newa (ws := [(h0, .inr (3, [.null, .int 0, .int 0, .int 0]))] ++ pl) (atype := .long) hx hb (hts _ (wg_t kw_73)) rfl hK hP hD hS hA 2 rfl (N' := 25) (a0 := (25, .inr (.inl (fun _ => 0)))) (fun _ => rfl) (nI_pos (by omega)) (nI_clamp (by omega)) (by show (25) * 8 ≤ 536870912; omega) (Nat.le_of_ble_eq_true rfl) (Nat.le_of_ble_eq_true rfl) dSP_init_7 (fun q21 H hP hD hS => ?_)
  refine W.widen (k := 1) (n := 25) (by omega) (by omega) ?_
  obtain ⟨T, pl, hxt21, hU, kr21, hO, hP, hD, hnk21⟩ := absorb (X := [(h0, .inr (3, [.null, .int 0, .int 0, .int 0]))]) (19, 2) hP hD hO hU (Or.inr n_19_2) (fun _ _ _ => ⟨_, rfl⟩)
  have hXT := ext_tr hXT hxt21
  have n_10_2 := hnk21 _ (by decide) n_10_2
  have hP : va_P g.1 vcl ([(h0, .inr (3, [.null, .int 0, .int 0, .int 0]))] ++ pl) _ := hP
  have hD : va_D _ ([(h0, .inr (3, [.null, .int 0, .int 0, .int 0]))] ++ pl) := hD
  have hPS := pass_one hPS hnk21 (Or.inr (by decide))
  refine va_putF (D := g.1) (ci := 3) (v := .ref q21) (ty := .array .long) (C := "LatticeKeys$Sponge") (T := T_SP) (N := 4) hx hb hts (wg_ft i_SP) ty_SP k_SP n_SP hown hK hP hD hS 0 rfl rfl 0 (by decide) (hts _ (wg_t kw_59)) (fun _ h9 => h9) rfl hnm rfl (by decide +kernel) rfl rfl (Nat.le_of_ble_eq_true rfl) dSP_init_9 (fun H locs hP hD hS => ?_)
  have hP : va_P g.1 vcl ([(h0, .inr (3, [.ref q21, .int 0, .int 0, .int 0]))] ++ pl) _ := hP
  have hD : va_D _ ([(h0, .inr (3, [.ref q21, .int 0, .int 0, .int 0]))] ++ pl) := hD
  refine lv_aload_n hx hb dSP_init_12 rfl (lv_at hl 0 rfl) ?_
  refine va_gets hx hb (hE.2.1 0 _ rfl).1 hS hown (hts _ (wg_t kw_55)) (fun _ h9 => h9) dSP_init_13 ?_
  refine lv_iconst (v := nI 0) hx hb dSP_init_16 (by decide) ?_
  refine va_ti (v := .int (nI 136)) hx hb (hE.2.1 0 _ rfl).2 hS (vp_in_nI (by decide) (by decide)) (by decide +kernel) dSP_init_17 ?_
  refine va_put (D := g.1) (ci := 3) (v := .int (nI 136)) (ty := .int) (C := "LatticeKeys$Sponge") (T := T_SP) (N := 4) hx hb hts (wg_ft i_SP) ty_SP k_SP n_SP hown hK hP hD hS 0 rfl rfl 1 (by decide) (hts _ (wg_t kw_60)) (fun _ h9 => h9) rfl (by decide +kernel) rfl rfl (Nat.le_of_ble_eq_true rfl) dSP_init_18 (fun H locs hP hD hS => ?_)
  have hP : va_P g.1 vcl ([(h0, .inr (3, [.ref q21, .int (nI 136), .int 0, .int 0]))] ++ pl) _ := hP
  have hD : va_D _ ([(h0, .inr (3, [.ref q21, .int (nI 136), .int 0, .int 0]))] ++ pl) := hD
  refine lv_aload_n hx hb dSP_init_21 rfl (lv_at hl 0 rfl) ?_
  refine va_gets hx hb (hE.2.1 1 _ rfl).1 hS hown (hts _ (wg_t kw_57)) (fun _ h9 => h9) dSP_init_22 ?_
  refine lv_iconst (v := nI 0) hx hb dSP_init_25 (by decide) ?_
  refine va_ti (v := .int (nI 6)) hx hb (hE.2.1 1 _ rfl).2 hS (vp_in_nI (by decide) (by decide)) (by decide +kernel) dSP_init_26 ?_
  refine va_put (D := g.1) (ci := 3) (v := .int (nI 6)) (ty := .int) (C := "LatticeKeys$Sponge") (T := T_SP) (N := 4) hx hb hts (wg_ft i_SP) ty_SP k_SP n_SP hown hK hP hD hS 0 rfl rfl 2 (by decide) (hts _ (wg_t kw_61)) (fun _ h9 => h9) rfl (by decide +kernel) rfl rfl (Nat.le_of_ble_eq_true rfl) dSP_init_27 (fun H locs hP hD hS => ?_)
  have hP : va_P g.1 vcl ([(h0, .inr (3, [.ref q21, .int (nI 136), .int (nI 6), .int 0]))] ++ pl) _ := hP
  have hD : va_D _ ([(h0, .inr (3, [.ref q21, .int (nI 136), .int (nI 6), .int 0]))] ++ pl) := hD
  refine lv_aload_n hx hb dSP_init_30 rfl (lv_at hl 0 rfl) ?_
  refine lv_iconst (v := nI 0) hx hb dSP_init_31 (by decide) ?_
  refine va_put (D := g.1) (ci := 3) (v := .int (nI 0)) (ty := .int) (C := "LatticeKeys$Sponge") (T := T_SP) (N := 4) hx hb hts (wg_ft i_SP) ty_SP k_SP n_SP hown hK hP hD hS 0 rfl rfl 3 (by decide) (hts _ (wg_t kw_62)) (fun _ h9 => h9) rfl (by decide +kernel) rfl rfl (Nat.le_of_ble_eq_true rfl) dSP_init_32 (fun H locs hP hD hS => ?_)
  have hP : va_P g.1 vcl ([(h0, .inr (3, [.ref q21, .int (nI 136), .int (nI 6), .int (nI 0)]))] ++ pl) _ := hP
  have hD : va_D _ ([(h0, .inr (3, [.ref q21, .int (nI 136), .int (nI 6), .int (nI 0)]))] ++ pl) := hD
  obtain ⟨hP, hD⟩ := mv_last (X := []) (c := (h0, .inr (3, [.ref q21, .int (nI 136), .int (nI 6), .int (nI 0)]))) hP hD
  obtain ⟨T, pl, hxt22, hU, kr22, hO, hP, hD, hnk22⟩ := absorb (X := []) (10, 2) hP hD hO hU (Or.inr n_10_2) (fun T9 h9 _ => ⟨_, _, _, _, rfl, h9 _ _ kr21, by decide, by decide, by decide⟩)
  have kr21 := hxt22 _ _ kr21
  have hXT := ext_tr hXT hxt22
  have hP : va_P g.1 vcl ([] ++ pl) _ := hP
  have hD : va_D _ ([] ++ pl) := hD
  have hPS := pass_one hPS hnk22 (Or.inr (by decide))
  exact mp_vret hx hb hr hlk hP hD hS (T, pl) ⟨⟨hXT, hU, kr22, hPS⟩, hO⟩ [] rfl rfl rfl (by omega) (by omega) dSP_init_35
set_option maxHeartbeats 4000000 in
set_option maxRecDepth 100000 in
theorem t_SP_init_3 (l : Launch) (g : Gd) (sz : Nat) (T0 : Ty) (pl : va_W) (hO : okx g T0 [] pl) (hU : uni T0) (h0 : Nat) (n_10_3 : nk T0 (10, 3)) (n_19_3 : nk T0 (19, 3))  : Met l y_SP_init w_SP_init ({ frames := 1, cells := 1, slots := 25, locals := 40 } : Room) (va_Pc [.ref h0] (pr (en g) g.1 vcl sz ([(h0, .inr (3, [.null, .int 0, .int 0, .int 0]))] ++ pl))) (va_Qv (fun (u : (Ty) × va_W) => (ext T0 u.1 ∧ uni u.1 ∧ u.1 h0 = some (10, 3) ∧ pass T0 u.1 [(10, 3), (19, 3)]) ∧ okx g u.1 [] u.2) (po g.1 vcl (va_A ([(h0, .inr (3, [.null, .int 0, .int 0, .int 0]))] ++ pl) sz) (fun (u : (Ty) × va_W) => [] ++ u.2)) (va_A ([(h0, .inr (3, [.null, .int 0, .int 0, .int 0]))] ++ pl) sz)) 1 25 (va_A ([(h0, .inr (3, [.null, .int 0, .int 0, .int 0]))] ++ pl) sz) := by
  refine mc_entry (cc := c_SP_init) (maxL := 1) (ret := none) (by decide) rfl (Nat.le_of_ble_eq_true rfl) ?_
  intro p e s m args below meth c ls F hr hlk hnm hsz hP hD hE hA hl
  obtain ⟨hx, hb, hml, hown, hts⟩ := id F
  have hK := hE.1
  generalize va_A ([(h0, .inr (3, [.null, .int 0, .int 0, .int 0]))] ++ pl) sz = A at hD hE hA ⊢
  obtain ⟨T, hXT, hPS, hO, hU, n_10_3, n_19_3⟩ : ∃ T, ext T0 T ∧ pass T0 T [(10, 3), (19, 3)] ∧ okx g T [] pl ∧ uni T ∧ nk T (10, 3) ∧ nk T (19, 3) := ⟨T0, ext_rf, pass_rf, hO, hU, n_10_3, n_19_3⟩
  have hS : va_S A s.heap s.heap [] := va_S.rf
  have hl : lv_has ls 1 [(0, .ref h0)] := hl
  refine lv_aload_n hx hb dSP_init_0 rfl (lv_at hl 0 rfl) ?_
  refine W.objInit hx hb hown (hts _ (wg_t kw_54)) (hts _ (wg_t kw_41)) (hts _ (wg_t kobj)) rfl (by rw [hml]; exact hl.1) rfl dSP_init_1 (Nat.le_of_ble_eq_true rfl) (Nat.le_of_ble_eq_true rfl) ?_
  refine W.eq (g2 := F0 m 4 ls []) rfl ?_
  refine lv_aload_n hx hb dSP_init_4 rfl (lv_at hl 0 rfl) ?_
  refine lv_bipush (v := nI 25) hx hb dSP_init_5 (by decide) ?_
  refine ma_newa (ws := [(h0, .inr (3, [.null, .int 0, .int 0, .int 0]))] ++ pl) (atype := .long) hx hb (hts _ (wg_t kw_73)) rfl hK hP hD hS hA 2 rfl (N' := 25) (a0 := (25, .inr (.inl (fun _ => 0)))) (fun _ => rfl) (nI_pos (by omega)) (nI_clamp (by omega)) (by show (25) * 8 ≤ 536870912; omega) (Nat.le_of_ble_eq_true rfl) (Nat.le_of_ble_eq_true rfl) dSP_init_7 (fun q21 H hP hD hS => ?_)
  refine W.widen (k := 1) (n := 25) (by omega) (by omega) ?_
  obtain ⟨T, pl, hxt21, hU, kr21, hO, hP, hD, hnk21⟩ := absorb (X := [(h0, .inr (3, [.null, .int 0, .int 0, .int 0]))]) (19, 3) hP hD hO hU (Or.inr n_19_3) (fun _ _ _ => ⟨_, rfl⟩)
  have hXT := ext_tr hXT hxt21
  have n_10_3 := hnk21 _ (by decide) n_10_3
  have hP : va_P g.1 vcl ([(h0, .inr (3, [.null, .int 0, .int 0, .int 0]))] ++ pl) _ := hP
  have hD : va_D _ ([(h0, .inr (3, [.null, .int 0, .int 0, .int 0]))] ++ pl) := hD
  have hPS := pass_one hPS hnk21 (Or.inr (by decide))
  refine va_putF (D := g.1) (ci := 3) (v := .ref q21) (ty := .array .long) (C := "LatticeKeys$Sponge") (T := T_SP) (N := 4) hx hb hts (wg_ft i_SP) ty_SP k_SP n_SP hown hK hP hD hS 0 rfl rfl 0 (by decide) (hts _ (wg_t kw_59)) (fun _ h9 => h9) rfl hnm rfl (by decide +kernel) rfl rfl (Nat.le_of_ble_eq_true rfl) dSP_init_9 (fun H locs hP hD hS => ?_)
  have hP : va_P g.1 vcl ([(h0, .inr (3, [.ref q21, .int 0, .int 0, .int 0]))] ++ pl) _ := hP
  have hD : va_D _ ([(h0, .inr (3, [.ref q21, .int 0, .int 0, .int 0]))] ++ pl) := hD
  refine lv_aload_n hx hb dSP_init_12 rfl (lv_at hl 0 rfl) ?_
  refine va_gets hx hb (hE.2.1 0 _ rfl).1 hS hown (hts _ (wg_t kw_55)) (fun _ h9 => h9) dSP_init_13 ?_
  refine lv_iconst (v := nI 0) hx hb dSP_init_16 (by decide) ?_
  refine va_ti (v := .int (nI 136)) hx hb (hE.2.1 0 _ rfl).2 hS (vp_in_nI (by decide) (by decide)) (by decide +kernel) dSP_init_17 ?_
  refine va_put (D := g.1) (ci := 3) (v := .int (nI 136)) (ty := .int) (C := "LatticeKeys$Sponge") (T := T_SP) (N := 4) hx hb hts (wg_ft i_SP) ty_SP k_SP n_SP hown hK hP hD hS 0 rfl rfl 1 (by decide) (hts _ (wg_t kw_60)) (fun _ h9 => h9) rfl (by decide +kernel) rfl rfl (Nat.le_of_ble_eq_true rfl) dSP_init_18 (fun H locs hP hD hS => ?_)
  have hP : va_P g.1 vcl ([(h0, .inr (3, [.ref q21, .int (nI 136), .int 0, .int 0]))] ++ pl) _ := hP
  have hD : va_D _ ([(h0, .inr (3, [.ref q21, .int (nI 136), .int 0, .int 0]))] ++ pl) := hD
  refine lv_aload_n hx hb dSP_init_21 rfl (lv_at hl 0 rfl) ?_
  refine va_gets hx hb (hE.2.1 1 _ rfl).1 hS hown (hts _ (wg_t kw_57)) (fun _ h9 => h9) dSP_init_22 ?_
  refine lv_iconst (v := nI 0) hx hb dSP_init_25 (by decide) ?_
  refine va_ti (v := .int (nI 6)) hx hb (hE.2.1 1 _ rfl).2 hS (vp_in_nI (by decide) (by decide)) (by decide +kernel) dSP_init_26 ?_
  refine va_put (D := g.1) (ci := 3) (v := .int (nI 6)) (ty := .int) (C := "LatticeKeys$Sponge") (T := T_SP) (N := 4) hx hb hts (wg_ft i_SP) ty_SP k_SP n_SP hown hK hP hD hS 0 rfl rfl 2 (by decide) (hts _ (wg_t kw_61)) (fun _ h9 => h9) rfl (by decide +kernel) rfl rfl (Nat.le_of_ble_eq_true rfl) dSP_init_27 (fun H locs hP hD hS => ?_)
  have hP : va_P g.1 vcl ([(h0, .inr (3, [.ref q21, .int (nI 136), .int (nI 6), .int 0]))] ++ pl) _ := hP
  have hD : va_D _ ([(h0, .inr (3, [.ref q21, .int (nI 136), .int (nI 6), .int 0]))] ++ pl) := hD
  refine lv_aload_n hx hb dSP_init_30 rfl (lv_at hl 0 rfl) ?_
  refine lv_iconst (v := nI 0) hx hb dSP_init_31 (by decide) ?_
  refine va_put (D := g.1) (ci := 3) (v := .int (nI 0)) (ty := .int) (C := "LatticeKeys$Sponge") (T := T_SP) (N := 4) hx hb hts (wg_ft i_SP) ty_SP k_SP n_SP hown hK hP hD hS 0 rfl rfl 3 (by decide) (hts _ (wg_t kw_62)) (fun _ h9 => h9) rfl (by decide +kernel) rfl rfl (Nat.le_of_ble_eq_true rfl) dSP_init_32 (fun H locs hP hD hS => ?_)
  have hP : va_P g.1 vcl ([(h0, .inr (3, [.ref q21, .int (nI 136), .int (nI 6), .int (nI 0)]))] ++ pl) _ := hP
  have hD : va_D _ ([(h0, .inr (3, [.ref q21, .int (nI 136), .int (nI 6), .int (nI 0)]))] ++ pl) := hD
  obtain ⟨hP, hD⟩ := mv_last (X := []) (c := (h0, .inr (3, [.ref q21, .int (nI 136), .int (nI 6), .int (nI 0)]))) hP hD
  obtain ⟨T, pl, hxt22, hU, kr22, hO, hP, hD, hnk22⟩ := absorb (X := []) (10, 3) hP hD hO hU (Or.inr n_10_3) (fun T9 h9 _ => ⟨_, _, _, _, rfl, h9 _ _ kr21, by decide, by decide, by decide⟩)
  have kr21 := hxt22 _ _ kr21
  have hXT := ext_tr hXT hxt22
  have hP : va_P g.1 vcl ([] ++ pl) _ := hP
  have hD : va_D _ ([] ++ pl) := hD
  have hPS := pass_one hPS hnk22 (Or.inr (by decide))
  exact mp_vret hx hb hr hlk hP hD hS (T, pl) ⟨⟨hXT, hU, kr22, hPS⟩, hO⟩ [] rfl rfl rfl (by omega) (by omega) dSP_init_35
set_option maxHeartbeats 4000000 in
set_option maxRecDepth 100000 in
theorem t_RG_init_7 (l : Launch) (g : Gd) (sz : Nat) (T0 : Ty) (pl : va_W) (hO : okx g T0 [] pl) (hU : uni T0) (h0 : Nat)  : Met l y_RG_init w_RG_init ({ frames := 1, cells := 1, slots := 128, locals := 40 } : Room) (va_Pc [.ref h0, .int (nI 3329), .int (nI 17), .int (nI 7)] (pr (en g) g.1 vcl sz ([(h0, .inr (4, [.int 0, .int 0, .int 0, .null]))] ++ pl))) (va_Qv (fun (u : (Ty) × va_W) => (ext T0 u.1 ∧ uni u.1 ∧ u.1 h0 = some (11, 0) ∧ pass T0 u.1 []) ∧ okx g u.1 [] u.2) (po g.1 vcl (va_A ([(h0, .inr (4, [.int 0, .int 0, .int 0, .null]))] ++ pl) sz) (fun (u : (Ty) × va_W) => [] ++ u.2)) (va_A ([(h0, .inr (4, [.int 0, .int 0, .int 0, .null]))] ++ pl) sz)) 1 128 (va_A ([(h0, .inr (4, [.int 0, .int 0, .int 0, .null]))] ++ pl) sz) := by
  refine mc_entry (cc := c_RG_init) (maxL := 8) (ret := none) (by decide) rfl (Nat.le_of_ble_eq_true rfl) ?_
  intro p e s m args below meth c ls F hr hlk hnm hsz hP hD hE hA hl
  obtain ⟨hx, hb, hml, hown, hts⟩ := id F
  have hK := hE.1
  generalize va_A ([(h0, .inr (4, [.int 0, .int 0, .int 0, .null]))] ++ pl) sz = A at hD hE hA ⊢
  obtain ⟨T, hXT, hPS, hO, hU⟩ : ∃ T, ext T0 T ∧ pass T0 T [] ∧ okx g T [] pl ∧ uni T := ⟨T0, ext_rf, pass_rf, hO, hU⟩
  have hS : va_S A s.heap s.heap [] := va_S.rf
  have hl : lv_has ls 8 [(0, .ref h0), (1, .int (nI 3329)), (2, .int (nI 17)), (3, .int (nI 7))] := hl
  refine lv_aload_n hx hb dRG_init_0 rfl (lv_at hl 0 rfl) ?_
  refine W.objInit hx hb hown (hts _ (wg_t kw_87)) (hts _ (wg_t kw_41)) (hts _ (wg_t kobj)) rfl (by rw [hml]; exact hl.1) rfl dRG_init_1 (Nat.le_of_ble_eq_true rfl) (Nat.le_of_ble_eq_true rfl) ?_
  refine W.eq (g2 := F0 m 4 ls []) rfl ?_
  refine lv_aload_n hx hb dRG_init_4 rfl (lv_at hl 0 rfl) ?_
  refine lv_iload_n hx hb dRG_init_5 rfl (lv_at hl 1 rfl) ?_
  refine va_putF (D := g.1) (ci := 4) (v := .int (nI 3329)) (ty := .int) (C := "LatticeKeys$Ring") (T := T_RG) (N := 4) hx hb hts (wg_ft i_RG) ty_RG k_RG n_RG hown hK hP hD hS 0 rfl rfl 0 (by decide) (hts _ (wg_t kw_91)) (fun _ h9 => h9) rfl hnm rfl (by decide +kernel) rfl rfl (Nat.le_of_ble_eq_true rfl) dRG_init_6 (fun H locs hP hD hS => ?_)
  have hP : va_P g.1 vcl ([(h0, .inr (4, [.int (nI 3329), .int 0, .int 0, .null]))] ++ pl) _ := hP
  have hD : va_D _ ([(h0, .inr (4, [.int (nI 3329), .int 0, .int 0, .null]))] ++ pl) := hD
  refine lv_aload_n hx hb dRG_init_9 rfl (lv_at hl 0 rfl) ?_
  refine lv_iload_n hx hb dRG_init_10 rfl (lv_at hl 3 rfl) ?_
  refine va_putF (D := g.1) (ci := 4) (v := .int (nI 7)) (ty := .int) (C := "LatticeKeys$Ring") (T := T_RG) (N := 4) hx hb hts (wg_ft i_RG) ty_RG k_RG n_RG hown hK hP hD hS 0 rfl rfl 1 (by decide) (hts _ (wg_t kw_92)) (fun _ h9 => h9) rfl hnm rfl (by decide +kernel) rfl rfl (Nat.le_of_ble_eq_true rfl) dRG_init_11 (fun H locs hP hD hS => ?_)
  have hP : va_P g.1 vcl ([(h0, .inr (4, [.int (nI 3329), .int (nI 7), .int 0, .null]))] ++ pl) _ := hP
  have hD : va_D _ ([(h0, .inr (4, [.int (nI 3329), .int (nI 7), .int 0, .null]))] ++ pl) := hD
  refine lv_iconst (v := nI 1) hx hb dRG_init_14 (by decide) ?_
  refine lv_iload_n hx hb dRG_init_15 rfl (lv_at hl 3 rfl) ?_
  refine mi_ishl hx hb dRG_init_16 (by decide) (by decide) ?_
  refine mi_as (show nI (1 * 2 ^ 7) = nI 128 from rfl) ?_
  refine lv_istore (lv' := [(4, .int (nI 128)), (0, .ref h0), (1, .int (nI 3329)), (2, .int (nI 17)), (3, .int (nI 7))]) hx hb dRG_init_17 hl (by decide) rfl (fun ls hl => ?_)
  refine lv_aload_n hx hb dRG_init_19 rfl (lv_at hl 1 rfl) ?_
  refine lv_iload_n hx hb dRG_init_20 rfl (lv_at hl 2 rfl) ?_
  refine lv_iload_n hx hb dRG_init_21 rfl (lv_at hl 2 rfl) ?_
  refine lv_iconst (v := nI 1) hx hb dRG_init_22 (by decide) ?_
  refine mi_isub hx hb dRG_init_23 (by omega) ?_
  refine mi_as (show nI (3329 - 1) = nI 3328 from rfl) ?_
  refine lv_iload hx hb dRG_init_24 (lv_at hl 0 rfl) ?_
  refine mi_idiv hx hb dRG_init_26 (by omega) (by omega) (by omega) ?_
  refine mi_as (show nI (3328 / 128) = nI 26 from rfl) ?_
  refine mi_isub hx hb dRG_init_27 (by omega) ?_
  refine mi_as (show nI (3329 - 26) = nI 3303 from rfl) ?_
  refine va_putF (D := g.1) (ci := 4) (v := .int (nI 3303)) (ty := .int) (C := "LatticeKeys$Ring") (T := T_RG) (N := 4) hx hb hts (wg_ft i_RG) ty_RG k_RG n_RG hown hK hP hD hS 0 rfl rfl 2 (by decide) (hts _ (wg_t kw_93)) (fun _ h9 => h9) rfl hnm rfl (by decide +kernel) rfl rfl (Nat.le_of_ble_eq_true rfl) dRG_init_28 (fun H locs hP hD hS => ?_)
  have hP : va_P g.1 vcl ([(h0, .inr (4, [.int (nI 3329), .int (nI 7), .int (nI 3303), .null]))] ++ pl) _ := hP
  have hD : va_D _ ([(h0, .inr (4, [.int (nI 3329), .int (nI 7), .int (nI 3303), .null]))] ++ pl) := hD
  refine lv_aload_n hx hb dRG_init_31 rfl (lv_at hl 1 rfl) ?_
  refine lv_iload hx hb dRG_init_32 (lv_at hl 0 rfl) ?_
  refine ma_newa (ws := [(h0, .inr (4, [.int (nI 3329), .int (nI 7), .int (nI 3303), .null]))] ++ pl) (atype := .int) hx hb (hts _ (wg_t kw_104)) rfl hK hP hD hS hA 0 rfl (N' := 128) (a0 := (128, .inl (fun _ => 0))) (fun _ => rfl) (nI_pos (by omega)) (nI_clamp (by omega)) (by show (128) * 4 ≤ 536870912; omega) (Nat.le_of_ble_eq_true rfl) (Nat.le_of_ble_eq_true rfl) dRG_init_34 (fun q21 H hP hD hS => ?_)
  refine W.widen (k := 1) (n := 128) (by omega) (by omega) ?_
  obtain ⟨T, pl, hxt21, hU, kr21, hO, hP, hD, hnk21⟩ := absorb (X := [(h0, .inr (4, [.int (nI 3329), .int (nI 7), .int (nI 3303), .null]))]) (0, 128) hP hD hO hU (Or.inl rfl) (fun _ _ _ => ⟨_, rfl⟩)
  have hXT := ext_tr hXT hxt21
  have hP : va_P g.1 vcl ([(h0, .inr (4, [.int (nI 3329), .int (nI 7), .int (nI 3303), .null]))] ++ pl) _ := hP
  have hD : va_D _ ([(h0, .inr (4, [.int (nI 3329), .int (nI 7), .int (nI 3303), .null]))] ++ pl) := hD
  have hPS := pass_one hPS hnk21 (Or.inl rfl)
  refine va_putF (D := g.1) (ci := 4) (v := .ref q21) (ty := .array .int) (C := "LatticeKeys$Ring") (T := T_RG) (N := 4) hx hb hts (wg_ft i_RG) ty_RG k_RG n_RG hown hK hP hD hS 0 rfl rfl 3 (by decide) (hts _ (wg_t kw_94)) (fun _ h9 => h9) rfl hnm rfl (by decide +kernel) rfl rfl (Nat.le_of_ble_eq_true rfl) dRG_init_36 (fun H locs hP hD hS => ?_)
  have hP : va_P g.1 vcl ([(h0, .inr (4, [.int (nI 3329), .int (nI 7), .int (nI 3303), .ref q21]))] ++ pl) _ := hP
  have hD : va_D _ ([(h0, .inr (4, [.int (nI 3329), .int (nI 7), .int (nI 3303), .ref q21]))] ++ pl) := hD
  refine lv_lconst (v := 1) hx hb dRG_init_39 (by decide) ?_
  refine lv_lstore (lv' := [(5, .long 1), (4, .int (nI 128)), (0, .ref h0), (1, .int (nI 3329)), (2, .int (nI 17)), (3, .int (nI 7))]) hx hb dRG_init_40 hl (by decide) rfl (fun ls hl => ?_)
  refine lv_iconst (v := nI 0) hx hb dRG_init_42 (by decide) ?_
  refine lv_istore (lv' := [(7, .int (nI 0)), (5, .long 1), (4, .int (nI 128)), (0, .ref h0), (1, .int (nI 3329)), (2, .int (nI 17)), (3, .int (nI 7))]) hx hb dRG_init_43 hl (by decide) rfl (fun ls hl => ?_)
  have lp21 : ∀ (n21 : Nat) (i21 : Nat) (y21 : Int64) (pl : va_W) (ls : Array Slot) (H : Heap) (locs : List Loc), n21 + i21 = 128 → lv_has ls 8 [(7, .int (nI i21)), (5, .long y21), (4, .int (nI 128)), (0, .ref h0), (1, .int (nI 3329)), (2, .int (nI 17)), (3, .int (nI 7))] → okx g T [] pl → va_P g.1 vcl ([(h0, .inr (4, [.int (nI 3329), .int (nI 7), .int (nI 3303), .ref q21]))] ++ pl) H → va_D A ([(h0, .inr (4, [.int (nI 3329), .int (nI 7), .int (nI 3303), .ref q21]))] ++ pl) → va_S A s.heap H locs → W p l e ({ frames := 1, cells := 1, slots := 128, locals := 40 } : Room) s m args below meth c H locs 1 128 (MQ below (va_Qv (fun (u : (Ty) × va_W) => (ext T0 u.1 ∧ uni u.1 ∧ u.1 h0 = some (11, 0) ∧ pass T0 u.1 []) ∧ okx g u.1 [] u.2) (po g.1 vcl A (fun (u : (Ty) × va_W) => [] ++ u.2)) A) args s 1 128 A) (F0 m 45 ls []) := by
    intro n21
    induction n21 with
    | zero =>
      intro i21 y21 pl ls H locs hm21  hl hO hP hD hS
      refine lv_iload hx hb dRG_init_45 (lv_at hl 0 rfl) ?_
      refine lv_iload hx hb dRG_init_47 (lv_at hl 2 rfl) ?_
      refine mi_ge (tgt := 82) hx hb dRG_init_49 (by decide) (by omega) (by omega) (fun h21 => ?_) (fun h21 => absurd h21 (by omega))
      obtain ⟨hP, hD⟩ := mv_last (X := []) (c := (h0, .inr (4, [.int (nI 3329), .int (nI 7), .int (nI 3303), .ref q21]))) hP hD
      obtain ⟨T, pl, hxt22, hU, kr22, hO, hP, hD, hnk22⟩ := absorb (X := []) (11, 0) hP hD hO hU (Or.inl rfl) (fun T9 h9 _ => ⟨_, rfl, rfl, rfl, ⟨_, rfl⟩, ⟨_, rfl, h9 _ _ kr21⟩, trivial⟩)
      have kr21 := hxt22 _ _ kr21
      have hXT := ext_tr hXT hxt22
      have hP : va_P g.1 vcl ([] ++ pl) _ := hP
      have hD : va_D _ ([] ++ pl) := hD
      have hPS := pass_one hPS hnk22 (Or.inl rfl)
      exact mp_vret hx hb hr hlk hP hD hS (T, pl) ⟨⟨hXT, hU, kr22, hPS⟩, hO⟩ [] rfl rfl rfl (by omega) (by omega) dRG_init_82
    | succ n21 ih21 =>
      intro i21 y21 pl ls H locs hm21  hl hO hP hD hS
      refine lv_iload hx hb dRG_init_45 (lv_at hl 0 rfl) ?_
      refine lv_iload hx hb dRG_init_47 (lv_at hl 2 rfl) ?_
      refine mi_ge (tgt := 82) hx hb dRG_init_49 (by decide) (by omega) (by omega) (fun h22 => absurd h22 (by omega)) (fun h22 => ?_)
      refine lv_aload_n hx hb dRG_init_52 rfl (lv_at hl 3 rfl) ?_
      refine va_get (D := g.1) (ci := 4) (C := "LatticeKeys$Ring") (T := T_RG) (N := 4) hx hb hts (wg_ft i_RG) hown hK hP 0 rfl rfl 3 (by decide) (hts _ (wg_t kw_94)) (fun _ h9 => h9) rfl dRG_init_53 ?_
      refine lv_iload hx hb dRG_init_56 (lv_at hl 0 rfl) ?_
      refine lv_iload_n hx hb dRG_init_58 rfl (lv_at hl 6 rfl) ?_
      refine mq_i (cx := []) (wr := [(h0, .inr (4, [.int (nI 3329), .int (nI 7), .int (nI 3303), .ref q21]))]) hP hD hS hA [] [0] rfl rfl rfl (by decide) (va_runS (As := [.int (nI i21), .int (nI 7)]) (rest := [.ref q21]) F (m_RG_mirrored l g _ i21 7 (by omega) (by omega)) (va_cwS 2 hts (wg_app (wg_c kw_88 (wg_c kw_89 (wg_c kw_4 wg_n))) kw_90) rfl rfl rfl (by decide +kernel) ⟨by decide, by decide⟩) (pr_S (en_ok g) (md_P hP) (md_D hD) hS hA hE [] rfl rfl) rfl rfl hl.1 rfl (lv_room (Nat.le_of_ble_eq_true rfl)) dRG_init_59 ⟨Nat.le_of_ble_eq_true rfl, Nat.le_of_ble_eq_true rfl⟩) (fun r21 u21 H locs hu21 hP hD hS => ?_)
      obtain ⟨z21, hz21, rfl⟩ := hu21
      have hP : va_P g.1 vcl ([(h0, .inr (4, [.int (nI 3329), .int (nI 7), .int (nI 3303), .ref q21]))] ++ pl) _ := hP
      have hD : va_D _ ([(h0, .inr (4, [.int (nI 3329), .int (nI 7), .int (nI 3303), .ref q21]))] ++ pl) := hD
      have hz21 : z21 < 128 := hz21
      refine W.widen (k := 1) (n := 128) (by omega) (by omega) ?_
      refine lv_lload hx hb dRG_init_62 (lv_at hl 1 rfl) ?_
      refine lv_l2i hx hb dRG_init_64 rfl ?_
      refine mi_any (fun z22 => ?_)
      refine ty_iast hx hb hK hO kr21 (nxg clo_nil kr21 rfl) hP hD hS (vp_in_nI (by omega) (by decide)) dRG_init_65 (fun pl H locs hO hP hD hS => ?_)
      refine lv_lload hx hb dRG_init_66 (lv_at hl 1 rfl) ?_
      refine lv_iload_n hx hb dRG_init_68 rfl (lv_at hl 5 rfl) ?_
      refine lv_i2l (v := 17) hx hb dRG_init_69 (by decide) ?_
      refine lv_lmul hx hb dRG_init_70 ?_
      refine ml_any (fun y22 => ?_)
      refine lv_iload_n hx hb dRG_init_71 rfl (lv_at hl 4 rfl) ?_
      refine lv_i2l (v := 3329) hx hb dRG_init_72 (by decide) ?_
      refine lv_lrem hx hb dRG_init_73 (by decide) ?_
      refine ml_any (fun y23 => ?_)
      refine lv_lstore (lv' := [(5, .long y23), (7, .int (nI i21)), (4, .int (nI 128)), (0, .ref h0), (1, .int (nI 3329)), (2, .int (nI 17)), (3, .int (nI 7))]) hx hb dRG_init_74 hl (by decide) rfl (fun ls hl => ?_)
      refine mi_iinc (k := 1) (x := i21) (d := 1) (y := i21 + 1) (lv' := [(7, .int (nI (i21 + 1))), (5, .long y23), (4, .int (nI 128)), (0, .ref h0), (1, .int (nI 3329)), (2, .int (nI 17)), (3, .int (nI 7))]) hx hb dRG_init_76 hl rfl (by decide) rfl (by decide) rfl (fun ls hl => ?_)
      refine lv_goto (tgt := 45) hx hb dRG_init_79 (by decide) ?_
      exact ih21 (i21 + 1) y23 pl ls H locs (by omega) (lv_sub hl [0, 1, 2, 3, 4, 5, 6] rfl) hO hP hD hS
  exact lp21 128 0 1 pl ls _ _ (by omega) (lv_sub hl [0, 1, 2, 3, 4, 5, 6] rfl) hO hP hD hS
set_option maxHeartbeats 4000000 in
set_option maxRecDepth 100000 in
theorem t_RG_init_8 (l : Launch) (g : Gd) (sz : Nat) (T0 : Ty) (pl : va_W) (hO : okx g T0 [] pl) (hU : uni T0) (h0 : Nat)  : Met l y_RG_init w_RG_init ({ frames := 1, cells := 1, slots := 256, locals := 40 } : Room) (va_Pc [.ref h0, .int (nI 8380417), .int (nI 1753), .int (nI 8)] (pr (en g) g.1 vcl sz ([(h0, .inr (4, [.int 0, .int 0, .int 0, .null]))] ++ pl))) (va_Qv (fun (u : (Ty) × va_W) => (ext T0 u.1 ∧ uni u.1 ∧ u.1 h0 = some (12, 0) ∧ pass T0 u.1 []) ∧ okx g u.1 [] u.2) (po g.1 vcl (va_A ([(h0, .inr (4, [.int 0, .int 0, .int 0, .null]))] ++ pl) sz) (fun (u : (Ty) × va_W) => [] ++ u.2)) (va_A ([(h0, .inr (4, [.int 0, .int 0, .int 0, .null]))] ++ pl) sz)) 1 256 (va_A ([(h0, .inr (4, [.int 0, .int 0, .int 0, .null]))] ++ pl) sz) := by
  refine mc_entry (cc := c_RG_init) (maxL := 8) (ret := none) (by decide) rfl (Nat.le_of_ble_eq_true rfl) ?_
  intro p e s m args below meth c ls F hr hlk hnm hsz hP hD hE hA hl
  obtain ⟨hx, hb, hml, hown, hts⟩ := id F
  have hK := hE.1
  generalize va_A ([(h0, .inr (4, [.int 0, .int 0, .int 0, .null]))] ++ pl) sz = A at hD hE hA ⊢
  obtain ⟨T, hXT, hPS, hO, hU⟩ : ∃ T, ext T0 T ∧ pass T0 T [] ∧ okx g T [] pl ∧ uni T := ⟨T0, ext_rf, pass_rf, hO, hU⟩
  have hS : va_S A s.heap s.heap [] := va_S.rf
  have hl : lv_has ls 8 [(0, .ref h0), (1, .int (nI 8380417)), (2, .int (nI 1753)), (3, .int (nI 8))] := hl
  refine lv_aload_n hx hb dRG_init_0 rfl (lv_at hl 0 rfl) ?_
  refine W.objInit hx hb hown (hts _ (wg_t kw_87)) (hts _ (wg_t kw_41)) (hts _ (wg_t kobj)) rfl (by rw [hml]; exact hl.1) rfl dRG_init_1 (Nat.le_of_ble_eq_true rfl) (Nat.le_of_ble_eq_true rfl) ?_
  refine W.eq (g2 := F0 m 4 ls []) rfl ?_
  refine lv_aload_n hx hb dRG_init_4 rfl (lv_at hl 0 rfl) ?_
  refine lv_iload_n hx hb dRG_init_5 rfl (lv_at hl 1 rfl) ?_
  refine va_putF (D := g.1) (ci := 4) (v := .int (nI 8380417)) (ty := .int) (C := "LatticeKeys$Ring") (T := T_RG) (N := 4) hx hb hts (wg_ft i_RG) ty_RG k_RG n_RG hown hK hP hD hS 0 rfl rfl 0 (by decide) (hts _ (wg_t kw_91)) (fun _ h9 => h9) rfl hnm rfl (by decide +kernel) rfl rfl (Nat.le_of_ble_eq_true rfl) dRG_init_6 (fun H locs hP hD hS => ?_)
  have hP : va_P g.1 vcl ([(h0, .inr (4, [.int (nI 8380417), .int 0, .int 0, .null]))] ++ pl) _ := hP
  have hD : va_D _ ([(h0, .inr (4, [.int (nI 8380417), .int 0, .int 0, .null]))] ++ pl) := hD
  refine lv_aload_n hx hb dRG_init_9 rfl (lv_at hl 0 rfl) ?_
  refine lv_iload_n hx hb dRG_init_10 rfl (lv_at hl 3 rfl) ?_
  refine va_putF (D := g.1) (ci := 4) (v := .int (nI 8)) (ty := .int) (C := "LatticeKeys$Ring") (T := T_RG) (N := 4) hx hb hts (wg_ft i_RG) ty_RG k_RG n_RG hown hK hP hD hS 0 rfl rfl 1 (by decide) (hts _ (wg_t kw_92)) (fun _ h9 => h9) rfl hnm rfl (by decide +kernel) rfl rfl (Nat.le_of_ble_eq_true rfl) dRG_init_11 (fun H locs hP hD hS => ?_)
  have hP : va_P g.1 vcl ([(h0, .inr (4, [.int (nI 8380417), .int (nI 8), .int 0, .null]))] ++ pl) _ := hP
  have hD : va_D _ ([(h0, .inr (4, [.int (nI 8380417), .int (nI 8), .int 0, .null]))] ++ pl) := hD
  refine lv_iconst (v := nI 1) hx hb dRG_init_14 (by decide) ?_
  refine lv_iload_n hx hb dRG_init_15 rfl (lv_at hl 3 rfl) ?_
  refine mi_ishl hx hb dRG_init_16 (by decide) (by decide) ?_
  refine mi_as (show nI (1 * 2 ^ 8) = nI 256 from rfl) ?_
  refine lv_istore (lv' := [(4, .int (nI 256)), (0, .ref h0), (1, .int (nI 8380417)), (2, .int (nI 1753)), (3, .int (nI 8))]) hx hb dRG_init_17 hl (by decide) rfl (fun ls hl => ?_)
  refine lv_aload_n hx hb dRG_init_19 rfl (lv_at hl 1 rfl) ?_
  refine lv_iload_n hx hb dRG_init_20 rfl (lv_at hl 2 rfl) ?_
  refine lv_iload_n hx hb dRG_init_21 rfl (lv_at hl 2 rfl) ?_
  refine lv_iconst (v := nI 1) hx hb dRG_init_22 (by decide) ?_
  refine mi_isub hx hb dRG_init_23 (by omega) ?_
  refine mi_as (show nI (8380417 - 1) = nI 8380416 from rfl) ?_
  refine lv_iload hx hb dRG_init_24 (lv_at hl 0 rfl) ?_
  refine mi_idiv hx hb dRG_init_26 (by omega) (by omega) (by omega) ?_
  refine mi_as (show nI (8380416 / 256) = nI 32736 from rfl) ?_
  refine mi_isub hx hb dRG_init_27 (by omega) ?_
  refine mi_as (show nI (8380417 - 32736) = nI 8347681 from rfl) ?_
  refine va_putF (D := g.1) (ci := 4) (v := .int (nI 8347681)) (ty := .int) (C := "LatticeKeys$Ring") (T := T_RG) (N := 4) hx hb hts (wg_ft i_RG) ty_RG k_RG n_RG hown hK hP hD hS 0 rfl rfl 2 (by decide) (hts _ (wg_t kw_93)) (fun _ h9 => h9) rfl hnm rfl (by decide +kernel) rfl rfl (Nat.le_of_ble_eq_true rfl) dRG_init_28 (fun H locs hP hD hS => ?_)
  have hP : va_P g.1 vcl ([(h0, .inr (4, [.int (nI 8380417), .int (nI 8), .int (nI 8347681), .null]))] ++ pl) _ := hP
  have hD : va_D _ ([(h0, .inr (4, [.int (nI 8380417), .int (nI 8), .int (nI 8347681), .null]))] ++ pl) := hD
  refine lv_aload_n hx hb dRG_init_31 rfl (lv_at hl 1 rfl) ?_
  refine lv_iload hx hb dRG_init_32 (lv_at hl 0 rfl) ?_
  refine ma_newa (ws := [(h0, .inr (4, [.int (nI 8380417), .int (nI 8), .int (nI 8347681), .null]))] ++ pl) (atype := .int) hx hb (hts _ (wg_t kw_104)) rfl hK hP hD hS hA 0 rfl (N' := 256) (a0 := (256, .inl (fun _ => 0))) (fun _ => rfl) (nI_pos (by omega)) (nI_clamp (by omega)) (by show (256) * 4 ≤ 536870912; omega) (Nat.le_of_ble_eq_true rfl) (Nat.le_of_ble_eq_true rfl) dRG_init_34 (fun q21 H hP hD hS => ?_)
  refine W.widen (k := 1) (n := 256) (by omega) (by omega) ?_
  obtain ⟨T, pl, hxt21, hU, kr21, hO, hP, hD, hnk21⟩ := absorb (X := [(h0, .inr (4, [.int (nI 8380417), .int (nI 8), .int (nI 8347681), .null]))]) (0, 256) hP hD hO hU (Or.inl rfl) (fun _ _ _ => ⟨_, rfl⟩)
  have hXT := ext_tr hXT hxt21
  have hP : va_P g.1 vcl ([(h0, .inr (4, [.int (nI 8380417), .int (nI 8), .int (nI 8347681), .null]))] ++ pl) _ := hP
  have hD : va_D _ ([(h0, .inr (4, [.int (nI 8380417), .int (nI 8), .int (nI 8347681), .null]))] ++ pl) := hD
  have hPS := pass_one hPS hnk21 (Or.inl rfl)
  refine va_putF (D := g.1) (ci := 4) (v := .ref q21) (ty := .array .int) (C := "LatticeKeys$Ring") (T := T_RG) (N := 4) hx hb hts (wg_ft i_RG) ty_RG k_RG n_RG hown hK hP hD hS 0 rfl rfl 3 (by decide) (hts _ (wg_t kw_94)) (fun _ h9 => h9) rfl hnm rfl (by decide +kernel) rfl rfl (Nat.le_of_ble_eq_true rfl) dRG_init_36 (fun H locs hP hD hS => ?_)
  have hP : va_P g.1 vcl ([(h0, .inr (4, [.int (nI 8380417), .int (nI 8), .int (nI 8347681), .ref q21]))] ++ pl) _ := hP
  have hD : va_D _ ([(h0, .inr (4, [.int (nI 8380417), .int (nI 8), .int (nI 8347681), .ref q21]))] ++ pl) := hD
  refine lv_lconst (v := 1) hx hb dRG_init_39 (by decide) ?_
  refine lv_lstore (lv' := [(5, .long 1), (4, .int (nI 256)), (0, .ref h0), (1, .int (nI 8380417)), (2, .int (nI 1753)), (3, .int (nI 8))]) hx hb dRG_init_40 hl (by decide) rfl (fun ls hl => ?_)
  refine lv_iconst (v := nI 0) hx hb dRG_init_42 (by decide) ?_
  refine lv_istore (lv' := [(7, .int (nI 0)), (5, .long 1), (4, .int (nI 256)), (0, .ref h0), (1, .int (nI 8380417)), (2, .int (nI 1753)), (3, .int (nI 8))]) hx hb dRG_init_43 hl (by decide) rfl (fun ls hl => ?_)
  have lp21 : ∀ (n21 : Nat) (i21 : Nat) (y21 : Int64) (pl : va_W) (ls : Array Slot) (H : Heap) (locs : List Loc), n21 + i21 = 256 → lv_has ls 8 [(7, .int (nI i21)), (5, .long y21), (4, .int (nI 256)), (0, .ref h0), (1, .int (nI 8380417)), (2, .int (nI 1753)), (3, .int (nI 8))] → okx g T [] pl → va_P g.1 vcl ([(h0, .inr (4, [.int (nI 8380417), .int (nI 8), .int (nI 8347681), .ref q21]))] ++ pl) H → va_D A ([(h0, .inr (4, [.int (nI 8380417), .int (nI 8), .int (nI 8347681), .ref q21]))] ++ pl) → va_S A s.heap H locs → W p l e ({ frames := 1, cells := 1, slots := 256, locals := 40 } : Room) s m args below meth c H locs 1 256 (MQ below (va_Qv (fun (u : (Ty) × va_W) => (ext T0 u.1 ∧ uni u.1 ∧ u.1 h0 = some (12, 0) ∧ pass T0 u.1 []) ∧ okx g u.1 [] u.2) (po g.1 vcl A (fun (u : (Ty) × va_W) => [] ++ u.2)) A) args s 1 256 A) (F0 m 45 ls []) := by
    intro n21
    induction n21 with
    | zero =>
      intro i21 y21 pl ls H locs hm21  hl hO hP hD hS
      refine lv_iload hx hb dRG_init_45 (lv_at hl 0 rfl) ?_
      refine lv_iload hx hb dRG_init_47 (lv_at hl 2 rfl) ?_
      refine mi_ge (tgt := 82) hx hb dRG_init_49 (by decide) (by omega) (by omega) (fun h21 => ?_) (fun h21 => absurd h21 (by omega))
      obtain ⟨hP, hD⟩ := mv_last (X := []) (c := (h0, .inr (4, [.int (nI 8380417), .int (nI 8), .int (nI 8347681), .ref q21]))) hP hD
      obtain ⟨T, pl, hxt22, hU, kr22, hO, hP, hD, hnk22⟩ := absorb (X := []) (12, 0) hP hD hO hU (Or.inl rfl) (fun T9 h9 _ => ⟨_, rfl, rfl, rfl, ⟨_, rfl⟩, ⟨_, rfl, h9 _ _ kr21⟩, trivial⟩)
      have kr21 := hxt22 _ _ kr21
      have hXT := ext_tr hXT hxt22
      have hP : va_P g.1 vcl ([] ++ pl) _ := hP
      have hD : va_D _ ([] ++ pl) := hD
      have hPS := pass_one hPS hnk22 (Or.inl rfl)
      exact mp_vret hx hb hr hlk hP hD hS (T, pl) ⟨⟨hXT, hU, kr22, hPS⟩, hO⟩ [] rfl rfl rfl (by omega) (by omega) dRG_init_82
    | succ n21 ih21 =>
      intro i21 y21 pl ls H locs hm21  hl hO hP hD hS
      refine lv_iload hx hb dRG_init_45 (lv_at hl 0 rfl) ?_
      refine lv_iload hx hb dRG_init_47 (lv_at hl 2 rfl) ?_
      refine mi_ge (tgt := 82) hx hb dRG_init_49 (by decide) (by omega) (by omega) (fun h22 => absurd h22 (by omega)) (fun h22 => ?_)
      refine lv_aload_n hx hb dRG_init_52 rfl (lv_at hl 3 rfl) ?_
      refine va_get (D := g.1) (ci := 4) (C := "LatticeKeys$Ring") (T := T_RG) (N := 4) hx hb hts (wg_ft i_RG) hown hK hP 0 rfl rfl 3 (by decide) (hts _ (wg_t kw_94)) (fun _ h9 => h9) rfl dRG_init_53 ?_
      refine lv_iload hx hb dRG_init_56 (lv_at hl 0 rfl) ?_
      refine lv_iload_n hx hb dRG_init_58 rfl (lv_at hl 6 rfl) ?_
      refine mq_i (cx := []) (wr := [(h0, .inr (4, [.int (nI 8380417), .int (nI 8), .int (nI 8347681), .ref q21]))]) hP hD hS hA [] [0] rfl rfl rfl (by decide) (va_runS (As := [.int (nI i21), .int (nI 8)]) (rest := [.ref q21]) F (m_RG_mirrored l g _ i21 8 (by omega) (by omega)) (va_cwS 2 hts (wg_app (wg_c kw_88 (wg_c kw_89 (wg_c kw_4 wg_n))) kw_90) rfl rfl rfl (by decide +kernel) ⟨by decide, by decide⟩) (pr_S (en_ok g) (md_P hP) (md_D hD) hS hA hE [] rfl rfl) rfl rfl hl.1 rfl (lv_room (Nat.le_of_ble_eq_true rfl)) dRG_init_59 ⟨Nat.le_of_ble_eq_true rfl, Nat.le_of_ble_eq_true rfl⟩) (fun r21 u21 H locs hu21 hP hD hS => ?_)
      obtain ⟨z21, hz21, rfl⟩ := hu21
      have hP : va_P g.1 vcl ([(h0, .inr (4, [.int (nI 8380417), .int (nI 8), .int (nI 8347681), .ref q21]))] ++ pl) _ := hP
      have hD : va_D _ ([(h0, .inr (4, [.int (nI 8380417), .int (nI 8), .int (nI 8347681), .ref q21]))] ++ pl) := hD
      have hz21 : z21 < 256 := hz21
      refine W.widen (k := 1) (n := 256) (by omega) (by omega) ?_
      refine lv_lload hx hb dRG_init_62 (lv_at hl 1 rfl) ?_
      refine lv_l2i hx hb dRG_init_64 rfl ?_
      refine mi_any (fun z22 => ?_)
      refine ty_iast hx hb hK hO kr21 (nxg clo_nil kr21 rfl) hP hD hS (vp_in_nI (by omega) (by decide)) dRG_init_65 (fun pl H locs hO hP hD hS => ?_)
      refine lv_lload hx hb dRG_init_66 (lv_at hl 1 rfl) ?_
      refine lv_iload_n hx hb dRG_init_68 rfl (lv_at hl 5 rfl) ?_
      refine lv_i2l (v := 1753) hx hb dRG_init_69 (by decide) ?_
      refine lv_lmul hx hb dRG_init_70 ?_
      refine ml_any (fun y22 => ?_)
      refine lv_iload_n hx hb dRG_init_71 rfl (lv_at hl 4 rfl) ?_
      refine lv_i2l (v := 8380417) hx hb dRG_init_72 (by decide) ?_
      refine lv_lrem hx hb dRG_init_73 (by decide) ?_
      refine ml_any (fun y23 => ?_)
      refine lv_lstore (lv' := [(5, .long y23), (7, .int (nI i21)), (4, .int (nI 256)), (0, .ref h0), (1, .int (nI 8380417)), (2, .int (nI 1753)), (3, .int (nI 8))]) hx hb dRG_init_74 hl (by decide) rfl (fun ls hl => ?_)
      refine mi_iinc (k := 1) (x := i21) (d := 1) (y := i21 + 1) (lv' := [(7, .int (nI (i21 + 1))), (5, .long y23), (4, .int (nI 256)), (0, .ref h0), (1, .int (nI 8380417)), (2, .int (nI 1753)), (3, .int (nI 8))]) hx hb dRG_init_76 hl rfl (by decide) rfl (by decide) rfl (fun ls hl => ?_)
      refine lv_goto (tgt := 45) hx hb dRG_init_79 (by decide) ?_
      exact ih21 (i21 + 1) y23 pl ls H locs (by omega) (lv_sub hl [0, 1, 2, 3, 4, 5, 6] rfl) hO hP hD hS
  exact lp21 256 0 1 pl ls _ _ (by omega) (lv_sub hl [0, 1, 2, 3, 4, 5, 6] rfl) hO hP hD hS
set_option maxHeartbeats 4000000 in
set_option maxRecDepth 100000 in
theorem t_KS_init_0 (l : Launch) (g : Gd) (sz : Nat) (T : Ty) (pl : va_W) (hO : okx g T [] pl) (hU : uni T) (h0 : Nat)  : Met l y_KS_init w_KS_init ({ frames := 1, cells := 0, slots := 0, locals := 40 } : Room) (va_Pc [.ref h0, .int (nI 0)] (pr (en g) g.1 vcl sz ([(h0, .inr (1, [.int 0, .int 0, .int 0, .int 0, .int 0, .int 0, .int 0, .int 0, .int 0, .int 0]))] ++ pl))) (va_Qv (fun (u : va_W) => (True) ∧ okx g T [] u) (po g.1 vcl (va_A ([(h0, .inr (1, [.int 0, .int 0, .int 0, .int 0, .int 0, .int 0, .int 0, .int 0, .int 0, .int 0]))] ++ pl) sz) (fun (u : va_W) => [(h0, .inr (1, [.int (nI 2), .int (nI 3), .int (nI 10), .int (nI 4), .int (nI 800), .int (nI 1632), .int (nI 768), .int (nI 768), .int (nI 1568), .int (nI 1600)]))] ++ u)) (va_A ([(h0, .inr (1, [.int 0, .int 0, .int 0, .int 0, .int 0, .int 0, .int 0, .int 0, .int 0, .int 0]))] ++ pl) sz)) 0 0 (va_A ([(h0, .inr (1, [.int 0, .int 0, .int 0, .int 0, .int 0, .int 0, .int 0, .int 0, .int 0, .int 0]))] ++ pl) sz) := by
  refine mc_entry (cc := c_KS_init) (maxL := 2) (ret := none) (by decide) rfl (Nat.le_of_ble_eq_true rfl) ?_
  intro p e s m args below meth c ls F hr hlk hnm hsz hP hD hE hA hl
  obtain ⟨hx, hb, hml, hown, hts⟩ := id F
  have hK := hE.1
  generalize va_A ([(h0, .inr (1, [.int 0, .int 0, .int 0, .int 0, .int 0, .int 0, .int 0, .int 0, .int 0, .int 0]))] ++ pl) sz = A at hD hE hA ⊢
  have hS : va_S A s.heap s.heap [] := va_S.rf
  have hl : lv_has ls 2 [(0, .ref h0), (1, .int (nI 0))] := hl
  refine lv_aload_n hx hb dKS_init_0 rfl (lv_at hl 0 rfl) ?_
  refine W.objInit hx hb hown (hts _ (wg_t kw_221)) (hts _ (wg_t kw_41)) (hts _ (wg_t kobj)) rfl (by rw [hml]; exact hl.1) rfl dKS_init_1 (Nat.le_of_ble_eq_true rfl) (Nat.le_of_ble_eq_true rfl) ?_
  refine W.eq (g2 := F0 m 4 ls []) rfl ?_
  refine lv_aload_n hx hb dKS_init_4 rfl (lv_at hl 0 rfl) ?_
  refine va_gets hx hb (hE.2.1 5 _ rfl).1 hS hown (hts _ (wg_t kw_222)) (fun _ h9 => h9) dKS_init_5 ?_
  refine lv_iload_n hx hb dKS_init_8 rfl (lv_at hl 1 rfl) ?_
  refine va_ti (v := .int (nI 2)) hx hb (hE.2.1 5 _ rfl).2 hS (vp_in_nI (by decide) (by decide)) (by decide +kernel) dKS_init_9 ?_
  refine va_putF (D := g.1) (ci := 1) (v := .int (nI 2)) (ty := .int) (C := "LatticeKeys$KemSet") (T := T_KS) (N := 10) hx hb hts (wg_ft i_KS) ty_KS k_KS n_KS hown hK hP hD hS 0 rfl rfl 0 (by decide) (hts _ (wg_t kw_230)) (fun _ h9 => h9) rfl hnm rfl (by decide +kernel) rfl rfl (Nat.le_of_ble_eq_true rfl) dKS_init_10 (fun H locs hP hD hS => ?_)
  have hP : va_P g.1 vcl ([(h0, .inr (1, [.int (nI 2), .int 0, .int 0, .int 0, .int 0, .int 0, .int 0, .int 0, .int 0, .int 0]))] ++ pl) _ := hP
  have hD : va_D _ ([(h0, .inr (1, [.int (nI 2), .int 0, .int 0, .int 0, .int 0, .int 0, .int 0, .int 0, .int 0, .int 0]))] ++ pl) := hD
  refine lv_aload_n hx hb dKS_init_13 rfl (lv_at hl 0 rfl) ?_
  refine va_gets hx hb (hE.2.1 6 _ rfl).1 hS hown (hts _ (wg_t kw_224)) (fun _ h9 => h9) dKS_init_14 ?_
  refine lv_iload_n hx hb dKS_init_17 rfl (lv_at hl 1 rfl) ?_
  refine va_ti (v := .int (nI 3)) hx hb (hE.2.1 6 _ rfl).2 hS (vp_in_nI (by decide) (by decide)) (by decide +kernel) dKS_init_18 ?_
  refine va_putF (D := g.1) (ci := 1) (v := .int (nI 3)) (ty := .int) (C := "LatticeKeys$KemSet") (T := T_KS) (N := 10) hx hb hts (wg_ft i_KS) ty_KS k_KS n_KS hown hK hP hD hS 0 rfl rfl 1 (by decide) (hts _ (wg_t kw_232)) (fun _ h9 => h9) rfl hnm rfl (by decide +kernel) rfl rfl (Nat.le_of_ble_eq_true rfl) dKS_init_19 (fun H locs hP hD hS => ?_)
  have hP : va_P g.1 vcl ([(h0, .inr (1, [.int (nI 2), .int (nI 3), .int 0, .int 0, .int 0, .int 0, .int 0, .int 0, .int 0, .int 0]))] ++ pl) _ := hP
  have hD : va_D _ ([(h0, .inr (1, [.int (nI 2), .int (nI 3), .int 0, .int 0, .int 0, .int 0, .int 0, .int 0, .int 0, .int 0]))] ++ pl) := hD
  refine lv_aload_n hx hb dKS_init_22 rfl (lv_at hl 0 rfl) ?_
  refine va_gets hx hb (hE.2.1 7 _ rfl).1 hS hown (hts _ (wg_t kw_226)) (fun _ h9 => h9) dKS_init_23 ?_
  refine lv_iload_n hx hb dKS_init_26 rfl (lv_at hl 1 rfl) ?_
  refine va_ti (v := .int (nI 10)) hx hb (hE.2.1 7 _ rfl).2 hS (vp_in_nI (by decide) (by decide)) (by decide +kernel) dKS_init_27 ?_
  refine va_putF (D := g.1) (ci := 1) (v := .int (nI 10)) (ty := .int) (C := "LatticeKeys$KemSet") (T := T_KS) (N := 10) hx hb hts (wg_ft i_KS) ty_KS k_KS n_KS hown hK hP hD hS 0 rfl rfl 2 (by decide) (hts _ (wg_t kw_234)) (fun _ h9 => h9) rfl hnm rfl (by decide +kernel) rfl rfl (Nat.le_of_ble_eq_true rfl) dKS_init_28 (fun H locs hP hD hS => ?_)
  have hP : va_P g.1 vcl ([(h0, .inr (1, [.int (nI 2), .int (nI 3), .int (nI 10), .int 0, .int 0, .int 0, .int 0, .int 0, .int 0, .int 0]))] ++ pl) _ := hP
  have hD : va_D _ ([(h0, .inr (1, [.int (nI 2), .int (nI 3), .int (nI 10), .int 0, .int 0, .int 0, .int 0, .int 0, .int 0, .int 0]))] ++ pl) := hD
  refine lv_aload_n hx hb dKS_init_31 rfl (lv_at hl 0 rfl) ?_
  refine va_gets hx hb (hE.2.1 8 _ rfl).1 hS hown (hts _ (wg_t kw_228)) (fun _ h9 => h9) dKS_init_32 ?_
  refine lv_iload_n hx hb dKS_init_35 rfl (lv_at hl 1 rfl) ?_
  refine va_ti (v := .int (nI 4)) hx hb (hE.2.1 8 _ rfl).2 hS (vp_in_nI (by decide) (by decide)) (by decide +kernel) dKS_init_36 ?_
  refine va_putF (D := g.1) (ci := 1) (v := .int (nI 4)) (ty := .int) (C := "LatticeKeys$KemSet") (T := T_KS) (N := 10) hx hb hts (wg_ft i_KS) ty_KS k_KS n_KS hown hK hP hD hS 0 rfl rfl 3 (by decide) (hts _ (wg_t kw_236)) (fun _ h9 => h9) rfl hnm rfl (by decide +kernel) rfl rfl (Nat.le_of_ble_eq_true rfl) dKS_init_37 (fun H locs hP hD hS => ?_)
  have hP : va_P g.1 vcl ([(h0, .inr (1, [.int (nI 2), .int (nI 3), .int (nI 10), .int (nI 4), .int 0, .int 0, .int 0, .int 0, .int 0, .int 0]))] ++ pl) _ := hP
  have hD : va_D _ ([(h0, .inr (1, [.int (nI 2), .int (nI 3), .int (nI 10), .int (nI 4), .int 0, .int 0, .int 0, .int 0, .int 0, .int 0]))] ++ pl) := hD
  refine lv_aload_n hx hb dKS_init_40 rfl (lv_at hl 0 rfl) ?_
  refine lv_sipush (v := nI 384) hx hb dKS_init_41 (by decide) ?_
  refine lv_aload_n hx hb dKS_init_44 rfl (lv_at hl 0 rfl) ?_
  refine va_get (D := g.1) (ci := 1) (C := "LatticeKeys$KemSet") (T := T_KS) (N := 10) hx hb hts (wg_ft i_KS) hown hK hP 0 rfl rfl 0 (by decide) (hts _ (wg_t kw_230)) (fun _ h9 => h9) rfl dKS_init_45 ?_
  refine mi_imul hx hb dKS_init_48 ?_
  refine mi_as (show nI (384 * 2) = nI 768 from rfl) ?_
  refine lv_bipush (v := nI 32) hx hb dKS_init_49 (by decide) ?_
  refine mi_iadd hx hb dKS_init_51 ?_
  refine mi_as (show nI (768 + 32) = nI 800 from rfl) ?_
  refine va_putF (D := g.1) (ci := 1) (v := .int (nI 800)) (ty := .int) (C := "LatticeKeys$KemSet") (T := T_KS) (N := 10) hx hb hts (wg_ft i_KS) ty_KS k_KS n_KS hown hK hP hD hS 0 rfl rfl 4 (by decide) (hts _ (wg_t kw_238)) (fun _ h9 => h9) rfl hnm rfl (by decide +kernel) rfl rfl (Nat.le_of_ble_eq_true rfl) dKS_init_52 (fun H locs hP hD hS => ?_)
  have hP : va_P g.1 vcl ([(h0, .inr (1, [.int (nI 2), .int (nI 3), .int (nI 10), .int (nI 4), .int (nI 800), .int 0, .int 0, .int 0, .int 0, .int 0]))] ++ pl) _ := hP
  have hD : va_D _ ([(h0, .inr (1, [.int (nI 2), .int (nI 3), .int (nI 10), .int (nI 4), .int (nI 800), .int 0, .int 0, .int 0, .int 0, .int 0]))] ++ pl) := hD
  refine lv_aload_n hx hb dKS_init_55 rfl (lv_at hl 0 rfl) ?_
  refine lv_bipush (v := nI 32) hx hb dKS_init_56 (by decide) ?_
  refine lv_aload_n hx hb dKS_init_58 rfl (lv_at hl 0 rfl) ?_
  refine va_get (D := g.1) (ci := 1) (C := "LatticeKeys$KemSet") (T := T_KS) (N := 10) hx hb hts (wg_ft i_KS) hown hK hP 0 rfl rfl 2 (by decide) (hts _ (wg_t kw_234)) (fun _ h9 => h9) rfl dKS_init_59 ?_
  refine lv_aload_n hx hb dKS_init_62 rfl (lv_at hl 0 rfl) ?_
  refine va_get (D := g.1) (ci := 1) (C := "LatticeKeys$KemSet") (T := T_KS) (N := 10) hx hb hts (wg_ft i_KS) hown hK hP 0 rfl rfl 0 (by decide) (hts _ (wg_t kw_230)) (fun _ h9 => h9) rfl dKS_init_63 ?_
  refine mi_imul hx hb dKS_init_66 ?_
  refine mi_as (show nI (10 * 2) = nI 20 from rfl) ?_
  refine lv_aload_n hx hb dKS_init_67 rfl (lv_at hl 0 rfl) ?_
  refine va_get (D := g.1) (ci := 1) (C := "LatticeKeys$KemSet") (T := T_KS) (N := 10) hx hb hts (wg_ft i_KS) hown hK hP 0 rfl rfl 3 (by decide) (hts _ (wg_t kw_236)) (fun _ h9 => h9) rfl dKS_init_68 ?_
  refine mi_iadd hx hb dKS_init_71 ?_
  refine mi_as (show nI (20 + 4) = nI 24 from rfl) ?_
  refine mi_imul hx hb dKS_init_72 ?_
  refine mi_as (show nI (32 * 24) = nI 768 from rfl) ?_
  refine va_putF (D := g.1) (ci := 1) (v := .int (nI 768)) (ty := .int) (C := "LatticeKeys$KemSet") (T := T_KS) (N := 10) hx hb hts (wg_ft i_KS) ty_KS k_KS n_KS hown hK hP hD hS 0 rfl rfl 6 (by decide) (hts _ (wg_t kw_243)) (fun _ h9 => h9) rfl hnm rfl (by decide +kernel) rfl rfl (Nat.le_of_ble_eq_true rfl) dKS_init_73 (fun H locs hP hD hS => ?_)
  have hP : va_P g.1 vcl ([(h0, .inr (1, [.int (nI 2), .int (nI 3), .int (nI 10), .int (nI 4), .int (nI 800), .int 0, .int (nI 768), .int 0, .int 0, .int 0]))] ++ pl) _ := hP
  have hD : va_D _ ([(h0, .inr (1, [.int (nI 2), .int (nI 3), .int (nI 10), .int (nI 4), .int (nI 800), .int 0, .int (nI 768), .int 0, .int 0, .int 0]))] ++ pl) := hD
  refine lv_aload_n hx hb dKS_init_76 rfl (lv_at hl 0 rfl) ?_
  refine lv_sipush (v := nI 384) hx hb dKS_init_77 (by decide) ?_
  refine lv_aload_n hx hb dKS_init_80 rfl (lv_at hl 0 rfl) ?_
  refine va_get (D := g.1) (ci := 1) (C := "LatticeKeys$KemSet") (T := T_KS) (N := 10) hx hb hts (wg_ft i_KS) hown hK hP 0 rfl rfl 0 (by decide) (hts _ (wg_t kw_230)) (fun _ h9 => h9) rfl dKS_init_81 ?_
  refine mi_imul hx hb dKS_init_84 ?_
  refine mi_as (show nI (384 * 2) = nI 768 from rfl) ?_
  refine va_putF (D := g.1) (ci := 1) (v := .int (nI 768)) (ty := .int) (C := "LatticeKeys$KemSet") (T := T_KS) (N := 10) hx hb hts (wg_ft i_KS) ty_KS k_KS n_KS hown hK hP hD hS 0 rfl rfl 7 (by decide) (hts _ (wg_t kw_246)) (fun _ h9 => h9) rfl hnm rfl (by decide +kernel) rfl rfl (Nat.le_of_ble_eq_true rfl) dKS_init_85 (fun H locs hP hD hS => ?_)
  have hP : va_P g.1 vcl ([(h0, .inr (1, [.int (nI 2), .int (nI 3), .int (nI 10), .int (nI 4), .int (nI 800), .int 0, .int (nI 768), .int (nI 768), .int 0, .int 0]))] ++ pl) _ := hP
  have hD : va_D _ ([(h0, .inr (1, [.int (nI 2), .int (nI 3), .int (nI 10), .int (nI 4), .int (nI 800), .int 0, .int (nI 768), .int (nI 768), .int 0, .int 0]))] ++ pl) := hD
  refine lv_aload_n hx hb dKS_init_88 rfl (lv_at hl 0 rfl) ?_
  refine lv_aload_n hx hb dKS_init_89 rfl (lv_at hl 0 rfl) ?_
  refine va_get (D := g.1) (ci := 1) (C := "LatticeKeys$KemSet") (T := T_KS) (N := 10) hx hb hts (wg_ft i_KS) hown hK hP 0 rfl rfl 7 (by decide) (hts _ (wg_t kw_246)) (fun _ h9 => h9) rfl dKS_init_90 ?_
  refine lv_aload_n hx hb dKS_init_93 rfl (lv_at hl 0 rfl) ?_
  refine va_get (D := g.1) (ci := 1) (C := "LatticeKeys$KemSet") (T := T_KS) (N := 10) hx hb hts (wg_ft i_KS) hown hK hP 0 rfl rfl 4 (by decide) (hts _ (wg_t kw_238)) (fun _ h9 => h9) rfl dKS_init_94 ?_
  refine mi_iadd hx hb dKS_init_97 ?_
  refine mi_as (show nI (768 + 800) = nI 1568 from rfl) ?_
  refine va_putF (D := g.1) (ci := 1) (v := .int (nI 1568)) (ty := .int) (C := "LatticeKeys$KemSet") (T := T_KS) (N := 10) hx hb hts (wg_ft i_KS) ty_KS k_KS n_KS hown hK hP hD hS 0 rfl rfl 8 (by decide) (hts _ (wg_t kw_249)) (fun _ h9 => h9) rfl hnm rfl (by decide +kernel) rfl rfl (Nat.le_of_ble_eq_true rfl) dKS_init_98 (fun H locs hP hD hS => ?_)
  have hP : va_P g.1 vcl ([(h0, .inr (1, [.int (nI 2), .int (nI 3), .int (nI 10), .int (nI 4), .int (nI 800), .int 0, .int (nI 768), .int (nI 768), .int (nI 1568), .int 0]))] ++ pl) _ := hP
  have hD : va_D _ ([(h0, .inr (1, [.int (nI 2), .int (nI 3), .int (nI 10), .int (nI 4), .int (nI 800), .int 0, .int (nI 768), .int (nI 768), .int (nI 1568), .int 0]))] ++ pl) := hD
  refine lv_aload_n hx hb dKS_init_101 rfl (lv_at hl 0 rfl) ?_
  refine lv_aload_n hx hb dKS_init_102 rfl (lv_at hl 0 rfl) ?_
  refine va_get (D := g.1) (ci := 1) (C := "LatticeKeys$KemSet") (T := T_KS) (N := 10) hx hb hts (wg_ft i_KS) hown hK hP 0 rfl rfl 8 (by decide) (hts _ (wg_t kw_249)) (fun _ h9 => h9) rfl dKS_init_103 ?_
  refine lv_bipush (v := nI 32) hx hb dKS_init_106 (by decide) ?_
  refine mi_iadd hx hb dKS_init_108 ?_
  refine mi_as (show nI (1568 + 32) = nI 1600 from rfl) ?_
  refine va_putF (D := g.1) (ci := 1) (v := .int (nI 1600)) (ty := .int) (C := "LatticeKeys$KemSet") (T := T_KS) (N := 10) hx hb hts (wg_ft i_KS) ty_KS k_KS n_KS hown hK hP hD hS 0 rfl rfl 9 (by decide) (hts _ (wg_t kw_251)) (fun _ h9 => h9) rfl hnm rfl (by decide +kernel) rfl rfl (Nat.le_of_ble_eq_true rfl) dKS_init_109 (fun H locs hP hD hS => ?_)
  have hP : va_P g.1 vcl ([(h0, .inr (1, [.int (nI 2), .int (nI 3), .int (nI 10), .int (nI 4), .int (nI 800), .int 0, .int (nI 768), .int (nI 768), .int (nI 1568), .int (nI 1600)]))] ++ pl) _ := hP
  have hD : va_D _ ([(h0, .inr (1, [.int (nI 2), .int (nI 3), .int (nI 10), .int (nI 4), .int (nI 800), .int 0, .int (nI 768), .int (nI 768), .int (nI 1568), .int (nI 1600)]))] ++ pl) := hD
  refine lv_aload_n hx hb dKS_init_112 rfl (lv_at hl 0 rfl) ?_
  refine lv_aload_n hx hb dKS_init_113 rfl (lv_at hl 0 rfl) ?_
  refine va_get (D := g.1) (ci := 1) (C := "LatticeKeys$KemSet") (T := T_KS) (N := 10) hx hb hts (wg_ft i_KS) hown hK hP 0 rfl rfl 9 (by decide) (hts _ (wg_t kw_251)) (fun _ h9 => h9) rfl dKS_init_114 ?_
  refine lv_bipush (v := nI 32) hx hb dKS_init_117 (by decide) ?_
  refine mi_iadd hx hb dKS_init_119 ?_
  refine mi_as (show nI (1600 + 32) = nI 1632 from rfl) ?_
  refine va_putF (D := g.1) (ci := 1) (v := .int (nI 1632)) (ty := .int) (C := "LatticeKeys$KemSet") (T := T_KS) (N := 10) hx hb hts (wg_ft i_KS) ty_KS k_KS n_KS hown hK hP hD hS 0 rfl rfl 5 (by decide) (hts _ (wg_t kw_241)) (fun _ h9 => h9) rfl hnm rfl (by decide +kernel) rfl rfl (Nat.le_of_ble_eq_true rfl) dKS_init_120 (fun H locs hP hD hS => ?_)
  have hP : va_P g.1 vcl ([(h0, .inr (1, [.int (nI 2), .int (nI 3), .int (nI 10), .int (nI 4), .int (nI 800), .int (nI 1632), .int (nI 768), .int (nI 768), .int (nI 1568), .int (nI 1600)]))] ++ pl) _ := hP
  have hD : va_D _ ([(h0, .inr (1, [.int (nI 2), .int (nI 3), .int (nI 10), .int (nI 4), .int (nI 800), .int (nI 1632), .int (nI 768), .int (nI 768), .int (nI 1568), .int (nI 1600)]))] ++ pl) := hD
  exact mp_vret hx hb hr hlk hP hD hS pl ⟨trivial, hO⟩ [0] rfl rfl rfl (by omega) (by omega) dKS_init_123
set_option maxHeartbeats 4000000 in
set_option maxRecDepth 100000 in
theorem t_KS_init_1 (l : Launch) (g : Gd) (sz : Nat) (T : Ty) (pl : va_W) (hO : okx g T [] pl) (hU : uni T) (h0 : Nat)  : Met l y_KS_init w_KS_init ({ frames := 1, cells := 0, slots := 0, locals := 40 } : Room) (va_Pc [.ref h0, .int (nI 1)] (pr (en g) g.1 vcl sz ([(h0, .inr (1, [.int 0, .int 0, .int 0, .int 0, .int 0, .int 0, .int 0, .int 0, .int 0, .int 0]))] ++ pl))) (va_Qv (fun (u : va_W) => (True) ∧ okx g T [] u) (po g.1 vcl (va_A ([(h0, .inr (1, [.int 0, .int 0, .int 0, .int 0, .int 0, .int 0, .int 0, .int 0, .int 0, .int 0]))] ++ pl) sz) (fun (u : va_W) => [(h0, .inr (1, [.int (nI 3), .int (nI 2), .int (nI 10), .int (nI 4), .int (nI 1184), .int (nI 2400), .int (nI 1088), .int (nI 1152), .int (nI 2336), .int (nI 2368)]))] ++ u)) (va_A ([(h0, .inr (1, [.int 0, .int 0, .int 0, .int 0, .int 0, .int 0, .int 0, .int 0, .int 0, .int 0]))] ++ pl) sz)) 0 0 (va_A ([(h0, .inr (1, [.int 0, .int 0, .int 0, .int 0, .int 0, .int 0, .int 0, .int 0, .int 0, .int 0]))] ++ pl) sz) := by
  refine mc_entry (cc := c_KS_init) (maxL := 2) (ret := none) (by decide) rfl (Nat.le_of_ble_eq_true rfl) ?_
  intro p e s m args below meth c ls F hr hlk hnm hsz hP hD hE hA hl
  obtain ⟨hx, hb, hml, hown, hts⟩ := id F
  have hK := hE.1
  generalize va_A ([(h0, .inr (1, [.int 0, .int 0, .int 0, .int 0, .int 0, .int 0, .int 0, .int 0, .int 0, .int 0]))] ++ pl) sz = A at hD hE hA ⊢
  have hS : va_S A s.heap s.heap [] := va_S.rf
  have hl : lv_has ls 2 [(0, .ref h0), (1, .int (nI 1))] := hl
  refine lv_aload_n hx hb dKS_init_0 rfl (lv_at hl 0 rfl) ?_
  refine W.objInit hx hb hown (hts _ (wg_t kw_221)) (hts _ (wg_t kw_41)) (hts _ (wg_t kobj)) rfl (by rw [hml]; exact hl.1) rfl dKS_init_1 (Nat.le_of_ble_eq_true rfl) (Nat.le_of_ble_eq_true rfl) ?_
  refine W.eq (g2 := F0 m 4 ls []) rfl ?_
  refine lv_aload_n hx hb dKS_init_4 rfl (lv_at hl 0 rfl) ?_
  refine va_gets hx hb (hE.2.1 5 _ rfl).1 hS hown (hts _ (wg_t kw_222)) (fun _ h9 => h9) dKS_init_5 ?_
  refine lv_iload_n hx hb dKS_init_8 rfl (lv_at hl 1 rfl) ?_
  refine va_ti (v := .int (nI 3)) hx hb (hE.2.1 5 _ rfl).2 hS (vp_in_nI (by decide) (by decide)) (by decide +kernel) dKS_init_9 ?_
  refine va_putF (D := g.1) (ci := 1) (v := .int (nI 3)) (ty := .int) (C := "LatticeKeys$KemSet") (T := T_KS) (N := 10) hx hb hts (wg_ft i_KS) ty_KS k_KS n_KS hown hK hP hD hS 0 rfl rfl 0 (by decide) (hts _ (wg_t kw_230)) (fun _ h9 => h9) rfl hnm rfl (by decide +kernel) rfl rfl (Nat.le_of_ble_eq_true rfl) dKS_init_10 (fun H locs hP hD hS => ?_)
  have hP : va_P g.1 vcl ([(h0, .inr (1, [.int (nI 3), .int 0, .int 0, .int 0, .int 0, .int 0, .int 0, .int 0, .int 0, .int 0]))] ++ pl) _ := hP
  have hD : va_D _ ([(h0, .inr (1, [.int (nI 3), .int 0, .int 0, .int 0, .int 0, .int 0, .int 0, .int 0, .int 0, .int 0]))] ++ pl) := hD
  refine lv_aload_n hx hb dKS_init_13 rfl (lv_at hl 0 rfl) ?_
  refine va_gets hx hb (hE.2.1 6 _ rfl).1 hS hown (hts _ (wg_t kw_224)) (fun _ h9 => h9) dKS_init_14 ?_
  refine lv_iload_n hx hb dKS_init_17 rfl (lv_at hl 1 rfl) ?_
  refine va_ti (v := .int (nI 2)) hx hb (hE.2.1 6 _ rfl).2 hS (vp_in_nI (by decide) (by decide)) (by decide +kernel) dKS_init_18 ?_
  refine va_putF (D := g.1) (ci := 1) (v := .int (nI 2)) (ty := .int) (C := "LatticeKeys$KemSet") (T := T_KS) (N := 10) hx hb hts (wg_ft i_KS) ty_KS k_KS n_KS hown hK hP hD hS 0 rfl rfl 1 (by decide) (hts _ (wg_t kw_232)) (fun _ h9 => h9) rfl hnm rfl (by decide +kernel) rfl rfl (Nat.le_of_ble_eq_true rfl) dKS_init_19 (fun H locs hP hD hS => ?_)
  have hP : va_P g.1 vcl ([(h0, .inr (1, [.int (nI 3), .int (nI 2), .int 0, .int 0, .int 0, .int 0, .int 0, .int 0, .int 0, .int 0]))] ++ pl) _ := hP
  have hD : va_D _ ([(h0, .inr (1, [.int (nI 3), .int (nI 2), .int 0, .int 0, .int 0, .int 0, .int 0, .int 0, .int 0, .int 0]))] ++ pl) := hD
  refine lv_aload_n hx hb dKS_init_22 rfl (lv_at hl 0 rfl) ?_
  refine va_gets hx hb (hE.2.1 7 _ rfl).1 hS hown (hts _ (wg_t kw_226)) (fun _ h9 => h9) dKS_init_23 ?_
  refine lv_iload_n hx hb dKS_init_26 rfl (lv_at hl 1 rfl) ?_
  refine va_ti (v := .int (nI 10)) hx hb (hE.2.1 7 _ rfl).2 hS (vp_in_nI (by decide) (by decide)) (by decide +kernel) dKS_init_27 ?_
  refine va_putF (D := g.1) (ci := 1) (v := .int (nI 10)) (ty := .int) (C := "LatticeKeys$KemSet") (T := T_KS) (N := 10) hx hb hts (wg_ft i_KS) ty_KS k_KS n_KS hown hK hP hD hS 0 rfl rfl 2 (by decide) (hts _ (wg_t kw_234)) (fun _ h9 => h9) rfl hnm rfl (by decide +kernel) rfl rfl (Nat.le_of_ble_eq_true rfl) dKS_init_28 (fun H locs hP hD hS => ?_)
  have hP : va_P g.1 vcl ([(h0, .inr (1, [.int (nI 3), .int (nI 2), .int (nI 10), .int 0, .int 0, .int 0, .int 0, .int 0, .int 0, .int 0]))] ++ pl) _ := hP
  have hD : va_D _ ([(h0, .inr (1, [.int (nI 3), .int (nI 2), .int (nI 10), .int 0, .int 0, .int 0, .int 0, .int 0, .int 0, .int 0]))] ++ pl) := hD
  refine lv_aload_n hx hb dKS_init_31 rfl (lv_at hl 0 rfl) ?_
  refine va_gets hx hb (hE.2.1 8 _ rfl).1 hS hown (hts _ (wg_t kw_228)) (fun _ h9 => h9) dKS_init_32 ?_
  refine lv_iload_n hx hb dKS_init_35 rfl (lv_at hl 1 rfl) ?_
  refine va_ti (v := .int (nI 4)) hx hb (hE.2.1 8 _ rfl).2 hS (vp_in_nI (by decide) (by decide)) (by decide +kernel) dKS_init_36 ?_
  refine va_putF (D := g.1) (ci := 1) (v := .int (nI 4)) (ty := .int) (C := "LatticeKeys$KemSet") (T := T_KS) (N := 10) hx hb hts (wg_ft i_KS) ty_KS k_KS n_KS hown hK hP hD hS 0 rfl rfl 3 (by decide) (hts _ (wg_t kw_236)) (fun _ h9 => h9) rfl hnm rfl (by decide +kernel) rfl rfl (Nat.le_of_ble_eq_true rfl) dKS_init_37 (fun H locs hP hD hS => ?_)
  have hP : va_P g.1 vcl ([(h0, .inr (1, [.int (nI 3), .int (nI 2), .int (nI 10), .int (nI 4), .int 0, .int 0, .int 0, .int 0, .int 0, .int 0]))] ++ pl) _ := hP
  have hD : va_D _ ([(h0, .inr (1, [.int (nI 3), .int (nI 2), .int (nI 10), .int (nI 4), .int 0, .int 0, .int 0, .int 0, .int 0, .int 0]))] ++ pl) := hD
  refine lv_aload_n hx hb dKS_init_40 rfl (lv_at hl 0 rfl) ?_
  refine lv_sipush (v := nI 384) hx hb dKS_init_41 (by decide) ?_
  refine lv_aload_n hx hb dKS_init_44 rfl (lv_at hl 0 rfl) ?_
  refine va_get (D := g.1) (ci := 1) (C := "LatticeKeys$KemSet") (T := T_KS) (N := 10) hx hb hts (wg_ft i_KS) hown hK hP 0 rfl rfl 0 (by decide) (hts _ (wg_t kw_230)) (fun _ h9 => h9) rfl dKS_init_45 ?_
  refine mi_imul hx hb dKS_init_48 ?_
  refine mi_as (show nI (384 * 3) = nI 1152 from rfl) ?_
  refine lv_bipush (v := nI 32) hx hb dKS_init_49 (by decide) ?_
  refine mi_iadd hx hb dKS_init_51 ?_
  refine mi_as (show nI (1152 + 32) = nI 1184 from rfl) ?_
  refine va_putF (D := g.1) (ci := 1) (v := .int (nI 1184)) (ty := .int) (C := "LatticeKeys$KemSet") (T := T_KS) (N := 10) hx hb hts (wg_ft i_KS) ty_KS k_KS n_KS hown hK hP hD hS 0 rfl rfl 4 (by decide) (hts _ (wg_t kw_238)) (fun _ h9 => h9) rfl hnm rfl (by decide +kernel) rfl rfl (Nat.le_of_ble_eq_true rfl) dKS_init_52 (fun H locs hP hD hS => ?_)
  have hP : va_P g.1 vcl ([(h0, .inr (1, [.int (nI 3), .int (nI 2), .int (nI 10), .int (nI 4), .int (nI 1184), .int 0, .int 0, .int 0, .int 0, .int 0]))] ++ pl) _ := hP
  have hD : va_D _ ([(h0, .inr (1, [.int (nI 3), .int (nI 2), .int (nI 10), .int (nI 4), .int (nI 1184), .int 0, .int 0, .int 0, .int 0, .int 0]))] ++ pl) := hD
  refine lv_aload_n hx hb dKS_init_55 rfl (lv_at hl 0 rfl) ?_
  refine lv_bipush (v := nI 32) hx hb dKS_init_56 (by decide) ?_
  refine lv_aload_n hx hb dKS_init_58 rfl (lv_at hl 0 rfl) ?_
  refine va_get (D := g.1) (ci := 1) (C := "LatticeKeys$KemSet") (T := T_KS) (N := 10) hx hb hts (wg_ft i_KS) hown hK hP 0 rfl rfl 2 (by decide) (hts _ (wg_t kw_234)) (fun _ h9 => h9) rfl dKS_init_59 ?_
  refine lv_aload_n hx hb dKS_init_62 rfl (lv_at hl 0 rfl) ?_
  refine va_get (D := g.1) (ci := 1) (C := "LatticeKeys$KemSet") (T := T_KS) (N := 10) hx hb hts (wg_ft i_KS) hown hK hP 0 rfl rfl 0 (by decide) (hts _ (wg_t kw_230)) (fun _ h9 => h9) rfl dKS_init_63 ?_
  refine mi_imul hx hb dKS_init_66 ?_
  refine mi_as (show nI (10 * 3) = nI 30 from rfl) ?_
  refine lv_aload_n hx hb dKS_init_67 rfl (lv_at hl 0 rfl) ?_
  refine va_get (D := g.1) (ci := 1) (C := "LatticeKeys$KemSet") (T := T_KS) (N := 10) hx hb hts (wg_ft i_KS) hown hK hP 0 rfl rfl 3 (by decide) (hts _ (wg_t kw_236)) (fun _ h9 => h9) rfl dKS_init_68 ?_
  refine mi_iadd hx hb dKS_init_71 ?_
  refine mi_as (show nI (30 + 4) = nI 34 from rfl) ?_
  refine mi_imul hx hb dKS_init_72 ?_
  refine mi_as (show nI (32 * 34) = nI 1088 from rfl) ?_
  refine va_putF (D := g.1) (ci := 1) (v := .int (nI 1088)) (ty := .int) (C := "LatticeKeys$KemSet") (T := T_KS) (N := 10) hx hb hts (wg_ft i_KS) ty_KS k_KS n_KS hown hK hP hD hS 0 rfl rfl 6 (by decide) (hts _ (wg_t kw_243)) (fun _ h9 => h9) rfl hnm rfl (by decide +kernel) rfl rfl (Nat.le_of_ble_eq_true rfl) dKS_init_73 (fun H locs hP hD hS => ?_)
  have hP : va_P g.1 vcl ([(h0, .inr (1, [.int (nI 3), .int (nI 2), .int (nI 10), .int (nI 4), .int (nI 1184), .int 0, .int (nI 1088), .int 0, .int 0, .int 0]))] ++ pl) _ := hP
  have hD : va_D _ ([(h0, .inr (1, [.int (nI 3), .int (nI 2), .int (nI 10), .int (nI 4), .int (nI 1184), .int 0, .int (nI 1088), .int 0, .int 0, .int 0]))] ++ pl) := hD
  refine lv_aload_n hx hb dKS_init_76 rfl (lv_at hl 0 rfl) ?_
  refine lv_sipush (v := nI 384) hx hb dKS_init_77 (by decide) ?_
  refine lv_aload_n hx hb dKS_init_80 rfl (lv_at hl 0 rfl) ?_
  refine va_get (D := g.1) (ci := 1) (C := "LatticeKeys$KemSet") (T := T_KS) (N := 10) hx hb hts (wg_ft i_KS) hown hK hP 0 rfl rfl 0 (by decide) (hts _ (wg_t kw_230)) (fun _ h9 => h9) rfl dKS_init_81 ?_
  refine mi_imul hx hb dKS_init_84 ?_
  refine mi_as (show nI (384 * 3) = nI 1152 from rfl) ?_
  refine va_putF (D := g.1) (ci := 1) (v := .int (nI 1152)) (ty := .int) (C := "LatticeKeys$KemSet") (T := T_KS) (N := 10) hx hb hts (wg_ft i_KS) ty_KS k_KS n_KS hown hK hP hD hS 0 rfl rfl 7 (by decide) (hts _ (wg_t kw_246)) (fun _ h9 => h9) rfl hnm rfl (by decide +kernel) rfl rfl (Nat.le_of_ble_eq_true rfl) dKS_init_85 (fun H locs hP hD hS => ?_)
  have hP : va_P g.1 vcl ([(h0, .inr (1, [.int (nI 3), .int (nI 2), .int (nI 10), .int (nI 4), .int (nI 1184), .int 0, .int (nI 1088), .int (nI 1152), .int 0, .int 0]))] ++ pl) _ := hP
  have hD : va_D _ ([(h0, .inr (1, [.int (nI 3), .int (nI 2), .int (nI 10), .int (nI 4), .int (nI 1184), .int 0, .int (nI 1088), .int (nI 1152), .int 0, .int 0]))] ++ pl) := hD
  refine lv_aload_n hx hb dKS_init_88 rfl (lv_at hl 0 rfl) ?_
  refine lv_aload_n hx hb dKS_init_89 rfl (lv_at hl 0 rfl) ?_
  refine va_get (D := g.1) (ci := 1) (C := "LatticeKeys$KemSet") (T := T_KS) (N := 10) hx hb hts (wg_ft i_KS) hown hK hP 0 rfl rfl 7 (by decide) (hts _ (wg_t kw_246)) (fun _ h9 => h9) rfl dKS_init_90 ?_
  refine lv_aload_n hx hb dKS_init_93 rfl (lv_at hl 0 rfl) ?_
  refine va_get (D := g.1) (ci := 1) (C := "LatticeKeys$KemSet") (T := T_KS) (N := 10) hx hb hts (wg_ft i_KS) hown hK hP 0 rfl rfl 4 (by decide) (hts _ (wg_t kw_238)) (fun _ h9 => h9) rfl dKS_init_94 ?_
  refine mi_iadd hx hb dKS_init_97 ?_
  refine mi_as (show nI (1152 + 1184) = nI 2336 from rfl) ?_
  refine va_putF (D := g.1) (ci := 1) (v := .int (nI 2336)) (ty := .int) (C := "LatticeKeys$KemSet") (T := T_KS) (N := 10) hx hb hts (wg_ft i_KS) ty_KS k_KS n_KS hown hK hP hD hS 0 rfl rfl 8 (by decide) (hts _ (wg_t kw_249)) (fun _ h9 => h9) rfl hnm rfl (by decide +kernel) rfl rfl (Nat.le_of_ble_eq_true rfl) dKS_init_98 (fun H locs hP hD hS => ?_)
  have hP : va_P g.1 vcl ([(h0, .inr (1, [.int (nI 3), .int (nI 2), .int (nI 10), .int (nI 4), .int (nI 1184), .int 0, .int (nI 1088), .int (nI 1152), .int (nI 2336), .int 0]))] ++ pl) _ := hP
  have hD : va_D _ ([(h0, .inr (1, [.int (nI 3), .int (nI 2), .int (nI 10), .int (nI 4), .int (nI 1184), .int 0, .int (nI 1088), .int (nI 1152), .int (nI 2336), .int 0]))] ++ pl) := hD
  refine lv_aload_n hx hb dKS_init_101 rfl (lv_at hl 0 rfl) ?_
  refine lv_aload_n hx hb dKS_init_102 rfl (lv_at hl 0 rfl) ?_
  refine va_get (D := g.1) (ci := 1) (C := "LatticeKeys$KemSet") (T := T_KS) (N := 10) hx hb hts (wg_ft i_KS) hown hK hP 0 rfl rfl 8 (by decide) (hts _ (wg_t kw_249)) (fun _ h9 => h9) rfl dKS_init_103 ?_
  refine lv_bipush (v := nI 32) hx hb dKS_init_106 (by decide) ?_
  refine mi_iadd hx hb dKS_init_108 ?_
  refine mi_as (show nI (2336 + 32) = nI 2368 from rfl) ?_
  refine va_putF (D := g.1) (ci := 1) (v := .int (nI 2368)) (ty := .int) (C := "LatticeKeys$KemSet") (T := T_KS) (N := 10) hx hb hts (wg_ft i_KS) ty_KS k_KS n_KS hown hK hP hD hS 0 rfl rfl 9 (by decide) (hts _ (wg_t kw_251)) (fun _ h9 => h9) rfl hnm rfl (by decide +kernel) rfl rfl (Nat.le_of_ble_eq_true rfl) dKS_init_109 (fun H locs hP hD hS => ?_)
  have hP : va_P g.1 vcl ([(h0, .inr (1, [.int (nI 3), .int (nI 2), .int (nI 10), .int (nI 4), .int (nI 1184), .int 0, .int (nI 1088), .int (nI 1152), .int (nI 2336), .int (nI 2368)]))] ++ pl) _ := hP
  have hD : va_D _ ([(h0, .inr (1, [.int (nI 3), .int (nI 2), .int (nI 10), .int (nI 4), .int (nI 1184), .int 0, .int (nI 1088), .int (nI 1152), .int (nI 2336), .int (nI 2368)]))] ++ pl) := hD
  refine lv_aload_n hx hb dKS_init_112 rfl (lv_at hl 0 rfl) ?_
  refine lv_aload_n hx hb dKS_init_113 rfl (lv_at hl 0 rfl) ?_
  refine va_get (D := g.1) (ci := 1) (C := "LatticeKeys$KemSet") (T := T_KS) (N := 10) hx hb hts (wg_ft i_KS) hown hK hP 0 rfl rfl 9 (by decide) (hts _ (wg_t kw_251)) (fun _ h9 => h9) rfl dKS_init_114 ?_
  refine lv_bipush (v := nI 32) hx hb dKS_init_117 (by decide) ?_
  refine mi_iadd hx hb dKS_init_119 ?_
  refine mi_as (show nI (2368 + 32) = nI 2400 from rfl) ?_
  refine va_putF (D := g.1) (ci := 1) (v := .int (nI 2400)) (ty := .int) (C := "LatticeKeys$KemSet") (T := T_KS) (N := 10) hx hb hts (wg_ft i_KS) ty_KS k_KS n_KS hown hK hP hD hS 0 rfl rfl 5 (by decide) (hts _ (wg_t kw_241)) (fun _ h9 => h9) rfl hnm rfl (by decide +kernel) rfl rfl (Nat.le_of_ble_eq_true rfl) dKS_init_120 (fun H locs hP hD hS => ?_)
  have hP : va_P g.1 vcl ([(h0, .inr (1, [.int (nI 3), .int (nI 2), .int (nI 10), .int (nI 4), .int (nI 1184), .int (nI 2400), .int (nI 1088), .int (nI 1152), .int (nI 2336), .int (nI 2368)]))] ++ pl) _ := hP
  have hD : va_D _ ([(h0, .inr (1, [.int (nI 3), .int (nI 2), .int (nI 10), .int (nI 4), .int (nI 1184), .int (nI 2400), .int (nI 1088), .int (nI 1152), .int (nI 2336), .int (nI 2368)]))] ++ pl) := hD
  exact mp_vret hx hb hr hlk hP hD hS pl ⟨trivial, hO⟩ [0] rfl rfl rfl (by omega) (by omega) dKS_init_123
set_option maxHeartbeats 4000000 in
set_option maxRecDepth 100000 in
theorem t_KS_init_2 (l : Launch) (g : Gd) (sz : Nat) (T : Ty) (pl : va_W) (hO : okx g T [] pl) (hU : uni T) (h0 : Nat)  : Met l y_KS_init w_KS_init ({ frames := 1, cells := 0, slots := 0, locals := 40 } : Room) (va_Pc [.ref h0, .int (nI 2)] (pr (en g) g.1 vcl sz ([(h0, .inr (1, [.int 0, .int 0, .int 0, .int 0, .int 0, .int 0, .int 0, .int 0, .int 0, .int 0]))] ++ pl))) (va_Qv (fun (u : va_W) => (True) ∧ okx g T [] u) (po g.1 vcl (va_A ([(h0, .inr (1, [.int 0, .int 0, .int 0, .int 0, .int 0, .int 0, .int 0, .int 0, .int 0, .int 0]))] ++ pl) sz) (fun (u : va_W) => [(h0, .inr (1, [.int (nI 4), .int (nI 2), .int (nI 11), .int (nI 5), .int (nI 1568), .int (nI 3168), .int (nI 1568), .int (nI 1536), .int (nI 3104), .int (nI 3136)]))] ++ u)) (va_A ([(h0, .inr (1, [.int 0, .int 0, .int 0, .int 0, .int 0, .int 0, .int 0, .int 0, .int 0, .int 0]))] ++ pl) sz)) 0 0 (va_A ([(h0, .inr (1, [.int 0, .int 0, .int 0, .int 0, .int 0, .int 0, .int 0, .int 0, .int 0, .int 0]))] ++ pl) sz) := by
  refine mc_entry (cc := c_KS_init) (maxL := 2) (ret := none) (by decide) rfl (Nat.le_of_ble_eq_true rfl) ?_
  intro p e s m args below meth c ls F hr hlk hnm hsz hP hD hE hA hl
  obtain ⟨hx, hb, hml, hown, hts⟩ := id F
  have hK := hE.1
  generalize va_A ([(h0, .inr (1, [.int 0, .int 0, .int 0, .int 0, .int 0, .int 0, .int 0, .int 0, .int 0, .int 0]))] ++ pl) sz = A at hD hE hA ⊢
  have hS : va_S A s.heap s.heap [] := va_S.rf
  have hl : lv_has ls 2 [(0, .ref h0), (1, .int (nI 2))] := hl
  refine lv_aload_n hx hb dKS_init_0 rfl (lv_at hl 0 rfl) ?_
  refine W.objInit hx hb hown (hts _ (wg_t kw_221)) (hts _ (wg_t kw_41)) (hts _ (wg_t kobj)) rfl (by rw [hml]; exact hl.1) rfl dKS_init_1 (Nat.le_of_ble_eq_true rfl) (Nat.le_of_ble_eq_true rfl) ?_
  refine W.eq (g2 := F0 m 4 ls []) rfl ?_
  refine lv_aload_n hx hb dKS_init_4 rfl (lv_at hl 0 rfl) ?_
  refine va_gets hx hb (hE.2.1 5 _ rfl).1 hS hown (hts _ (wg_t kw_222)) (fun _ h9 => h9) dKS_init_5 ?_
  refine lv_iload_n hx hb dKS_init_8 rfl (lv_at hl 1 rfl) ?_
  refine va_ti (v := .int (nI 4)) hx hb (hE.2.1 5 _ rfl).2 hS (vp_in_nI (by decide) (by decide)) (by decide +kernel) dKS_init_9 ?_
  refine va_putF (D := g.1) (ci := 1) (v := .int (nI 4)) (ty := .int) (C := "LatticeKeys$KemSet") (T := T_KS) (N := 10) hx hb hts (wg_ft i_KS) ty_KS k_KS n_KS hown hK hP hD hS 0 rfl rfl 0 (by decide) (hts _ (wg_t kw_230)) (fun _ h9 => h9) rfl hnm rfl (by decide +kernel) rfl rfl (Nat.le_of_ble_eq_true rfl) dKS_init_10 (fun H locs hP hD hS => ?_)
  have hP : va_P g.1 vcl ([(h0, .inr (1, [.int (nI 4), .int 0, .int 0, .int 0, .int 0, .int 0, .int 0, .int 0, .int 0, .int 0]))] ++ pl) _ := hP
  have hD : va_D _ ([(h0, .inr (1, [.int (nI 4), .int 0, .int 0, .int 0, .int 0, .int 0, .int 0, .int 0, .int 0, .int 0]))] ++ pl) := hD
  refine lv_aload_n hx hb dKS_init_13 rfl (lv_at hl 0 rfl) ?_
  refine va_gets hx hb (hE.2.1 6 _ rfl).1 hS hown (hts _ (wg_t kw_224)) (fun _ h9 => h9) dKS_init_14 ?_
  refine lv_iload_n hx hb dKS_init_17 rfl (lv_at hl 1 rfl) ?_
  refine va_ti (v := .int (nI 2)) hx hb (hE.2.1 6 _ rfl).2 hS (vp_in_nI (by decide) (by decide)) (by decide +kernel) dKS_init_18 ?_
  refine va_putF (D := g.1) (ci := 1) (v := .int (nI 2)) (ty := .int) (C := "LatticeKeys$KemSet") (T := T_KS) (N := 10) hx hb hts (wg_ft i_KS) ty_KS k_KS n_KS hown hK hP hD hS 0 rfl rfl 1 (by decide) (hts _ (wg_t kw_232)) (fun _ h9 => h9) rfl hnm rfl (by decide +kernel) rfl rfl (Nat.le_of_ble_eq_true rfl) dKS_init_19 (fun H locs hP hD hS => ?_)
  have hP : va_P g.1 vcl ([(h0, .inr (1, [.int (nI 4), .int (nI 2), .int 0, .int 0, .int 0, .int 0, .int 0, .int 0, .int 0, .int 0]))] ++ pl) _ := hP
  have hD : va_D _ ([(h0, .inr (1, [.int (nI 4), .int (nI 2), .int 0, .int 0, .int 0, .int 0, .int 0, .int 0, .int 0, .int 0]))] ++ pl) := hD
  refine lv_aload_n hx hb dKS_init_22 rfl (lv_at hl 0 rfl) ?_
  refine va_gets hx hb (hE.2.1 7 _ rfl).1 hS hown (hts _ (wg_t kw_226)) (fun _ h9 => h9) dKS_init_23 ?_
  refine lv_iload_n hx hb dKS_init_26 rfl (lv_at hl 1 rfl) ?_
  refine va_ti (v := .int (nI 11)) hx hb (hE.2.1 7 _ rfl).2 hS (vp_in_nI (by decide) (by decide)) (by decide +kernel) dKS_init_27 ?_
  refine va_putF (D := g.1) (ci := 1) (v := .int (nI 11)) (ty := .int) (C := "LatticeKeys$KemSet") (T := T_KS) (N := 10) hx hb hts (wg_ft i_KS) ty_KS k_KS n_KS hown hK hP hD hS 0 rfl rfl 2 (by decide) (hts _ (wg_t kw_234)) (fun _ h9 => h9) rfl hnm rfl (by decide +kernel) rfl rfl (Nat.le_of_ble_eq_true rfl) dKS_init_28 (fun H locs hP hD hS => ?_)
  have hP : va_P g.1 vcl ([(h0, .inr (1, [.int (nI 4), .int (nI 2), .int (nI 11), .int 0, .int 0, .int 0, .int 0, .int 0, .int 0, .int 0]))] ++ pl) _ := hP
  have hD : va_D _ ([(h0, .inr (1, [.int (nI 4), .int (nI 2), .int (nI 11), .int 0, .int 0, .int 0, .int 0, .int 0, .int 0, .int 0]))] ++ pl) := hD
  refine lv_aload_n hx hb dKS_init_31 rfl (lv_at hl 0 rfl) ?_
  refine va_gets hx hb (hE.2.1 8 _ rfl).1 hS hown (hts _ (wg_t kw_228)) (fun _ h9 => h9) dKS_init_32 ?_
  refine lv_iload_n hx hb dKS_init_35 rfl (lv_at hl 1 rfl) ?_
  refine va_ti (v := .int (nI 5)) hx hb (hE.2.1 8 _ rfl).2 hS (vp_in_nI (by decide) (by decide)) (by decide +kernel) dKS_init_36 ?_
  refine va_putF (D := g.1) (ci := 1) (v := .int (nI 5)) (ty := .int) (C := "LatticeKeys$KemSet") (T := T_KS) (N := 10) hx hb hts (wg_ft i_KS) ty_KS k_KS n_KS hown hK hP hD hS 0 rfl rfl 3 (by decide) (hts _ (wg_t kw_236)) (fun _ h9 => h9) rfl hnm rfl (by decide +kernel) rfl rfl (Nat.le_of_ble_eq_true rfl) dKS_init_37 (fun H locs hP hD hS => ?_)
  have hP : va_P g.1 vcl ([(h0, .inr (1, [.int (nI 4), .int (nI 2), .int (nI 11), .int (nI 5), .int 0, .int 0, .int 0, .int 0, .int 0, .int 0]))] ++ pl) _ := hP
  have hD : va_D _ ([(h0, .inr (1, [.int (nI 4), .int (nI 2), .int (nI 11), .int (nI 5), .int 0, .int 0, .int 0, .int 0, .int 0, .int 0]))] ++ pl) := hD
  refine lv_aload_n hx hb dKS_init_40 rfl (lv_at hl 0 rfl) ?_
  refine lv_sipush (v := nI 384) hx hb dKS_init_41 (by decide) ?_
  refine lv_aload_n hx hb dKS_init_44 rfl (lv_at hl 0 rfl) ?_
  refine va_get (D := g.1) (ci := 1) (C := "LatticeKeys$KemSet") (T := T_KS) (N := 10) hx hb hts (wg_ft i_KS) hown hK hP 0 rfl rfl 0 (by decide) (hts _ (wg_t kw_230)) (fun _ h9 => h9) rfl dKS_init_45 ?_
  refine mi_imul hx hb dKS_init_48 ?_
  refine mi_as (show nI (384 * 4) = nI 1536 from rfl) ?_
  refine lv_bipush (v := nI 32) hx hb dKS_init_49 (by decide) ?_
  refine mi_iadd hx hb dKS_init_51 ?_
  refine mi_as (show nI (1536 + 32) = nI 1568 from rfl) ?_
  refine va_putF (D := g.1) (ci := 1) (v := .int (nI 1568)) (ty := .int) (C := "LatticeKeys$KemSet") (T := T_KS) (N := 10) hx hb hts (wg_ft i_KS) ty_KS k_KS n_KS hown hK hP hD hS 0 rfl rfl 4 (by decide) (hts _ (wg_t kw_238)) (fun _ h9 => h9) rfl hnm rfl (by decide +kernel) rfl rfl (Nat.le_of_ble_eq_true rfl) dKS_init_52 (fun H locs hP hD hS => ?_)
  have hP : va_P g.1 vcl ([(h0, .inr (1, [.int (nI 4), .int (nI 2), .int (nI 11), .int (nI 5), .int (nI 1568), .int 0, .int 0, .int 0, .int 0, .int 0]))] ++ pl) _ := hP
  have hD : va_D _ ([(h0, .inr (1, [.int (nI 4), .int (nI 2), .int (nI 11), .int (nI 5), .int (nI 1568), .int 0, .int 0, .int 0, .int 0, .int 0]))] ++ pl) := hD
  refine lv_aload_n hx hb dKS_init_55 rfl (lv_at hl 0 rfl) ?_
  refine lv_bipush (v := nI 32) hx hb dKS_init_56 (by decide) ?_
  refine lv_aload_n hx hb dKS_init_58 rfl (lv_at hl 0 rfl) ?_
  refine va_get (D := g.1) (ci := 1) (C := "LatticeKeys$KemSet") (T := T_KS) (N := 10) hx hb hts (wg_ft i_KS) hown hK hP 0 rfl rfl 2 (by decide) (hts _ (wg_t kw_234)) (fun _ h9 => h9) rfl dKS_init_59 ?_
  refine lv_aload_n hx hb dKS_init_62 rfl (lv_at hl 0 rfl) ?_
  refine va_get (D := g.1) (ci := 1) (C := "LatticeKeys$KemSet") (T := T_KS) (N := 10) hx hb hts (wg_ft i_KS) hown hK hP 0 rfl rfl 0 (by decide) (hts _ (wg_t kw_230)) (fun _ h9 => h9) rfl dKS_init_63 ?_
  refine mi_imul hx hb dKS_init_66 ?_
  refine mi_as (show nI (11 * 4) = nI 44 from rfl) ?_
  refine lv_aload_n hx hb dKS_init_67 rfl (lv_at hl 0 rfl) ?_
  refine va_get (D := g.1) (ci := 1) (C := "LatticeKeys$KemSet") (T := T_KS) (N := 10) hx hb hts (wg_ft i_KS) hown hK hP 0 rfl rfl 3 (by decide) (hts _ (wg_t kw_236)) (fun _ h9 => h9) rfl dKS_init_68 ?_
  refine mi_iadd hx hb dKS_init_71 ?_
  refine mi_as (show nI (44 + 5) = nI 49 from rfl) ?_
  refine mi_imul hx hb dKS_init_72 ?_
  refine mi_as (show nI (32 * 49) = nI 1568 from rfl) ?_
  refine va_putF (D := g.1) (ci := 1) (v := .int (nI 1568)) (ty := .int) (C := "LatticeKeys$KemSet") (T := T_KS) (N := 10) hx hb hts (wg_ft i_KS) ty_KS k_KS n_KS hown hK hP hD hS 0 rfl rfl 6 (by decide) (hts _ (wg_t kw_243)) (fun _ h9 => h9) rfl hnm rfl (by decide +kernel) rfl rfl (Nat.le_of_ble_eq_true rfl) dKS_init_73 (fun H locs hP hD hS => ?_)
  have hP : va_P g.1 vcl ([(h0, .inr (1, [.int (nI 4), .int (nI 2), .int (nI 11), .int (nI 5), .int (nI 1568), .int 0, .int (nI 1568), .int 0, .int 0, .int 0]))] ++ pl) _ := hP
  have hD : va_D _ ([(h0, .inr (1, [.int (nI 4), .int (nI 2), .int (nI 11), .int (nI 5), .int (nI 1568), .int 0, .int (nI 1568), .int 0, .int 0, .int 0]))] ++ pl) := hD
  refine lv_aload_n hx hb dKS_init_76 rfl (lv_at hl 0 rfl) ?_
  refine lv_sipush (v := nI 384) hx hb dKS_init_77 (by decide) ?_
  refine lv_aload_n hx hb dKS_init_80 rfl (lv_at hl 0 rfl) ?_
  refine va_get (D := g.1) (ci := 1) (C := "LatticeKeys$KemSet") (T := T_KS) (N := 10) hx hb hts (wg_ft i_KS) hown hK hP 0 rfl rfl 0 (by decide) (hts _ (wg_t kw_230)) (fun _ h9 => h9) rfl dKS_init_81 ?_
  refine mi_imul hx hb dKS_init_84 ?_
  refine mi_as (show nI (384 * 4) = nI 1536 from rfl) ?_
  refine va_putF (D := g.1) (ci := 1) (v := .int (nI 1536)) (ty := .int) (C := "LatticeKeys$KemSet") (T := T_KS) (N := 10) hx hb hts (wg_ft i_KS) ty_KS k_KS n_KS hown hK hP hD hS 0 rfl rfl 7 (by decide) (hts _ (wg_t kw_246)) (fun _ h9 => h9) rfl hnm rfl (by decide +kernel) rfl rfl (Nat.le_of_ble_eq_true rfl) dKS_init_85 (fun H locs hP hD hS => ?_)
  have hP : va_P g.1 vcl ([(h0, .inr (1, [.int (nI 4), .int (nI 2), .int (nI 11), .int (nI 5), .int (nI 1568), .int 0, .int (nI 1568), .int (nI 1536), .int 0, .int 0]))] ++ pl) _ := hP
  have hD : va_D _ ([(h0, .inr (1, [.int (nI 4), .int (nI 2), .int (nI 11), .int (nI 5), .int (nI 1568), .int 0, .int (nI 1568), .int (nI 1536), .int 0, .int 0]))] ++ pl) := hD
  refine lv_aload_n hx hb dKS_init_88 rfl (lv_at hl 0 rfl) ?_
  refine lv_aload_n hx hb dKS_init_89 rfl (lv_at hl 0 rfl) ?_
  refine va_get (D := g.1) (ci := 1) (C := "LatticeKeys$KemSet") (T := T_KS) (N := 10) hx hb hts (wg_ft i_KS) hown hK hP 0 rfl rfl 7 (by decide) (hts _ (wg_t kw_246)) (fun _ h9 => h9) rfl dKS_init_90 ?_
  refine lv_aload_n hx hb dKS_init_93 rfl (lv_at hl 0 rfl) ?_
  refine va_get (D := g.1) (ci := 1) (C := "LatticeKeys$KemSet") (T := T_KS) (N := 10) hx hb hts (wg_ft i_KS) hown hK hP 0 rfl rfl 4 (by decide) (hts _ (wg_t kw_238)) (fun _ h9 => h9) rfl dKS_init_94 ?_
  refine mi_iadd hx hb dKS_init_97 ?_
  refine mi_as (show nI (1536 + 1568) = nI 3104 from rfl) ?_
  refine va_putF (D := g.1) (ci := 1) (v := .int (nI 3104)) (ty := .int) (C := "LatticeKeys$KemSet") (T := T_KS) (N := 10) hx hb hts (wg_ft i_KS) ty_KS k_KS n_KS hown hK hP hD hS 0 rfl rfl 8 (by decide) (hts _ (wg_t kw_249)) (fun _ h9 => h9) rfl hnm rfl (by decide +kernel) rfl rfl (Nat.le_of_ble_eq_true rfl) dKS_init_98 (fun H locs hP hD hS => ?_)
  have hP : va_P g.1 vcl ([(h0, .inr (1, [.int (nI 4), .int (nI 2), .int (nI 11), .int (nI 5), .int (nI 1568), .int 0, .int (nI 1568), .int (nI 1536), .int (nI 3104), .int 0]))] ++ pl) _ := hP
  have hD : va_D _ ([(h0, .inr (1, [.int (nI 4), .int (nI 2), .int (nI 11), .int (nI 5), .int (nI 1568), .int 0, .int (nI 1568), .int (nI 1536), .int (nI 3104), .int 0]))] ++ pl) := hD
  refine lv_aload_n hx hb dKS_init_101 rfl (lv_at hl 0 rfl) ?_
  refine lv_aload_n hx hb dKS_init_102 rfl (lv_at hl 0 rfl) ?_
  refine va_get (D := g.1) (ci := 1) (C := "LatticeKeys$KemSet") (T := T_KS) (N := 10) hx hb hts (wg_ft i_KS) hown hK hP 0 rfl rfl 8 (by decide) (hts _ (wg_t kw_249)) (fun _ h9 => h9) rfl dKS_init_103 ?_
  refine lv_bipush (v := nI 32) hx hb dKS_init_106 (by decide) ?_
  refine mi_iadd hx hb dKS_init_108 ?_
  refine mi_as (show nI (3104 + 32) = nI 3136 from rfl) ?_
  refine va_putF (D := g.1) (ci := 1) (v := .int (nI 3136)) (ty := .int) (C := "LatticeKeys$KemSet") (T := T_KS) (N := 10) hx hb hts (wg_ft i_KS) ty_KS k_KS n_KS hown hK hP hD hS 0 rfl rfl 9 (by decide) (hts _ (wg_t kw_251)) (fun _ h9 => h9) rfl hnm rfl (by decide +kernel) rfl rfl (Nat.le_of_ble_eq_true rfl) dKS_init_109 (fun H locs hP hD hS => ?_)
  have hP : va_P g.1 vcl ([(h0, .inr (1, [.int (nI 4), .int (nI 2), .int (nI 11), .int (nI 5), .int (nI 1568), .int 0, .int (nI 1568), .int (nI 1536), .int (nI 3104), .int (nI 3136)]))] ++ pl) _ := hP
  have hD : va_D _ ([(h0, .inr (1, [.int (nI 4), .int (nI 2), .int (nI 11), .int (nI 5), .int (nI 1568), .int 0, .int (nI 1568), .int (nI 1536), .int (nI 3104), .int (nI 3136)]))] ++ pl) := hD
  refine lv_aload_n hx hb dKS_init_112 rfl (lv_at hl 0 rfl) ?_
  refine lv_aload_n hx hb dKS_init_113 rfl (lv_at hl 0 rfl) ?_
  refine va_get (D := g.1) (ci := 1) (C := "LatticeKeys$KemSet") (T := T_KS) (N := 10) hx hb hts (wg_ft i_KS) hown hK hP 0 rfl rfl 9 (by decide) (hts _ (wg_t kw_251)) (fun _ h9 => h9) rfl dKS_init_114 ?_
  refine lv_bipush (v := nI 32) hx hb dKS_init_117 (by decide) ?_
  refine mi_iadd hx hb dKS_init_119 ?_
  refine mi_as (show nI (3136 + 32) = nI 3168 from rfl) ?_
  refine va_putF (D := g.1) (ci := 1) (v := .int (nI 3168)) (ty := .int) (C := "LatticeKeys$KemSet") (T := T_KS) (N := 10) hx hb hts (wg_ft i_KS) ty_KS k_KS n_KS hown hK hP hD hS 0 rfl rfl 5 (by decide) (hts _ (wg_t kw_241)) (fun _ h9 => h9) rfl hnm rfl (by decide +kernel) rfl rfl (Nat.le_of_ble_eq_true rfl) dKS_init_120 (fun H locs hP hD hS => ?_)
  have hP : va_P g.1 vcl ([(h0, .inr (1, [.int (nI 4), .int (nI 2), .int (nI 11), .int (nI 5), .int (nI 1568), .int (nI 3168), .int (nI 1568), .int (nI 1536), .int (nI 3104), .int (nI 3136)]))] ++ pl) _ := hP
  have hD : va_D _ ([(h0, .inr (1, [.int (nI 4), .int (nI 2), .int (nI 11), .int (nI 5), .int (nI 1568), .int (nI 3168), .int (nI 1568), .int (nI 1536), .int (nI 3104), .int (nI 3136)]))] ++ pl) := hD
  exact mp_vret hx hb hr hlk hP hD hS pl ⟨trivial, hO⟩ [0] rfl rfl rfl (by omega) (by omega) dKS_init_123
set_option maxHeartbeats 4000000 in
set_option maxRecDepth 100000 in
theorem t_DS_init_0 (l : Launch) (g : Gd) (sz : Nat) (T : Ty) (pl : va_W) (hO : okx g T [] pl) (hU : uni T) (h0 : Nat)  : Met l y_DS_init w_DS_init ({ frames := 1, cells := 0, slots := 0, locals := 40 } : Room) (va_Pc [.ref h0, .int (nI 0)] (pr (en g) g.1 vcl sz ([(h0, .inr (2, [.int 0, .int 0, .int 0, .int 0, .int 0, .int 0, .int 0, .int 0, .int 0, .int 0, .int 0, .int 0, .int 0, .int 0, .int 0, .int 0, .int 0]))] ++ pl))) (va_Qv (fun (u : va_W) => (True) ∧ okx g T [] u) (po g.1 vcl (va_A ([(h0, .inr (2, [.int 0, .int 0, .int 0, .int 0, .int 0, .int 0, .int 0, .int 0, .int 0, .int 0, .int 0, .int 0, .int 0, .int 0, .int 0, .int 0, .int 0]))] ++ pl) sz) (fun (u : va_W) => [(h0, .inr (2, [.int (nI 4), .int (nI 4), .int (nI 2), .int (nI 3), .int (nI 39), .int (nI 32), .int (nI 18), .int (nI 131072), .int (nI 44), .int (nI 6), .int (nI 95232), .int (nI 80), .int (nI 78), .int (nI 1312), .int (nI 2560), .int (nI 2336), .int (nI 2420)]))] ++ u)) (va_A ([(h0, .inr (2, [.int 0, .int 0, .int 0, .int 0, .int 0, .int 0, .int 0, .int 0, .int 0, .int 0, .int 0, .int 0, .int 0, .int 0, .int 0, .int 0, .int 0]))] ++ pl) sz)) 0 0 (va_A ([(h0, .inr (2, [.int 0, .int 0, .int 0, .int 0, .int 0, .int 0, .int 0, .int 0, .int 0, .int 0, .int 0, .int 0, .int 0, .int 0, .int 0, .int 0, .int 0]))] ++ pl) sz) := by
  refine mc_entry (cc := c_DS_init) (maxL := 2) (ret := none) (by decide) rfl (Nat.le_of_ble_eq_true rfl) ?_
  intro p e s m args below meth c ls F hr hlk hnm hsz hP hD hE hA hl
  obtain ⟨hx, hb, hml, hown, hts⟩ := id F
  have hK := hE.1
  generalize va_A ([(h0, .inr (2, [.int 0, .int 0, .int 0, .int 0, .int 0, .int 0, .int 0, .int 0, .int 0, .int 0, .int 0, .int 0, .int 0, .int 0, .int 0, .int 0, .int 0]))] ++ pl) sz = A at hD hE hA ⊢
  have hS : va_S A s.heap s.heap [] := va_S.rf
  have hl : lv_has ls 2 [(0, .ref h0), (1, .int (nI 0))] := hl
  refine lv_aload_n hx hb dDS_init_0 rfl (lv_at hl 0 rfl) ?_
  refine W.objInit hx hb hown (hts _ (wg_t kw_278)) (hts _ (wg_t kw_41)) (hts _ (wg_t kobj)) rfl (by rw [hml]; exact hl.1) rfl dDS_init_1 (Nat.le_of_ble_eq_true rfl) (Nat.le_of_ble_eq_true rfl) ?_
  refine W.eq (g2 := F0 m 4 ls []) rfl ?_
  refine lv_aload_n hx hb dDS_init_4 rfl (lv_at hl 0 rfl) ?_
  refine va_gets hx hb (hE.2.1 9 _ rfl).1 hS hown (hts _ (wg_t kw_279)) (fun _ h9 => h9) dDS_init_5 ?_
  refine lv_iload_n hx hb dDS_init_8 rfl (lv_at hl 1 rfl) ?_
  refine va_ti (v := .int (nI 4)) hx hb (hE.2.1 9 _ rfl).2 hS (vp_in_nI (by decide) (by decide)) (by decide +kernel) dDS_init_9 ?_
  refine va_putF (D := g.1) (ci := 2) (v := .int (nI 4)) (ty := .int) (C := "LatticeKeys$DsaSet") (T := T_DS) (N := 17) hx hb hts (wg_ft i_DS) ty_DS k_DS n_DS hown hK hP hD hS 0 rfl rfl 0 (by decide) (hts _ (wg_t kw_300)) (fun _ h9 => h9) rfl hnm rfl (by decide +kernel) rfl rfl (Nat.le_of_ble_eq_true rfl) dDS_init_10 (fun H locs hP hD hS => ?_)
  have hP : va_P g.1 vcl ([(h0, .inr (2, [.int (nI 4), .int 0, .int 0, .int 0, .int 0, .int 0, .int 0, .int 0, .int 0, .int 0, .int 0, .int 0, .int 0, .int 0, .int 0, .int 0, .int 0]))] ++ pl) _ := hP
  have hD : va_D _ ([(h0, .inr (2, [.int (nI 4), .int 0, .int 0, .int 0, .int 0, .int 0, .int 0, .int 0, .int 0, .int 0, .int 0, .int 0, .int 0, .int 0, .int 0, .int 0, .int 0]))] ++ pl) := hD
  refine lv_aload_n hx hb dDS_init_13 rfl (lv_at hl 0 rfl) ?_
  refine va_gets hx hb (hE.2.1 10 _ rfl).1 hS hown (hts _ (wg_t kw_281)) (fun _ h9 => h9) dDS_init_14 ?_
  refine lv_iload_n hx hb dDS_init_17 rfl (lv_at hl 1 rfl) ?_
  refine va_ti (v := .int (nI 4)) hx hb (hE.2.1 10 _ rfl).2 hS (vp_in_nI (by decide) (by decide)) (by decide +kernel) dDS_init_18 ?_
  refine va_putF (D := g.1) (ci := 2) (v := .int (nI 4)) (ty := .int) (C := "LatticeKeys$DsaSet") (T := T_DS) (N := 17) hx hb hts (wg_ft i_DS) ty_DS k_DS n_DS hown hK hP hD hS 0 rfl rfl 1 (by decide) (hts _ (wg_t kw_303)) (fun _ h9 => h9) rfl hnm rfl (by decide +kernel) rfl rfl (Nat.le_of_ble_eq_true rfl) dDS_init_19 (fun H locs hP hD hS => ?_)
  have hP : va_P g.1 vcl ([(h0, .inr (2, [.int (nI 4), .int (nI 4), .int 0, .int 0, .int 0, .int 0, .int 0, .int 0, .int 0, .int 0, .int 0, .int 0, .int 0, .int 0, .int 0, .int 0, .int 0]))] ++ pl) _ := hP
  have hD : va_D _ ([(h0, .inr (2, [.int (nI 4), .int (nI 4), .int 0, .int 0, .int 0, .int 0, .int 0, .int 0, .int 0, .int 0, .int 0, .int 0, .int 0, .int 0, .int 0, .int 0, .int 0]))] ++ pl) := hD
  refine lv_aload_n hx hb dDS_init_22 rfl (lv_at hl 0 rfl) ?_
  refine va_gets hx hb (hE.2.1 11 _ rfl).1 hS hown (hts _ (wg_t kw_283)) (fun _ h9 => h9) dDS_init_23 ?_
  refine lv_iload_n hx hb dDS_init_26 rfl (lv_at hl 1 rfl) ?_
  refine va_ti (v := .int (nI 2)) hx hb (hE.2.1 11 _ rfl).2 hS (vp_in_nI (by decide) (by decide)) (by decide +kernel) dDS_init_27 ?_
  refine va_putF (D := g.1) (ci := 2) (v := .int (nI 2)) (ty := .int) (C := "LatticeKeys$DsaSet") (T := T_DS) (N := 17) hx hb hts (wg_ft i_DS) ty_DS k_DS n_DS hown hK hP hD hS 0 rfl rfl 2 (by decide) (hts _ (wg_t kw_306)) (fun _ h9 => h9) rfl hnm rfl (by decide +kernel) rfl rfl (Nat.le_of_ble_eq_true rfl) dDS_init_28 (fun H locs hP hD hS => ?_)
  have hP : va_P g.1 vcl ([(h0, .inr (2, [.int (nI 4), .int (nI 4), .int (nI 2), .int 0, .int 0, .int 0, .int 0, .int 0, .int 0, .int 0, .int 0, .int 0, .int 0, .int 0, .int 0, .int 0, .int 0]))] ++ pl) _ := hP
  have hD : va_D _ ([(h0, .inr (2, [.int (nI 4), .int (nI 4), .int (nI 2), .int 0, .int 0, .int 0, .int 0, .int 0, .int 0, .int 0, .int 0, .int 0, .int 0, .int 0, .int 0, .int 0, .int 0]))] ++ pl) := hD
  refine lv_aload_n hx hb dDS_init_31 rfl (lv_at hl 0 rfl) ?_
  refine va_gets hx hb (hE.2.1 12 _ rfl).1 hS hown (hts _ (wg_t kw_285)) (fun _ h9 => h9) dDS_init_32 ?_
  refine lv_iload_n hx hb dDS_init_35 rfl (lv_at hl 1 rfl) ?_
  refine va_ti (v := .int (nI 3)) hx hb (hE.2.1 12 _ rfl).2 hS (vp_in_nI (by decide) (by decide)) (by decide +kernel) dDS_init_36 ?_
  refine va_putF (D := g.1) (ci := 2) (v := .int (nI 3)) (ty := .int) (C := "LatticeKeys$DsaSet") (T := T_DS) (N := 17) hx hb hts (wg_ft i_DS) ty_DS k_DS n_DS hown hK hP hD hS 0 rfl rfl 3 (by decide) (hts _ (wg_t kw_309)) (fun _ h9 => h9) rfl hnm rfl (by decide +kernel) rfl rfl (Nat.le_of_ble_eq_true rfl) dDS_init_37 (fun H locs hP hD hS => ?_)
  have hP : va_P g.1 vcl ([(h0, .inr (2, [.int (nI 4), .int (nI 4), .int (nI 2), .int (nI 3), .int 0, .int 0, .int 0, .int 0, .int 0, .int 0, .int 0, .int 0, .int 0, .int 0, .int 0, .int 0, .int 0]))] ++ pl) _ := hP
  have hD : va_D _ ([(h0, .inr (2, [.int (nI 4), .int (nI 4), .int (nI 2), .int (nI 3), .int 0, .int 0, .int 0, .int 0, .int 0, .int 0, .int 0, .int 0, .int 0, .int 0, .int 0, .int 0, .int 0]))] ++ pl) := hD
  refine lv_aload_n hx hb dDS_init_40 rfl (lv_at hl 0 rfl) ?_
  refine va_gets hx hb (hE.2.1 13 _ rfl).1 hS hown (hts _ (wg_t kw_287)) (fun _ h9 => h9) dDS_init_41 ?_
  refine lv_iload_n hx hb dDS_init_44 rfl (lv_at hl 1 rfl) ?_
  refine va_ti (v := .int (nI 39)) hx hb (hE.2.1 13 _ rfl).2 hS (vp_in_nI (by decide) (by decide)) (by decide +kernel) dDS_init_45 ?_
  refine va_putF (D := g.1) (ci := 2) (v := .int (nI 39)) (ty := .int) (C := "LatticeKeys$DsaSet") (T := T_DS) (N := 17) hx hb hts (wg_ft i_DS) ty_DS k_DS n_DS hown hK hP hD hS 0 rfl rfl 4 (by decide) (hts _ (wg_t kw_311)) (fun _ h9 => h9) rfl hnm rfl (by decide +kernel) rfl rfl (Nat.le_of_ble_eq_true rfl) dDS_init_46 (fun H locs hP hD hS => ?_)
  have hP : va_P g.1 vcl ([(h0, .inr (2, [.int (nI 4), .int (nI 4), .int (nI 2), .int (nI 3), .int (nI 39), .int 0, .int 0, .int 0, .int 0, .int 0, .int 0, .int 0, .int 0, .int 0, .int 0, .int 0, .int 0]))] ++ pl) _ := hP
  have hD : va_D _ ([(h0, .inr (2, [.int (nI 4), .int (nI 4), .int (nI 2), .int (nI 3), .int (nI 39), .int 0, .int 0, .int 0, .int 0, .int 0, .int 0, .int 0, .int 0, .int 0, .int 0, .int 0, .int 0]))] ++ pl) := hD
  refine lv_aload_n hx hb dDS_init_49 rfl (lv_at hl 0 rfl) ?_
  refine va_gets hx hb (hE.2.1 14 _ rfl).1 hS hown (hts _ (wg_t kw_289)) (fun _ h9 => h9) dDS_init_50 ?_
  refine lv_iload_n hx hb dDS_init_53 rfl (lv_at hl 1 rfl) ?_
  refine va_ti (v := .int (nI 32)) hx hb (hE.2.1 14 _ rfl).2 hS (vp_in_nI (by decide) (by decide)) (by decide +kernel) dDS_init_54 ?_
  refine va_putF (D := g.1) (ci := 2) (v := .int (nI 32)) (ty := .int) (C := "LatticeKeys$DsaSet") (T := T_DS) (N := 17) hx hb hts (wg_ft i_DS) ty_DS k_DS n_DS hown hK hP hD hS 0 rfl rfl 5 (by decide) (hts _ (wg_t kw_313)) (fun _ h9 => h9) rfl hnm rfl (by decide +kernel) rfl rfl (Nat.le_of_ble_eq_true rfl) dDS_init_55 (fun H locs hP hD hS => ?_)
  have hP : va_P g.1 vcl ([(h0, .inr (2, [.int (nI 4), .int (nI 4), .int (nI 2), .int (nI 3), .int (nI 39), .int (nI 32), .int 0, .int 0, .int 0, .int 0, .int 0, .int 0, .int 0, .int 0, .int 0, .int 0, .int 0]))] ++ pl) _ := hP
  have hD : va_D _ ([(h0, .inr (2, [.int (nI 4), .int (nI 4), .int (nI 2), .int (nI 3), .int (nI 39), .int (nI 32), .int 0, .int 0, .int 0, .int 0, .int 0, .int 0, .int 0, .int 0, .int 0, .int 0, .int 0]))] ++ pl) := hD
  refine lv_aload_n hx hb dDS_init_58 rfl (lv_at hl 0 rfl) ?_
  refine va_gets hx hb (hE.2.1 15 _ rfl).1 hS hown (hts _ (wg_t kw_291)) (fun _ h9 => h9) dDS_init_59 ?_
  refine lv_iload_n hx hb dDS_init_62 rfl (lv_at hl 1 rfl) ?_
  refine va_ti (v := .int (nI 18)) hx hb (hE.2.1 15 _ rfl).2 hS (vp_in_nI (by decide) (by decide)) (by decide +kernel) dDS_init_63 ?_
  refine va_putF (D := g.1) (ci := 2) (v := .int (nI 18)) (ty := .int) (C := "LatticeKeys$DsaSet") (T := T_DS) (N := 17) hx hb hts (wg_ft i_DS) ty_DS k_DS n_DS hown hK hP hD hS 0 rfl rfl 6 (by decide) (hts _ (wg_t kw_316)) (fun _ h9 => h9) rfl hnm rfl (by decide +kernel) rfl rfl (Nat.le_of_ble_eq_true rfl) dDS_init_64 (fun H locs hP hD hS => ?_)
  have hP : va_P g.1 vcl ([(h0, .inr (2, [.int (nI 4), .int (nI 4), .int (nI 2), .int (nI 3), .int (nI 39), .int (nI 32), .int (nI 18), .int 0, .int 0, .int 0, .int 0, .int 0, .int 0, .int 0, .int 0, .int 0, .int 0]))] ++ pl) _ := hP
  have hD : va_D _ ([(h0, .inr (2, [.int (nI 4), .int (nI 4), .int (nI 2), .int (nI 3), .int (nI 39), .int (nI 32), .int (nI 18), .int 0, .int 0, .int 0, .int 0, .int 0, .int 0, .int 0, .int 0, .int 0, .int 0]))] ++ pl) := hD
  refine lv_aload_n hx hb dDS_init_67 rfl (lv_at hl 0 rfl) ?_
  refine lv_iconst (v := nI 1) hx hb dDS_init_68 (by decide) ?_
  refine lv_aload_n hx hb dDS_init_69 rfl (lv_at hl 0 rfl) ?_
  refine va_get (D := g.1) (ci := 2) (C := "LatticeKeys$DsaSet") (T := T_DS) (N := 17) hx hb hts (wg_ft i_DS) hown hK hP 0 rfl rfl 6 (by decide) (hts _ (wg_t kw_316)) (fun _ h9 => h9) rfl dDS_init_70 ?_
  refine lv_iconst (v := nI 1) hx hb dDS_init_73 (by decide) ?_
  refine mi_isub hx hb dDS_init_74 (by omega) ?_
  refine mi_as (show nI (18 - 1) = nI 17 from rfl) ?_
  refine mi_ishl hx hb dDS_init_75 (by decide) (by decide) ?_
  refine mi_as (show nI (1 * 2 ^ 17) = nI 131072 from rfl) ?_
  refine va_putF (D := g.1) (ci := 2) (v := .int (nI 131072)) (ty := .int) (C := "LatticeKeys$DsaSet") (T := T_DS) (N := 17) hx hb hts (wg_ft i_DS) ty_DS k_DS n_DS hown hK hP hD hS 0 rfl rfl 7 (by decide) (hts _ (wg_t kw_319)) (fun _ h9 => h9) rfl hnm rfl (by decide +kernel) rfl rfl (Nat.le_of_ble_eq_true rfl) dDS_init_76 (fun H locs hP hD hS => ?_)
  have hP : va_P g.1 vcl ([(h0, .inr (2, [.int (nI 4), .int (nI 4), .int (nI 2), .int (nI 3), .int (nI 39), .int (nI 32), .int (nI 18), .int (nI 131072), .int 0, .int 0, .int 0, .int 0, .int 0, .int 0, .int 0, .int 0, .int 0]))] ++ pl) _ := hP
  have hD : va_D _ ([(h0, .inr (2, [.int (nI 4), .int (nI 4), .int (nI 2), .int (nI 3), .int (nI 39), .int (nI 32), .int (nI 18), .int (nI 131072), .int 0, .int 0, .int 0, .int 0, .int 0, .int 0, .int 0, .int 0, .int 0]))] ++ pl) := hD
  refine lv_aload_n hx hb dDS_init_79 rfl (lv_at hl 0 rfl) ?_
  refine va_gets hx hb (hE.2.1 16 _ rfl).1 hS hown (hts _ (wg_t kw_293)) (fun _ h9 => h9) dDS_init_80 ?_
  refine lv_iload_n hx hb dDS_init_83 rfl (lv_at hl 1 rfl) ?_
  refine va_ti (v := .int (nI 44)) hx hb (hE.2.1 16 _ rfl).2 hS (vp_in_nI (by decide) (by decide)) (by decide +kernel) dDS_init_84 ?_
  refine va_putF (D := g.1) (ci := 2) (v := .int (nI 44)) (ty := .int) (C := "LatticeKeys$DsaSet") (T := T_DS) (N := 17) hx hb hts (wg_ft i_DS) ty_DS k_DS n_DS hown hK hP hD hS 0 rfl rfl 8 (by decide) (hts _ (wg_t kw_321)) (fun _ h9 => h9) rfl hnm rfl (by decide +kernel) rfl rfl (Nat.le_of_ble_eq_true rfl) dDS_init_85 (fun H locs hP hD hS => ?_)
  have hP : va_P g.1 vcl ([(h0, .inr (2, [.int (nI 4), .int (nI 4), .int (nI 2), .int (nI 3), .int (nI 39), .int (nI 32), .int (nI 18), .int (nI 131072), .int (nI 44), .int 0, .int 0, .int 0, .int 0, .int 0, .int 0, .int 0, .int 0]))] ++ pl) _ := hP
  have hD : va_D _ ([(h0, .inr (2, [.int (nI 4), .int (nI 4), .int (nI 2), .int (nI 3), .int (nI 39), .int (nI 32), .int (nI 18), .int (nI 131072), .int (nI 44), .int 0, .int 0, .int 0, .int 0, .int 0, .int 0, .int 0, .int 0]))] ++ pl) := hD
  refine lv_aload_n hx hb dDS_init_88 rfl (lv_at hl 0 rfl) ?_
  refine va_gets hx hb (hE.2.1 17 _ rfl).1 hS hown (hts _ (wg_t kw_295)) (fun _ h9 => h9) dDS_init_89 ?_
  refine lv_iload_n hx hb dDS_init_92 rfl (lv_at hl 1 rfl) ?_
  refine va_ti (v := .int (nI 6)) hx hb (hE.2.1 17 _ rfl).2 hS (vp_in_nI (by decide) (by decide)) (by decide +kernel) dDS_init_93 ?_
  refine va_putF (D := g.1) (ci := 2) (v := .int (nI 6)) (ty := .int) (C := "LatticeKeys$DsaSet") (T := T_DS) (N := 17) hx hb hts (wg_ft i_DS) ty_DS k_DS n_DS hown hK hP hD hS 0 rfl rfl 9 (by decide) (hts _ (wg_t kw_322)) (fun _ h9 => h9) rfl hnm rfl (by decide +kernel) rfl rfl (Nat.le_of_ble_eq_true rfl) dDS_init_94 (fun H locs hP hD hS => ?_)
  have hP : va_P g.1 vcl ([(h0, .inr (2, [.int (nI 4), .int (nI 4), .int (nI 2), .int (nI 3), .int (nI 39), .int (nI 32), .int (nI 18), .int (nI 131072), .int (nI 44), .int (nI 6), .int 0, .int 0, .int 0, .int 0, .int 0, .int 0, .int 0]))] ++ pl) _ := hP
  have hD : va_D _ ([(h0, .inr (2, [.int (nI 4), .int (nI 4), .int (nI 2), .int (nI 3), .int (nI 39), .int (nI 32), .int (nI 18), .int (nI 131072), .int (nI 44), .int (nI 6), .int 0, .int 0, .int 0, .int 0, .int 0, .int 0, .int 0]))] ++ pl) := hD
  refine lv_aload_n hx hb dDS_init_97 rfl (lv_at hl 0 rfl) ?_
  refine lv_ldc (v := 8380416) hx hb hown (hts _ (wg_t kw_297)) dDS_init_98 ?_
  refine mi_as (show (8380416 : Int32) = nI 8380416 by decide) ?_
  refine lv_aload_n hx hb dDS_init_100 rfl (lv_at hl 0 rfl) ?_
  refine va_get (D := g.1) (ci := 2) (C := "LatticeKeys$DsaSet") (T := T_DS) (N := 17) hx hb hts (wg_ft i_DS) hown hK hP 0 rfl rfl 8 (by decide) (hts _ (wg_t kw_321)) (fun _ h9 => h9) rfl dDS_init_101 ?_
  refine mi_idiv hx hb dDS_init_104 (by omega) (by omega) (by omega) ?_
  refine mi_as (show nI (8380416 / 44) = nI 190464 from rfl) ?_
  refine lv_iconst (v := nI 2) hx hb dDS_init_105 (by decide) ?_
  refine mi_idiv hx hb dDS_init_106 (by omega) (by omega) (by omega) ?_
  refine mi_as (show nI (190464 / 2) = nI 95232 from rfl) ?_
  refine va_putF (D := g.1) (ci := 2) (v := .int (nI 95232)) (ty := .int) (C := "LatticeKeys$DsaSet") (T := T_DS) (N := 17) hx hb hts (wg_ft i_DS) ty_DS k_DS n_DS hown hK hP hD hS 0 rfl rfl 10 (by decide) (hts _ (wg_t kw_324)) (fun _ h9 => h9) rfl hnm rfl (by decide +kernel) rfl rfl (Nat.le_of_ble_eq_true rfl) dDS_init_107 (fun H locs hP hD hS => ?_)
  have hP : va_P g.1 vcl ([(h0, .inr (2, [.int (nI 4), .int (nI 4), .int (nI 2), .int (nI 3), .int (nI 39), .int (nI 32), .int (nI 18), .int (nI 131072), .int (nI 44), .int (nI 6), .int (nI 95232), .int 0, .int 0, .int 0, .int 0, .int 0, .int 0]))] ++ pl) _ := hP
  have hD : va_D _ ([(h0, .inr (2, [.int (nI 4), .int (nI 4), .int (nI 2), .int (nI 3), .int (nI 39), .int (nI 32), .int (nI 18), .int (nI 131072), .int (nI 44), .int (nI 6), .int (nI 95232), .int 0, .int 0, .int 0, .int 0, .int 0, .int 0]))] ++ pl) := hD
  refine lv_aload_n hx hb dDS_init_110 rfl (lv_at hl 0 rfl) ?_
  refine va_gets hx hb (hE.2.1 18 _ rfl).1 hS hown (hts _ (wg_t kw_298)) (fun _ h9 => h9) dDS_init_111 ?_
  refine lv_iload_n hx hb dDS_init_114 rfl (lv_at hl 1 rfl) ?_
  refine va_ti (v := .int (nI 80)) hx hb (hE.2.1 18 _ rfl).2 hS (vp_in_nI (by decide) (by decide)) (by decide +kernel) dDS_init_115 ?_
  refine va_putF (D := g.1) (ci := 2) (v := .int (nI 80)) (ty := .int) (C := "LatticeKeys$DsaSet") (T := T_DS) (N := 17) hx hb hts (wg_ft i_DS) ty_DS k_DS n_DS hown hK hP hD hS 0 rfl rfl 11 (by decide) (hts _ (wg_t kw_326)) (fun _ h9 => h9) rfl hnm rfl (by decide +kernel) rfl rfl (Nat.le_of_ble_eq_true rfl) dDS_init_116 (fun H locs hP hD hS => ?_)
  have hP : va_P g.1 vcl ([(h0, .inr (2, [.int (nI 4), .int (nI 4), .int (nI 2), .int (nI 3), .int (nI 39), .int (nI 32), .int (nI 18), .int (nI 131072), .int (nI 44), .int (nI 6), .int (nI 95232), .int (nI 80), .int 0, .int 0, .int 0, .int 0, .int 0]))] ++ pl) _ := hP
  have hD : va_D _ ([(h0, .inr (2, [.int (nI 4), .int (nI 4), .int (nI 2), .int (nI 3), .int (nI 39), .int (nI 32), .int (nI 18), .int (nI 131072), .int (nI 44), .int (nI 6), .int (nI 95232), .int (nI 80), .int 0, .int 0, .int 0, .int 0, .int 0]))] ++ pl) := hD
  refine lv_aload_n hx hb dDS_init_119 rfl (lv_at hl 0 rfl) ?_
  refine lv_aload_n hx hb dDS_init_120 rfl (lv_at hl 0 rfl) ?_
  refine va_get (D := g.1) (ci := 2) (C := "LatticeKeys$DsaSet") (T := T_DS) (N := 17) hx hb hts (wg_ft i_DS) hown hK hP 0 rfl rfl 4 (by decide) (hts _ (wg_t kw_311)) (fun _ h9 => h9) rfl dDS_init_121 ?_
  refine lv_aload_n hx hb dDS_init_124 rfl (lv_at hl 0 rfl) ?_
  refine va_get (D := g.1) (ci := 2) (C := "LatticeKeys$DsaSet") (T := T_DS) (N := 17) hx hb hts (wg_ft i_DS) hown hK hP 0 rfl rfl 2 (by decide) (hts _ (wg_t kw_306)) (fun _ h9 => h9) rfl dDS_init_125 ?_
  refine mi_imul hx hb dDS_init_128 ?_
  refine mi_as (show nI (39 * 2) = nI 78 from rfl) ?_
  refine va_putF (D := g.1) (ci := 2) (v := .int (nI 78)) (ty := .int) (C := "LatticeKeys$DsaSet") (T := T_DS) (N := 17) hx hb hts (wg_ft i_DS) ty_DS k_DS n_DS hown hK hP hD hS 0 rfl rfl 12 (by decide) (hts _ (wg_t kw_328)) (fun _ h9 => h9) rfl hnm rfl (by decide +kernel) rfl rfl (Nat.le_of_ble_eq_true rfl) dDS_init_129 (fun H locs hP hD hS => ?_)
  have hP : va_P g.1 vcl ([(h0, .inr (2, [.int (nI 4), .int (nI 4), .int (nI 2), .int (nI 3), .int (nI 39), .int (nI 32), .int (nI 18), .int (nI 131072), .int (nI 44), .int (nI 6), .int (nI 95232), .int (nI 80), .int (nI 78), .int 0, .int 0, .int 0, .int 0]))] ++ pl) _ := hP
  have hD : va_D _ ([(h0, .inr (2, [.int (nI 4), .int (nI 4), .int (nI 2), .int (nI 3), .int (nI 39), .int (nI 32), .int (nI 18), .int (nI 131072), .int (nI 44), .int (nI 6), .int (nI 95232), .int (nI 80), .int (nI 78), .int 0, .int 0, .int 0, .int 0]))] ++ pl) := hD
  refine lv_aload_n hx hb dDS_init_132 rfl (lv_at hl 0 rfl) ?_
  refine lv_bipush (v := nI 32) hx hb dDS_init_133 (by decide) ?_
  refine lv_sipush (v := nI 320) hx hb dDS_init_135 (by decide) ?_
  refine lv_aload_n hx hb dDS_init_138 rfl (lv_at hl 0 rfl) ?_
  refine va_get (D := g.1) (ci := 2) (C := "LatticeKeys$DsaSet") (T := T_DS) (N := 17) hx hb hts (wg_ft i_DS) hown hK hP 0 rfl rfl 0 (by decide) (hts _ (wg_t kw_300)) (fun _ h9 => h9) rfl dDS_init_139 ?_
  refine mi_imul hx hb dDS_init_142 ?_
  refine mi_as (show nI (320 * 4) = nI 1280 from rfl) ?_
  refine mi_iadd hx hb dDS_init_143 ?_
  refine mi_as (show nI (32 + 1280) = nI 1312 from rfl) ?_
  refine va_putF (D := g.1) (ci := 2) (v := .int (nI 1312)) (ty := .int) (C := "LatticeKeys$DsaSet") (T := T_DS) (N := 17) hx hb hts (wg_ft i_DS) ty_DS k_DS n_DS hown hK hP hD hS 0 rfl rfl 13 (by decide) (hts _ (wg_t kw_330)) (fun _ h9 => h9) rfl hnm rfl (by decide +kernel) rfl rfl (Nat.le_of_ble_eq_true rfl) dDS_init_144 (fun H locs hP hD hS => ?_)
  have hP : va_P g.1 vcl ([(h0, .inr (2, [.int (nI 4), .int (nI 4), .int (nI 2), .int (nI 3), .int (nI 39), .int (nI 32), .int (nI 18), .int (nI 131072), .int (nI 44), .int (nI 6), .int (nI 95232), .int (nI 80), .int (nI 78), .int (nI 1312), .int 0, .int 0, .int 0]))] ++ pl) _ := hP
  have hD : va_D _ ([(h0, .inr (2, [.int (nI 4), .int (nI 4), .int (nI 2), .int (nI 3), .int (nI 39), .int (nI 32), .int (nI 18), .int (nI 131072), .int (nI 44), .int (nI 6), .int (nI 95232), .int (nI 80), .int (nI 78), .int (nI 1312), .int 0, .int 0, .int 0]))] ++ pl) := hD
  refine lv_aload_n hx hb dDS_init_147 rfl (lv_at hl 0 rfl) ?_
  refine lv_sipush (v := nI 128) hx hb dDS_init_148 (by decide) ?_
  refine lv_bipush (v := nI 32) hx hb dDS_init_151 (by decide) ?_
  refine lv_aload_n hx hb dDS_init_153 rfl (lv_at hl 0 rfl) ?_
  refine va_get (D := g.1) (ci := 2) (C := "LatticeKeys$DsaSet") (T := T_DS) (N := 17) hx hb hts (wg_ft i_DS) hown hK hP 0 rfl rfl 3 (by decide) (hts _ (wg_t kw_309)) (fun _ h9 => h9) rfl dDS_init_154 ?_
  refine lv_aload_n hx hb dDS_init_157 rfl (lv_at hl 0 rfl) ?_
  refine va_get (D := g.1) (ci := 2) (C := "LatticeKeys$DsaSet") (T := T_DS) (N := 17) hx hb hts (wg_ft i_DS) hown hK hP 0 rfl rfl 0 (by decide) (hts _ (wg_t kw_300)) (fun _ h9 => h9) rfl dDS_init_158 ?_
  refine lv_aload_n hx hb dDS_init_161 rfl (lv_at hl 0 rfl) ?_
  refine va_get (D := g.1) (ci := 2) (C := "LatticeKeys$DsaSet") (T := T_DS) (N := 17) hx hb hts (wg_ft i_DS) hown hK hP 0 rfl rfl 1 (by decide) (hts _ (wg_t kw_303)) (fun _ h9 => h9) rfl dDS_init_162 ?_
  refine mi_iadd hx hb dDS_init_165 ?_
  refine mi_as (show nI (4 + 4) = nI 8 from rfl) ?_
  refine mi_imul hx hb dDS_init_166 ?_
  refine mi_as (show nI (3 * 8) = nI 24 from rfl) ?_
  refine lv_bipush (v := nI 13) hx hb dDS_init_167 (by decide) ?_
  refine lv_aload_n hx hb dDS_init_169 rfl (lv_at hl 0 rfl) ?_
  refine va_get (D := g.1) (ci := 2) (C := "LatticeKeys$DsaSet") (T := T_DS) (N := 17) hx hb hts (wg_ft i_DS) hown hK hP 0 rfl rfl 0 (by decide) (hts _ (wg_t kw_300)) (fun _ h9 => h9) rfl dDS_init_170 ?_
  refine mi_imul hx hb dDS_init_173 ?_
  refine mi_as (show nI (13 * 4) = nI 52 from rfl) ?_
  refine mi_iadd hx hb dDS_init_174 ?_
  refine mi_as (show nI (24 + 52) = nI 76 from rfl) ?_
  refine mi_imul hx hb dDS_init_175 ?_
  refine mi_as (show nI (32 * 76) = nI 2432 from rfl) ?_
  refine mi_iadd hx hb dDS_init_176 ?_
  refine mi_as (show nI (128 + 2432) = nI 2560 from rfl) ?_
  refine va_putF (D := g.1) (ci := 2) (v := .int (nI 2560)) (ty := .int) (C := "LatticeKeys$DsaSet") (T := T_DS) (N := 17) hx hb hts (wg_ft i_DS) ty_DS k_DS n_DS hown hK hP hD hS 0 rfl rfl 14 (by decide) (hts _ (wg_t kw_332)) (fun _ h9 => h9) rfl hnm rfl (by decide +kernel) rfl rfl (Nat.le_of_ble_eq_true rfl) dDS_init_177 (fun H locs hP hD hS => ?_)
  have hP : va_P g.1 vcl ([(h0, .inr (2, [.int (nI 4), .int (nI 4), .int (nI 2), .int (nI 3), .int (nI 39), .int (nI 32), .int (nI 18), .int (nI 131072), .int (nI 44), .int (nI 6), .int (nI 95232), .int (nI 80), .int (nI 78), .int (nI 1312), .int (nI 2560), .int 0, .int 0]))] ++ pl) _ := hP
  have hD : va_D _ ([(h0, .inr (2, [.int (nI 4), .int (nI 4), .int (nI 2), .int (nI 3), .int (nI 39), .int (nI 32), .int (nI 18), .int (nI 131072), .int (nI 44), .int (nI 6), .int (nI 95232), .int (nI 80), .int (nI 78), .int (nI 1312), .int (nI 2560), .int 0, .int 0]))] ++ pl) := hD
  refine lv_aload_n hx hb dDS_init_180 rfl (lv_at hl 0 rfl) ?_
  refine lv_aload_n hx hb dDS_init_181 rfl (lv_at hl 0 rfl) ?_
  refine va_get (D := g.1) (ci := 2) (C := "LatticeKeys$DsaSet") (T := T_DS) (N := 17) hx hb hts (wg_ft i_DS) hown hK hP 0 rfl rfl 5 (by decide) (hts _ (wg_t kw_313)) (fun _ h9 => h9) rfl dDS_init_182 ?_
  refine lv_bipush (v := nI 32) hx hb dDS_init_185 (by decide) ?_
  refine lv_aload_n hx hb dDS_init_187 rfl (lv_at hl 0 rfl) ?_
  refine va_get (D := g.1) (ci := 2) (C := "LatticeKeys$DsaSet") (T := T_DS) (N := 17) hx hb hts (wg_ft i_DS) hown hK hP 0 rfl rfl 6 (by decide) (hts _ (wg_t kw_316)) (fun _ h9 => h9) rfl dDS_init_188 ?_
  refine mi_imul hx hb dDS_init_191 ?_
  refine mi_as (show nI (32 * 18) = nI 576 from rfl) ?_
  refine lv_aload_n hx hb dDS_init_192 rfl (lv_at hl 0 rfl) ?_
  refine va_get (D := g.1) (ci := 2) (C := "LatticeKeys$DsaSet") (T := T_DS) (N := 17) hx hb hts (wg_ft i_DS) hown hK hP 0 rfl rfl 1 (by decide) (hts _ (wg_t kw_303)) (fun _ h9 => h9) rfl dDS_init_193 ?_
  refine mi_imul hx hb dDS_init_196 ?_
  refine mi_as (show nI (576 * 4) = nI 2304 from rfl) ?_
  refine mi_iadd hx hb dDS_init_197 ?_
  refine mi_as (show nI (32 + 2304) = nI 2336 from rfl) ?_
  refine va_putF (D := g.1) (ci := 2) (v := .int (nI 2336)) (ty := .int) (C := "LatticeKeys$DsaSet") (T := T_DS) (N := 17) hx hb hts (wg_ft i_DS) ty_DS k_DS n_DS hown hK hP hD hS 0 rfl rfl 15 (by decide) (hts _ (wg_t kw_334)) (fun _ h9 => h9) rfl hnm rfl (by decide +kernel) rfl rfl (Nat.le_of_ble_eq_true rfl) dDS_init_198 (fun H locs hP hD hS => ?_)
  have hP : va_P g.1 vcl ([(h0, .inr (2, [.int (nI 4), .int (nI 4), .int (nI 2), .int (nI 3), .int (nI 39), .int (nI 32), .int (nI 18), .int (nI 131072), .int (nI 44), .int (nI 6), .int (nI 95232), .int (nI 80), .int (nI 78), .int (nI 1312), .int (nI 2560), .int (nI 2336), .int 0]))] ++ pl) _ := hP
  have hD : va_D _ ([(h0, .inr (2, [.int (nI 4), .int (nI 4), .int (nI 2), .int (nI 3), .int (nI 39), .int (nI 32), .int (nI 18), .int (nI 131072), .int (nI 44), .int (nI 6), .int (nI 95232), .int (nI 80), .int (nI 78), .int (nI 1312), .int (nI 2560), .int (nI 2336), .int 0]))] ++ pl) := hD
  refine lv_aload_n hx hb dDS_init_201 rfl (lv_at hl 0 rfl) ?_
  refine lv_aload_n hx hb dDS_init_202 rfl (lv_at hl 0 rfl) ?_
  refine va_get (D := g.1) (ci := 2) (C := "LatticeKeys$DsaSet") (T := T_DS) (N := 17) hx hb hts (wg_ft i_DS) hown hK hP 0 rfl rfl 15 (by decide) (hts _ (wg_t kw_334)) (fun _ h9 => h9) rfl dDS_init_203 ?_
  refine lv_aload_n hx hb dDS_init_206 rfl (lv_at hl 0 rfl) ?_
  refine va_get (D := g.1) (ci := 2) (C := "LatticeKeys$DsaSet") (T := T_DS) (N := 17) hx hb hts (wg_ft i_DS) hown hK hP 0 rfl rfl 11 (by decide) (hts _ (wg_t kw_326)) (fun _ h9 => h9) rfl dDS_init_207 ?_
  refine mi_iadd hx hb dDS_init_210 ?_
  refine mi_as (show nI (2336 + 80) = nI 2416 from rfl) ?_
  refine lv_aload_n hx hb dDS_init_211 rfl (lv_at hl 0 rfl) ?_
  refine va_get (D := g.1) (ci := 2) (C := "LatticeKeys$DsaSet") (T := T_DS) (N := 17) hx hb hts (wg_ft i_DS) hown hK hP 0 rfl rfl 0 (by decide) (hts _ (wg_t kw_300)) (fun _ h9 => h9) rfl dDS_init_212 ?_
  refine mi_iadd hx hb dDS_init_215 ?_
  refine mi_as (show nI (2416 + 4) = nI 2420 from rfl) ?_
  refine va_putF (D := g.1) (ci := 2) (v := .int (nI 2420)) (ty := .int) (C := "LatticeKeys$DsaSet") (T := T_DS) (N := 17) hx hb hts (wg_ft i_DS) ty_DS k_DS n_DS hown hK hP hD hS 0 rfl rfl 16 (by decide) (hts _ (wg_t kw_336)) (fun _ h9 => h9) rfl hnm rfl (by decide +kernel) rfl rfl (Nat.le_of_ble_eq_true rfl) dDS_init_216 (fun H locs hP hD hS => ?_)
  have hP : va_P g.1 vcl ([(h0, .inr (2, [.int (nI 4), .int (nI 4), .int (nI 2), .int (nI 3), .int (nI 39), .int (nI 32), .int (nI 18), .int (nI 131072), .int (nI 44), .int (nI 6), .int (nI 95232), .int (nI 80), .int (nI 78), .int (nI 1312), .int (nI 2560), .int (nI 2336), .int (nI 2420)]))] ++ pl) _ := hP
  have hD : va_D _ ([(h0, .inr (2, [.int (nI 4), .int (nI 4), .int (nI 2), .int (nI 3), .int (nI 39), .int (nI 32), .int (nI 18), .int (nI 131072), .int (nI 44), .int (nI 6), .int (nI 95232), .int (nI 80), .int (nI 78), .int (nI 1312), .int (nI 2560), .int (nI 2336), .int (nI 2420)]))] ++ pl) := hD
  exact mp_vret hx hb hr hlk hP hD hS pl ⟨trivial, hO⟩ [0] rfl rfl rfl (by omega) (by omega) dDS_init_219
set_option maxHeartbeats 4000000 in
set_option maxRecDepth 100000 in
theorem t_DS_init_1 (l : Launch) (g : Gd) (sz : Nat) (T : Ty) (pl : va_W) (hO : okx g T [] pl) (hU : uni T) (h0 : Nat)  : Met l y_DS_init w_DS_init ({ frames := 1, cells := 0, slots := 0, locals := 40 } : Room) (va_Pc [.ref h0, .int (nI 1)] (pr (en g) g.1 vcl sz ([(h0, .inr (2, [.int 0, .int 0, .int 0, .int 0, .int 0, .int 0, .int 0, .int 0, .int 0, .int 0, .int 0, .int 0, .int 0, .int 0, .int 0, .int 0, .int 0]))] ++ pl))) (va_Qv (fun (u : va_W) => (True) ∧ okx g T [] u) (po g.1 vcl (va_A ([(h0, .inr (2, [.int 0, .int 0, .int 0, .int 0, .int 0, .int 0, .int 0, .int 0, .int 0, .int 0, .int 0, .int 0, .int 0, .int 0, .int 0, .int 0, .int 0]))] ++ pl) sz) (fun (u : va_W) => [(h0, .inr (2, [.int (nI 6), .int (nI 5), .int (nI 4), .int (nI 4), .int (nI 49), .int (nI 48), .int (nI 20), .int (nI 524288), .int (nI 16), .int (nI 4), .int (nI 261888), .int (nI 55), .int (nI 196), .int (nI 1952), .int (nI 4032), .int (nI 3248), .int (nI 3309)]))] ++ u)) (va_A ([(h0, .inr (2, [.int 0, .int 0, .int 0, .int 0, .int 0, .int 0, .int 0, .int 0, .int 0, .int 0, .int 0, .int 0, .int 0, .int 0, .int 0, .int 0, .int 0]))] ++ pl) sz)) 0 0 (va_A ([(h0, .inr (2, [.int 0, .int 0, .int 0, .int 0, .int 0, .int 0, .int 0, .int 0, .int 0, .int 0, .int 0, .int 0, .int 0, .int 0, .int 0, .int 0, .int 0]))] ++ pl) sz) := by
  refine mc_entry (cc := c_DS_init) (maxL := 2) (ret := none) (by decide) rfl (Nat.le_of_ble_eq_true rfl) ?_
  intro p e s m args below meth c ls F hr hlk hnm hsz hP hD hE hA hl
  obtain ⟨hx, hb, hml, hown, hts⟩ := id F
  have hK := hE.1
  generalize va_A ([(h0, .inr (2, [.int 0, .int 0, .int 0, .int 0, .int 0, .int 0, .int 0, .int 0, .int 0, .int 0, .int 0, .int 0, .int 0, .int 0, .int 0, .int 0, .int 0]))] ++ pl) sz = A at hD hE hA ⊢
  have hS : va_S A s.heap s.heap [] := va_S.rf
  have hl : lv_has ls 2 [(0, .ref h0), (1, .int (nI 1))] := hl
  refine lv_aload_n hx hb dDS_init_0 rfl (lv_at hl 0 rfl) ?_
  refine W.objInit hx hb hown (hts _ (wg_t kw_278)) (hts _ (wg_t kw_41)) (hts _ (wg_t kobj)) rfl (by rw [hml]; exact hl.1) rfl dDS_init_1 (Nat.le_of_ble_eq_true rfl) (Nat.le_of_ble_eq_true rfl) ?_
  refine W.eq (g2 := F0 m 4 ls []) rfl ?_
  refine lv_aload_n hx hb dDS_init_4 rfl (lv_at hl 0 rfl) ?_
  refine va_gets hx hb (hE.2.1 9 _ rfl).1 hS hown (hts _ (wg_t kw_279)) (fun _ h9 => h9) dDS_init_5 ?_
  refine lv_iload_n hx hb dDS_init_8 rfl (lv_at hl 1 rfl) ?_
  refine va_ti (v := .int (nI 6)) hx hb (hE.2.1 9 _ rfl).2 hS (vp_in_nI (by decide) (by decide)) (by decide +kernel) dDS_init_9 ?_
  refine va_putF (D := g.1) (ci := 2) (v := .int (nI 6)) (ty := .int) (C := "LatticeKeys$DsaSet") (T := T_DS) (N := 17) hx hb hts (wg_ft i_DS) ty_DS k_DS n_DS hown hK hP hD hS 0 rfl rfl 0 (by decide) (hts _ (wg_t kw_300)) (fun _ h9 => h9) rfl hnm rfl (by decide +kernel) rfl rfl (Nat.le_of_ble_eq_true rfl) dDS_init_10 (fun H locs hP hD hS => ?_)
  have hP : va_P g.1 vcl ([(h0, .inr (2, [.int (nI 6), .int 0, .int 0, .int 0, .int 0, .int 0, .int 0, .int 0, .int 0, .int 0, .int 0, .int 0, .int 0, .int 0, .int 0, .int 0, .int 0]))] ++ pl) _ := hP
  have hD : va_D _ ([(h0, .inr (2, [.int (nI 6), .int 0, .int 0, .int 0, .int 0, .int 0, .int 0, .int 0, .int 0, .int 0, .int 0, .int 0, .int 0, .int 0, .int 0, .int 0, .int 0]))] ++ pl) := hD
  refine lv_aload_n hx hb dDS_init_13 rfl (lv_at hl 0 rfl) ?_
  refine va_gets hx hb (hE.2.1 10 _ rfl).1 hS hown (hts _ (wg_t kw_281)) (fun _ h9 => h9) dDS_init_14 ?_
  refine lv_iload_n hx hb dDS_init_17 rfl (lv_at hl 1 rfl) ?_
  refine va_ti (v := .int (nI 5)) hx hb (hE.2.1 10 _ rfl).2 hS (vp_in_nI (by decide) (by decide)) (by decide +kernel) dDS_init_18 ?_
  refine va_putF (D := g.1) (ci := 2) (v := .int (nI 5)) (ty := .int) (C := "LatticeKeys$DsaSet") (T := T_DS) (N := 17) hx hb hts (wg_ft i_DS) ty_DS k_DS n_DS hown hK hP hD hS 0 rfl rfl 1 (by decide) (hts _ (wg_t kw_303)) (fun _ h9 => h9) rfl hnm rfl (by decide +kernel) rfl rfl (Nat.le_of_ble_eq_true rfl) dDS_init_19 (fun H locs hP hD hS => ?_)
  have hP : va_P g.1 vcl ([(h0, .inr (2, [.int (nI 6), .int (nI 5), .int 0, .int 0, .int 0, .int 0, .int 0, .int 0, .int 0, .int 0, .int 0, .int 0, .int 0, .int 0, .int 0, .int 0, .int 0]))] ++ pl) _ := hP
  have hD : va_D _ ([(h0, .inr (2, [.int (nI 6), .int (nI 5), .int 0, .int 0, .int 0, .int 0, .int 0, .int 0, .int 0, .int 0, .int 0, .int 0, .int 0, .int 0, .int 0, .int 0, .int 0]))] ++ pl) := hD
  refine lv_aload_n hx hb dDS_init_22 rfl (lv_at hl 0 rfl) ?_
  refine va_gets hx hb (hE.2.1 11 _ rfl).1 hS hown (hts _ (wg_t kw_283)) (fun _ h9 => h9) dDS_init_23 ?_
  refine lv_iload_n hx hb dDS_init_26 rfl (lv_at hl 1 rfl) ?_
  refine va_ti (v := .int (nI 4)) hx hb (hE.2.1 11 _ rfl).2 hS (vp_in_nI (by decide) (by decide)) (by decide +kernel) dDS_init_27 ?_
  refine va_putF (D := g.1) (ci := 2) (v := .int (nI 4)) (ty := .int) (C := "LatticeKeys$DsaSet") (T := T_DS) (N := 17) hx hb hts (wg_ft i_DS) ty_DS k_DS n_DS hown hK hP hD hS 0 rfl rfl 2 (by decide) (hts _ (wg_t kw_306)) (fun _ h9 => h9) rfl hnm rfl (by decide +kernel) rfl rfl (Nat.le_of_ble_eq_true rfl) dDS_init_28 (fun H locs hP hD hS => ?_)
  have hP : va_P g.1 vcl ([(h0, .inr (2, [.int (nI 6), .int (nI 5), .int (nI 4), .int 0, .int 0, .int 0, .int 0, .int 0, .int 0, .int 0, .int 0, .int 0, .int 0, .int 0, .int 0, .int 0, .int 0]))] ++ pl) _ := hP
  have hD : va_D _ ([(h0, .inr (2, [.int (nI 6), .int (nI 5), .int (nI 4), .int 0, .int 0, .int 0, .int 0, .int 0, .int 0, .int 0, .int 0, .int 0, .int 0, .int 0, .int 0, .int 0, .int 0]))] ++ pl) := hD
  refine lv_aload_n hx hb dDS_init_31 rfl (lv_at hl 0 rfl) ?_
  refine va_gets hx hb (hE.2.1 12 _ rfl).1 hS hown (hts _ (wg_t kw_285)) (fun _ h9 => h9) dDS_init_32 ?_
  refine lv_iload_n hx hb dDS_init_35 rfl (lv_at hl 1 rfl) ?_
  refine va_ti (v := .int (nI 4)) hx hb (hE.2.1 12 _ rfl).2 hS (vp_in_nI (by decide) (by decide)) (by decide +kernel) dDS_init_36 ?_
  refine va_putF (D := g.1) (ci := 2) (v := .int (nI 4)) (ty := .int) (C := "LatticeKeys$DsaSet") (T := T_DS) (N := 17) hx hb hts (wg_ft i_DS) ty_DS k_DS n_DS hown hK hP hD hS 0 rfl rfl 3 (by decide) (hts _ (wg_t kw_309)) (fun _ h9 => h9) rfl hnm rfl (by decide +kernel) rfl rfl (Nat.le_of_ble_eq_true rfl) dDS_init_37 (fun H locs hP hD hS => ?_)
  have hP : va_P g.1 vcl ([(h0, .inr (2, [.int (nI 6), .int (nI 5), .int (nI 4), .int (nI 4), .int 0, .int 0, .int 0, .int 0, .int 0, .int 0, .int 0, .int 0, .int 0, .int 0, .int 0, .int 0, .int 0]))] ++ pl) _ := hP
  have hD : va_D _ ([(h0, .inr (2, [.int (nI 6), .int (nI 5), .int (nI 4), .int (nI 4), .int 0, .int 0, .int 0, .int 0, .int 0, .int 0, .int 0, .int 0, .int 0, .int 0, .int 0, .int 0, .int 0]))] ++ pl) := hD
  refine lv_aload_n hx hb dDS_init_40 rfl (lv_at hl 0 rfl) ?_
  refine va_gets hx hb (hE.2.1 13 _ rfl).1 hS hown (hts _ (wg_t kw_287)) (fun _ h9 => h9) dDS_init_41 ?_
  refine lv_iload_n hx hb dDS_init_44 rfl (lv_at hl 1 rfl) ?_
  refine va_ti (v := .int (nI 49)) hx hb (hE.2.1 13 _ rfl).2 hS (vp_in_nI (by decide) (by decide)) (by decide +kernel) dDS_init_45 ?_
  refine va_putF (D := g.1) (ci := 2) (v := .int (nI 49)) (ty := .int) (C := "LatticeKeys$DsaSet") (T := T_DS) (N := 17) hx hb hts (wg_ft i_DS) ty_DS k_DS n_DS hown hK hP hD hS 0 rfl rfl 4 (by decide) (hts _ (wg_t kw_311)) (fun _ h9 => h9) rfl hnm rfl (by decide +kernel) rfl rfl (Nat.le_of_ble_eq_true rfl) dDS_init_46 (fun H locs hP hD hS => ?_)
  have hP : va_P g.1 vcl ([(h0, .inr (2, [.int (nI 6), .int (nI 5), .int (nI 4), .int (nI 4), .int (nI 49), .int 0, .int 0, .int 0, .int 0, .int 0, .int 0, .int 0, .int 0, .int 0, .int 0, .int 0, .int 0]))] ++ pl) _ := hP
  have hD : va_D _ ([(h0, .inr (2, [.int (nI 6), .int (nI 5), .int (nI 4), .int (nI 4), .int (nI 49), .int 0, .int 0, .int 0, .int 0, .int 0, .int 0, .int 0, .int 0, .int 0, .int 0, .int 0, .int 0]))] ++ pl) := hD
  refine lv_aload_n hx hb dDS_init_49 rfl (lv_at hl 0 rfl) ?_
  refine va_gets hx hb (hE.2.1 14 _ rfl).1 hS hown (hts _ (wg_t kw_289)) (fun _ h9 => h9) dDS_init_50 ?_
  refine lv_iload_n hx hb dDS_init_53 rfl (lv_at hl 1 rfl) ?_
  refine va_ti (v := .int (nI 48)) hx hb (hE.2.1 14 _ rfl).2 hS (vp_in_nI (by decide) (by decide)) (by decide +kernel) dDS_init_54 ?_
  refine va_putF (D := g.1) (ci := 2) (v := .int (nI 48)) (ty := .int) (C := "LatticeKeys$DsaSet") (T := T_DS) (N := 17) hx hb hts (wg_ft i_DS) ty_DS k_DS n_DS hown hK hP hD hS 0 rfl rfl 5 (by decide) (hts _ (wg_t kw_313)) (fun _ h9 => h9) rfl hnm rfl (by decide +kernel) rfl rfl (Nat.le_of_ble_eq_true rfl) dDS_init_55 (fun H locs hP hD hS => ?_)
  have hP : va_P g.1 vcl ([(h0, .inr (2, [.int (nI 6), .int (nI 5), .int (nI 4), .int (nI 4), .int (nI 49), .int (nI 48), .int 0, .int 0, .int 0, .int 0, .int 0, .int 0, .int 0, .int 0, .int 0, .int 0, .int 0]))] ++ pl) _ := hP
  have hD : va_D _ ([(h0, .inr (2, [.int (nI 6), .int (nI 5), .int (nI 4), .int (nI 4), .int (nI 49), .int (nI 48), .int 0, .int 0, .int 0, .int 0, .int 0, .int 0, .int 0, .int 0, .int 0, .int 0, .int 0]))] ++ pl) := hD
  refine lv_aload_n hx hb dDS_init_58 rfl (lv_at hl 0 rfl) ?_
  refine va_gets hx hb (hE.2.1 15 _ rfl).1 hS hown (hts _ (wg_t kw_291)) (fun _ h9 => h9) dDS_init_59 ?_
  refine lv_iload_n hx hb dDS_init_62 rfl (lv_at hl 1 rfl) ?_
  refine va_ti (v := .int (nI 20)) hx hb (hE.2.1 15 _ rfl).2 hS (vp_in_nI (by decide) (by decide)) (by decide +kernel) dDS_init_63 ?_
  refine va_putF (D := g.1) (ci := 2) (v := .int (nI 20)) (ty := .int) (C := "LatticeKeys$DsaSet") (T := T_DS) (N := 17) hx hb hts (wg_ft i_DS) ty_DS k_DS n_DS hown hK hP hD hS 0 rfl rfl 6 (by decide) (hts _ (wg_t kw_316)) (fun _ h9 => h9) rfl hnm rfl (by decide +kernel) rfl rfl (Nat.le_of_ble_eq_true rfl) dDS_init_64 (fun H locs hP hD hS => ?_)
  have hP : va_P g.1 vcl ([(h0, .inr (2, [.int (nI 6), .int (nI 5), .int (nI 4), .int (nI 4), .int (nI 49), .int (nI 48), .int (nI 20), .int 0, .int 0, .int 0, .int 0, .int 0, .int 0, .int 0, .int 0, .int 0, .int 0]))] ++ pl) _ := hP
  have hD : va_D _ ([(h0, .inr (2, [.int (nI 6), .int (nI 5), .int (nI 4), .int (nI 4), .int (nI 49), .int (nI 48), .int (nI 20), .int 0, .int 0, .int 0, .int 0, .int 0, .int 0, .int 0, .int 0, .int 0, .int 0]))] ++ pl) := hD
  refine lv_aload_n hx hb dDS_init_67 rfl (lv_at hl 0 rfl) ?_
  refine lv_iconst (v := nI 1) hx hb dDS_init_68 (by decide) ?_
  refine lv_aload_n hx hb dDS_init_69 rfl (lv_at hl 0 rfl) ?_
  refine va_get (D := g.1) (ci := 2) (C := "LatticeKeys$DsaSet") (T := T_DS) (N := 17) hx hb hts (wg_ft i_DS) hown hK hP 0 rfl rfl 6 (by decide) (hts _ (wg_t kw_316)) (fun _ h9 => h9) rfl dDS_init_70 ?_
  refine lv_iconst (v := nI 1) hx hb dDS_init_73 (by decide) ?_
  refine mi_isub hx hb dDS_init_74 (by omega) ?_
  refine mi_as (show nI (20 - 1) = nI 19 from rfl) ?_
  refine mi_ishl hx hb dDS_init_75 (by decide) (by decide) ?_
  refine mi_as (show nI (1 * 2 ^ 19) = nI 524288 from rfl) ?_
  refine va_putF (D := g.1) (ci := 2) (v := .int (nI 524288)) (ty := .int) (C := "LatticeKeys$DsaSet") (T := T_DS) (N := 17) hx hb hts (wg_ft i_DS) ty_DS k_DS n_DS hown hK hP hD hS 0 rfl rfl 7 (by decide) (hts _ (wg_t kw_319)) (fun _ h9 => h9) rfl hnm rfl (by decide +kernel) rfl rfl (Nat.le_of_ble_eq_true rfl) dDS_init_76 (fun H locs hP hD hS => ?_)
  have hP : va_P g.1 vcl ([(h0, .inr (2, [.int (nI 6), .int (nI 5), .int (nI 4), .int (nI 4), .int (nI 49), .int (nI 48), .int (nI 20), .int (nI 524288), .int 0, .int 0, .int 0, .int 0, .int 0, .int 0, .int 0, .int 0, .int 0]))] ++ pl) _ := hP
  have hD : va_D _ ([(h0, .inr (2, [.int (nI 6), .int (nI 5), .int (nI 4), .int (nI 4), .int (nI 49), .int (nI 48), .int (nI 20), .int (nI 524288), .int 0, .int 0, .int 0, .int 0, .int 0, .int 0, .int 0, .int 0, .int 0]))] ++ pl) := hD
  refine lv_aload_n hx hb dDS_init_79 rfl (lv_at hl 0 rfl) ?_
  refine va_gets hx hb (hE.2.1 16 _ rfl).1 hS hown (hts _ (wg_t kw_293)) (fun _ h9 => h9) dDS_init_80 ?_
  refine lv_iload_n hx hb dDS_init_83 rfl (lv_at hl 1 rfl) ?_
  refine va_ti (v := .int (nI 16)) hx hb (hE.2.1 16 _ rfl).2 hS (vp_in_nI (by decide) (by decide)) (by decide +kernel) dDS_init_84 ?_
  refine va_putF (D := g.1) (ci := 2) (v := .int (nI 16)) (ty := .int) (C := "LatticeKeys$DsaSet") (T := T_DS) (N := 17) hx hb hts (wg_ft i_DS) ty_DS k_DS n_DS hown hK hP hD hS 0 rfl rfl 8 (by decide) (hts _ (wg_t kw_321)) (fun _ h9 => h9) rfl hnm rfl (by decide +kernel) rfl rfl (Nat.le_of_ble_eq_true rfl) dDS_init_85 (fun H locs hP hD hS => ?_)
  have hP : va_P g.1 vcl ([(h0, .inr (2, [.int (nI 6), .int (nI 5), .int (nI 4), .int (nI 4), .int (nI 49), .int (nI 48), .int (nI 20), .int (nI 524288), .int (nI 16), .int 0, .int 0, .int 0, .int 0, .int 0, .int 0, .int 0, .int 0]))] ++ pl) _ := hP
  have hD : va_D _ ([(h0, .inr (2, [.int (nI 6), .int (nI 5), .int (nI 4), .int (nI 4), .int (nI 49), .int (nI 48), .int (nI 20), .int (nI 524288), .int (nI 16), .int 0, .int 0, .int 0, .int 0, .int 0, .int 0, .int 0, .int 0]))] ++ pl) := hD
  refine lv_aload_n hx hb dDS_init_88 rfl (lv_at hl 0 rfl) ?_
  refine va_gets hx hb (hE.2.1 17 _ rfl).1 hS hown (hts _ (wg_t kw_295)) (fun _ h9 => h9) dDS_init_89 ?_
  refine lv_iload_n hx hb dDS_init_92 rfl (lv_at hl 1 rfl) ?_
  refine va_ti (v := .int (nI 4)) hx hb (hE.2.1 17 _ rfl).2 hS (vp_in_nI (by decide) (by decide)) (by decide +kernel) dDS_init_93 ?_
  refine va_putF (D := g.1) (ci := 2) (v := .int (nI 4)) (ty := .int) (C := "LatticeKeys$DsaSet") (T := T_DS) (N := 17) hx hb hts (wg_ft i_DS) ty_DS k_DS n_DS hown hK hP hD hS 0 rfl rfl 9 (by decide) (hts _ (wg_t kw_322)) (fun _ h9 => h9) rfl hnm rfl (by decide +kernel) rfl rfl (Nat.le_of_ble_eq_true rfl) dDS_init_94 (fun H locs hP hD hS => ?_)
  have hP : va_P g.1 vcl ([(h0, .inr (2, [.int (nI 6), .int (nI 5), .int (nI 4), .int (nI 4), .int (nI 49), .int (nI 48), .int (nI 20), .int (nI 524288), .int (nI 16), .int (nI 4), .int 0, .int 0, .int 0, .int 0, .int 0, .int 0, .int 0]))] ++ pl) _ := hP
  have hD : va_D _ ([(h0, .inr (2, [.int (nI 6), .int (nI 5), .int (nI 4), .int (nI 4), .int (nI 49), .int (nI 48), .int (nI 20), .int (nI 524288), .int (nI 16), .int (nI 4), .int 0, .int 0, .int 0, .int 0, .int 0, .int 0, .int 0]))] ++ pl) := hD
  refine lv_aload_n hx hb dDS_init_97 rfl (lv_at hl 0 rfl) ?_
  refine lv_ldc (v := 8380416) hx hb hown (hts _ (wg_t kw_297)) dDS_init_98 ?_
  refine mi_as (show (8380416 : Int32) = nI 8380416 by decide) ?_
  refine lv_aload_n hx hb dDS_init_100 rfl (lv_at hl 0 rfl) ?_
  refine va_get (D := g.1) (ci := 2) (C := "LatticeKeys$DsaSet") (T := T_DS) (N := 17) hx hb hts (wg_ft i_DS) hown hK hP 0 rfl rfl 8 (by decide) (hts _ (wg_t kw_321)) (fun _ h9 => h9) rfl dDS_init_101 ?_
  refine mi_idiv hx hb dDS_init_104 (by omega) (by omega) (by omega) ?_
  refine mi_as (show nI (8380416 / 16) = nI 523776 from rfl) ?_
  refine lv_iconst (v := nI 2) hx hb dDS_init_105 (by decide) ?_
  refine mi_idiv hx hb dDS_init_106 (by omega) (by omega) (by omega) ?_
  refine mi_as (show nI (523776 / 2) = nI 261888 from rfl) ?_
  refine va_putF (D := g.1) (ci := 2) (v := .int (nI 261888)) (ty := .int) (C := "LatticeKeys$DsaSet") (T := T_DS) (N := 17) hx hb hts (wg_ft i_DS) ty_DS k_DS n_DS hown hK hP hD hS 0 rfl rfl 10 (by decide) (hts _ (wg_t kw_324)) (fun _ h9 => h9) rfl hnm rfl (by decide +kernel) rfl rfl (Nat.le_of_ble_eq_true rfl) dDS_init_107 (fun H locs hP hD hS => ?_)
  have hP : va_P g.1 vcl ([(h0, .inr (2, [.int (nI 6), .int (nI 5), .int (nI 4), .int (nI 4), .int (nI 49), .int (nI 48), .int (nI 20), .int (nI 524288), .int (nI 16), .int (nI 4), .int (nI 261888), .int 0, .int 0, .int 0, .int 0, .int 0, .int 0]))] ++ pl) _ := hP
  have hD : va_D _ ([(h0, .inr (2, [.int (nI 6), .int (nI 5), .int (nI 4), .int (nI 4), .int (nI 49), .int (nI 48), .int (nI 20), .int (nI 524288), .int (nI 16), .int (nI 4), .int (nI 261888), .int 0, .int 0, .int 0, .int 0, .int 0, .int 0]))] ++ pl) := hD
  refine lv_aload_n hx hb dDS_init_110 rfl (lv_at hl 0 rfl) ?_
  refine va_gets hx hb (hE.2.1 18 _ rfl).1 hS hown (hts _ (wg_t kw_298)) (fun _ h9 => h9) dDS_init_111 ?_
  refine lv_iload_n hx hb dDS_init_114 rfl (lv_at hl 1 rfl) ?_
  refine va_ti (v := .int (nI 55)) hx hb (hE.2.1 18 _ rfl).2 hS (vp_in_nI (by decide) (by decide)) (by decide +kernel) dDS_init_115 ?_
  refine va_putF (D := g.1) (ci := 2) (v := .int (nI 55)) (ty := .int) (C := "LatticeKeys$DsaSet") (T := T_DS) (N := 17) hx hb hts (wg_ft i_DS) ty_DS k_DS n_DS hown hK hP hD hS 0 rfl rfl 11 (by decide) (hts _ (wg_t kw_326)) (fun _ h9 => h9) rfl hnm rfl (by decide +kernel) rfl rfl (Nat.le_of_ble_eq_true rfl) dDS_init_116 (fun H locs hP hD hS => ?_)
  have hP : va_P g.1 vcl ([(h0, .inr (2, [.int (nI 6), .int (nI 5), .int (nI 4), .int (nI 4), .int (nI 49), .int (nI 48), .int (nI 20), .int (nI 524288), .int (nI 16), .int (nI 4), .int (nI 261888), .int (nI 55), .int 0, .int 0, .int 0, .int 0, .int 0]))] ++ pl) _ := hP
  have hD : va_D _ ([(h0, .inr (2, [.int (nI 6), .int (nI 5), .int (nI 4), .int (nI 4), .int (nI 49), .int (nI 48), .int (nI 20), .int (nI 524288), .int (nI 16), .int (nI 4), .int (nI 261888), .int (nI 55), .int 0, .int 0, .int 0, .int 0, .int 0]))] ++ pl) := hD
  refine lv_aload_n hx hb dDS_init_119 rfl (lv_at hl 0 rfl) ?_
  refine lv_aload_n hx hb dDS_init_120 rfl (lv_at hl 0 rfl) ?_
  refine va_get (D := g.1) (ci := 2) (C := "LatticeKeys$DsaSet") (T := T_DS) (N := 17) hx hb hts (wg_ft i_DS) hown hK hP 0 rfl rfl 4 (by decide) (hts _ (wg_t kw_311)) (fun _ h9 => h9) rfl dDS_init_121 ?_
  refine lv_aload_n hx hb dDS_init_124 rfl (lv_at hl 0 rfl) ?_
  refine va_get (D := g.1) (ci := 2) (C := "LatticeKeys$DsaSet") (T := T_DS) (N := 17) hx hb hts (wg_ft i_DS) hown hK hP 0 rfl rfl 2 (by decide) (hts _ (wg_t kw_306)) (fun _ h9 => h9) rfl dDS_init_125 ?_
  refine mi_imul hx hb dDS_init_128 ?_
  refine mi_as (show nI (49 * 4) = nI 196 from rfl) ?_
  refine va_putF (D := g.1) (ci := 2) (v := .int (nI 196)) (ty := .int) (C := "LatticeKeys$DsaSet") (T := T_DS) (N := 17) hx hb hts (wg_ft i_DS) ty_DS k_DS n_DS hown hK hP hD hS 0 rfl rfl 12 (by decide) (hts _ (wg_t kw_328)) (fun _ h9 => h9) rfl hnm rfl (by decide +kernel) rfl rfl (Nat.le_of_ble_eq_true rfl) dDS_init_129 (fun H locs hP hD hS => ?_)
  have hP : va_P g.1 vcl ([(h0, .inr (2, [.int (nI 6), .int (nI 5), .int (nI 4), .int (nI 4), .int (nI 49), .int (nI 48), .int (nI 20), .int (nI 524288), .int (nI 16), .int (nI 4), .int (nI 261888), .int (nI 55), .int (nI 196), .int 0, .int 0, .int 0, .int 0]))] ++ pl) _ := hP
  have hD : va_D _ ([(h0, .inr (2, [.int (nI 6), .int (nI 5), .int (nI 4), .int (nI 4), .int (nI 49), .int (nI 48), .int (nI 20), .int (nI 524288), .int (nI 16), .int (nI 4), .int (nI 261888), .int (nI 55), .int (nI 196), .int 0, .int 0, .int 0, .int 0]))] ++ pl) := hD
  refine lv_aload_n hx hb dDS_init_132 rfl (lv_at hl 0 rfl) ?_
  refine lv_bipush (v := nI 32) hx hb dDS_init_133 (by decide) ?_
  refine lv_sipush (v := nI 320) hx hb dDS_init_135 (by decide) ?_
  refine lv_aload_n hx hb dDS_init_138 rfl (lv_at hl 0 rfl) ?_
  refine va_get (D := g.1) (ci := 2) (C := "LatticeKeys$DsaSet") (T := T_DS) (N := 17) hx hb hts (wg_ft i_DS) hown hK hP 0 rfl rfl 0 (by decide) (hts _ (wg_t kw_300)) (fun _ h9 => h9) rfl dDS_init_139 ?_
  refine mi_imul hx hb dDS_init_142 ?_
  refine mi_as (show nI (320 * 6) = nI 1920 from rfl) ?_
  refine mi_iadd hx hb dDS_init_143 ?_
  refine mi_as (show nI (32 + 1920) = nI 1952 from rfl) ?_
  refine va_putF (D := g.1) (ci := 2) (v := .int (nI 1952)) (ty := .int) (C := "LatticeKeys$DsaSet") (T := T_DS) (N := 17) hx hb hts (wg_ft i_DS) ty_DS k_DS n_DS hown hK hP hD hS 0 rfl rfl 13 (by decide) (hts _ (wg_t kw_330)) (fun _ h9 => h9) rfl hnm rfl (by decide +kernel) rfl rfl (Nat.le_of_ble_eq_true rfl) dDS_init_144 (fun H locs hP hD hS => ?_)
  have hP : va_P g.1 vcl ([(h0, .inr (2, [.int (nI 6), .int (nI 5), .int (nI 4), .int (nI 4), .int (nI 49), .int (nI 48), .int (nI 20), .int (nI 524288), .int (nI 16), .int (nI 4), .int (nI 261888), .int (nI 55), .int (nI 196), .int (nI 1952), .int 0, .int 0, .int 0]))] ++ pl) _ := hP
  have hD : va_D _ ([(h0, .inr (2, [.int (nI 6), .int (nI 5), .int (nI 4), .int (nI 4), .int (nI 49), .int (nI 48), .int (nI 20), .int (nI 524288), .int (nI 16), .int (nI 4), .int (nI 261888), .int (nI 55), .int (nI 196), .int (nI 1952), .int 0, .int 0, .int 0]))] ++ pl) := hD
  refine lv_aload_n hx hb dDS_init_147 rfl (lv_at hl 0 rfl) ?_
  refine lv_sipush (v := nI 128) hx hb dDS_init_148 (by decide) ?_
  refine lv_bipush (v := nI 32) hx hb dDS_init_151 (by decide) ?_
  refine lv_aload_n hx hb dDS_init_153 rfl (lv_at hl 0 rfl) ?_
  refine va_get (D := g.1) (ci := 2) (C := "LatticeKeys$DsaSet") (T := T_DS) (N := 17) hx hb hts (wg_ft i_DS) hown hK hP 0 rfl rfl 3 (by decide) (hts _ (wg_t kw_309)) (fun _ h9 => h9) rfl dDS_init_154 ?_
  refine lv_aload_n hx hb dDS_init_157 rfl (lv_at hl 0 rfl) ?_
  refine va_get (D := g.1) (ci := 2) (C := "LatticeKeys$DsaSet") (T := T_DS) (N := 17) hx hb hts (wg_ft i_DS) hown hK hP 0 rfl rfl 0 (by decide) (hts _ (wg_t kw_300)) (fun _ h9 => h9) rfl dDS_init_158 ?_
  refine lv_aload_n hx hb dDS_init_161 rfl (lv_at hl 0 rfl) ?_
  refine va_get (D := g.1) (ci := 2) (C := "LatticeKeys$DsaSet") (T := T_DS) (N := 17) hx hb hts (wg_ft i_DS) hown hK hP 0 rfl rfl 1 (by decide) (hts _ (wg_t kw_303)) (fun _ h9 => h9) rfl dDS_init_162 ?_
  refine mi_iadd hx hb dDS_init_165 ?_
  refine mi_as (show nI (6 + 5) = nI 11 from rfl) ?_
  refine mi_imul hx hb dDS_init_166 ?_
  refine mi_as (show nI (4 * 11) = nI 44 from rfl) ?_
  refine lv_bipush (v := nI 13) hx hb dDS_init_167 (by decide) ?_
  refine lv_aload_n hx hb dDS_init_169 rfl (lv_at hl 0 rfl) ?_
  refine va_get (D := g.1) (ci := 2) (C := "LatticeKeys$DsaSet") (T := T_DS) (N := 17) hx hb hts (wg_ft i_DS) hown hK hP 0 rfl rfl 0 (by decide) (hts _ (wg_t kw_300)) (fun _ h9 => h9) rfl dDS_init_170 ?_
  refine mi_imul hx hb dDS_init_173 ?_
  refine mi_as (show nI (13 * 6) = nI 78 from rfl) ?_
  refine mi_iadd hx hb dDS_init_174 ?_
  refine mi_as (show nI (44 + 78) = nI 122 from rfl) ?_
  refine mi_imul hx hb dDS_init_175 ?_
  refine mi_as (show nI (32 * 122) = nI 3904 from rfl) ?_
  refine mi_iadd hx hb dDS_init_176 ?_
  refine mi_as (show nI (128 + 3904) = nI 4032 from rfl) ?_
  refine va_putF (D := g.1) (ci := 2) (v := .int (nI 4032)) (ty := .int) (C := "LatticeKeys$DsaSet") (T := T_DS) (N := 17) hx hb hts (wg_ft i_DS) ty_DS k_DS n_DS hown hK hP hD hS 0 rfl rfl 14 (by decide) (hts _ (wg_t kw_332)) (fun _ h9 => h9) rfl hnm rfl (by decide +kernel) rfl rfl (Nat.le_of_ble_eq_true rfl) dDS_init_177 (fun H locs hP hD hS => ?_)
  have hP : va_P g.1 vcl ([(h0, .inr (2, [.int (nI 6), .int (nI 5), .int (nI 4), .int (nI 4), .int (nI 49), .int (nI 48), .int (nI 20), .int (nI 524288), .int (nI 16), .int (nI 4), .int (nI 261888), .int (nI 55), .int (nI 196), .int (nI 1952), .int (nI 4032), .int 0, .int 0]))] ++ pl) _ := hP
  have hD : va_D _ ([(h0, .inr (2, [.int (nI 6), .int (nI 5), .int (nI 4), .int (nI 4), .int (nI 49), .int (nI 48), .int (nI 20), .int (nI 524288), .int (nI 16), .int (nI 4), .int (nI 261888), .int (nI 55), .int (nI 196), .int (nI 1952), .int (nI 4032), .int 0, .int 0]))] ++ pl) := hD
  refine lv_aload_n hx hb dDS_init_180 rfl (lv_at hl 0 rfl) ?_
  refine lv_aload_n hx hb dDS_init_181 rfl (lv_at hl 0 rfl) ?_
  refine va_get (D := g.1) (ci := 2) (C := "LatticeKeys$DsaSet") (T := T_DS) (N := 17) hx hb hts (wg_ft i_DS) hown hK hP 0 rfl rfl 5 (by decide) (hts _ (wg_t kw_313)) (fun _ h9 => h9) rfl dDS_init_182 ?_
  refine lv_bipush (v := nI 32) hx hb dDS_init_185 (by decide) ?_
  refine lv_aload_n hx hb dDS_init_187 rfl (lv_at hl 0 rfl) ?_
  refine va_get (D := g.1) (ci := 2) (C := "LatticeKeys$DsaSet") (T := T_DS) (N := 17) hx hb hts (wg_ft i_DS) hown hK hP 0 rfl rfl 6 (by decide) (hts _ (wg_t kw_316)) (fun _ h9 => h9) rfl dDS_init_188 ?_
  refine mi_imul hx hb dDS_init_191 ?_
  refine mi_as (show nI (32 * 20) = nI 640 from rfl) ?_
  refine lv_aload_n hx hb dDS_init_192 rfl (lv_at hl 0 rfl) ?_
  refine va_get (D := g.1) (ci := 2) (C := "LatticeKeys$DsaSet") (T := T_DS) (N := 17) hx hb hts (wg_ft i_DS) hown hK hP 0 rfl rfl 1 (by decide) (hts _ (wg_t kw_303)) (fun _ h9 => h9) rfl dDS_init_193 ?_
  refine mi_imul hx hb dDS_init_196 ?_
  refine mi_as (show nI (640 * 5) = nI 3200 from rfl) ?_
  refine mi_iadd hx hb dDS_init_197 ?_
  refine mi_as (show nI (48 + 3200) = nI 3248 from rfl) ?_
  refine va_putF (D := g.1) (ci := 2) (v := .int (nI 3248)) (ty := .int) (C := "LatticeKeys$DsaSet") (T := T_DS) (N := 17) hx hb hts (wg_ft i_DS) ty_DS k_DS n_DS hown hK hP hD hS 0 rfl rfl 15 (by decide) (hts _ (wg_t kw_334)) (fun _ h9 => h9) rfl hnm rfl (by decide +kernel) rfl rfl (Nat.le_of_ble_eq_true rfl) dDS_init_198 (fun H locs hP hD hS => ?_)
  have hP : va_P g.1 vcl ([(h0, .inr (2, [.int (nI 6), .int (nI 5), .int (nI 4), .int (nI 4), .int (nI 49), .int (nI 48), .int (nI 20), .int (nI 524288), .int (nI 16), .int (nI 4), .int (nI 261888), .int (nI 55), .int (nI 196), .int (nI 1952), .int (nI 4032), .int (nI 3248), .int 0]))] ++ pl) _ := hP
  have hD : va_D _ ([(h0, .inr (2, [.int (nI 6), .int (nI 5), .int (nI 4), .int (nI 4), .int (nI 49), .int (nI 48), .int (nI 20), .int (nI 524288), .int (nI 16), .int (nI 4), .int (nI 261888), .int (nI 55), .int (nI 196), .int (nI 1952), .int (nI 4032), .int (nI 3248), .int 0]))] ++ pl) := hD
  refine lv_aload_n hx hb dDS_init_201 rfl (lv_at hl 0 rfl) ?_
  refine lv_aload_n hx hb dDS_init_202 rfl (lv_at hl 0 rfl) ?_
  refine va_get (D := g.1) (ci := 2) (C := "LatticeKeys$DsaSet") (T := T_DS) (N := 17) hx hb hts (wg_ft i_DS) hown hK hP 0 rfl rfl 15 (by decide) (hts _ (wg_t kw_334)) (fun _ h9 => h9) rfl dDS_init_203 ?_
  refine lv_aload_n hx hb dDS_init_206 rfl (lv_at hl 0 rfl) ?_
  refine va_get (D := g.1) (ci := 2) (C := "LatticeKeys$DsaSet") (T := T_DS) (N := 17) hx hb hts (wg_ft i_DS) hown hK hP 0 rfl rfl 11 (by decide) (hts _ (wg_t kw_326)) (fun _ h9 => h9) rfl dDS_init_207 ?_
  refine mi_iadd hx hb dDS_init_210 ?_
  refine mi_as (show nI (3248 + 55) = nI 3303 from rfl) ?_
  refine lv_aload_n hx hb dDS_init_211 rfl (lv_at hl 0 rfl) ?_
  refine va_get (D := g.1) (ci := 2) (C := "LatticeKeys$DsaSet") (T := T_DS) (N := 17) hx hb hts (wg_ft i_DS) hown hK hP 0 rfl rfl 0 (by decide) (hts _ (wg_t kw_300)) (fun _ h9 => h9) rfl dDS_init_212 ?_
  refine mi_iadd hx hb dDS_init_215 ?_
  refine mi_as (show nI (3303 + 6) = nI 3309 from rfl) ?_
  refine va_putF (D := g.1) (ci := 2) (v := .int (nI 3309)) (ty := .int) (C := "LatticeKeys$DsaSet") (T := T_DS) (N := 17) hx hb hts (wg_ft i_DS) ty_DS k_DS n_DS hown hK hP hD hS 0 rfl rfl 16 (by decide) (hts _ (wg_t kw_336)) (fun _ h9 => h9) rfl hnm rfl (by decide +kernel) rfl rfl (Nat.le_of_ble_eq_true rfl) dDS_init_216 (fun H locs hP hD hS => ?_)
  have hP : va_P g.1 vcl ([(h0, .inr (2, [.int (nI 6), .int (nI 5), .int (nI 4), .int (nI 4), .int (nI 49), .int (nI 48), .int (nI 20), .int (nI 524288), .int (nI 16), .int (nI 4), .int (nI 261888), .int (nI 55), .int (nI 196), .int (nI 1952), .int (nI 4032), .int (nI 3248), .int (nI 3309)]))] ++ pl) _ := hP
  have hD : va_D _ ([(h0, .inr (2, [.int (nI 6), .int (nI 5), .int (nI 4), .int (nI 4), .int (nI 49), .int (nI 48), .int (nI 20), .int (nI 524288), .int (nI 16), .int (nI 4), .int (nI 261888), .int (nI 55), .int (nI 196), .int (nI 1952), .int (nI 4032), .int (nI 3248), .int (nI 3309)]))] ++ pl) := hD
  exact mp_vret hx hb hr hlk hP hD hS pl ⟨trivial, hO⟩ [0] rfl rfl rfl (by omega) (by omega) dDS_init_219
set_option maxHeartbeats 4000000 in
set_option maxRecDepth 100000 in
theorem t_DS_init_2 (l : Launch) (g : Gd) (sz : Nat) (T : Ty) (pl : va_W) (hO : okx g T [] pl) (hU : uni T) (h0 : Nat)  : Met l y_DS_init w_DS_init ({ frames := 1, cells := 0, slots := 0, locals := 40 } : Room) (va_Pc [.ref h0, .int (nI 2)] (pr (en g) g.1 vcl sz ([(h0, .inr (2, [.int 0, .int 0, .int 0, .int 0, .int 0, .int 0, .int 0, .int 0, .int 0, .int 0, .int 0, .int 0, .int 0, .int 0, .int 0, .int 0, .int 0]))] ++ pl))) (va_Qv (fun (u : va_W) => (True) ∧ okx g T [] u) (po g.1 vcl (va_A ([(h0, .inr (2, [.int 0, .int 0, .int 0, .int 0, .int 0, .int 0, .int 0, .int 0, .int 0, .int 0, .int 0, .int 0, .int 0, .int 0, .int 0, .int 0, .int 0]))] ++ pl) sz) (fun (u : va_W) => [(h0, .inr (2, [.int (nI 8), .int (nI 7), .int (nI 2), .int (nI 3), .int (nI 60), .int (nI 64), .int (nI 20), .int (nI 524288), .int (nI 16), .int (nI 4), .int (nI 261888), .int (nI 75), .int (nI 120), .int (nI 2592), .int (nI 4896), .int (nI 4544), .int (nI 4627)]))] ++ u)) (va_A ([(h0, .inr (2, [.int 0, .int 0, .int 0, .int 0, .int 0, .int 0, .int 0, .int 0, .int 0, .int 0, .int 0, .int 0, .int 0, .int 0, .int 0, .int 0, .int 0]))] ++ pl) sz)) 0 0 (va_A ([(h0, .inr (2, [.int 0, .int 0, .int 0, .int 0, .int 0, .int 0, .int 0, .int 0, .int 0, .int 0, .int 0, .int 0, .int 0, .int 0, .int 0, .int 0, .int 0]))] ++ pl) sz) := by
  refine mc_entry (cc := c_DS_init) (maxL := 2) (ret := none) (by decide) rfl (Nat.le_of_ble_eq_true rfl) ?_
  intro p e s m args below meth c ls F hr hlk hnm hsz hP hD hE hA hl
  obtain ⟨hx, hb, hml, hown, hts⟩ := id F
  have hK := hE.1
  generalize va_A ([(h0, .inr (2, [.int 0, .int 0, .int 0, .int 0, .int 0, .int 0, .int 0, .int 0, .int 0, .int 0, .int 0, .int 0, .int 0, .int 0, .int 0, .int 0, .int 0]))] ++ pl) sz = A at hD hE hA ⊢
  have hS : va_S A s.heap s.heap [] := va_S.rf
  have hl : lv_has ls 2 [(0, .ref h0), (1, .int (nI 2))] := hl
  refine lv_aload_n hx hb dDS_init_0 rfl (lv_at hl 0 rfl) ?_
  refine W.objInit hx hb hown (hts _ (wg_t kw_278)) (hts _ (wg_t kw_41)) (hts _ (wg_t kobj)) rfl (by rw [hml]; exact hl.1) rfl dDS_init_1 (Nat.le_of_ble_eq_true rfl) (Nat.le_of_ble_eq_true rfl) ?_
  refine W.eq (g2 := F0 m 4 ls []) rfl ?_
  refine lv_aload_n hx hb dDS_init_4 rfl (lv_at hl 0 rfl) ?_
  refine va_gets hx hb (hE.2.1 9 _ rfl).1 hS hown (hts _ (wg_t kw_279)) (fun _ h9 => h9) dDS_init_5 ?_
  refine lv_iload_n hx hb dDS_init_8 rfl (lv_at hl 1 rfl) ?_
  refine va_ti (v := .int (nI 8)) hx hb (hE.2.1 9 _ rfl).2 hS (vp_in_nI (by decide) (by decide)) (by decide +kernel) dDS_init_9 ?_
  refine va_putF (D := g.1) (ci := 2) (v := .int (nI 8)) (ty := .int) (C := "LatticeKeys$DsaSet") (T := T_DS) (N := 17) hx hb hts (wg_ft i_DS) ty_DS k_DS n_DS hown hK hP hD hS 0 rfl rfl 0 (by decide) (hts _ (wg_t kw_300)) (fun _ h9 => h9) rfl hnm rfl (by decide +kernel) rfl rfl (Nat.le_of_ble_eq_true rfl) dDS_init_10 (fun H locs hP hD hS => ?_)
  have hP : va_P g.1 vcl ([(h0, .inr (2, [.int (nI 8), .int 0, .int 0, .int 0, .int 0, .int 0, .int 0, .int 0, .int 0, .int 0, .int 0, .int 0, .int 0, .int 0, .int 0, .int 0, .int 0]))] ++ pl) _ := hP
  have hD : va_D _ ([(h0, .inr (2, [.int (nI 8), .int 0, .int 0, .int 0, .int 0, .int 0, .int 0, .int 0, .int 0, .int 0, .int 0, .int 0, .int 0, .int 0, .int 0, .int 0, .int 0]))] ++ pl) := hD
  refine lv_aload_n hx hb dDS_init_13 rfl (lv_at hl 0 rfl) ?_
  refine va_gets hx hb (hE.2.1 10 _ rfl).1 hS hown (hts _ (wg_t kw_281)) (fun _ h9 => h9) dDS_init_14 ?_
  refine lv_iload_n hx hb dDS_init_17 rfl (lv_at hl 1 rfl) ?_
  refine va_ti (v := .int (nI 7)) hx hb (hE.2.1 10 _ rfl).2 hS (vp_in_nI (by decide) (by decide)) (by decide +kernel) dDS_init_18 ?_
  refine va_putF (D := g.1) (ci := 2) (v := .int (nI 7)) (ty := .int) (C := "LatticeKeys$DsaSet") (T := T_DS) (N := 17) hx hb hts (wg_ft i_DS) ty_DS k_DS n_DS hown hK hP hD hS 0 rfl rfl 1 (by decide) (hts _ (wg_t kw_303)) (fun _ h9 => h9) rfl hnm rfl (by decide +kernel) rfl rfl (Nat.le_of_ble_eq_true rfl) dDS_init_19 (fun H locs hP hD hS => ?_)
  have hP : va_P g.1 vcl ([(h0, .inr (2, [.int (nI 8), .int (nI 7), .int 0, .int 0, .int 0, .int 0, .int 0, .int 0, .int 0, .int 0, .int 0, .int 0, .int 0, .int 0, .int 0, .int 0, .int 0]))] ++ pl) _ := hP
  have hD : va_D _ ([(h0, .inr (2, [.int (nI 8), .int (nI 7), .int 0, .int 0, .int 0, .int 0, .int 0, .int 0, .int 0, .int 0, .int 0, .int 0, .int 0, .int 0, .int 0, .int 0, .int 0]))] ++ pl) := hD
  refine lv_aload_n hx hb dDS_init_22 rfl (lv_at hl 0 rfl) ?_
  refine va_gets hx hb (hE.2.1 11 _ rfl).1 hS hown (hts _ (wg_t kw_283)) (fun _ h9 => h9) dDS_init_23 ?_
  refine lv_iload_n hx hb dDS_init_26 rfl (lv_at hl 1 rfl) ?_
  refine va_ti (v := .int (nI 2)) hx hb (hE.2.1 11 _ rfl).2 hS (vp_in_nI (by decide) (by decide)) (by decide +kernel) dDS_init_27 ?_
  refine va_putF (D := g.1) (ci := 2) (v := .int (nI 2)) (ty := .int) (C := "LatticeKeys$DsaSet") (T := T_DS) (N := 17) hx hb hts (wg_ft i_DS) ty_DS k_DS n_DS hown hK hP hD hS 0 rfl rfl 2 (by decide) (hts _ (wg_t kw_306)) (fun _ h9 => h9) rfl hnm rfl (by decide +kernel) rfl rfl (Nat.le_of_ble_eq_true rfl) dDS_init_28 (fun H locs hP hD hS => ?_)
  have hP : va_P g.1 vcl ([(h0, .inr (2, [.int (nI 8), .int (nI 7), .int (nI 2), .int 0, .int 0, .int 0, .int 0, .int 0, .int 0, .int 0, .int 0, .int 0, .int 0, .int 0, .int 0, .int 0, .int 0]))] ++ pl) _ := hP
  have hD : va_D _ ([(h0, .inr (2, [.int (nI 8), .int (nI 7), .int (nI 2), .int 0, .int 0, .int 0, .int 0, .int 0, .int 0, .int 0, .int 0, .int 0, .int 0, .int 0, .int 0, .int 0, .int 0]))] ++ pl) := hD
  refine lv_aload_n hx hb dDS_init_31 rfl (lv_at hl 0 rfl) ?_
  refine va_gets hx hb (hE.2.1 12 _ rfl).1 hS hown (hts _ (wg_t kw_285)) (fun _ h9 => h9) dDS_init_32 ?_
  refine lv_iload_n hx hb dDS_init_35 rfl (lv_at hl 1 rfl) ?_
  refine va_ti (v := .int (nI 3)) hx hb (hE.2.1 12 _ rfl).2 hS (vp_in_nI (by decide) (by decide)) (by decide +kernel) dDS_init_36 ?_
  refine va_putF (D := g.1) (ci := 2) (v := .int (nI 3)) (ty := .int) (C := "LatticeKeys$DsaSet") (T := T_DS) (N := 17) hx hb hts (wg_ft i_DS) ty_DS k_DS n_DS hown hK hP hD hS 0 rfl rfl 3 (by decide) (hts _ (wg_t kw_309)) (fun _ h9 => h9) rfl hnm rfl (by decide +kernel) rfl rfl (Nat.le_of_ble_eq_true rfl) dDS_init_37 (fun H locs hP hD hS => ?_)
  have hP : va_P g.1 vcl ([(h0, .inr (2, [.int (nI 8), .int (nI 7), .int (nI 2), .int (nI 3), .int 0, .int 0, .int 0, .int 0, .int 0, .int 0, .int 0, .int 0, .int 0, .int 0, .int 0, .int 0, .int 0]))] ++ pl) _ := hP
  have hD : va_D _ ([(h0, .inr (2, [.int (nI 8), .int (nI 7), .int (nI 2), .int (nI 3), .int 0, .int 0, .int 0, .int 0, .int 0, .int 0, .int 0, .int 0, .int 0, .int 0, .int 0, .int 0, .int 0]))] ++ pl) := hD
  refine lv_aload_n hx hb dDS_init_40 rfl (lv_at hl 0 rfl) ?_
  refine va_gets hx hb (hE.2.1 13 _ rfl).1 hS hown (hts _ (wg_t kw_287)) (fun _ h9 => h9) dDS_init_41 ?_
  refine lv_iload_n hx hb dDS_init_44 rfl (lv_at hl 1 rfl) ?_
  refine va_ti (v := .int (nI 60)) hx hb (hE.2.1 13 _ rfl).2 hS (vp_in_nI (by decide) (by decide)) (by decide +kernel) dDS_init_45 ?_
  refine va_putF (D := g.1) (ci := 2) (v := .int (nI 60)) (ty := .int) (C := "LatticeKeys$DsaSet") (T := T_DS) (N := 17) hx hb hts (wg_ft i_DS) ty_DS k_DS n_DS hown hK hP hD hS 0 rfl rfl 4 (by decide) (hts _ (wg_t kw_311)) (fun _ h9 => h9) rfl hnm rfl (by decide +kernel) rfl rfl (Nat.le_of_ble_eq_true rfl) dDS_init_46 (fun H locs hP hD hS => ?_)
  have hP : va_P g.1 vcl ([(h0, .inr (2, [.int (nI 8), .int (nI 7), .int (nI 2), .int (nI 3), .int (nI 60), .int 0, .int 0, .int 0, .int 0, .int 0, .int 0, .int 0, .int 0, .int 0, .int 0, .int 0, .int 0]))] ++ pl) _ := hP
  have hD : va_D _ ([(h0, .inr (2, [.int (nI 8), .int (nI 7), .int (nI 2), .int (nI 3), .int (nI 60), .int 0, .int 0, .int 0, .int 0, .int 0, .int 0, .int 0, .int 0, .int 0, .int 0, .int 0, .int 0]))] ++ pl) := hD
  refine lv_aload_n hx hb dDS_init_49 rfl (lv_at hl 0 rfl) ?_
  refine va_gets hx hb (hE.2.1 14 _ rfl).1 hS hown (hts _ (wg_t kw_289)) (fun _ h9 => h9) dDS_init_50 ?_
  refine lv_iload_n hx hb dDS_init_53 rfl (lv_at hl 1 rfl) ?_
  refine va_ti (v := .int (nI 64)) hx hb (hE.2.1 14 _ rfl).2 hS (vp_in_nI (by decide) (by decide)) (by decide +kernel) dDS_init_54 ?_
  refine va_putF (D := g.1) (ci := 2) (v := .int (nI 64)) (ty := .int) (C := "LatticeKeys$DsaSet") (T := T_DS) (N := 17) hx hb hts (wg_ft i_DS) ty_DS k_DS n_DS hown hK hP hD hS 0 rfl rfl 5 (by decide) (hts _ (wg_t kw_313)) (fun _ h9 => h9) rfl hnm rfl (by decide +kernel) rfl rfl (Nat.le_of_ble_eq_true rfl) dDS_init_55 (fun H locs hP hD hS => ?_)
  have hP : va_P g.1 vcl ([(h0, .inr (2, [.int (nI 8), .int (nI 7), .int (nI 2), .int (nI 3), .int (nI 60), .int (nI 64), .int 0, .int 0, .int 0, .int 0, .int 0, .int 0, .int 0, .int 0, .int 0, .int 0, .int 0]))] ++ pl) _ := hP
  have hD : va_D _ ([(h0, .inr (2, [.int (nI 8), .int (nI 7), .int (nI 2), .int (nI 3), .int (nI 60), .int (nI 64), .int 0, .int 0, .int 0, .int 0, .int 0, .int 0, .int 0, .int 0, .int 0, .int 0, .int 0]))] ++ pl) := hD
  refine lv_aload_n hx hb dDS_init_58 rfl (lv_at hl 0 rfl) ?_
  refine va_gets hx hb (hE.2.1 15 _ rfl).1 hS hown (hts _ (wg_t kw_291)) (fun _ h9 => h9) dDS_init_59 ?_
  refine lv_iload_n hx hb dDS_init_62 rfl (lv_at hl 1 rfl) ?_
  refine va_ti (v := .int (nI 20)) hx hb (hE.2.1 15 _ rfl).2 hS (vp_in_nI (by decide) (by decide)) (by decide +kernel) dDS_init_63 ?_
  refine va_putF (D := g.1) (ci := 2) (v := .int (nI 20)) (ty := .int) (C := "LatticeKeys$DsaSet") (T := T_DS) (N := 17) hx hb hts (wg_ft i_DS) ty_DS k_DS n_DS hown hK hP hD hS 0 rfl rfl 6 (by decide) (hts _ (wg_t kw_316)) (fun _ h9 => h9) rfl hnm rfl (by decide +kernel) rfl rfl (Nat.le_of_ble_eq_true rfl) dDS_init_64 (fun H locs hP hD hS => ?_)
  have hP : va_P g.1 vcl ([(h0, .inr (2, [.int (nI 8), .int (nI 7), .int (nI 2), .int (nI 3), .int (nI 60), .int (nI 64), .int (nI 20), .int 0, .int 0, .int 0, .int 0, .int 0, .int 0, .int 0, .int 0, .int 0, .int 0]))] ++ pl) _ := hP
  have hD : va_D _ ([(h0, .inr (2, [.int (nI 8), .int (nI 7), .int (nI 2), .int (nI 3), .int (nI 60), .int (nI 64), .int (nI 20), .int 0, .int 0, .int 0, .int 0, .int 0, .int 0, .int 0, .int 0, .int 0, .int 0]))] ++ pl) := hD
  refine lv_aload_n hx hb dDS_init_67 rfl (lv_at hl 0 rfl) ?_
  refine lv_iconst (v := nI 1) hx hb dDS_init_68 (by decide) ?_
  refine lv_aload_n hx hb dDS_init_69 rfl (lv_at hl 0 rfl) ?_
  refine va_get (D := g.1) (ci := 2) (C := "LatticeKeys$DsaSet") (T := T_DS) (N := 17) hx hb hts (wg_ft i_DS) hown hK hP 0 rfl rfl 6 (by decide) (hts _ (wg_t kw_316)) (fun _ h9 => h9) rfl dDS_init_70 ?_
  refine lv_iconst (v := nI 1) hx hb dDS_init_73 (by decide) ?_
  refine mi_isub hx hb dDS_init_74 (by omega) ?_
  refine mi_as (show nI (20 - 1) = nI 19 from rfl) ?_
  refine mi_ishl hx hb dDS_init_75 (by decide) (by decide) ?_
  refine mi_as (show nI (1 * 2 ^ 19) = nI 524288 from rfl) ?_
  refine va_putF (D := g.1) (ci := 2) (v := .int (nI 524288)) (ty := .int) (C := "LatticeKeys$DsaSet") (T := T_DS) (N := 17) hx hb hts (wg_ft i_DS) ty_DS k_DS n_DS hown hK hP hD hS 0 rfl rfl 7 (by decide) (hts _ (wg_t kw_319)) (fun _ h9 => h9) rfl hnm rfl (by decide +kernel) rfl rfl (Nat.le_of_ble_eq_true rfl) dDS_init_76 (fun H locs hP hD hS => ?_)
  have hP : va_P g.1 vcl ([(h0, .inr (2, [.int (nI 8), .int (nI 7), .int (nI 2), .int (nI 3), .int (nI 60), .int (nI 64), .int (nI 20), .int (nI 524288), .int 0, .int 0, .int 0, .int 0, .int 0, .int 0, .int 0, .int 0, .int 0]))] ++ pl) _ := hP
  have hD : va_D _ ([(h0, .inr (2, [.int (nI 8), .int (nI 7), .int (nI 2), .int (nI 3), .int (nI 60), .int (nI 64), .int (nI 20), .int (nI 524288), .int 0, .int 0, .int 0, .int 0, .int 0, .int 0, .int 0, .int 0, .int 0]))] ++ pl) := hD
  refine lv_aload_n hx hb dDS_init_79 rfl (lv_at hl 0 rfl) ?_
  refine va_gets hx hb (hE.2.1 16 _ rfl).1 hS hown (hts _ (wg_t kw_293)) (fun _ h9 => h9) dDS_init_80 ?_
  refine lv_iload_n hx hb dDS_init_83 rfl (lv_at hl 1 rfl) ?_
  refine va_ti (v := .int (nI 16)) hx hb (hE.2.1 16 _ rfl).2 hS (vp_in_nI (by decide) (by decide)) (by decide +kernel) dDS_init_84 ?_
  refine va_putF (D := g.1) (ci := 2) (v := .int (nI 16)) (ty := .int) (C := "LatticeKeys$DsaSet") (T := T_DS) (N := 17) hx hb hts (wg_ft i_DS) ty_DS k_DS n_DS hown hK hP hD hS 0 rfl rfl 8 (by decide) (hts _ (wg_t kw_321)) (fun _ h9 => h9) rfl hnm rfl (by decide +kernel) rfl rfl (Nat.le_of_ble_eq_true rfl) dDS_init_85 (fun H locs hP hD hS => ?_)
  have hP : va_P g.1 vcl ([(h0, .inr (2, [.int (nI 8), .int (nI 7), .int (nI 2), .int (nI 3), .int (nI 60), .int (nI 64), .int (nI 20), .int (nI 524288), .int (nI 16), .int 0, .int 0, .int 0, .int 0, .int 0, .int 0, .int 0, .int 0]))] ++ pl) _ := hP
  have hD : va_D _ ([(h0, .inr (2, [.int (nI 8), .int (nI 7), .int (nI 2), .int (nI 3), .int (nI 60), .int (nI 64), .int (nI 20), .int (nI 524288), .int (nI 16), .int 0, .int 0, .int 0, .int 0, .int 0, .int 0, .int 0, .int 0]))] ++ pl) := hD
  refine lv_aload_n hx hb dDS_init_88 rfl (lv_at hl 0 rfl) ?_
  refine va_gets hx hb (hE.2.1 17 _ rfl).1 hS hown (hts _ (wg_t kw_295)) (fun _ h9 => h9) dDS_init_89 ?_
  refine lv_iload_n hx hb dDS_init_92 rfl (lv_at hl 1 rfl) ?_
  refine va_ti (v := .int (nI 4)) hx hb (hE.2.1 17 _ rfl).2 hS (vp_in_nI (by decide) (by decide)) (by decide +kernel) dDS_init_93 ?_
  refine va_putF (D := g.1) (ci := 2) (v := .int (nI 4)) (ty := .int) (C := "LatticeKeys$DsaSet") (T := T_DS) (N := 17) hx hb hts (wg_ft i_DS) ty_DS k_DS n_DS hown hK hP hD hS 0 rfl rfl 9 (by decide) (hts _ (wg_t kw_322)) (fun _ h9 => h9) rfl hnm rfl (by decide +kernel) rfl rfl (Nat.le_of_ble_eq_true rfl) dDS_init_94 (fun H locs hP hD hS => ?_)
  have hP : va_P g.1 vcl ([(h0, .inr (2, [.int (nI 8), .int (nI 7), .int (nI 2), .int (nI 3), .int (nI 60), .int (nI 64), .int (nI 20), .int (nI 524288), .int (nI 16), .int (nI 4), .int 0, .int 0, .int 0, .int 0, .int 0, .int 0, .int 0]))] ++ pl) _ := hP
  have hD : va_D _ ([(h0, .inr (2, [.int (nI 8), .int (nI 7), .int (nI 2), .int (nI 3), .int (nI 60), .int (nI 64), .int (nI 20), .int (nI 524288), .int (nI 16), .int (nI 4), .int 0, .int 0, .int 0, .int 0, .int 0, .int 0, .int 0]))] ++ pl) := hD
  refine lv_aload_n hx hb dDS_init_97 rfl (lv_at hl 0 rfl) ?_
  refine lv_ldc (v := 8380416) hx hb hown (hts _ (wg_t kw_297)) dDS_init_98 ?_
  refine mi_as (show (8380416 : Int32) = nI 8380416 by decide) ?_
  refine lv_aload_n hx hb dDS_init_100 rfl (lv_at hl 0 rfl) ?_
  refine va_get (D := g.1) (ci := 2) (C := "LatticeKeys$DsaSet") (T := T_DS) (N := 17) hx hb hts (wg_ft i_DS) hown hK hP 0 rfl rfl 8 (by decide) (hts _ (wg_t kw_321)) (fun _ h9 => h9) rfl dDS_init_101 ?_
  refine mi_idiv hx hb dDS_init_104 (by omega) (by omega) (by omega) ?_
  refine mi_as (show nI (8380416 / 16) = nI 523776 from rfl) ?_
  refine lv_iconst (v := nI 2) hx hb dDS_init_105 (by decide) ?_
  refine mi_idiv hx hb dDS_init_106 (by omega) (by omega) (by omega) ?_
  refine mi_as (show nI (523776 / 2) = nI 261888 from rfl) ?_
  refine va_putF (D := g.1) (ci := 2) (v := .int (nI 261888)) (ty := .int) (C := "LatticeKeys$DsaSet") (T := T_DS) (N := 17) hx hb hts (wg_ft i_DS) ty_DS k_DS n_DS hown hK hP hD hS 0 rfl rfl 10 (by decide) (hts _ (wg_t kw_324)) (fun _ h9 => h9) rfl hnm rfl (by decide +kernel) rfl rfl (Nat.le_of_ble_eq_true rfl) dDS_init_107 (fun H locs hP hD hS => ?_)
  have hP : va_P g.1 vcl ([(h0, .inr (2, [.int (nI 8), .int (nI 7), .int (nI 2), .int (nI 3), .int (nI 60), .int (nI 64), .int (nI 20), .int (nI 524288), .int (nI 16), .int (nI 4), .int (nI 261888), .int 0, .int 0, .int 0, .int 0, .int 0, .int 0]))] ++ pl) _ := hP
  have hD : va_D _ ([(h0, .inr (2, [.int (nI 8), .int (nI 7), .int (nI 2), .int (nI 3), .int (nI 60), .int (nI 64), .int (nI 20), .int (nI 524288), .int (nI 16), .int (nI 4), .int (nI 261888), .int 0, .int 0, .int 0, .int 0, .int 0, .int 0]))] ++ pl) := hD
  refine lv_aload_n hx hb dDS_init_110 rfl (lv_at hl 0 rfl) ?_
  refine va_gets hx hb (hE.2.1 18 _ rfl).1 hS hown (hts _ (wg_t kw_298)) (fun _ h9 => h9) dDS_init_111 ?_
  refine lv_iload_n hx hb dDS_init_114 rfl (lv_at hl 1 rfl) ?_
  refine va_ti (v := .int (nI 75)) hx hb (hE.2.1 18 _ rfl).2 hS (vp_in_nI (by decide) (by decide)) (by decide +kernel) dDS_init_115 ?_
  refine va_putF (D := g.1) (ci := 2) (v := .int (nI 75)) (ty := .int) (C := "LatticeKeys$DsaSet") (T := T_DS) (N := 17) hx hb hts (wg_ft i_DS) ty_DS k_DS n_DS hown hK hP hD hS 0 rfl rfl 11 (by decide) (hts _ (wg_t kw_326)) (fun _ h9 => h9) rfl hnm rfl (by decide +kernel) rfl rfl (Nat.le_of_ble_eq_true rfl) dDS_init_116 (fun H locs hP hD hS => ?_)
  have hP : va_P g.1 vcl ([(h0, .inr (2, [.int (nI 8), .int (nI 7), .int (nI 2), .int (nI 3), .int (nI 60), .int (nI 64), .int (nI 20), .int (nI 524288), .int (nI 16), .int (nI 4), .int (nI 261888), .int (nI 75), .int 0, .int 0, .int 0, .int 0, .int 0]))] ++ pl) _ := hP
  have hD : va_D _ ([(h0, .inr (2, [.int (nI 8), .int (nI 7), .int (nI 2), .int (nI 3), .int (nI 60), .int (nI 64), .int (nI 20), .int (nI 524288), .int (nI 16), .int (nI 4), .int (nI 261888), .int (nI 75), .int 0, .int 0, .int 0, .int 0, .int 0]))] ++ pl) := hD
  refine lv_aload_n hx hb dDS_init_119 rfl (lv_at hl 0 rfl) ?_
  refine lv_aload_n hx hb dDS_init_120 rfl (lv_at hl 0 rfl) ?_
  refine va_get (D := g.1) (ci := 2) (C := "LatticeKeys$DsaSet") (T := T_DS) (N := 17) hx hb hts (wg_ft i_DS) hown hK hP 0 rfl rfl 4 (by decide) (hts _ (wg_t kw_311)) (fun _ h9 => h9) rfl dDS_init_121 ?_
  refine lv_aload_n hx hb dDS_init_124 rfl (lv_at hl 0 rfl) ?_
  refine va_get (D := g.1) (ci := 2) (C := "LatticeKeys$DsaSet") (T := T_DS) (N := 17) hx hb hts (wg_ft i_DS) hown hK hP 0 rfl rfl 2 (by decide) (hts _ (wg_t kw_306)) (fun _ h9 => h9) rfl dDS_init_125 ?_
  refine mi_imul hx hb dDS_init_128 ?_
  refine mi_as (show nI (60 * 2) = nI 120 from rfl) ?_
  refine va_putF (D := g.1) (ci := 2) (v := .int (nI 120)) (ty := .int) (C := "LatticeKeys$DsaSet") (T := T_DS) (N := 17) hx hb hts (wg_ft i_DS) ty_DS k_DS n_DS hown hK hP hD hS 0 rfl rfl 12 (by decide) (hts _ (wg_t kw_328)) (fun _ h9 => h9) rfl hnm rfl (by decide +kernel) rfl rfl (Nat.le_of_ble_eq_true rfl) dDS_init_129 (fun H locs hP hD hS => ?_)
  have hP : va_P g.1 vcl ([(h0, .inr (2, [.int (nI 8), .int (nI 7), .int (nI 2), .int (nI 3), .int (nI 60), .int (nI 64), .int (nI 20), .int (nI 524288), .int (nI 16), .int (nI 4), .int (nI 261888), .int (nI 75), .int (nI 120), .int 0, .int 0, .int 0, .int 0]))] ++ pl) _ := hP
  have hD : va_D _ ([(h0, .inr (2, [.int (nI 8), .int (nI 7), .int (nI 2), .int (nI 3), .int (nI 60), .int (nI 64), .int (nI 20), .int (nI 524288), .int (nI 16), .int (nI 4), .int (nI 261888), .int (nI 75), .int (nI 120), .int 0, .int 0, .int 0, .int 0]))] ++ pl) := hD
  refine lv_aload_n hx hb dDS_init_132 rfl (lv_at hl 0 rfl) ?_
  refine lv_bipush (v := nI 32) hx hb dDS_init_133 (by decide) ?_
  refine lv_sipush (v := nI 320) hx hb dDS_init_135 (by decide) ?_
  refine lv_aload_n hx hb dDS_init_138 rfl (lv_at hl 0 rfl) ?_
  refine va_get (D := g.1) (ci := 2) (C := "LatticeKeys$DsaSet") (T := T_DS) (N := 17) hx hb hts (wg_ft i_DS) hown hK hP 0 rfl rfl 0 (by decide) (hts _ (wg_t kw_300)) (fun _ h9 => h9) rfl dDS_init_139 ?_
  refine mi_imul hx hb dDS_init_142 ?_
  refine mi_as (show nI (320 * 8) = nI 2560 from rfl) ?_
  refine mi_iadd hx hb dDS_init_143 ?_
  refine mi_as (show nI (32 + 2560) = nI 2592 from rfl) ?_
  refine va_putF (D := g.1) (ci := 2) (v := .int (nI 2592)) (ty := .int) (C := "LatticeKeys$DsaSet") (T := T_DS) (N := 17) hx hb hts (wg_ft i_DS) ty_DS k_DS n_DS hown hK hP hD hS 0 rfl rfl 13 (by decide) (hts _ (wg_t kw_330)) (fun _ h9 => h9) rfl hnm rfl (by decide +kernel) rfl rfl (Nat.le_of_ble_eq_true rfl) dDS_init_144 (fun H locs hP hD hS => ?_)
  have hP : va_P g.1 vcl ([(h0, .inr (2, [.int (nI 8), .int (nI 7), .int (nI 2), .int (nI 3), .int (nI 60), .int (nI 64), .int (nI 20), .int (nI 524288), .int (nI 16), .int (nI 4), .int (nI 261888), .int (nI 75), .int (nI 120), .int (nI 2592), .int 0, .int 0, .int 0]))] ++ pl) _ := hP
  have hD : va_D _ ([(h0, .inr (2, [.int (nI 8), .int (nI 7), .int (nI 2), .int (nI 3), .int (nI 60), .int (nI 64), .int (nI 20), .int (nI 524288), .int (nI 16), .int (nI 4), .int (nI 261888), .int (nI 75), .int (nI 120), .int (nI 2592), .int 0, .int 0, .int 0]))] ++ pl) := hD
  refine lv_aload_n hx hb dDS_init_147 rfl (lv_at hl 0 rfl) ?_
  refine lv_sipush (v := nI 128) hx hb dDS_init_148 (by decide) ?_
  refine lv_bipush (v := nI 32) hx hb dDS_init_151 (by decide) ?_
  refine lv_aload_n hx hb dDS_init_153 rfl (lv_at hl 0 rfl) ?_
  refine va_get (D := g.1) (ci := 2) (C := "LatticeKeys$DsaSet") (T := T_DS) (N := 17) hx hb hts (wg_ft i_DS) hown hK hP 0 rfl rfl 3 (by decide) (hts _ (wg_t kw_309)) (fun _ h9 => h9) rfl dDS_init_154 ?_
  refine lv_aload_n hx hb dDS_init_157 rfl (lv_at hl 0 rfl) ?_
  refine va_get (D := g.1) (ci := 2) (C := "LatticeKeys$DsaSet") (T := T_DS) (N := 17) hx hb hts (wg_ft i_DS) hown hK hP 0 rfl rfl 0 (by decide) (hts _ (wg_t kw_300)) (fun _ h9 => h9) rfl dDS_init_158 ?_
  refine lv_aload_n hx hb dDS_init_161 rfl (lv_at hl 0 rfl) ?_
  refine va_get (D := g.1) (ci := 2) (C := "LatticeKeys$DsaSet") (T := T_DS) (N := 17) hx hb hts (wg_ft i_DS) hown hK hP 0 rfl rfl 1 (by decide) (hts _ (wg_t kw_303)) (fun _ h9 => h9) rfl dDS_init_162 ?_
  refine mi_iadd hx hb dDS_init_165 ?_
  refine mi_as (show nI (8 + 7) = nI 15 from rfl) ?_
  refine mi_imul hx hb dDS_init_166 ?_
  refine mi_as (show nI (3 * 15) = nI 45 from rfl) ?_
  refine lv_bipush (v := nI 13) hx hb dDS_init_167 (by decide) ?_
  refine lv_aload_n hx hb dDS_init_169 rfl (lv_at hl 0 rfl) ?_
  refine va_get (D := g.1) (ci := 2) (C := "LatticeKeys$DsaSet") (T := T_DS) (N := 17) hx hb hts (wg_ft i_DS) hown hK hP 0 rfl rfl 0 (by decide) (hts _ (wg_t kw_300)) (fun _ h9 => h9) rfl dDS_init_170 ?_
  refine mi_imul hx hb dDS_init_173 ?_
  refine mi_as (show nI (13 * 8) = nI 104 from rfl) ?_
  refine mi_iadd hx hb dDS_init_174 ?_
  refine mi_as (show nI (45 + 104) = nI 149 from rfl) ?_
  refine mi_imul hx hb dDS_init_175 ?_
  refine mi_as (show nI (32 * 149) = nI 4768 from rfl) ?_
  refine mi_iadd hx hb dDS_init_176 ?_
  refine mi_as (show nI (128 + 4768) = nI 4896 from rfl) ?_
  refine va_putF (D := g.1) (ci := 2) (v := .int (nI 4896)) (ty := .int) (C := "LatticeKeys$DsaSet") (T := T_DS) (N := 17) hx hb hts (wg_ft i_DS) ty_DS k_DS n_DS hown hK hP hD hS 0 rfl rfl 14 (by decide) (hts _ (wg_t kw_332)) (fun _ h9 => h9) rfl hnm rfl (by decide +kernel) rfl rfl (Nat.le_of_ble_eq_true rfl) dDS_init_177 (fun H locs hP hD hS => ?_)
  have hP : va_P g.1 vcl ([(h0, .inr (2, [.int (nI 8), .int (nI 7), .int (nI 2), .int (nI 3), .int (nI 60), .int (nI 64), .int (nI 20), .int (nI 524288), .int (nI 16), .int (nI 4), .int (nI 261888), .int (nI 75), .int (nI 120), .int (nI 2592), .int (nI 4896), .int 0, .int 0]))] ++ pl) _ := hP
  have hD : va_D _ ([(h0, .inr (2, [.int (nI 8), .int (nI 7), .int (nI 2), .int (nI 3), .int (nI 60), .int (nI 64), .int (nI 20), .int (nI 524288), .int (nI 16), .int (nI 4), .int (nI 261888), .int (nI 75), .int (nI 120), .int (nI 2592), .int (nI 4896), .int 0, .int 0]))] ++ pl) := hD
  refine lv_aload_n hx hb dDS_init_180 rfl (lv_at hl 0 rfl) ?_
  refine lv_aload_n hx hb dDS_init_181 rfl (lv_at hl 0 rfl) ?_
  refine va_get (D := g.1) (ci := 2) (C := "LatticeKeys$DsaSet") (T := T_DS) (N := 17) hx hb hts (wg_ft i_DS) hown hK hP 0 rfl rfl 5 (by decide) (hts _ (wg_t kw_313)) (fun _ h9 => h9) rfl dDS_init_182 ?_
  refine lv_bipush (v := nI 32) hx hb dDS_init_185 (by decide) ?_
  refine lv_aload_n hx hb dDS_init_187 rfl (lv_at hl 0 rfl) ?_
  refine va_get (D := g.1) (ci := 2) (C := "LatticeKeys$DsaSet") (T := T_DS) (N := 17) hx hb hts (wg_ft i_DS) hown hK hP 0 rfl rfl 6 (by decide) (hts _ (wg_t kw_316)) (fun _ h9 => h9) rfl dDS_init_188 ?_
  refine mi_imul hx hb dDS_init_191 ?_
  refine mi_as (show nI (32 * 20) = nI 640 from rfl) ?_
  refine lv_aload_n hx hb dDS_init_192 rfl (lv_at hl 0 rfl) ?_
  refine va_get (D := g.1) (ci := 2) (C := "LatticeKeys$DsaSet") (T := T_DS) (N := 17) hx hb hts (wg_ft i_DS) hown hK hP 0 rfl rfl 1 (by decide) (hts _ (wg_t kw_303)) (fun _ h9 => h9) rfl dDS_init_193 ?_
  refine mi_imul hx hb dDS_init_196 ?_
  refine mi_as (show nI (640 * 7) = nI 4480 from rfl) ?_
  refine mi_iadd hx hb dDS_init_197 ?_
  refine mi_as (show nI (64 + 4480) = nI 4544 from rfl) ?_
  refine va_putF (D := g.1) (ci := 2) (v := .int (nI 4544)) (ty := .int) (C := "LatticeKeys$DsaSet") (T := T_DS) (N := 17) hx hb hts (wg_ft i_DS) ty_DS k_DS n_DS hown hK hP hD hS 0 rfl rfl 15 (by decide) (hts _ (wg_t kw_334)) (fun _ h9 => h9) rfl hnm rfl (by decide +kernel) rfl rfl (Nat.le_of_ble_eq_true rfl) dDS_init_198 (fun H locs hP hD hS => ?_)
  have hP : va_P g.1 vcl ([(h0, .inr (2, [.int (nI 8), .int (nI 7), .int (nI 2), .int (nI 3), .int (nI 60), .int (nI 64), .int (nI 20), .int (nI 524288), .int (nI 16), .int (nI 4), .int (nI 261888), .int (nI 75), .int (nI 120), .int (nI 2592), .int (nI 4896), .int (nI 4544), .int 0]))] ++ pl) _ := hP
  have hD : va_D _ ([(h0, .inr (2, [.int (nI 8), .int (nI 7), .int (nI 2), .int (nI 3), .int (nI 60), .int (nI 64), .int (nI 20), .int (nI 524288), .int (nI 16), .int (nI 4), .int (nI 261888), .int (nI 75), .int (nI 120), .int (nI 2592), .int (nI 4896), .int (nI 4544), .int 0]))] ++ pl) := hD
  refine lv_aload_n hx hb dDS_init_201 rfl (lv_at hl 0 rfl) ?_
  refine lv_aload_n hx hb dDS_init_202 rfl (lv_at hl 0 rfl) ?_
  refine va_get (D := g.1) (ci := 2) (C := "LatticeKeys$DsaSet") (T := T_DS) (N := 17) hx hb hts (wg_ft i_DS) hown hK hP 0 rfl rfl 15 (by decide) (hts _ (wg_t kw_334)) (fun _ h9 => h9) rfl dDS_init_203 ?_
  refine lv_aload_n hx hb dDS_init_206 rfl (lv_at hl 0 rfl) ?_
  refine va_get (D := g.1) (ci := 2) (C := "LatticeKeys$DsaSet") (T := T_DS) (N := 17) hx hb hts (wg_ft i_DS) hown hK hP 0 rfl rfl 11 (by decide) (hts _ (wg_t kw_326)) (fun _ h9 => h9) rfl dDS_init_207 ?_
  refine mi_iadd hx hb dDS_init_210 ?_
  refine mi_as (show nI (4544 + 75) = nI 4619 from rfl) ?_
  refine lv_aload_n hx hb dDS_init_211 rfl (lv_at hl 0 rfl) ?_
  refine va_get (D := g.1) (ci := 2) (C := "LatticeKeys$DsaSet") (T := T_DS) (N := 17) hx hb hts (wg_ft i_DS) hown hK hP 0 rfl rfl 0 (by decide) (hts _ (wg_t kw_300)) (fun _ h9 => h9) rfl dDS_init_212 ?_
  refine mi_iadd hx hb dDS_init_215 ?_
  refine mi_as (show nI (4619 + 8) = nI 4627 from rfl) ?_
  refine va_putF (D := g.1) (ci := 2) (v := .int (nI 4627)) (ty := .int) (C := "LatticeKeys$DsaSet") (T := T_DS) (N := 17) hx hb hts (wg_ft i_DS) ty_DS k_DS n_DS hown hK hP hD hS 0 rfl rfl 16 (by decide) (hts _ (wg_t kw_336)) (fun _ h9 => h9) rfl hnm rfl (by decide +kernel) rfl rfl (Nat.le_of_ble_eq_true rfl) dDS_init_216 (fun H locs hP hD hS => ?_)
  have hP : va_P g.1 vcl ([(h0, .inr (2, [.int (nI 8), .int (nI 7), .int (nI 2), .int (nI 3), .int (nI 60), .int (nI 64), .int (nI 20), .int (nI 524288), .int (nI 16), .int (nI 4), .int (nI 261888), .int (nI 75), .int (nI 120), .int (nI 2592), .int (nI 4896), .int (nI 4544), .int (nI 4627)]))] ++ pl) _ := hP
  have hD : va_D _ ([(h0, .inr (2, [.int (nI 8), .int (nI 7), .int (nI 2), .int (nI 3), .int (nI 60), .int (nI 64), .int (nI 20), .int (nI 524288), .int (nI 16), .int (nI 4), .int (nI 261888), .int (nI 75), .int (nI 120), .int (nI 2592), .int (nI 4896), .int (nI 4544), .int (nI 4627)]))] ++ pl) := hD
  exact mp_vret hx hb hr hlk hP hD hS pl ⟨trivial, hO⟩ [0] rfl rfl rfl (by omega) (by omega) dDS_init_219
set_option maxHeartbeats 4000000 in
set_option maxRecDepth 100000 in
theorem t_SA_init (l : Launch) (g : Gd) (sz : Nat) (T0 : Ty) (pl : va_W) (hO : okx g T0 [] pl) (hU : uni T0) (h0 : Nat) (n_10_3 : nk T0 (10, 3)) (n_19_3 : nk T0 (19, 3))  : Met l y_SA_init w_SA_init ({ frames := 2, cells := 3, slots := 669, locals := 60 } : Room) (va_Pc [.ref h0] (pr (en g) g.1 vcl sz ([(h0, .inr (7, [.null, .null]))] ++ pl))) (va_Qv (fun (u : (Ty) × va_W) => (ext T0 u.1 ∧ uni u.1 ∧ u.1 h0 = some (14, 0) ∧ pass T0 u.1 [(10, 3), (19, 3)]) ∧ okx g u.1 [] u.2) (po g.1 vcl (va_A ([(h0, .inr (7, [.null, .null]))] ++ pl) sz) (fun (u : (Ty) × va_W) => [] ++ u.2)) (va_A ([(h0, .inr (7, [.null, .null]))] ++ pl) sz)) 3 669 (va_A ([(h0, .inr (7, [.null, .null]))] ++ pl) sz) := by
  refine mc_entry (cc := c_SA_init) (maxL := 1) (ret := none) (by decide) rfl (Nat.le_of_ble_eq_true rfl) ?_
  intro p e s m args below meth c ls F hr hlk hnm hsz hP hD hE hA hl
  obtain ⟨hx, hb, hml, hown, hts⟩ := id F
  have hK := hE.1
  generalize va_A ([(h0, .inr (7, [.null, .null]))] ++ pl) sz = A at hD hE hA ⊢
  obtain ⟨T, hXT, hPS, hO, hU, n_10_3, n_19_3⟩ : ∃ T, ext T0 T ∧ pass T0 T [(10, 3), (19, 3)] ∧ okx g T [] pl ∧ uni T ∧ nk T (10, 3) ∧ nk T (19, 3) := ⟨T0, ext_rf, pass_rf, hO, hU, n_10_3, n_19_3⟩
  have hS : va_S A s.heap s.heap [] := va_S.rf
  have hl : lv_has ls 1 [(0, .ref h0)] := hl
  refine lv_aload_n hx hb dSA_init_0 rfl (lv_at hl 0 rfl) ?_
  refine W.objInit hx hb hown (hts _ (wg_t kw_154)) (hts _ (wg_t kw_41)) (hts _ (wg_t kobj)) rfl (by rw [hml]; exact hl.1) rfl dSA_init_1 (Nat.le_of_ble_eq_true rfl) (Nat.le_of_ble_eq_true rfl) ?_
  refine W.eq (g2 := F0 m 4 ls []) rfl ?_
  refine lv_aload_n hx hb dSA_init_4 rfl (lv_at hl 0 rfl) ?_
  refine va_new (ws := [(h0, .inr (7, [.null, .null]))] ++ pl) (ci := 3) (fs := [.null, .int 0, .int 0, .int 0]) (C := "LatticeKeys$Sponge") (T := T_SP) (N := 4) hx hb hts (wg_ft i_SP) ty_SP k_SP hown (hts _ (wg_t kw_155)) (hts _ (wg_t kw_50)) (hts _ (wg_t kw_2)) hK hP hD hS hA rfl z_SP (Nat.le_of_ble_eq_true rfl) (Nat.le_of_ble_eq_true rfl) dSA_init_5 (fun q21 H hP hD hS => ?_)
  obtain ⟨hP, hD⟩ := mv_first hP hD
  have hP : va_P g.1 vcl ([(h0, .inr (7, [.null, .null])), (q21, .inr (3, [.null, .int 0, .int 0, .int 0]))] ++ pl) _ := hP
  have hD : va_D _ ([(h0, .inr (7, [.null, .null])), (q21, .inr (3, [.null, .int 0, .int 0, .int 0]))] ++ pl) := hD
  refine W.widen (k := 1) (n := 4) (by omega) (by omega) ?_
  refine lv_dup hx hb dSA_init_8 rfl ?_
  refine mp_v (cx := [(q21, .inr (3, [.null, .int 0, .int 0, .int 0]))]) (wr := [(h0, .inr (7, [.null, .null]))]) hP hD hS hA [1] [0] rfl rfl rfl (by decide) (va_runI (As := []) (rest := [.ref q21, .ref h0]) F (t_SP_init_3 l g _ T  pl hO hU  q21 n_10_3 n_19_3) (cwI 0 hts (wg_in kw_53) rfl rfl rfl (hts _ (wg_t kw_2)) (hts _ (wg_t kw_156)) (hts _ (wg_t kw_52)) rfl (by decide +kernel) ⟨by decide, by decide⟩) (pp_S (en_ok g) hP hD hS hA hE [1] rfl rfl) rfl rfl hl.1 rfl (lv_room (Nat.le_of_ble_eq_true rfl)) dSA_init_9 ⟨Nat.le_of_ble_eq_true rfl, Nat.le_of_ble_eq_true rfl⟩) (fun  u21 H locs hu21 hP hD hS => ?_)
  obtain ⟨T, pl⟩ := u21
  obtain ⟨hq21, hO⟩ := hu21
  have hP : va_P g.1 vcl ([(h0, .inr (7, [.null, .null]))] ++ pl) _ := hP
  have hD : va_D _ ([(h0, .inr (7, [.null, .null]))] ++ pl) := hD
  obtain ⟨hxt21, hU, kr21, hps21⟩ := hq21
  have hXT := ext_tr hXT hxt21
  have hPS := pass_tr hPS hps21 (by decide)
  refine W.widen (k := 2) (n := 29) (by omega) (by omega) ?_
  refine va_putF (D := g.1) (ci := 7) (v := .ref q21) (ty := .object "LatticeKeys$Sponge") (C := "LatticeKeys$DsaSampler") (T := T_SA) (N := 2) hx hb hts (wg_ft i_SA) ty_SA k_SA n_SA hown hK hP hD hS 0 rfl rfl 0 (by decide) (hts _ (wg_t kw_157)) (fun _ h9 => h9) rfl hnm rfl (by decide +kernel) rfl rfl (Nat.le_of_ble_eq_true rfl) dSA_init_12 (fun H locs hP hD hS => ?_)
  have hP : va_P g.1 vcl ([(h0, .inr (7, [.ref q21, .null]))] ++ pl) _ := hP
  have hD : va_D _ ([(h0, .inr (7, [.ref q21, .null]))] ++ pl) := hD
  refine lv_aload_n hx hb dSA_init_15 rfl (lv_at hl 0 rfl) ?_
  refine lv_sipush (v := nI 640) hx hb dSA_init_16 (by decide) ?_
  refine ma_newa (ws := [(h0, .inr (7, [.ref q21, .null]))] ++ pl) (atype := .byte) hx hb (hts _ (wg_t kw_72)) rfl hK hP hD hS hA 1 rfl (N' := 640) (a0 := (640, .inl (fun _ => 0))) (fun _ => rfl) (nI_pos (by omega)) (nI_clamp (by omega)) (by show (640) * 1 ≤ 536870912; omega) (Nat.le_of_ble_eq_true rfl) (Nat.le_of_ble_eq_true rfl) dSA_init_19 (fun q22 H hP hD hS => ?_)
  refine W.widen (k := 3) (n := 669) (by omega) (by omega) ?_
  obtain ⟨T, pl, hxt22, hU, kr22, hO, hP, hD, hnk21⟩ := absorb (X := [(h0, .inr (7, [.ref q21, .null]))]) (1, 640) hP hD hO hU (Or.inl rfl) (fun _ _ _ => ⟨_, rfl, byt_0⟩)
  have kr21 := hxt22 _ _ kr21
  have hXT := ext_tr hXT hxt22
  have hP : va_P g.1 vcl ([(h0, .inr (7, [.ref q21, .null]))] ++ pl) _ := hP
  have hD : va_D _ ([(h0, .inr (7, [.ref q21, .null]))] ++ pl) := hD
  have hPS := pass_one hPS hnk21 (Or.inl rfl)
  refine va_putF (D := g.1) (ci := 7) (v := .ref q22) (ty := .array .byte) (C := "LatticeKeys$DsaSampler") (T := T_SA) (N := 2) hx hb hts (wg_ft i_SA) ty_SA k_SA n_SA hown hK hP hD hS 0 rfl rfl 1 (by decide) (hts _ (wg_t kw_158)) (fun _ h9 => h9) rfl hnm rfl (by decide +kernel) rfl rfl (Nat.le_of_ble_eq_true rfl) dSA_init_21 (fun H locs hP hD hS => ?_)
  have hP : va_P g.1 vcl ([(h0, .inr (7, [.ref q21, .ref q22]))] ++ pl) _ := hP
  have hD : va_D _ ([(h0, .inr (7, [.ref q21, .ref q22]))] ++ pl) := hD
  obtain ⟨hP, hD⟩ := mv_last (X := []) (c := (h0, .inr (7, [.ref q21, .ref q22]))) hP hD
  obtain ⟨T, pl, hxt23, hU, kr23, hO, hP, hD, hnk22⟩ := absorb (X := []) (14, 0) hP hD hO hU (Or.inl rfl) (fun T9 h9 _ => ⟨_, rfl, ⟨_, rfl, h9 _ _ kr21⟩, ⟨_, rfl, h9 _ _ kr22⟩, trivial⟩)
  have kr21 := hxt23 _ _ kr21
  have kr22 := hxt23 _ _ kr22
  have hXT := ext_tr hXT hxt23
  have hP : va_P g.1 vcl ([] ++ pl) _ := hP
  have hD : va_D _ ([] ++ pl) := hD
  have hPS := pass_one hPS hnk22 (Or.inl rfl)
  exact mp_vret hx hb hr hlk hP hD hS (T, pl) ⟨⟨hXT, hU, kr23, hPS⟩, hO⟩ [] rfl rfl rfl (by omega) (by omega) dSA_init_24
set_option maxHeartbeats 4000000 in
set_option maxRecDepth 100000 in
theorem t_KM_init (l : Launch) (g : Gd) (sz : Nat) (T0 : Ty) (pl : va_W) (hO : okx g T0 [] pl) (hU : uni T0) (h0 : Nat) (n_10_1 : nk T0 (10, 1)) (n_19_1 : nk T0 (19, 1))  : Met l y_KM_init w_KM_init ({ frames := 2, cells := 16, slots := 3589, locals := 67 } : Room) (va_Pc [.ref h0] (pr (en g) g.1 vcl sz ([(h0, .inr (5, [.null, .null, .null, .null, .null, .null, .null, .null, .null, .null]))] ++ pl))) (va_Qv (fun (u : (Ty) × va_W) => (ext T0 u.1 ∧ uni u.1 ∧ u.1 h0 = some (13, 0) ∧ pass T0 u.1 [(10, 1), (19, 1)]) ∧ okx g u.1 [] u.2) (po g.1 vcl (va_A ([(h0, .inr (5, [.null, .null, .null, .null, .null, .null, .null, .null, .null, .null]))] ++ pl) sz) (fun (u : (Ty) × va_W) => [] ++ u.2)) (va_A ([(h0, .inr (5, [.null, .null, .null, .null, .null, .null, .null, .null, .null, .null]))] ++ pl) sz)) 16 3589 (va_A ([(h0, .inr (5, [.null, .null, .null, .null, .null, .null, .null, .null, .null, .null]))] ++ pl) sz) := by
  refine mc_entry (cc := c_KM_init) (maxL := 1) (ret := none) (by decide) rfl (Nat.le_of_ble_eq_true rfl) ?_
  intro p e s m args below meth c ls F hr hlk hnm hsz hP hD hE hA hl
  obtain ⟨hx, hb, hml, hown, hts⟩ := id F
  have hK := hE.1
  generalize va_A ([(h0, .inr (5, [.null, .null, .null, .null, .null, .null, .null, .null, .null, .null]))] ++ pl) sz = A at hD hE hA ⊢
  obtain ⟨T, hXT, hPS, hO, hU, n_10_1, n_19_1⟩ : ∃ T, ext T0 T ∧ pass T0 T [(10, 1), (19, 1)] ∧ okx g T [] pl ∧ uni T ∧ nk T (10, 1) ∧ nk T (19, 1) := ⟨T0, ext_rf, pass_rf, hO, hU, n_10_1, n_19_1⟩
  have hS : va_S A s.heap s.heap [] := va_S.rf
  have hl : lv_has ls 1 [(0, .ref h0)] := hl
  refine lv_aload_n hx hb dKM_init_0 rfl (lv_at hl 0 rfl) ?_
  refine W.objInit hx hb hown (hts _ (wg_t kw_79)) (hts _ (wg_t kw_41)) (hts _ (wg_t kobj)) rfl (by rw [hml]; exact hl.1) rfl dKM_init_1 (Nat.le_of_ble_eq_true rfl) (Nat.le_of_ble_eq_true rfl) ?_
  refine W.eq (g2 := F0 m 4 ls []) rfl ?_
  refine lv_aload_n hx hb dKM_init_4 rfl (lv_at hl 0 rfl) ?_
  refine va_new (ws := [(h0, .inr (5, [.null, .null, .null, .null, .null, .null, .null, .null, .null, .null]))] ++ pl) (ci := 3) (fs := [.null, .int 0, .int 0, .int 0]) (C := "LatticeKeys$Sponge") (T := T_SP) (N := 4) hx hb hts (wg_ft i_SP) ty_SP k_SP hown (hts _ (wg_t kw_80)) (hts _ (wg_t kw_50)) (hts _ (wg_t kw_2)) hK hP hD hS hA rfl z_SP (Nat.le_of_ble_eq_true rfl) (Nat.le_of_ble_eq_true rfl) dKM_init_5 (fun q21 H hP hD hS => ?_)
  obtain ⟨hP, hD⟩ := mv_first hP hD
  have hP : va_P g.1 vcl ([(h0, .inr (5, [.null, .null, .null, .null, .null, .null, .null, .null, .null, .null])), (q21, .inr (3, [.null, .int 0, .int 0, .int 0]))] ++ pl) _ := hP
  have hD : va_D _ ([(h0, .inr (5, [.null, .null, .null, .null, .null, .null, .null, .null, .null, .null])), (q21, .inr (3, [.null, .int 0, .int 0, .int 0]))] ++ pl) := hD
  refine W.widen (k := 1) (n := 4) (by omega) (by omega) ?_
  refine lv_dup hx hb dKM_init_8 rfl ?_
  refine mp_v (cx := [(q21, .inr (3, [.null, .int 0, .int 0, .int 0]))]) (wr := [(h0, .inr (5, [.null, .null, .null, .null, .null, .null, .null, .null, .null, .null]))]) hP hD hS hA [1] [0] rfl rfl rfl (by decide) (va_runI (As := []) (rest := [.ref q21, .ref h0]) F (t_SP_init_1 l g _ T  pl hO hU  q21 n_10_1 n_19_1) (cwI 0 hts (wg_in kw_53) rfl rfl rfl (hts _ (wg_t kw_2)) (hts _ (wg_t kw_81)) (hts _ (wg_t kw_52)) rfl (by decide +kernel) ⟨by decide, by decide⟩) (pp_S (en_ok g) hP hD hS hA hE [1] rfl rfl) rfl rfl hl.1 rfl (lv_room (Nat.le_of_ble_eq_true rfl)) dKM_init_9 ⟨Nat.le_of_ble_eq_true rfl, Nat.le_of_ble_eq_true rfl⟩) (fun  u21 H locs hu21 hP hD hS => ?_)
  obtain ⟨T, pl⟩ := u21
  obtain ⟨hq21, hO⟩ := hu21
  have hP : va_P g.1 vcl ([(h0, .inr (5, [.null, .null, .null, .null, .null, .null, .null, .null, .null, .null]))] ++ pl) _ := hP
  have hD : va_D _ ([(h0, .inr (5, [.null, .null, .null, .null, .null, .null, .null, .null, .null, .null]))] ++ pl) := hD
  obtain ⟨hxt21, hU, kr21, hps21⟩ := hq21
  have hXT := ext_tr hXT hxt21
  have hPS := pass_tr hPS hps21 (by decide)
  refine W.widen (k := 2) (n := 29) (by omega) (by omega) ?_
  refine va_putF (D := g.1) (ci := 5) (v := .ref q21) (ty := .object "LatticeKeys$Sponge") (C := "LatticeKeys$Kem") (T := T_KM) (N := 10) hx hb hts (wg_ft i_KM) ty_KM k_KM n_KM hown hK hP hD hS 0 rfl rfl 0 (by decide) (hts _ (wg_t kw_107)) (fun _ h9 => h9) rfl hnm rfl (by decide +kernel) rfl rfl (Nat.le_of_ble_eq_true rfl) dKM_init_12 (fun H locs hP hD hS => ?_)
  have hP : va_P g.1 vcl ([(h0, .inr (5, [.ref q21, .null, .null, .null, .null, .null, .null, .null, .null, .null]))] ++ pl) _ := hP
  have hD : va_D _ ([(h0, .inr (5, [.ref q21, .null, .null, .null, .null, .null, .null, .null, .null, .null]))] ++ pl) := hD
  refine lv_aload_n hx hb dKM_init_15 rfl (lv_at hl 0 rfl) ?_
  refine va_new (ws := [(h0, .inr (5, [.ref q21, .null, .null, .null, .null, .null, .null, .null, .null, .null]))] ++ pl) (ci := 4) (fs := [.int 0, .int 0, .int 0, .null]) (C := "LatticeKeys$Ring") (T := T_RG) (N := 4) hx hb hts (wg_ft i_RG) ty_RG k_RG hown (hts _ (wg_t kw_82)) (hts _ (wg_t kw_83)) (hts _ (wg_t kw_4)) hK hP hD hS hA rfl z_RG (Nat.le_of_ble_eq_true rfl) (Nat.le_of_ble_eq_true rfl) dKM_init_16 (fun q22 H hP hD hS => ?_)
  obtain ⟨hP, hD⟩ := mv_first hP hD
  have hP : va_P g.1 vcl ([(h0, .inr (5, [.ref q21, .null, .null, .null, .null, .null, .null, .null, .null, .null])), (q22, .inr (4, [.int 0, .int 0, .int 0, .null]))] ++ pl) _ := hP
  have hD : va_D _ ([(h0, .inr (5, [.ref q21, .null, .null, .null, .null, .null, .null, .null, .null, .null])), (q22, .inr (4, [.int 0, .int 0, .int 0, .null]))] ++ pl) := hD
  refine W.widen (k := 3) (n := 33) (by omega) (by omega) ?_
  refine lv_dup hx hb dKM_init_19 rfl ?_
  refine lv_sipush (v := nI 3329) hx hb dKM_init_20 (by decide) ?_
  refine lv_bipush (v := nI 17) hx hb dKM_init_23 (by decide) ?_
  refine lv_bipush (v := nI 7) hx hb dKM_init_25 (by decide) ?_
  refine mp_v (cx := [(q22, .inr (4, [.int 0, .int 0, .int 0, .null]))]) (wr := [(h0, .inr (5, [.ref q21, .null, .null, .null, .null, .null, .null, .null, .null, .null]))]) hP hD hS hA [1] [0] rfl rfl rfl (by decide) (va_runI (As := [.int (nI 3329), .int (nI 17), .int (nI 7)]) (rest := [.ref q22, .ref h0]) F (t_RG_init_7 l g _ T  pl hO hU  q22) (cwI 3 hts (wg_in kw_86) rfl rfl rfl (hts _ (wg_t kw_4)) (hts _ (wg_t kw_84)) (hts _ (wg_t kw_85)) rfl (by decide +kernel) ⟨by decide, by decide⟩) (pp_S (en_ok g) hP hD hS hA hE [1] rfl rfl) rfl rfl hl.1 rfl (lv_room (Nat.le_of_ble_eq_true rfl)) dKM_init_27 ⟨Nat.le_of_ble_eq_true rfl, Nat.le_of_ble_eq_true rfl⟩) (fun  u22 H locs hu22 hP hD hS => ?_)
  obtain ⟨T, pl⟩ := u22
  obtain ⟨hq22, hO⟩ := hu22
  have hP : va_P g.1 vcl ([(h0, .inr (5, [.ref q21, .null, .null, .null, .null, .null, .null, .null, .null, .null]))] ++ pl) _ := hP
  have hD : va_D _ ([(h0, .inr (5, [.ref q21, .null, .null, .null, .null, .null, .null, .null, .null, .null]))] ++ pl) := hD
  obtain ⟨hxt22, hU, kr22, hps22⟩ := hq22
  have kr21 := hxt22 _ _ kr21
  have hXT := ext_tr hXT hxt22
  have hPS := pass_tr hPS hps22 (by decide)
  refine W.widen (k := 4) (n := 161) (by omega) (by omega) ?_
  refine va_putF (D := g.1) (ci := 5) (v := .ref q22) (ty := .object "LatticeKeys$Ring") (C := "LatticeKeys$Kem") (T := T_KM) (N := 10) hx hb hts (wg_ft i_KM) ty_KM k_KM n_KM hown hK hP hD hS 0 rfl rfl 1 (by decide) (hts _ (wg_t kw_108)) (fun _ h9 => h9) rfl hnm rfl (by decide +kernel) rfl rfl (Nat.le_of_ble_eq_true rfl) dKM_init_30 (fun H locs hP hD hS => ?_)
  have hP : va_P g.1 vcl ([(h0, .inr (5, [.ref q21, .ref q22, .null, .null, .null, .null, .null, .null, .null, .null]))] ++ pl) _ := hP
  have hD : va_D _ ([(h0, .inr (5, [.ref q21, .ref q22, .null, .null, .null, .null, .null, .null, .null, .null]))] ++ pl) := hD
  refine lv_aload_n hx hb dKM_init_33 rfl (lv_at hl 0 rfl) ?_
  refine lv_iconst (v := nI 4) hx hb dKM_init_34 (by decide) ?_
  refine lv_sipush (v := nI 256) hx hb dKM_init_35 (by decide) ?_
  refine ty_mnai (X := [(h0, .inr (5, [.ref q21, .ref q22, .null, .null, .null, .null, .null, .null, .null, .null]))]) hx hb hown (hts _ (wg_t kw_105)) hE.2.2.2.2.2.1 (hts _ (wg_t kw_104)) hK hP hD hS hA hO hU (by decide) (Nat.le_of_ble_eq_true rfl) (Nat.le_of_ble_eq_true rfl) dKM_init_38 (fun q23 T pl H hxt23 hU kr23 hO hP hD hS hnk21 => ?_)
  have kr21 := hxt23 _ _ kr21
  have kr22 := hxt23 _ _ kr22
  have hXT := ext_tr hXT hxt23
  have hPS := pass_many hPS hnk21
  have hP : va_P g.1 vcl ([(h0, .inr (5, [.ref q21, .ref q22, .null, .null, .null, .null, .null, .null, .null, .null]))] ++ pl) _ := hP
  have hD : va_D _ ([(h0, .inr (5, [.ref q21, .ref q22, .null, .null, .null, .null, .null, .null, .null, .null]))] ++ pl) := hD
  refine W.widen (k := 9) (n := 1189) (by omega) (by omega) ?_
  refine va_putF (D := g.1) (ci := 5) (v := .ref q23) (ty := .array (.array .int)) (C := "LatticeKeys$Kem") (T := T_KM) (N := 10) hx hb hts (wg_ft i_KM) ty_KM k_KM n_KM hown hK hP hD hS 0 rfl rfl 2 (by decide) (hts _ (wg_t kw_109)) (fun _ h9 => h9) rfl hnm rfl (by decide +kernel) rfl rfl (Nat.le_of_ble_eq_true rfl) dKM_init_42 (fun H locs hP hD hS => ?_)
  have hP : va_P g.1 vcl ([(h0, .inr (5, [.ref q21, .ref q22, .ref q23, .null, .null, .null, .null, .null, .null, .null]))] ++ pl) _ := hP
  have hD : va_D _ ([(h0, .inr (5, [.ref q21, .ref q22, .ref q23, .null, .null, .null, .null, .null, .null, .null]))] ++ pl) := hD
  refine lv_aload_n hx hb dKM_init_45 rfl (lv_at hl 0 rfl) ?_
  refine lv_sipush (v := nI 256) hx hb dKM_init_46 (by decide) ?_
  refine ma_newa (ws := [(h0, .inr (5, [.ref q21, .ref q22, .ref q23, .null, .null, .null, .null, .null, .null, .null]))] ++ pl) (atype := .int) hx hb (hts _ (wg_t kw_104)) rfl hK hP hD hS hA 0 rfl (N' := 256) (a0 := (256, .inl (fun _ => 0))) (fun _ => rfl) (nI_pos (by omega)) (nI_clamp (by omega)) (by show (256) * 4 ≤ 536870912; omega) (Nat.le_of_ble_eq_true rfl) (Nat.le_of_ble_eq_true rfl) dKM_init_49 (fun q24 H hP hD hS => ?_)
  refine W.widen (k := 10) (n := 1445) (by omega) (by omega) ?_
  obtain ⟨T, pl, hxt24, hU, kr24, hO, hP, hD, hnk22⟩ := absorb (X := [(h0, .inr (5, [.ref q21, .ref q22, .ref q23, .null, .null, .null, .null, .null, .null, .null]))]) (0, 256) hP hD hO hU (Or.inl rfl) (fun _ _ _ => ⟨_, rfl⟩)
  have kr21 := hxt24 _ _ kr21
  have kr22 := hxt24 _ _ kr22
  have kr23 := hxt24 _ _ kr23
  have hXT := ext_tr hXT hxt24
  have hP : va_P g.1 vcl ([(h0, .inr (5, [.ref q21, .ref q22, .ref q23, .null, .null, .null, .null, .null, .null, .null]))] ++ pl) _ := hP
  have hD : va_D _ ([(h0, .inr (5, [.ref q21, .ref q22, .ref q23, .null, .null, .null, .null, .null, .null, .null]))] ++ pl) := hD
  have hPS := pass_one hPS hnk22 (Or.inl rfl)
  refine va_putF (D := g.1) (ci := 5) (v := .ref q24) (ty := .array .int) (C := "LatticeKeys$Kem") (T := T_KM) (N := 10) hx hb hts (wg_ft i_KM) ty_KM k_KM n_KM hown hK hP hD hS 0 rfl rfl 3 (by decide) (hts _ (wg_t kw_110)) (fun _ h9 => h9) rfl hnm rfl (by decide +kernel) rfl rfl (Nat.le_of_ble_eq_true rfl) dKM_init_51 (fun H locs hP hD hS => ?_)
  have hP : va_P g.1 vcl ([(h0, .inr (5, [.ref q21, .ref q22, .ref q23, .ref q24, .null, .null, .null, .null, .null, .null]))] ++ pl) _ := hP
  have hD : va_D _ ([(h0, .inr (5, [.ref q21, .ref q22, .ref q23, .ref q24, .null, .null, .null, .null, .null, .null]))] ++ pl) := hD
  refine lv_aload_n hx hb dKM_init_54 rfl (lv_at hl 0 rfl) ?_
  refine lv_sipush (v := nI 256) hx hb dKM_init_55 (by decide) ?_
  refine ma_newa (ws := [(h0, .inr (5, [.ref q21, .ref q22, .ref q23, .ref q24, .null, .null, .null, .null, .null, .null]))] ++ pl) (atype := .int) hx hb (hts _ (wg_t kw_104)) rfl hK hP hD hS hA 0 rfl (N' := 256) (a0 := (256, .inl (fun _ => 0))) (fun _ => rfl) (nI_pos (by omega)) (nI_clamp (by omega)) (by show (256) * 4 ≤ 536870912; omega) (Nat.le_of_ble_eq_true rfl) (Nat.le_of_ble_eq_true rfl) dKM_init_58 (fun q25 H hP hD hS => ?_)
  refine W.widen (k := 11) (n := 1701) (by omega) (by omega) ?_
  obtain ⟨T, pl, hxt25, hU, kr25, hO, hP, hD, hnk23⟩ := absorb (X := [(h0, .inr (5, [.ref q21, .ref q22, .ref q23, .ref q24, .null, .null, .null, .null, .null, .null]))]) (0, 256) hP hD hO hU (Or.inl rfl) (fun _ _ _ => ⟨_, rfl⟩)
  have kr21 := hxt25 _ _ kr21
  have kr22 := hxt25 _ _ kr22
  have kr23 := hxt25 _ _ kr23
  have kr24 := hxt25 _ _ kr24
  have hXT := ext_tr hXT hxt25
  have hP : va_P g.1 vcl ([(h0, .inr (5, [.ref q21, .ref q22, .ref q23, .ref q24, .null, .null, .null, .null, .null, .null]))] ++ pl) _ := hP
  have hD : va_D _ ([(h0, .inr (5, [.ref q21, .ref q22, .ref q23, .ref q24, .null, .null, .null, .null, .null, .null]))] ++ pl) := hD
  have hPS := pass_one hPS hnk23 (Or.inl rfl)
  refine va_putF (D := g.1) (ci := 5) (v := .ref q25) (ty := .array .int) (C := "LatticeKeys$Kem") (T := T_KM) (N := 10) hx hb hts (wg_ft i_KM) ty_KM k_KM n_KM hown hK hP hD hS 0 rfl rfl 4 (by decide) (hts _ (wg_t kw_111)) (fun _ h9 => h9) rfl hnm rfl (by decide +kernel) rfl rfl (Nat.le_of_ble_eq_true rfl) dKM_init_60 (fun H locs hP hD hS => ?_)
  have hP : va_P g.1 vcl ([(h0, .inr (5, [.ref q21, .ref q22, .ref q23, .ref q24, .ref q25, .null, .null, .null, .null, .null]))] ++ pl) _ := hP
  have hD : va_D _ ([(h0, .inr (5, [.ref q21, .ref q22, .ref q23, .ref q24, .ref q25, .null, .null, .null, .null, .null]))] ++ pl) := hD
  refine lv_aload_n hx hb dKM_init_63 rfl (lv_at hl 0 rfl) ?_
  refine lv_bipush (v := nI 32) hx hb dKM_init_64 (by decide) ?_
  refine ma_newa (ws := [(h0, .inr (5, [.ref q21, .ref q22, .ref q23, .ref q24, .ref q25, .null, .null, .null, .null, .null]))] ++ pl) (atype := .byte) hx hb (hts _ (wg_t kw_72)) rfl hK hP hD hS hA 1 rfl (N' := 32) (a0 := (32, .inl (fun _ => 0))) (fun _ => rfl) (nI_pos (by omega)) (nI_clamp (by omega)) (by show (32) * 1 ≤ 536870912; omega) (Nat.le_of_ble_eq_true rfl) (Nat.le_of_ble_eq_true rfl) dKM_init_66 (fun q26 H hP hD hS => ?_)
  refine W.widen (k := 12) (n := 1733) (by omega) (by omega) ?_
  obtain ⟨T, pl, hxt26, hU, kr26, hO, hP, hD, hnk24⟩ := absorb (X := [(h0, .inr (5, [.ref q21, .ref q22, .ref q23, .ref q24, .ref q25, .null, .null, .null, .null, .null]))]) (1, 32) hP hD hO hU (Or.inl rfl) (fun _ _ _ => ⟨_, rfl, byt_0⟩)
  have kr21 := hxt26 _ _ kr21
  have kr22 := hxt26 _ _ kr22
  have kr23 := hxt26 _ _ kr23
  have kr24 := hxt26 _ _ kr24
  have kr25 := hxt26 _ _ kr25
  have hXT := ext_tr hXT hxt26
  have hP : va_P g.1 vcl ([(h0, .inr (5, [.ref q21, .ref q22, .ref q23, .ref q24, .ref q25, .null, .null, .null, .null, .null]))] ++ pl) _ := hP
  have hD : va_D _ ([(h0, .inr (5, [.ref q21, .ref q22, .ref q23, .ref q24, .ref q25, .null, .null, .null, .null, .null]))] ++ pl) := hD
  have hPS := pass_one hPS hnk24 (Or.inl rfl)
  refine va_putF (D := g.1) (ci := 5) (v := .ref q26) (ty := .array .byte) (C := "LatticeKeys$Kem") (T := T_KM) (N := 10) hx hb hts (wg_ft i_KM) ty_KM k_KM n_KM hown hK hP hD hS 0 rfl rfl 5 (by decide) (hts _ (wg_t kw_112)) (fun _ h9 => h9) rfl hnm rfl (by decide +kernel) rfl rfl (Nat.le_of_ble_eq_true rfl) dKM_init_68 (fun H locs hP hD hS => ?_)
  have hP : va_P g.1 vcl ([(h0, .inr (5, [.ref q21, .ref q22, .ref q23, .ref q24, .ref q25, .ref q26, .null, .null, .null, .null]))] ++ pl) _ := hP
  have hD : va_D _ ([(h0, .inr (5, [.ref q21, .ref q22, .ref q23, .ref q24, .ref q25, .ref q26, .null, .null, .null, .null]))] ++ pl) := hD
  refine lv_aload_n hx hb dKM_init_71 rfl (lv_at hl 0 rfl) ?_
  refine lv_bipush (v := nI 32) hx hb dKM_init_72 (by decide) ?_
  refine ma_newa (ws := [(h0, .inr (5, [.ref q21, .ref q22, .ref q23, .ref q24, .ref q25, .ref q26, .null, .null, .null, .null]))] ++ pl) (atype := .byte) hx hb (hts _ (wg_t kw_72)) rfl hK hP hD hS hA 1 rfl (N' := 32) (a0 := (32, .inl (fun _ => 0))) (fun _ => rfl) (nI_pos (by omega)) (nI_clamp (by omega)) (by show (32) * 1 ≤ 536870912; omega) (Nat.le_of_ble_eq_true rfl) (Nat.le_of_ble_eq_true rfl) dKM_init_74 (fun q27 H hP hD hS => ?_)
  refine W.widen (k := 13) (n := 1765) (by omega) (by omega) ?_
  obtain ⟨T, pl, hxt27, hU, kr27, hO, hP, hD, hnk25⟩ := absorb (X := [(h0, .inr (5, [.ref q21, .ref q22, .ref q23, .ref q24, .ref q25, .ref q26, .null, .null, .null, .null]))]) (1, 32) hP hD hO hU (Or.inl rfl) (fun _ _ _ => ⟨_, rfl, byt_0⟩)
  have kr21 := hxt27 _ _ kr21
  have kr22 := hxt27 _ _ kr22
  have kr23 := hxt27 _ _ kr23
  have kr24 := hxt27 _ _ kr24
  have kr25 := hxt27 _ _ kr25
  have kr26 := hxt27 _ _ kr26
  have hXT := ext_tr hXT hxt27
  have hP : va_P g.1 vcl ([(h0, .inr (5, [.ref q21, .ref q22, .ref q23, .ref q24, .ref q25, .ref q26, .null, .null, .null, .null]))] ++ pl) _ := hP
  have hD : va_D _ ([(h0, .inr (5, [.ref q21, .ref q22, .ref q23, .ref q24, .ref q25, .ref q26, .null, .null, .null, .null]))] ++ pl) := hD
  have hPS := pass_one hPS hnk25 (Or.inl rfl)
  refine va_putF (D := g.1) (ci := 5) (v := .ref q27) (ty := .array .byte) (C := "LatticeKeys$Kem") (T := T_KM) (N := 10) hx hb hts (wg_ft i_KM) ty_KM k_KM n_KM hown hK hP hD hS 0 rfl rfl 6 (by decide) (hts _ (wg_t kw_113)) (fun _ h9 => h9) rfl hnm rfl (by decide +kernel) rfl rfl (Nat.le_of_ble_eq_true rfl) dKM_init_76 (fun H locs hP hD hS => ?_)
  have hP : va_P g.1 vcl ([(h0, .inr (5, [.ref q21, .ref q22, .ref q23, .ref q24, .ref q25, .ref q26, .ref q27, .null, .null, .null]))] ++ pl) _ := hP
  have hD : va_D _ ([(h0, .inr (5, [.ref q21, .ref q22, .ref q23, .ref q24, .ref q25, .ref q26, .ref q27, .null, .null, .null]))] ++ pl) := hD
  refine lv_aload_n hx hb dKM_init_79 rfl (lv_at hl 0 rfl) ?_
  refine lv_bipush (v := nI 64) hx hb dKM_init_80 (by decide) ?_
  refine ma_newa (ws := [(h0, .inr (5, [.ref q21, .ref q22, .ref q23, .ref q24, .ref q25, .ref q26, .ref q27, .null, .null, .null]))] ++ pl) (atype := .byte) hx hb (hts _ (wg_t kw_72)) rfl hK hP hD hS hA 1 rfl (N' := 64) (a0 := (64, .inl (fun _ => 0))) (fun _ => rfl) (nI_pos (by omega)) (nI_clamp (by omega)) (by show (64) * 1 ≤ 536870912; omega) (Nat.le_of_ble_eq_true rfl) (Nat.le_of_ble_eq_true rfl) dKM_init_82 (fun q28 H hP hD hS => ?_)
  refine W.widen (k := 14) (n := 1829) (by omega) (by omega) ?_
  obtain ⟨T, pl, hxt28, hU, kr28, hO, hP, hD, hnk26⟩ := absorb (X := [(h0, .inr (5, [.ref q21, .ref q22, .ref q23, .ref q24, .ref q25, .ref q26, .ref q27, .null, .null, .null]))]) (1, 64) hP hD hO hU (Or.inl rfl) (fun _ _ _ => ⟨_, rfl, byt_0⟩)
  have kr21 := hxt28 _ _ kr21
  have kr22 := hxt28 _ _ kr22
  have kr23 := hxt28 _ _ kr23
  have kr24 := hxt28 _ _ kr24
  have kr25 := hxt28 _ _ kr25
  have kr26 := hxt28 _ _ kr26
  have kr27 := hxt28 _ _ kr27
  have hXT := ext_tr hXT hxt28
  have hP : va_P g.1 vcl ([(h0, .inr (5, [.ref q21, .ref q22, .ref q23, .ref q24, .ref q25, .ref q26, .ref q27, .null, .null, .null]))] ++ pl) _ := hP
  have hD : va_D _ ([(h0, .inr (5, [.ref q21, .ref q22, .ref q23, .ref q24, .ref q25, .ref q26, .ref q27, .null, .null, .null]))] ++ pl) := hD
  have hPS := pass_one hPS hnk26 (Or.inl rfl)
  refine va_putF (D := g.1) (ci := 5) (v := .ref q28) (ty := .array .byte) (C := "LatticeKeys$Kem") (T := T_KM) (N := 10) hx hb hts (wg_ft i_KM) ty_KM k_KM n_KM hown hK hP hD hS 0 rfl rfl 7 (by decide) (hts _ (wg_t kw_114)) (fun _ h9 => h9) rfl hnm rfl (by decide +kernel) rfl rfl (Nat.le_of_ble_eq_true rfl) dKM_init_84 (fun H locs hP hD hS => ?_)
  have hP : va_P g.1 vcl ([(h0, .inr (5, [.ref q21, .ref q22, .ref q23, .ref q24, .ref q25, .ref q26, .ref q27, .ref q28, .null, .null]))] ++ pl) _ := hP
  have hD : va_D _ ([(h0, .inr (5, [.ref q21, .ref q22, .ref q23, .ref q24, .ref q25, .ref q26, .ref q27, .ref q28, .null, .null]))] ++ pl) := hD
  refine lv_aload_n hx hb dKM_init_87 rfl (lv_at hl 0 rfl) ?_
  refine lv_sipush (v := nI 192) hx hb dKM_init_88 (by decide) ?_
  refine ma_newa (ws := [(h0, .inr (5, [.ref q21, .ref q22, .ref q23, .ref q24, .ref q25, .ref q26, .ref q27, .ref q28, .null, .null]))] ++ pl) (atype := .byte) hx hb (hts _ (wg_t kw_72)) rfl hK hP hD hS hA 1 rfl (N' := 192) (a0 := (192, .inl (fun _ => 0))) (fun _ => rfl) (nI_pos (by omega)) (nI_clamp (by omega)) (by show (192) * 1 ≤ 536870912; omega) (Nat.le_of_ble_eq_true rfl) (Nat.le_of_ble_eq_true rfl) dKM_init_91 (fun q29 H hP hD hS => ?_)
  refine W.widen (k := 15) (n := 2021) (by omega) (by omega) ?_
  obtain ⟨T, pl, hxt29, hU, kr29, hO, hP, hD, hnk27⟩ := absorb (X := [(h0, .inr (5, [.ref q21, .ref q22, .ref q23, .ref q24, .ref q25, .ref q26, .ref q27, .ref q28, .null, .null]))]) (1, 192) hP hD hO hU (Or.inl rfl) (fun _ _ _ => ⟨_, rfl, byt_0⟩)
  have kr21 := hxt29 _ _ kr21
  have kr22 := hxt29 _ _ kr22
  have kr23 := hxt29 _ _ kr23
  have kr24 := hxt29 _ _ kr24
  have kr25 := hxt29 _ _ kr25
  have kr26 := hxt29 _ _ kr26
  have kr27 := hxt29 _ _ kr27
  have kr28 := hxt29 _ _ kr28
  have hXT := ext_tr hXT hxt29
  have hP : va_P g.1 vcl ([(h0, .inr (5, [.ref q21, .ref q22, .ref q23, .ref q24, .ref q25, .ref q26, .ref q27, .ref q28, .null, .null]))] ++ pl) _ := hP
  have hD : va_D _ ([(h0, .inr (5, [.ref q21, .ref q22, .ref q23, .ref q24, .ref q25, .ref q26, .ref q27, .ref q28, .null, .null]))] ++ pl) := hD
  have hPS := pass_one hPS hnk27 (Or.inl rfl)
  refine va_putF (D := g.1) (ci := 5) (v := .ref q29) (ty := .array .byte) (C := "LatticeKeys$Kem") (T := T_KM) (N := 10) hx hb hts (wg_ft i_KM) ty_KM k_KM n_KM hown hK hP hD hS 0 rfl rfl 8 (by decide) (hts _ (wg_t kw_115)) (fun _ h9 => h9) rfl hnm rfl (by decide +kernel) rfl rfl (Nat.le_of_ble_eq_true rfl) dKM_init_93 (fun H locs hP hD hS => ?_)
  have hP : va_P g.1 vcl ([(h0, .inr (5, [.ref q21, .ref q22, .ref q23, .ref q24, .ref q25, .ref q26, .ref q27, .ref q28, .ref q29, .null]))] ++ pl) _ := hP
  have hD : va_D _ ([(h0, .inr (5, [.ref q21, .ref q22, .ref q23, .ref q24, .ref q25, .ref q26, .ref q27, .ref q28, .ref q29, .null]))] ++ pl) := hD
  refine lv_aload_n hx hb dKM_init_96 rfl (lv_at hl 0 rfl) ?_
  refine lv_sipush (v := nI 1568) hx hb dKM_init_97 (by decide) ?_
  refine ma_newa (ws := [(h0, .inr (5, [.ref q21, .ref q22, .ref q23, .ref q24, .ref q25, .ref q26, .ref q27, .ref q28, .ref q29, .null]))] ++ pl) (atype := .byte) hx hb (hts _ (wg_t kw_72)) rfl hK hP hD hS hA 1 rfl (N' := 1568) (a0 := (1568, .inl (fun _ => 0))) (fun _ => rfl) (nI_pos (by omega)) (nI_clamp (by omega)) (by show (1568) * 1 ≤ 536870912; omega) (Nat.le_of_ble_eq_true rfl) (Nat.le_of_ble_eq_true rfl) dKM_init_100 (fun q30 H hP hD hS => ?_)
  refine W.widen (k := 16) (n := 3589) (by omega) (by omega) ?_
  obtain ⟨T, pl, hxt30, hU, kr30, hO, hP, hD, hnk28⟩ := absorb (X := [(h0, .inr (5, [.ref q21, .ref q22, .ref q23, .ref q24, .ref q25, .ref q26, .ref q27, .ref q28, .ref q29, .null]))]) (1, 1568) hP hD hO hU (Or.inl rfl) (fun _ _ _ => ⟨_, rfl, byt_0⟩)
  have kr21 := hxt30 _ _ kr21
  have kr22 := hxt30 _ _ kr22
  have kr23 := hxt30 _ _ kr23
  have kr24 := hxt30 _ _ kr24
  have kr25 := hxt30 _ _ kr25
  have kr26 := hxt30 _ _ kr26
  have kr27 := hxt30 _ _ kr27
  have kr28 := hxt30 _ _ kr28
  have kr29 := hxt30 _ _ kr29
  have hXT := ext_tr hXT hxt30
  have hP : va_P g.1 vcl ([(h0, .inr (5, [.ref q21, .ref q22, .ref q23, .ref q24, .ref q25, .ref q26, .ref q27, .ref q28, .ref q29, .null]))] ++ pl) _ := hP
  have hD : va_D _ ([(h0, .inr (5, [.ref q21, .ref q22, .ref q23, .ref q24, .ref q25, .ref q26, .ref q27, .ref q28, .ref q29, .null]))] ++ pl) := hD
  have hPS := pass_one hPS hnk28 (Or.inl rfl)
  refine va_putF (D := g.1) (ci := 5) (v := .ref q30) (ty := .array .byte) (C := "LatticeKeys$Kem") (T := T_KM) (N := 10) hx hb hts (wg_ft i_KM) ty_KM k_KM n_KM hown hK hP hD hS 0 rfl rfl 9 (by decide) (hts _ (wg_t kw_116)) (fun _ h9 => h9) rfl hnm rfl (by decide +kernel) rfl rfl (Nat.le_of_ble_eq_true rfl) dKM_init_102 (fun H locs hP hD hS => ?_)
  have hP : va_P g.1 vcl ([(h0, .inr (5, [.ref q21, .ref q22, .ref q23, .ref q24, .ref q25, .ref q26, .ref q27, .ref q28, .ref q29, .ref q30]))] ++ pl) _ := hP
  have hD : va_D _ ([(h0, .inr (5, [.ref q21, .ref q22, .ref q23, .ref q24, .ref q25, .ref q26, .ref q27, .ref q28, .ref q29, .ref q30]))] ++ pl) := hD
  obtain ⟨hP, hD⟩ := mv_last (X := []) (c := (h0, .inr (5, [.ref q21, .ref q22, .ref q23, .ref q24, .ref q25, .ref q26, .ref q27, .ref q28, .ref q29, .ref q30]))) hP hD
  obtain ⟨T, pl, hxt31, hU, kr31, hO, hP, hD, hnk29⟩ := absorb (X := []) (13, 0) hP hD hO hU (Or.inl rfl) (fun T9 h9 _ => ⟨_, rfl, ⟨_, rfl, h9 _ _ kr21⟩, ⟨_, rfl, h9 _ _ kr22⟩, ⟨_, rfl, h9 _ _ kr23⟩, ⟨_, rfl, h9 _ _ kr24⟩, ⟨_, rfl, h9 _ _ kr25⟩, ⟨_, rfl, h9 _ _ kr26⟩, ⟨_, rfl, h9 _ _ kr27⟩, ⟨_, rfl, h9 _ _ kr28⟩, ⟨_, rfl, h9 _ _ kr29⟩, ⟨_, rfl, h9 _ _ kr30⟩, trivial⟩)
  have kr21 := hxt31 _ _ kr21
  have kr22 := hxt31 _ _ kr22
  have kr23 := hxt31 _ _ kr23
  have kr24 := hxt31 _ _ kr24
  have kr25 := hxt31 _ _ kr25
  have kr26 := hxt31 _ _ kr26
  have kr27 := hxt31 _ _ kr27
  have kr28 := hxt31 _ _ kr28
  have kr29 := hxt31 _ _ kr29
  have kr30 := hxt31 _ _ kr30
  have hXT := ext_tr hXT hxt31
  have hP : va_P g.1 vcl ([] ++ pl) _ := hP
  have hD : va_D _ ([] ++ pl) := hD
  have hPS := pass_one hPS hnk29 (Or.inl rfl)
  exact mp_vret hx hb hr hlk hP hD hS (T, pl) ⟨⟨hXT, hU, kr31, hPS⟩, hO⟩ [] rfl rfl rfl (by omega) (by omega) dKM_init_105
set_option maxHeartbeats 4000000 in
set_option maxRecDepth 100000 in
theorem t_DA_init (l : Launch) (g : Gd) (sz : Nat) (T0 : Ty) (pl : va_W) (hO : okx g T0 [] pl) (hU : uni T0) (h0 : Nat) (n_10_2 : nk T0 (10, 2)) (n_19_2 : nk T0 (19, 2)) (n_10_3 : nk T0 (10, 3)) (n_19_3 : nk T0 (19, 3)) (n_8_84 : nk T0 (8, 84))  : Met l y_DA_init w_DA_init ({ frames := 3, cells := 116, slots := 26226, locals := 80 } : Room) (va_Pc [.ref h0] (pr (en g) g.1 vcl sz ([(h0, .inr (6, [.null, .null, .null, .null, .null, .null, .null, .null, .null, .null, .null, .null, .null, .null, .null, .null, .null]))] ++ pl))) (va_Qv (fun (u : (Ty) × va_W) => (ext T0 u.1 ∧ uni u.1 ∧ u.1 h0 = some (15, 0) ∧ pass T0 u.1 [(10, 2), (19, 2), (10, 3), (19, 3), (8, 84)]) ∧ okx g u.1 [] u.2) (po g.1 vcl (va_A ([(h0, .inr (6, [.null, .null, .null, .null, .null, .null, .null, .null, .null, .null, .null, .null, .null, .null, .null, .null, .null]))] ++ pl) sz) (fun (u : (Ty) × va_W) => [] ++ u.2)) (va_A ([(h0, .inr (6, [.null, .null, .null, .null, .null, .null, .null, .null, .null, .null, .null, .null, .null, .null, .null, .null, .null]))] ++ pl) sz)) 116 26226 (va_A ([(h0, .inr (6, [.null, .null, .null, .null, .null, .null, .null, .null, .null, .null, .null, .null, .null, .null, .null, .null, .null]))] ++ pl) sz) := by
  refine mc_entry (cc := c_DA_init) (maxL := 1) (ret := none) (by decide) rfl (Nat.le_of_ble_eq_true rfl) ?_
  intro p e s m args below meth c ls F hr hlk hnm hsz hP hD hE hA hl
  obtain ⟨hx, hb, hml, hown, hts⟩ := id F
  have hK := hE.1
  generalize va_A ([(h0, .inr (6, [.null, .null, .null, .null, .null, .null, .null, .null, .null, .null, .null, .null, .null, .null, .null, .null, .null]))] ++ pl) sz = A at hD hE hA ⊢
  obtain ⟨T, hXT, hPS, hO, hU, n_10_2, n_19_2, n_10_3, n_19_3, n_8_84⟩ : ∃ T, ext T0 T ∧ pass T0 T [(10, 2), (19, 2), (10, 3), (19, 3), (8, 84)] ∧ okx g T [] pl ∧ uni T ∧ nk T (10, 2) ∧ nk T (19, 2) ∧ nk T (10, 3) ∧ nk T (19, 3) ∧ nk T (8, 84) := ⟨T0, ext_rf, pass_rf, hO, hU, n_10_2, n_19_2, n_10_3, n_19_3, n_8_84⟩
  have hS : va_S A s.heap s.heap [] := va_S.rf
  have hl : lv_has ls 1 [(0, .ref h0)] := hl
  refine lv_aload_n hx hb dDA_init_0 rfl (lv_at hl 0 rfl) ?_
  refine W.objInit hx hb hown (hts _ (wg_t kw_143)) (hts _ (wg_t kw_41)) (hts _ (wg_t kobj)) rfl (by rw [hml]; exact hl.1) rfl dDA_init_1 (Nat.le_of_ble_eq_true rfl) (Nat.le_of_ble_eq_true rfl) ?_
  refine W.eq (g2 := F0 m 4 ls []) rfl ?_
  refine lv_aload_n hx hb dDA_init_4 rfl (lv_at hl 0 rfl) ?_
  refine va_new (ws := [(h0, .inr (6, [.null, .null, .null, .null, .null, .null, .null, .null, .null, .null, .null, .null, .null, .null, .null, .null, .null]))] ++ pl) (ci := 3) (fs := [.null, .int 0, .int 0, .int 0]) (C := "LatticeKeys$Sponge") (T := T_SP) (N := 4) hx hb hts (wg_ft i_SP) ty_SP k_SP hown (hts _ (wg_t kw_144)) (hts _ (wg_t kw_50)) (hts _ (wg_t kw_2)) hK hP hD hS hA rfl z_SP (Nat.le_of_ble_eq_true rfl) (Nat.le_of_ble_eq_true rfl) dDA_init_5 (fun q21 H hP hD hS => ?_)
  obtain ⟨hP, hD⟩ := mv_first hP hD
  have hP : va_P g.1 vcl ([(h0, .inr (6, [.null, .null, .null, .null, .null, .null, .null, .null, .null, .null, .null, .null, .null, .null, .null, .null, .null])), (q21, .inr (3, [.null, .int 0, .int 0, .int 0]))] ++ pl) _ := hP
  have hD : va_D _ ([(h0, .inr (6, [.null, .null, .null, .null, .null, .null, .null, .null, .null, .null, .null, .null, .null, .null, .null, .null, .null])), (q21, .inr (3, [.null, .int 0, .int 0, .int 0]))] ++ pl) := hD
  refine W.widen (k := 1) (n := 4) (by omega) (by omega) ?_
  refine lv_dup hx hb dDA_init_8 rfl ?_
  refine mp_v (cx := [(q21, .inr (3, [.null, .int 0, .int 0, .int 0]))]) (wr := [(h0, .inr (6, [.null, .null, .null, .null, .null, .null, .null, .null, .null, .null, .null, .null, .null, .null, .null, .null, .null]))]) hP hD hS hA [1] [0] rfl rfl rfl (by decide) (va_runI (As := []) (rest := [.ref q21, .ref h0]) F (t_SP_init_2 l g _ T  pl hO hU  q21 n_10_2 n_19_2) (cwI 0 hts (wg_in kw_53) rfl rfl rfl (hts _ (wg_t kw_2)) (hts _ (wg_t kw_145)) (hts _ (wg_t kw_52)) rfl (by decide +kernel) ⟨by decide, by decide⟩) (pp_S (en_ok g) hP hD hS hA hE [1] rfl rfl) rfl rfl hl.1 rfl (lv_room (Nat.le_of_ble_eq_true rfl)) dDA_init_9 ⟨Nat.le_of_ble_eq_true rfl, Nat.le_of_ble_eq_true rfl⟩) (fun  u21 H locs hu21 hP hD hS => ?_)
  obtain ⟨T, pl⟩ := u21
  obtain ⟨hq21, hO⟩ := hu21
  have hP : va_P g.1 vcl ([(h0, .inr (6, [.null, .null, .null, .null, .null, .null, .null, .null, .null, .null, .null, .null, .null, .null, .null, .null, .null]))] ++ pl) _ := hP
  have hD : va_D _ ([(h0, .inr (6, [.null, .null, .null, .null, .null, .null, .null, .null, .null, .null, .null, .null, .null, .null, .null, .null, .null]))] ++ pl) := hD
  obtain ⟨hxt21, hU, kr21, hps21⟩ := hq21
  have hXT := ext_tr hXT hxt21
  have n_10_3 := hps21 _ (by decide) n_10_3
  have n_19_3 := hps21 _ (by decide) n_19_3
  have n_8_84 := hps21 _ (by decide) n_8_84
  have hPS := pass_tr hPS hps21 (by decide)
  refine W.widen (k := 2) (n := 29) (by omega) (by omega) ?_
  refine va_putF (D := g.1) (ci := 6) (v := .ref q21) (ty := .object "LatticeKeys$Sponge") (C := "LatticeKeys$Dsa") (T := T_DA) (N := 17) hx hb hts (wg_ft i_DA) ty_DA k_DA n_DA hown hK hP hD hS 0 rfl rfl 0 (by decide) (hts _ (wg_t kw_165)) (fun _ h9 => h9) rfl hnm rfl (by decide +kernel) rfl rfl (Nat.le_of_ble_eq_true rfl) dDA_init_12 (fun H locs hP hD hS => ?_)
  have hP : va_P g.1 vcl ([(h0, .inr (6, [.ref q21, .null, .null, .null, .null, .null, .null, .null, .null, .null, .null, .null, .null, .null, .null, .null, .null]))] ++ pl) _ := hP
  have hD : va_D _ ([(h0, .inr (6, [.ref q21, .null, .null, .null, .null, .null, .null, .null, .null, .null, .null, .null, .null, .null, .null, .null, .null]))] ++ pl) := hD
  refine lv_aload_n hx hb dDA_init_15 rfl (lv_at hl 0 rfl) ?_
  refine va_new (ws := [(h0, .inr (6, [.ref q21, .null, .null, .null, .null, .null, .null, .null, .null, .null, .null, .null, .null, .null, .null, .null, .null]))] ++ pl) (ci := 4) (fs := [.int 0, .int 0, .int 0, .null]) (C := "LatticeKeys$Ring") (T := T_RG) (N := 4) hx hb hts (wg_ft i_RG) ty_RG k_RG hown (hts _ (wg_t kw_146)) (hts _ (wg_t kw_83)) (hts _ (wg_t kw_4)) hK hP hD hS hA rfl z_RG (Nat.le_of_ble_eq_true rfl) (Nat.le_of_ble_eq_true rfl) dDA_init_16 (fun q22 H hP hD hS => ?_)
  obtain ⟨hP, hD⟩ := mv_first hP hD
  have hP : va_P g.1 vcl ([(h0, .inr (6, [.ref q21, .null, .null, .null, .null, .null, .null, .null, .null, .null, .null, .null, .null, .null, .null, .null, .null])), (q22, .inr (4, [.int 0, .int 0, .int 0, .null]))] ++ pl) _ := hP
  have hD : va_D _ ([(h0, .inr (6, [.ref q21, .null, .null, .null, .null, .null, .null, .null, .null, .null, .null, .null, .null, .null, .null, .null, .null])), (q22, .inr (4, [.int 0, .int 0, .int 0, .null]))] ++ pl) := hD
  refine W.widen (k := 3) (n := 33) (by omega) (by omega) ?_
  refine lv_dup hx hb dDA_init_19 rfl ?_
  refine lv_ldc (v := 8380417) hx hb hown (hts _ (wg_t kw_147)) dDA_init_20 ?_
  refine mi_as (show (8380417 : Int32) = nI 8380417 by decide) ?_
  refine lv_sipush (v := nI 1753) hx hb dDA_init_22 (by decide) ?_
  refine lv_bipush (v := nI 8) hx hb dDA_init_25 (by decide) ?_
  refine mp_v (cx := [(q22, .inr (4, [.int 0, .int 0, .int 0, .null]))]) (wr := [(h0, .inr (6, [.ref q21, .null, .null, .null, .null, .null, .null, .null, .null, .null, .null, .null, .null, .null, .null, .null, .null]))]) hP hD hS hA [1] [0] rfl rfl rfl (by decide) (va_runI (As := [.int (nI 8380417), .int (nI 1753), .int (nI 8)]) (rest := [.ref q22, .ref h0]) F (t_RG_init_8 l g _ T  pl hO hU  q22) (cwI 3 hts (wg_in kw_86) rfl rfl rfl (hts _ (wg_t kw_4)) (hts _ (wg_t kw_148)) (hts _ (wg_t kw_85)) rfl (by decide +kernel) ⟨by decide, by decide⟩) (pp_S (en_ok g) hP hD hS hA hE [1] rfl rfl) rfl rfl hl.1 rfl (lv_room (Nat.le_of_ble_eq_true rfl)) dDA_init_27 ⟨Nat.le_of_ble_eq_true rfl, Nat.le_of_ble_eq_true rfl⟩) (fun  u22 H locs hu22 hP hD hS => ?_)
  obtain ⟨T, pl⟩ := u22
  obtain ⟨hq22, hO⟩ := hu22
  have hP : va_P g.1 vcl ([(h0, .inr (6, [.ref q21, .null, .null, .null, .null, .null, .null, .null, .null, .null, .null, .null, .null, .null, .null, .null, .null]))] ++ pl) _ := hP
  have hD : va_D _ ([(h0, .inr (6, [.ref q21, .null, .null, .null, .null, .null, .null, .null, .null, .null, .null, .null, .null, .null, .null, .null, .null]))] ++ pl) := hD
  obtain ⟨hxt22, hU, kr22, hps22⟩ := hq22
  have kr21 := hxt22 _ _ kr21
  have hXT := ext_tr hXT hxt22
  have n_10_3 := hps22 _ (by decide) n_10_3
  have n_19_3 := hps22 _ (by decide) n_19_3
  have n_8_84 := hps22 _ (by decide) n_8_84
  have hPS := pass_tr hPS hps22 (by decide)
  refine W.widen (k := 4) (n := 289) (by omega) (by omega) ?_
  refine va_putF (D := g.1) (ci := 6) (v := .ref q22) (ty := .object "LatticeKeys$Ring") (C := "LatticeKeys$Dsa") (T := T_DA) (N := 17) hx hb hts (wg_ft i_DA) ty_DA k_DA n_DA hown hK hP hD hS 0 rfl rfl 1 (by decide) (hts _ (wg_t kw_166)) (fun _ h9 => h9) rfl hnm rfl (by decide +kernel) rfl rfl (Nat.le_of_ble_eq_true rfl) dDA_init_30 (fun H locs hP hD hS => ?_)
  have hP : va_P g.1 vcl ([(h0, .inr (6, [.ref q21, .ref q22, .null, .null, .null, .null, .null, .null, .null, .null, .null, .null, .null, .null, .null, .null, .null]))] ++ pl) _ := hP
  have hD : va_D _ ([(h0, .inr (6, [.ref q21, .ref q22, .null, .null, .null, .null, .null, .null, .null, .null, .null, .null, .null, .null, .null, .null, .null]))] ++ pl) := hD
  refine lv_aload_n hx hb dDA_init_33 rfl (lv_at hl 0 rfl) ?_
  refine va_new (ws := [(h0, .inr (6, [.ref q21, .ref q22, .null, .null, .null, .null, .null, .null, .null, .null, .null, .null, .null, .null, .null, .null, .null]))] ++ pl) (ci := 7) (fs := [.null, .null]) (C := "LatticeKeys$DsaSampler") (T := T_SA) (N := 2) hx hb hts (wg_ft i_SA) ty_SA k_SA hown (hts _ (wg_t kw_149)) (hts _ (wg_t kw_150)) (hts _ (wg_t kw_6)) hK hP hD hS hA rfl z_SA (Nat.le_of_ble_eq_true rfl) (Nat.le_of_ble_eq_true rfl) dDA_init_34 (fun q23 H hP hD hS => ?_)
  obtain ⟨hP, hD⟩ := mv_first hP hD
  have hP : va_P g.1 vcl ([(h0, .inr (6, [.ref q21, .ref q22, .null, .null, .null, .null, .null, .null, .null, .null, .null, .null, .null, .null, .null, .null, .null])), (q23, .inr (7, [.null, .null]))] ++ pl) _ := hP
  have hD : va_D _ ([(h0, .inr (6, [.ref q21, .ref q22, .null, .null, .null, .null, .null, .null, .null, .null, .null, .null, .null, .null, .null, .null, .null])), (q23, .inr (7, [.null, .null]))] ++ pl) := hD
  refine W.widen (k := 5) (n := 291) (by omega) (by omega) ?_
  refine lv_dup hx hb dDA_init_37 rfl ?_
  refine mp_v (cx := [(q23, .inr (7, [.null, .null]))]) (wr := [(h0, .inr (6, [.ref q21, .ref q22, .null, .null, .null, .null, .null, .null, .null, .null, .null, .null, .null, .null, .null, .null, .null]))]) hP hD hS hA [1] [0] rfl rfl rfl (by decide) (va_runI (As := []) (rest := [.ref q23, .ref h0]) F (t_SA_init l g _ T  pl hO hU  q23 n_10_3 n_19_3) (cwI 0 hts (wg_in kw_153) rfl rfl rfl (hts _ (wg_t kw_6)) (hts _ (wg_t kw_151)) (hts _ (wg_t kw_152)) rfl (by decide +kernel) ⟨by decide, by decide⟩) (pp_S (en_ok g) hP hD hS hA hE [1] rfl rfl) rfl rfl hl.1 rfl (lv_room (Nat.le_of_ble_eq_true rfl)) dDA_init_38 ⟨Nat.le_of_ble_eq_true rfl, Nat.le_of_ble_eq_true rfl⟩) (fun  u23 H locs hu23 hP hD hS => ?_)
  obtain ⟨T, pl⟩ := u23
  obtain ⟨hq23, hO⟩ := hu23
  have hP : va_P g.1 vcl ([(h0, .inr (6, [.ref q21, .ref q22, .null, .null, .null, .null, .null, .null, .null, .null, .null, .null, .null, .null, .null, .null, .null]))] ++ pl) _ := hP
  have hD : va_D _ ([(h0, .inr (6, [.ref q21, .ref q22, .null, .null, .null, .null, .null, .null, .null, .null, .null, .null, .null, .null, .null, .null, .null]))] ++ pl) := hD
  obtain ⟨hxt23, hU, kr23, hps23⟩ := hq23
  have kr21 := hxt23 _ _ kr21
  have kr22 := hxt23 _ _ kr22
  have hXT := ext_tr hXT hxt23
  have n_8_84 := hps23 _ (by decide) n_8_84
  have hPS := pass_tr hPS hps23 (by decide)
  refine W.widen (k := 8) (n := 960) (by omega) (by omega) ?_
  refine va_putF (D := g.1) (ci := 6) (v := .ref q23) (ty := .object "LatticeKeys$DsaSampler") (C := "LatticeKeys$Dsa") (T := T_DA) (N := 17) hx hb hts (wg_ft i_DA) ty_DA k_DA n_DA hown hK hP hD hS 0 rfl rfl 2 (by decide) (hts _ (wg_t kw_167)) (fun _ h9 => h9) rfl hnm rfl (by decide +kernel) rfl rfl (Nat.le_of_ble_eq_true rfl) dDA_init_41 (fun H locs hP hD hS => ?_)
  have hP : va_P g.1 vcl ([(h0, .inr (6, [.ref q21, .ref q22, .ref q23, .null, .null, .null, .null, .null, .null, .null, .null, .null, .null, .null, .null, .null, .null]))] ++ pl) _ := hP
  have hD : va_D _ ([(h0, .inr (6, [.ref q21, .ref q22, .ref q23, .null, .null, .null, .null, .null, .null, .null, .null, .null, .null, .null, .null, .null, .null]))] ++ pl) := hD
  refine lv_aload_n hx hb dDA_init_44 rfl (lv_at hl 0 rfl) ?_
  refine lv_bipush (v := nI 56) hx hb dDA_init_45 (by decide) ?_
  refine lv_sipush (v := nI 256) hx hb dDA_init_47 (by decide) ?_
  refine ty_mnai (X := [(h0, .inr (6, [.ref q21, .ref q22, .ref q23, .null, .null, .null, .null, .null, .null, .null, .null, .null, .null, .null, .null, .null, .null]))]) hx hb hown (hts _ (wg_t kw_164)) hE.2.2.2.2.2.1 (hts _ (wg_t kw_104)) hK hP hD hS hA hO hU (by decide) (Nat.le_of_ble_eq_true rfl) (Nat.le_of_ble_eq_true rfl) dDA_init_50 (fun q24 T pl H hxt24 hU kr24 hO hP hD hS hnk21 => ?_)
  have kr21 := hxt24 _ _ kr21
  have kr22 := hxt24 _ _ kr22
  have kr23 := hxt24 _ _ kr23
  have hXT := ext_tr hXT hxt24
  have n_8_84 := hnk21 _ (by decide) n_8_84
  have hPS := pass_many hPS hnk21
  have hP : va_P g.1 vcl ([(h0, .inr (6, [.ref q21, .ref q22, .ref q23, .null, .null, .null, .null, .null, .null, .null, .null, .null, .null, .null, .null, .null, .null]))] ++ pl) _ := hP
  have hD : va_D _ ([(h0, .inr (6, [.ref q21, .ref q22, .ref q23, .null, .null, .null, .null, .null, .null, .null, .null, .null, .null, .null, .null, .null, .null]))] ++ pl) := hD
  refine W.widen (k := 65) (n := 15352) (by omega) (by omega) ?_
  refine va_putF (D := g.1) (ci := 6) (v := .ref q24) (ty := .array (.array .int)) (C := "LatticeKeys$Dsa") (T := T_DA) (N := 17) hx hb hts (wg_ft i_DA) ty_DA k_DA n_DA hown hK hP hD hS 0 rfl rfl 3 (by decide) (hts _ (wg_t kw_168)) (fun _ h9 => h9) rfl hnm rfl (by decide +kernel) rfl rfl (Nat.le_of_ble_eq_true rfl) dDA_init_54 (fun H locs hP hD hS => ?_)
  have hP : va_P g.1 vcl ([(h0, .inr (6, [.ref q21, .ref q22, .ref q23, .ref q24, .null, .null, .null, .null, .null, .null, .null, .null, .null, .null, .null, .null, .null]))] ++ pl) _ := hP
  have hD : va_D _ ([(h0, .inr (6, [.ref q21, .ref q22, .ref q23, .ref q24, .null, .null, .null, .null, .null, .null, .null, .null, .null, .null, .null, .null, .null]))] ++ pl) := hD
  refine lv_aload_n hx hb dDA_init_57 rfl (lv_at hl 0 rfl) ?_
  refine lv_bipush (v := nI 7) hx hb dDA_init_58 (by decide) ?_
  refine lv_sipush (v := nI 256) hx hb dDA_init_60 (by decide) ?_
  refine ty_mnai (X := [(h0, .inr (6, [.ref q21, .ref q22, .ref q23, .ref q24, .null, .null, .null, .null, .null, .null, .null, .null, .null, .null, .null, .null, .null]))]) hx hb hown (hts _ (wg_t kw_164)) hE.2.2.2.2.2.1 (hts _ (wg_t kw_104)) hK hP hD hS hA hO hU (by decide) (Nat.le_of_ble_eq_true rfl) (Nat.le_of_ble_eq_true rfl) dDA_init_63 (fun q25 T pl H hxt25 hU kr25 hO hP hD hS hnk22 => ?_)
  have kr21 := hxt25 _ _ kr21
  have kr22 := hxt25 _ _ kr22
  have kr23 := hxt25 _ _ kr23
  have kr24 := hxt25 _ _ kr24
  have hXT := ext_tr hXT hxt25
  have n_8_84 := hnk22 _ (by decide) n_8_84
  have hPS := pass_many hPS hnk22
  have hP : va_P g.1 vcl ([(h0, .inr (6, [.ref q21, .ref q22, .ref q23, .ref q24, .null, .null, .null, .null, .null, .null, .null, .null, .null, .null, .null, .null, .null]))] ++ pl) _ := hP
  have hD : va_D _ ([(h0, .inr (6, [.ref q21, .ref q22, .ref q23, .ref q24, .null, .null, .null, .null, .null, .null, .null, .null, .null, .null, .null, .null, .null]))] ++ pl) := hD
  refine W.widen (k := 73) (n := 17151) (by omega) (by omega) ?_
  refine va_putF (D := g.1) (ci := 6) (v := .ref q25) (ty := .array (.array .int)) (C := "LatticeKeys$Dsa") (T := T_DA) (N := 17) hx hb hts (wg_ft i_DA) ty_DA k_DA n_DA hown hK hP hD hS 0 rfl rfl 4 (by decide) (hts _ (wg_t kw_169)) (fun _ h9 => h9) rfl hnm rfl (by decide +kernel) rfl rfl (Nat.le_of_ble_eq_true rfl) dDA_init_67 (fun H locs hP hD hS => ?_)
  have hP : va_P g.1 vcl ([(h0, .inr (6, [.ref q21, .ref q22, .ref q23, .ref q24, .ref q25, .null, .null, .null, .null, .null, .null, .null, .null, .null, .null, .null, .null]))] ++ pl) _ := hP
  have hD : va_D _ ([(h0, .inr (6, [.ref q21, .ref q22, .ref q23, .ref q24, .ref q25, .null, .null, .null, .null, .null, .null, .null, .null, .null, .null, .null, .null]))] ++ pl) := hD
  refine lv_aload_n hx hb dDA_init_70 rfl (lv_at hl 0 rfl) ?_
  refine lv_bipush (v := nI 8) hx hb dDA_init_71 (by decide) ?_
  refine lv_sipush (v := nI 256) hx hb dDA_init_73 (by decide) ?_
  refine ty_mnai (X := [(h0, .inr (6, [.ref q21, .ref q22, .ref q23, .ref q24, .ref q25, .null, .null, .null, .null, .null, .null, .null, .null, .null, .null, .null, .null]))]) hx hb hown (hts _ (wg_t kw_164)) hE.2.2.2.2.2.1 (hts _ (wg_t kw_104)) hK hP hD hS hA hO hU (by decide) (Nat.le_of_ble_eq_true rfl) (Nat.le_of_ble_eq_true rfl) dDA_init_76 (fun q26 T pl H hxt26 hU kr26 hO hP hD hS hnk23 => ?_)
  have kr21 := hxt26 _ _ kr21
  have kr22 := hxt26 _ _ kr22
  have kr23 := hxt26 _ _ kr23
  have kr24 := hxt26 _ _ kr24
  have kr25 := hxt26 _ _ kr25
  have hXT := ext_tr hXT hxt26
  have n_8_84 := hnk23 _ (by decide) n_8_84
  have hPS := pass_many hPS hnk23
  have hP : va_P g.1 vcl ([(h0, .inr (6, [.ref q21, .ref q22, .ref q23, .ref q24, .ref q25, .null, .null, .null, .null, .null, .null, .null, .null, .null, .null, .null, .null]))] ++ pl) _ := hP
  have hD : va_D _ ([(h0, .inr (6, [.ref q21, .ref q22, .ref q23, .ref q24, .ref q25, .null, .null, .null, .null, .null, .null, .null, .null, .null, .null, .null, .null]))] ++ pl) := hD
  refine W.widen (k := 82) (n := 19207) (by omega) (by omega) ?_
  refine va_putF (D := g.1) (ci := 6) (v := .ref q26) (ty := .array (.array .int)) (C := "LatticeKeys$Dsa") (T := T_DA) (N := 17) hx hb hts (wg_ft i_DA) ty_DA k_DA n_DA hown hK hP hD hS 0 rfl rfl 5 (by decide) (hts _ (wg_t kw_170)) (fun _ h9 => h9) rfl hnm rfl (by decide +kernel) rfl rfl (Nat.le_of_ble_eq_true rfl) dDA_init_80 (fun H locs hP hD hS => ?_)
  have hP : va_P g.1 vcl ([(h0, .inr (6, [.ref q21, .ref q22, .ref q23, .ref q24, .ref q25, .ref q26, .null, .null, .null, .null, .null, .null, .null, .null, .null, .null, .null]))] ++ pl) _ := hP
  have hD : va_D _ ([(h0, .inr (6, [.ref q21, .ref q22, .ref q23, .ref q24, .ref q25, .ref q26, .null, .null, .null, .null, .null, .null, .null, .null, .null, .null, .null]))] ++ pl) := hD
  refine lv_aload_n hx hb dDA_init_83 rfl (lv_at hl 0 rfl) ?_
  refine lv_bipush (v := nI 8) hx hb dDA_init_84 (by decide) ?_
  refine lv_sipush (v := nI 256) hx hb dDA_init_86 (by decide) ?_
  refine ty_mnai (X := [(h0, .inr (6, [.ref q21, .ref q22, .ref q23, .ref q24, .ref q25, .ref q26, .null, .null, .null, .null, .null, .null, .null, .null, .null, .null, .null]))]) hx hb hown (hts _ (wg_t kw_164)) hE.2.2.2.2.2.1 (hts _ (wg_t kw_104)) hK hP hD hS hA hO hU (by decide) (Nat.le_of_ble_eq_true rfl) (Nat.le_of_ble_eq_true rfl) dDA_init_89 (fun q27 T pl H hxt27 hU kr27 hO hP hD hS hnk24 => ?_)
  have kr21 := hxt27 _ _ kr21
  have kr22 := hxt27 _ _ kr22
  have kr23 := hxt27 _ _ kr23
  have kr24 := hxt27 _ _ kr24
  have kr25 := hxt27 _ _ kr25
  have kr26 := hxt27 _ _ kr26
  have hXT := ext_tr hXT hxt27
  have n_8_84 := hnk24 _ (by decide) n_8_84
  have hPS := pass_many hPS hnk24
  have hP : va_P g.1 vcl ([(h0, .inr (6, [.ref q21, .ref q22, .ref q23, .ref q24, .ref q25, .ref q26, .null, .null, .null, .null, .null, .null, .null, .null, .null, .null, .null]))] ++ pl) _ := hP
  have hD : va_D _ ([(h0, .inr (6, [.ref q21, .ref q22, .ref q23, .ref q24, .ref q25, .ref q26, .null, .null, .null, .null, .null, .null, .null, .null, .null, .null, .null]))] ++ pl) := hD
  refine W.widen (k := 91) (n := 21263) (by omega) (by omega) ?_
  refine va_putF (D := g.1) (ci := 6) (v := .ref q27) (ty := .array (.array .int)) (C := "LatticeKeys$Dsa") (T := T_DA) (N := 17) hx hb hts (wg_ft i_DA) ty_DA k_DA n_DA hown hK hP hD hS 0 rfl rfl 6 (by decide) (hts _ (wg_t kw_171)) (fun _ h9 => h9) rfl hnm rfl (by decide +kernel) rfl rfl (Nat.le_of_ble_eq_true rfl) dDA_init_93 (fun H locs hP hD hS => ?_)
  have hP : va_P g.1 vcl ([(h0, .inr (6, [.ref q21, .ref q22, .ref q23, .ref q24, .ref q25, .ref q26, .ref q27, .null, .null, .null, .null, .null, .null, .null, .null, .null, .null]))] ++ pl) _ := hP
  have hD : va_D _ ([(h0, .inr (6, [.ref q21, .ref q22, .ref q23, .ref q24, .ref q25, .ref q26, .ref q27, .null, .null, .null, .null, .null, .null, .null, .null, .null, .null]))] ++ pl) := hD
  refine lv_aload_n hx hb dDA_init_96 rfl (lv_at hl 0 rfl) ?_
  refine lv_bipush (v := nI 7) hx hb dDA_init_97 (by decide) ?_
  refine lv_sipush (v := nI 256) hx hb dDA_init_99 (by decide) ?_
  refine ty_mnai (X := [(h0, .inr (6, [.ref q21, .ref q22, .ref q23, .ref q24, .ref q25, .ref q26, .ref q27, .null, .null, .null, .null, .null, .null, .null, .null, .null, .null]))]) hx hb hown (hts _ (wg_t kw_164)) hE.2.2.2.2.2.1 (hts _ (wg_t kw_104)) hK hP hD hS hA hO hU (by decide) (Nat.le_of_ble_eq_true rfl) (Nat.le_of_ble_eq_true rfl) dDA_init_102 (fun q28 T pl H hxt28 hU kr28 hO hP hD hS hnk25 => ?_)
  have kr21 := hxt28 _ _ kr21
  have kr22 := hxt28 _ _ kr22
  have kr23 := hxt28 _ _ kr23
  have kr24 := hxt28 _ _ kr24
  have kr25 := hxt28 _ _ kr25
  have kr26 := hxt28 _ _ kr26
  have kr27 := hxt28 _ _ kr27
  have hXT := ext_tr hXT hxt28
  have n_8_84 := hnk25 _ (by decide) n_8_84
  have hPS := pass_many hPS hnk25
  have hP : va_P g.1 vcl ([(h0, .inr (6, [.ref q21, .ref q22, .ref q23, .ref q24, .ref q25, .ref q26, .ref q27, .null, .null, .null, .null, .null, .null, .null, .null, .null, .null]))] ++ pl) _ := hP
  have hD : va_D _ ([(h0, .inr (6, [.ref q21, .ref q22, .ref q23, .ref q24, .ref q25, .ref q26, .ref q27, .null, .null, .null, .null, .null, .null, .null, .null, .null, .null]))] ++ pl) := hD
  refine W.widen (k := 99) (n := 23062) (by omega) (by omega) ?_
  refine va_putF (D := g.1) (ci := 6) (v := .ref q28) (ty := .array (.array .int)) (C := "LatticeKeys$Dsa") (T := T_DA) (N := 17) hx hb hts (wg_ft i_DA) ty_DA k_DA n_DA hown hK hP hD hS 0 rfl rfl 7 (by decide) (hts _ (wg_t kw_172)) (fun _ h9 => h9) rfl hnm rfl (by decide +kernel) rfl rfl (Nat.le_of_ble_eq_true rfl) dDA_init_106 (fun H locs hP hD hS => ?_)
  have hP : va_P g.1 vcl ([(h0, .inr (6, [.ref q21, .ref q22, .ref q23, .ref q24, .ref q25, .ref q26, .ref q27, .ref q28, .null, .null, .null, .null, .null, .null, .null, .null, .null]))] ++ pl) _ := hP
  have hD : va_D _ ([(h0, .inr (6, [.ref q21, .ref q22, .ref q23, .ref q24, .ref q25, .ref q26, .ref q27, .ref q28, .null, .null, .null, .null, .null, .null, .null, .null, .null]))] ++ pl) := hD
  refine lv_aload_n hx hb dDA_init_109 rfl (lv_at hl 0 rfl) ?_
  refine lv_bipush (v := nI 8) hx hb dDA_init_110 (by decide) ?_
  refine lv_sipush (v := nI 256) hx hb dDA_init_112 (by decide) ?_
  refine ty_mnai (X := [(h0, .inr (6, [.ref q21, .ref q22, .ref q23, .ref q24, .ref q25, .ref q26, .ref q27, .ref q28, .null, .null, .null, .null, .null, .null, .null, .null, .null]))]) hx hb hown (hts _ (wg_t kw_164)) hE.2.2.2.2.2.1 (hts _ (wg_t kw_104)) hK hP hD hS hA hO hU (by decide) (Nat.le_of_ble_eq_true rfl) (Nat.le_of_ble_eq_true rfl) dDA_init_115 (fun q29 T pl H hxt29 hU kr29 hO hP hD hS hnk26 => ?_)
  have kr21 := hxt29 _ _ kr21
  have kr22 := hxt29 _ _ kr22
  have kr23 := hxt29 _ _ kr23
  have kr24 := hxt29 _ _ kr24
  have kr25 := hxt29 _ _ kr25
  have kr26 := hxt29 _ _ kr26
  have kr27 := hxt29 _ _ kr27
  have kr28 := hxt29 _ _ kr28
  have hXT := ext_tr hXT hxt29
  have n_8_84 := hnk26 _ (by decide) n_8_84
  have hPS := pass_many hPS hnk26
  have hP : va_P g.1 vcl ([(h0, .inr (6, [.ref q21, .ref q22, .ref q23, .ref q24, .ref q25, .ref q26, .ref q27, .ref q28, .null, .null, .null, .null, .null, .null, .null, .null, .null]))] ++ pl) _ := hP
  have hD : va_D _ ([(h0, .inr (6, [.ref q21, .ref q22, .ref q23, .ref q24, .ref q25, .ref q26, .ref q27, .ref q28, .null, .null, .null, .null, .null, .null, .null, .null, .null]))] ++ pl) := hD
  refine W.widen (k := 108) (n := 25118) (by omega) (by omega) ?_
  refine va_putF (D := g.1) (ci := 6) (v := .ref q29) (ty := .array (.array .int)) (C := "LatticeKeys$Dsa") (T := T_DA) (N := 17) hx hb hts (wg_ft i_DA) ty_DA k_DA n_DA hown hK hP hD hS 0 rfl rfl 8 (by decide) (hts _ (wg_t kw_173)) (fun _ h9 => h9) rfl hnm rfl (by decide +kernel) rfl rfl (Nat.le_of_ble_eq_true rfl) dDA_init_119 (fun H locs hP hD hS => ?_)
  have hP : va_P g.1 vcl ([(h0, .inr (6, [.ref q21, .ref q22, .ref q23, .ref q24, .ref q25, .ref q26, .ref q27, .ref q28, .ref q29, .null, .null, .null, .null, .null, .null, .null, .null]))] ++ pl) _ := hP
  have hD : va_D _ ([(h0, .inr (6, [.ref q21, .ref q22, .ref q23, .ref q24, .ref q25, .ref q26, .ref q27, .ref q28, .ref q29, .null, .null, .null, .null, .null, .null, .null, .null]))] ++ pl) := hD
  refine lv_aload_n hx hb dDA_init_122 rfl (lv_at hl 0 rfl) ?_
  refine lv_sipush (v := nI 256) hx hb dDA_init_123 (by decide) ?_
  refine ma_newa (ws := [(h0, .inr (6, [.ref q21, .ref q22, .ref q23, .ref q24, .ref q25, .ref q26, .ref q27, .ref q28, .ref q29, .null, .null, .null, .null, .null, .null, .null, .null]))] ++ pl) (atype := .int) hx hb (hts _ (wg_t kw_104)) rfl hK hP hD hS hA 0 rfl (N' := 256) (a0 := (256, .inl (fun _ => 0))) (fun _ => rfl) (nI_pos (by omega)) (nI_clamp (by omega)) (by show (256) * 4 ≤ 536870912; omega) (Nat.le_of_ble_eq_true rfl) (Nat.le_of_ble_eq_true rfl) dDA_init_126 (fun q30 H hP hD hS => ?_)
  refine W.widen (k := 109) (n := 25374) (by omega) (by omega) ?_
  obtain ⟨T, pl, hxt30, hU, kr30, hO, hP, hD, hnk27⟩ := absorb (X := [(h0, .inr (6, [.ref q21, .ref q22, .ref q23, .ref q24, .ref q25, .ref q26, .ref q27, .ref q28, .ref q29, .null, .null, .null, .null, .null, .null, .null, .null]))]) (0, 256) hP hD hO hU (Or.inl rfl) (fun _ _ _ => ⟨_, rfl⟩)
  have kr21 := hxt30 _ _ kr21
  have kr22 := hxt30 _ _ kr22
  have kr23 := hxt30 _ _ kr23
  have kr24 := hxt30 _ _ kr24
  have kr25 := hxt30 _ _ kr25
  have kr26 := hxt30 _ _ kr26
  have kr27 := hxt30 _ _ kr27
  have kr28 := hxt30 _ _ kr28
  have kr29 := hxt30 _ _ kr29
  have hXT := ext_tr hXT hxt30
  have n_8_84 := hnk27 _ (by decide) n_8_84
  have hP : va_P g.1 vcl ([(h0, .inr (6, [.ref q21, .ref q22, .ref q23, .ref q24, .ref q25, .ref q26, .ref q27, .ref q28, .ref q29, .null, .null, .null, .null, .null, .null, .null, .null]))] ++ pl) _ := hP
  have hD : va_D _ ([(h0, .inr (6, [.ref q21, .ref q22, .ref q23, .ref q24, .ref q25, .ref q26, .ref q27, .ref q28, .ref q29, .null, .null, .null, .null, .null, .null, .null, .null]))] ++ pl) := hD
  have hPS := pass_one hPS hnk27 (Or.inl rfl)
  refine va_putF (D := g.1) (ci := 6) (v := .ref q30) (ty := .array .int) (C := "LatticeKeys$Dsa") (T := T_DA) (N := 17) hx hb hts (wg_ft i_DA) ty_DA k_DA n_DA hown hK hP hD hS 0 rfl rfl 9 (by decide) (hts _ (wg_t kw_174)) (fun _ h9 => h9) rfl hnm rfl (by decide +kernel) rfl rfl (Nat.le_of_ble_eq_true rfl) dDA_init_128 (fun H locs hP hD hS => ?_)
  have hP : va_P g.1 vcl ([(h0, .inr (6, [.ref q21, .ref q22, .ref q23, .ref q24, .ref q25, .ref q26, .ref q27, .ref q28, .ref q29, .ref q30, .null, .null, .null, .null, .null, .null, .null]))] ++ pl) _ := hP
  have hD : va_D _ ([(h0, .inr (6, [.ref q21, .ref q22, .ref q23, .ref q24, .ref q25, .ref q26, .ref q27, .ref q28, .ref q29, .ref q30, .null, .null, .null, .null, .null, .null, .null]))] ++ pl) := hD
  refine lv_aload_n hx hb dDA_init_131 rfl (lv_at hl 0 rfl) ?_
  refine lv_sipush (v := nI 256) hx hb dDA_init_132 (by decide) ?_
  refine ma_newa (ws := [(h0, .inr (6, [.ref q21, .ref q22, .ref q23, .ref q24, .ref q25, .ref q26, .ref q27, .ref q28, .ref q29, .ref q30, .null, .null, .null, .null, .null, .null, .null]))] ++ pl) (atype := .int) hx hb (hts _ (wg_t kw_104)) rfl hK hP hD hS hA 0 rfl (N' := 256) (a0 := (256, .inl (fun _ => 0))) (fun _ => rfl) (nI_pos (by omega)) (nI_clamp (by omega)) (by show (256) * 4 ≤ 536870912; omega) (Nat.le_of_ble_eq_true rfl) (Nat.le_of_ble_eq_true rfl) dDA_init_135 (fun q31 H hP hD hS => ?_)
  refine W.widen (k := 110) (n := 25630) (by omega) (by omega) ?_
  obtain ⟨T, pl, hxt31, hU, kr31, hO, hP, hD, hnk28⟩ := absorb (X := [(h0, .inr (6, [.ref q21, .ref q22, .ref q23, .ref q24, .ref q25, .ref q26, .ref q27, .ref q28, .ref q29, .ref q30, .null, .null, .null, .null, .null, .null, .null]))]) (0, 256) hP hD hO hU (Or.inl rfl) (fun _ _ _ => ⟨_, rfl⟩)
  have kr21 := hxt31 _ _ kr21
  have kr22 := hxt31 _ _ kr22
  have kr23 := hxt31 _ _ kr23
  have kr24 := hxt31 _ _ kr24
  have kr25 := hxt31 _ _ kr25
  have kr26 := hxt31 _ _ kr26
  have kr27 := hxt31 _ _ kr27
  have kr28 := hxt31 _ _ kr28
  have kr29 := hxt31 _ _ kr29
  have kr30 := hxt31 _ _ kr30
  have hXT := ext_tr hXT hxt31
  have n_8_84 := hnk28 _ (by decide) n_8_84
  have hP : va_P g.1 vcl ([(h0, .inr (6, [.ref q21, .ref q22, .ref q23, .ref q24, .ref q25, .ref q26, .ref q27, .ref q28, .ref q29, .ref q30, .null, .null, .null, .null, .null, .null, .null]))] ++ pl) _ := hP
  have hD : va_D _ ([(h0, .inr (6, [.ref q21, .ref q22, .ref q23, .ref q24, .ref q25, .ref q26, .ref q27, .ref q28, .ref q29, .ref q30, .null, .null, .null, .null, .null, .null, .null]))] ++ pl) := hD
  have hPS := pass_one hPS hnk28 (Or.inl rfl)
  refine va_putF (D := g.1) (ci := 6) (v := .ref q31) (ty := .array .int) (C := "LatticeKeys$Dsa") (T := T_DA) (N := 17) hx hb hts (wg_ft i_DA) ty_DA k_DA n_DA hown hK hP hD hS 0 rfl rfl 10 (by decide) (hts _ (wg_t kw_175)) (fun _ h9 => h9) rfl hnm rfl (by decide +kernel) rfl rfl (Nat.le_of_ble_eq_true rfl) dDA_init_137 (fun H locs hP hD hS => ?_)
  have hP : va_P g.1 vcl ([(h0, .inr (6, [.ref q21, .ref q22, .ref q23, .ref q24, .ref q25, .ref q26, .ref q27, .ref q28, .ref q29, .ref q30, .ref q31, .null, .null, .null, .null, .null, .null]))] ++ pl) _ := hP
  have hD : va_D _ ([(h0, .inr (6, [.ref q21, .ref q22, .ref q23, .ref q24, .ref q25, .ref q26, .ref q27, .ref q28, .ref q29, .ref q30, .ref q31, .null, .null, .null, .null, .null, .null]))] ++ pl) := hD
  refine lv_aload_n hx hb dDA_init_140 rfl (lv_at hl 0 rfl) ?_
  refine lv_sipush (v := nI 128) hx hb dDA_init_141 (by decide) ?_
  refine ma_newa (ws := [(h0, .inr (6, [.ref q21, .ref q22, .ref q23, .ref q24, .ref q25, .ref q26, .ref q27, .ref q28, .ref q29, .ref q30, .ref q31, .null, .null, .null, .null, .null, .null]))] ++ pl) (atype := .byte) hx hb (hts _ (wg_t kw_72)) rfl hK hP hD hS hA 1 rfl (N' := 128) (a0 := (128, .inl (fun _ => 0))) (fun _ => rfl) (nI_pos (by omega)) (nI_clamp (by omega)) (by show (128) * 1 ≤ 536870912; omega) (Nat.le_of_ble_eq_true rfl) (Nat.le_of_ble_eq_true rfl) dDA_init_144 (fun q32 H hP hD hS => ?_)
  refine W.widen (k := 111) (n := 25758) (by omega) (by omega) ?_
  obtain ⟨T, pl, hxt32, hU, kr32, hO, hP, hD, hnk29⟩ := absorb (X := [(h0, .inr (6, [.ref q21, .ref q22, .ref q23, .ref q24, .ref q25, .ref q26, .ref q27, .ref q28, .ref q29, .ref q30, .ref q31, .null, .null, .null, .null, .null, .null]))]) (1, 128) hP hD hO hU (Or.inl rfl) (fun _ _ _ => ⟨_, rfl, byt_0⟩)
  have kr21 := hxt32 _ _ kr21
  have kr22 := hxt32 _ _ kr22
  have kr23 := hxt32 _ _ kr23
  have kr24 := hxt32 _ _ kr24
  have kr25 := hxt32 _ _ kr25
  have kr26 := hxt32 _ _ kr26
  have kr27 := hxt32 _ _ kr27
  have kr28 := hxt32 _ _ kr28
  have kr29 := hxt32 _ _ kr29
  have kr30 := hxt32 _ _ kr30
  have kr31 := hxt32 _ _ kr31
  have hXT := ext_tr hXT hxt32
  have n_8_84 := hnk29 _ (by decide) n_8_84
  have hP : va_P g.1 vcl ([(h0, .inr (6, [.ref q21, .ref q22, .ref q23, .ref q24, .ref q25, .ref q26, .ref q27, .ref q28, .ref q29, .ref q30, .ref q31, .null, .null, .null, .null, .null, .null]))] ++ pl) _ := hP
  have hD : va_D _ ([(h0, .inr (6, [.ref q21, .ref q22, .ref q23, .ref q24, .ref q25, .ref q26, .ref q27, .ref q28, .ref q29, .ref q30, .ref q31, .null, .null, .null, .null, .null, .null]))] ++ pl) := hD
  have hPS := pass_one hPS hnk29 (Or.inl rfl)
  refine va_putF (D := g.1) (ci := 6) (v := .ref q32) (ty := .array .byte) (C := "LatticeKeys$Dsa") (T := T_DA) (N := 17) hx hb hts (wg_ft i_DA) ty_DA k_DA n_DA hown hK hP hD hS 0 rfl rfl 11 (by decide) (hts _ (wg_t kw_176)) (fun _ h9 => h9) rfl hnm rfl (by decide +kernel) rfl rfl (Nat.le_of_ble_eq_true rfl) dDA_init_146 (fun H locs hP hD hS => ?_)
  have hP : va_P g.1 vcl ([(h0, .inr (6, [.ref q21, .ref q22, .ref q23, .ref q24, .ref q25, .ref q26, .ref q27, .ref q28, .ref q29, .ref q30, .ref q31, .ref q32, .null, .null, .null, .null, .null]))] ++ pl) _ := hP
  have hD : va_D _ ([(h0, .inr (6, [.ref q21, .ref q22, .ref q23, .ref q24, .ref q25, .ref q26, .ref q27, .ref q28, .ref q29, .ref q30, .ref q31, .ref q32, .null, .null, .null, .null, .null]))] ++ pl) := hD
  refine lv_aload_n hx hb dDA_init_149 rfl (lv_at hl 0 rfl) ?_
  refine lv_bipush (v := nI 64) hx hb dDA_init_150 (by decide) ?_
  refine ma_newa (ws := [(h0, .inr (6, [.ref q21, .ref q22, .ref q23, .ref q24, .ref q25, .ref q26, .ref q27, .ref q28, .ref q29, .ref q30, .ref q31, .ref q32, .null, .null, .null, .null, .null]))] ++ pl) (atype := .byte) hx hb (hts _ (wg_t kw_72)) rfl hK hP hD hS hA 1 rfl (N' := 64) (a0 := (64, .inl (fun _ => 0))) (fun _ => rfl) (nI_pos (by omega)) (nI_clamp (by omega)) (by show (64) * 1 ≤ 536870912; omega) (Nat.le_of_ble_eq_true rfl) (Nat.le_of_ble_eq_true rfl) dDA_init_152 (fun q33 H hP hD hS => ?_)
  refine W.widen (k := 112) (n := 25822) (by omega) (by omega) ?_
  obtain ⟨T, pl, hxt33, hU, kr33, hO, hP, hD, hnk30⟩ := absorb (X := [(h0, .inr (6, [.ref q21, .ref q22, .ref q23, .ref q24, .ref q25, .ref q26, .ref q27, .ref q28, .ref q29, .ref q30, .ref q31, .ref q32, .null, .null, .null, .null, .null]))]) (1, 64) hP hD hO hU (Or.inl rfl) (fun _ _ _ => ⟨_, rfl, byt_0⟩)
  have kr21 := hxt33 _ _ kr21
  have kr22 := hxt33 _ _ kr22
  have kr23 := hxt33 _ _ kr23
  have kr24 := hxt33 _ _ kr24
  have kr25 := hxt33 _ _ kr25
  have kr26 := hxt33 _ _ kr26
  have kr27 := hxt33 _ _ kr27
  have kr28 := hxt33 _ _ kr28
  have kr29 := hxt33 _ _ kr29
  have kr30 := hxt33 _ _ kr30
  have kr31 := hxt33 _ _ kr31
  have kr32 := hxt33 _ _ kr32
  have hXT := ext_tr hXT hxt33
  have n_8_84 := hnk30 _ (by decide) n_8_84
  have hP : va_P g.1 vcl ([(h0, .inr (6, [.ref q21, .ref q22, .ref q23, .ref q24, .ref q25, .ref q26, .ref q27, .ref q28, .ref q29, .ref q30, .ref q31, .ref q32, .null, .null, .null, .null, .null]))] ++ pl) _ := hP
  have hD : va_D _ ([(h0, .inr (6, [.ref q21, .ref q22, .ref q23, .ref q24, .ref q25, .ref q26, .ref q27, .ref q28, .ref q29, .ref q30, .ref q31, .ref q32, .null, .null, .null, .null, .null]))] ++ pl) := hD
  have hPS := pass_one hPS hnk30 (Or.inl rfl)
  refine va_putF (D := g.1) (ci := 6) (v := .ref q33) (ty := .array .byte) (C := "LatticeKeys$Dsa") (T := T_DA) (N := 17) hx hb hts (wg_ft i_DA) ty_DA k_DA n_DA hown hK hP hD hS 0 rfl rfl 12 (by decide) (hts _ (wg_t kw_177)) (fun _ h9 => h9) rfl hnm rfl (by decide +kernel) rfl rfl (Nat.le_of_ble_eq_true rfl) dDA_init_154 (fun H locs hP hD hS => ?_)
  have hP : va_P g.1 vcl ([(h0, .inr (6, [.ref q21, .ref q22, .ref q23, .ref q24, .ref q25, .ref q26, .ref q27, .ref q28, .ref q29, .ref q30, .ref q31, .ref q32, .ref q33, .null, .null, .null, .null]))] ++ pl) _ := hP
  have hD : va_D _ ([(h0, .inr (6, [.ref q21, .ref q22, .ref q23, .ref q24, .ref q25, .ref q26, .ref q27, .ref q28, .ref q29, .ref q30, .ref q31, .ref q32, .ref q33, .null, .null, .null, .null]))] ++ pl) := hD
  refine lv_aload_n hx hb dDA_init_157 rfl (lv_at hl 0 rfl) ?_
  refine lv_bipush (v := nI 64) hx hb dDA_init_158 (by decide) ?_
  refine ma_newa (ws := [(h0, .inr (6, [.ref q21, .ref q22, .ref q23, .ref q24, .ref q25, .ref q26, .ref q27, .ref q28, .ref q29, .ref q30, .ref q31, .ref q32, .ref q33, .null, .null, .null, .null]))] ++ pl) (atype := .byte) hx hb (hts _ (wg_t kw_72)) rfl hK hP hD hS hA 1 rfl (N' := 64) (a0 := (64, .inl (fun _ => 0))) (fun _ => rfl) (nI_pos (by omega)) (nI_clamp (by omega)) (by show (64) * 1 ≤ 536870912; omega) (Nat.le_of_ble_eq_true rfl) (Nat.le_of_ble_eq_true rfl) dDA_init_160 (fun q34 H hP hD hS => ?_)
  refine W.widen (k := 113) (n := 25886) (by omega) (by omega) ?_
  obtain ⟨T, pl, hxt34, hU, kr34, hO, hP, hD, hnk31⟩ := absorb (X := [(h0, .inr (6, [.ref q21, .ref q22, .ref q23, .ref q24, .ref q25, .ref q26, .ref q27, .ref q28, .ref q29, .ref q30, .ref q31, .ref q32, .ref q33, .null, .null, .null, .null]))]) (1, 64) hP hD hO hU (Or.inl rfl) (fun _ _ _ => ⟨_, rfl, byt_0⟩)
  have kr21 := hxt34 _ _ kr21
  have kr22 := hxt34 _ _ kr22
  have kr23 := hxt34 _ _ kr23
  have kr24 := hxt34 _ _ kr24
  have kr25 := hxt34 _ _ kr25
  have kr26 := hxt34 _ _ kr26
  have kr27 := hxt34 _ _ kr27
  have kr28 := hxt34 _ _ kr28
  have kr29 := hxt34 _ _ kr29
  have kr30 := hxt34 _ _ kr30
  have kr31 := hxt34 _ _ kr31
  have kr32 := hxt34 _ _ kr32
  have kr33 := hxt34 _ _ kr33
  have hXT := ext_tr hXT hxt34
  have n_8_84 := hnk31 _ (by decide) n_8_84
  have hP : va_P g.1 vcl ([(h0, .inr (6, [.ref q21, .ref q22, .ref q23, .ref q24, .ref q25, .ref q26, .ref q27, .ref q28, .ref q29, .ref q30, .ref q31, .ref q32, .ref q33, .null, .null, .null, .null]))] ++ pl) _ := hP
  have hD : va_D _ ([(h0, .inr (6, [.ref q21, .ref q22, .ref q23, .ref q24, .ref q25, .ref q26, .ref q27, .ref q28, .ref q29, .ref q30, .ref q31, .ref q32, .ref q33, .null, .null, .null, .null]))] ++ pl) := hD
  have hPS := pass_one hPS hnk31 (Or.inl rfl)
  refine va_putF (D := g.1) (ci := 6) (v := .ref q34) (ty := .array .byte) (C := "LatticeKeys$Dsa") (T := T_DA) (N := 17) hx hb hts (wg_ft i_DA) ty_DA k_DA n_DA hown hK hP hD hS 0 rfl rfl 13 (by decide) (hts _ (wg_t kw_178)) (fun _ h9 => h9) rfl hnm rfl (by decide +kernel) rfl rfl (Nat.le_of_ble_eq_true rfl) dDA_init_162 (fun H locs hP hD hS => ?_)
  have hP : va_P g.1 vcl ([(h0, .inr (6, [.ref q21, .ref q22, .ref q23, .ref q24, .ref q25, .ref q26, .ref q27, .ref q28, .ref q29, .ref q30, .ref q31, .ref q32, .ref q33, .ref q34, .null, .null, .null]))] ++ pl) _ := hP
  have hD : va_D _ ([(h0, .inr (6, [.ref q21, .ref q22, .ref q23, .ref q24, .ref q25, .ref q26, .ref q27, .ref q28, .ref q29, .ref q30, .ref q31, .ref q32, .ref q33, .ref q34, .null, .null, .null]))] ++ pl) := hD
  refine lv_aload_n hx hb dDA_init_165 rfl (lv_at hl 0 rfl) ?_
  refine lv_bipush (v := nI 64) hx hb dDA_init_166 (by decide) ?_
  refine ma_newa (ws := [(h0, .inr (6, [.ref q21, .ref q22, .ref q23, .ref q24, .ref q25, .ref q26, .ref q27, .ref q28, .ref q29, .ref q30, .ref q31, .ref q32, .ref q33, .ref q34, .null, .null, .null]))] ++ pl) (atype := .byte) hx hb (hts _ (wg_t kw_72)) rfl hK hP hD hS hA 1 rfl (N' := 64) (a0 := (64, .inl (fun _ => 0))) (fun _ => rfl) (nI_pos (by omega)) (nI_clamp (by omega)) (by show (64) * 1 ≤ 536870912; omega) (Nat.le_of_ble_eq_true rfl) (Nat.le_of_ble_eq_true rfl) dDA_init_168 (fun q35 H hP hD hS => ?_)
  refine W.widen (k := 114) (n := 25950) (by omega) (by omega) ?_
  obtain ⟨T, pl, hxt35, hU, kr35, hO, hP, hD, hnk32⟩ := absorb (X := [(h0, .inr (6, [.ref q21, .ref q22, .ref q23, .ref q24, .ref q25, .ref q26, .ref q27, .ref q28, .ref q29, .ref q30, .ref q31, .ref q32, .ref q33, .ref q34, .null, .null, .null]))]) (1, 64) hP hD hO hU (Or.inl rfl) (fun _ _ _ => ⟨_, rfl, byt_0⟩)
  have kr21 := hxt35 _ _ kr21
  have kr22 := hxt35 _ _ kr22
  have kr23 := hxt35 _ _ kr23
  have kr24 := hxt35 _ _ kr24
  have kr25 := hxt35 _ _ kr25
  have kr26 := hxt35 _ _ kr26
  have kr27 := hxt35 _ _ kr27
  have kr28 := hxt35 _ _ kr28
  have kr29 := hxt35 _ _ kr29
  have kr30 := hxt35 _ _ kr30
  have kr31 := hxt35 _ _ kr31
  have kr32 := hxt35 _ _ kr32
  have kr33 := hxt35 _ _ kr33
  have kr34 := hxt35 _ _ kr34
  have hXT := ext_tr hXT hxt35
  have n_8_84 := hnk32 _ (by decide) n_8_84
  have hP : va_P g.1 vcl ([(h0, .inr (6, [.ref q21, .ref q22, .ref q23, .ref q24, .ref q25, .ref q26, .ref q27, .ref q28, .ref q29, .ref q30, .ref q31, .ref q32, .ref q33, .ref q34, .null, .null, .null]))] ++ pl) _ := hP
  have hD : va_D _ ([(h0, .inr (6, [.ref q21, .ref q22, .ref q23, .ref q24, .ref q25, .ref q26, .ref q27, .ref q28, .ref q29, .ref q30, .ref q31, .ref q32, .ref q33, .ref q34, .null, .null, .null]))] ++ pl) := hD
  have hPS := pass_one hPS hnk32 (Or.inl rfl)
  refine va_putF (D := g.1) (ci := 6) (v := .ref q35) (ty := .array .byte) (C := "LatticeKeys$Dsa") (T := T_DA) (N := 17) hx hb hts (wg_ft i_DA) ty_DA k_DA n_DA hown hK hP hD hS 0 rfl rfl 14 (by decide) (hts _ (wg_t kw_179)) (fun _ h9 => h9) rfl hnm rfl (by decide +kernel) rfl rfl (Nat.le_of_ble_eq_true rfl) dDA_init_170 (fun H locs hP hD hS => ?_)
  have hP : va_P g.1 vcl ([(h0, .inr (6, [.ref q21, .ref q22, .ref q23, .ref q24, .ref q25, .ref q26, .ref q27, .ref q28, .ref q29, .ref q30, .ref q31, .ref q32, .ref q33, .ref q34, .ref q35, .null, .null]))] ++ pl) _ := hP
  have hD : va_D _ ([(h0, .inr (6, [.ref q21, .ref q22, .ref q23, .ref q24, .ref q25, .ref q26, .ref q27, .ref q28, .ref q29, .ref q30, .ref q31, .ref q32, .ref q33, .ref q34, .ref q35, .null, .null]))] ++ pl) := hD
  refine lv_aload_n hx hb dDA_init_173 rfl (lv_at hl 0 rfl) ?_
  refine lv_bipush (v := nI 84) hx hb dDA_init_174 (by decide) ?_
  refine ma_newa (ws := [(h0, .inr (6, [.ref q21, .ref q22, .ref q23, .ref q24, .ref q25, .ref q26, .ref q27, .ref q28, .ref q29, .ref q30, .ref q31, .ref q32, .ref q33, .ref q34, .ref q35, .null, .null]))] ++ pl) (atype := .byte) hx hb (hts _ (wg_t kw_72)) rfl hK hP hD hS hA 1 rfl (N' := 84) (a0 := (84, .inl (fun _ => 0))) (fun _ => rfl) (nI_pos (by omega)) (nI_clamp (by omega)) (by show (84) * 1 ≤ 536870912; omega) (Nat.le_of_ble_eq_true rfl) (Nat.le_of_ble_eq_true rfl) dDA_init_176 (fun q36 H hP hD hS => ?_)
  refine W.widen (k := 115) (n := 26034) (by omega) (by omega) ?_
  obtain ⟨T, pl, hxt36, hU, kr36, hO, hP, hD, hnk33⟩ := absorb (X := [(h0, .inr (6, [.ref q21, .ref q22, .ref q23, .ref q24, .ref q25, .ref q26, .ref q27, .ref q28, .ref q29, .ref q30, .ref q31, .ref q32, .ref q33, .ref q34, .ref q35, .null, .null]))]) (8, 84) hP hD hO hU (Or.inr n_8_84) (fun _ _ _ => ⟨_, rfl, byt_0⟩)
  have kr21 := hxt36 _ _ kr21
  have kr22 := hxt36 _ _ kr22
  have kr23 := hxt36 _ _ kr23
  have kr24 := hxt36 _ _ kr24
  have kr25 := hxt36 _ _ kr25
  have kr26 := hxt36 _ _ kr26
  have kr27 := hxt36 _ _ kr27
  have kr28 := hxt36 _ _ kr28
  have kr29 := hxt36 _ _ kr29
  have kr30 := hxt36 _ _ kr30
  have kr31 := hxt36 _ _ kr31
  have kr32 := hxt36 _ _ kr32
  have kr33 := hxt36 _ _ kr33
  have kr34 := hxt36 _ _ kr34
  have kr35 := hxt36 _ _ kr35
  have hXT := ext_tr hXT hxt36
  have hP : va_P g.1 vcl ([(h0, .inr (6, [.ref q21, .ref q22, .ref q23, .ref q24, .ref q25, .ref q26, .ref q27, .ref q28, .ref q29, .ref q30, .ref q31, .ref q32, .ref q33, .ref q34, .ref q35, .null, .null]))] ++ pl) _ := hP
  have hD : va_D _ ([(h0, .inr (6, [.ref q21, .ref q22, .ref q23, .ref q24, .ref q25, .ref q26, .ref q27, .ref q28, .ref q29, .ref q30, .ref q31, .ref q32, .ref q33, .ref q34, .ref q35, .null, .null]))] ++ pl) := hD
  have hPS := pass_one hPS hnk33 (Or.inr (by decide))
  refine va_putF (D := g.1) (ci := 6) (v := .ref q36) (ty := .array .byte) (C := "LatticeKeys$Dsa") (T := T_DA) (N := 17) hx hb hts (wg_ft i_DA) ty_DA k_DA n_DA hown hK hP hD hS 0 rfl rfl 15 (by decide) (hts _ (wg_t kw_180)) (fun _ h9 => h9) rfl hnm rfl (by decide +kernel) rfl rfl (Nat.le_of_ble_eq_true rfl) dDA_init_178 (fun H locs hP hD hS => ?_)
  have hP : va_P g.1 vcl ([(h0, .inr (6, [.ref q21, .ref q22, .ref q23, .ref q24, .ref q25, .ref q26, .ref q27, .ref q28, .ref q29, .ref q30, .ref q31, .ref q32, .ref q33, .ref q34, .ref q35, .ref q36, .null]))] ++ pl) _ := hP
  have hD : va_D _ ([(h0, .inr (6, [.ref q21, .ref q22, .ref q23, .ref q24, .ref q25, .ref q26, .ref q27, .ref q28, .ref q29, .ref q30, .ref q31, .ref q32, .ref q33, .ref q34, .ref q35, .ref q36, .null]))] ++ pl) := hD
  refine lv_aload_n hx hb dDA_init_181 rfl (lv_at hl 0 rfl) ?_
  refine lv_sipush (v := nI 192) hx hb dDA_init_182 (by decide) ?_
  refine ma_newa (ws := [(h0, .inr (6, [.ref q21, .ref q22, .ref q23, .ref q24, .ref q25, .ref q26, .ref q27, .ref q28, .ref q29, .ref q30, .ref q31, .ref q32, .ref q33, .ref q34, .ref q35, .ref q36, .null]))] ++ pl) (atype := .byte) hx hb (hts _ (wg_t kw_72)) rfl hK hP hD hS hA 1 rfl (N' := 192) (a0 := (192, .inl (fun _ => 0))) (fun _ => rfl) (nI_pos (by omega)) (nI_clamp (by omega)) (by show (192) * 1 ≤ 536870912; omega) (Nat.le_of_ble_eq_true rfl) (Nat.le_of_ble_eq_true rfl) dDA_init_185 (fun q37 H hP hD hS => ?_)
  refine W.widen (k := 116) (n := 26226) (by omega) (by omega) ?_
  obtain ⟨T, pl, hxt37, hU, kr37, hO, hP, hD, hnk34⟩ := absorb (X := [(h0, .inr (6, [.ref q21, .ref q22, .ref q23, .ref q24, .ref q25, .ref q26, .ref q27, .ref q28, .ref q29, .ref q30, .ref q31, .ref q32, .ref q33, .ref q34, .ref q35, .ref q36, .null]))]) (1, 192) hP hD hO hU (Or.inl rfl) (fun _ _ _ => ⟨_, rfl, byt_0⟩)
  have kr21 := hxt37 _ _ kr21
  have kr22 := hxt37 _ _ kr22
  have kr23 := hxt37 _ _ kr23
  have kr24 := hxt37 _ _ kr24
  have kr25 := hxt37 _ _ kr25
  have kr26 := hxt37 _ _ kr26
  have kr27 := hxt37 _ _ kr27
  have kr28 := hxt37 _ _ kr28
  have kr29 := hxt37 _ _ kr29
  have kr30 := hxt37 _ _ kr30
  have kr31 := hxt37 _ _ kr31
  have kr32 := hxt37 _ _ kr32
  have kr33 := hxt37 _ _ kr33
  have kr34 := hxt37 _ _ kr34
  have kr35 := hxt37 _ _ kr35
  have kr36 := hxt37 _ _ kr36
  have hXT := ext_tr hXT hxt37
  have hP : va_P g.1 vcl ([(h0, .inr (6, [.ref q21, .ref q22, .ref q23, .ref q24, .ref q25, .ref q26, .ref q27, .ref q28, .ref q29, .ref q30, .ref q31, .ref q32, .ref q33, .ref q34, .ref q35, .ref q36, .null]))] ++ pl) _ := hP
  have hD : va_D _ ([(h0, .inr (6, [.ref q21, .ref q22, .ref q23, .ref q24, .ref q25, .ref q26, .ref q27, .ref q28, .ref q29, .ref q30, .ref q31, .ref q32, .ref q33, .ref q34, .ref q35, .ref q36, .null]))] ++ pl) := hD
  have hPS := pass_one hPS hnk34 (Or.inl rfl)
  refine va_putF (D := g.1) (ci := 6) (v := .ref q37) (ty := .array .byte) (C := "LatticeKeys$Dsa") (T := T_DA) (N := 17) hx hb hts (wg_ft i_DA) ty_DA k_DA n_DA hown hK hP hD hS 0 rfl rfl 16 (by decide) (hts _ (wg_t kw_181)) (fun _ h9 => h9) rfl hnm rfl (by decide +kernel) rfl rfl (Nat.le_of_ble_eq_true rfl) dDA_init_187 (fun H locs hP hD hS => ?_)
  have hP : va_P g.1 vcl ([(h0, .inr (6, [.ref q21, .ref q22, .ref q23, .ref q24, .ref q25, .ref q26, .ref q27, .ref q28, .ref q29, .ref q30, .ref q31, .ref q32, .ref q33, .ref q34, .ref q35, .ref q36, .ref q37]))] ++ pl) _ := hP
  have hD : va_D _ ([(h0, .inr (6, [.ref q21, .ref q22, .ref q23, .ref q24, .ref q25, .ref q26, .ref q27, .ref q28, .ref q29, .ref q30, .ref q31, .ref q32, .ref q33, .ref q34, .ref q35, .ref q36, .ref q37]))] ++ pl) := hD
  obtain ⟨hP, hD⟩ := mv_last (X := []) (c := (h0, .inr (6, [.ref q21, .ref q22, .ref q23, .ref q24, .ref q25, .ref q26, .ref q27, .ref q28, .ref q29, .ref q30, .ref q31, .ref q32, .ref q33, .ref q34, .ref q35, .ref q36, .ref q37]))) hP hD
  obtain ⟨T, pl, hxt38, hU, kr38, hO, hP, hD, hnk35⟩ := absorb (X := []) (15, 0) hP hD hO hU (Or.inl rfl) (fun T9 h9 _ => ⟨_, rfl, ⟨_, rfl, h9 _ _ kr21⟩, ⟨_, rfl, h9 _ _ kr22⟩, ⟨_, rfl, h9 _ _ kr23⟩, ⟨_, rfl, h9 _ _ kr24⟩, ⟨_, rfl, h9 _ _ kr25⟩, ⟨_, rfl, h9 _ _ kr26⟩, ⟨_, rfl, h9 _ _ kr27⟩, ⟨_, rfl, h9 _ _ kr28⟩, ⟨_, rfl, h9 _ _ kr29⟩, ⟨_, rfl, h9 _ _ kr30⟩, ⟨_, rfl, h9 _ _ kr31⟩, ⟨_, rfl, h9 _ _ kr32⟩, ⟨_, rfl, h9 _ _ kr33⟩, ⟨_, rfl, h9 _ _ kr34⟩, ⟨_, rfl, h9 _ _ kr35⟩, ⟨_, rfl, h9 _ _ kr36⟩, ⟨_, rfl, h9 _ _ kr37⟩, trivial⟩)
  have kr21 := hxt38 _ _ kr21
  have kr22 := hxt38 _ _ kr22
  have kr23 := hxt38 _ _ kr23
  have kr24 := hxt38 _ _ kr24
  have kr25 := hxt38 _ _ kr25
  have kr26 := hxt38 _ _ kr26
  have kr27 := hxt38 _ _ kr27
  have kr28 := hxt38 _ _ kr28
  have kr29 := hxt38 _ _ kr29
  have kr30 := hxt38 _ _ kr30
  have kr31 := hxt38 _ _ kr31
  have kr32 := hxt38 _ _ kr32
  have kr33 := hxt38 _ _ kr33
  have kr34 := hxt38 _ _ kr34
  have kr35 := hxt38 _ _ kr35
  have kr36 := hxt38 _ _ kr36
  have kr37 := hxt38 _ _ kr37
  have hXT := ext_tr hXT hxt38
  have hP : va_P g.1 vcl ([] ++ pl) _ := hP
  have hD : va_D _ ([] ++ pl) := hD
  have hPS := pass_one hPS hnk35 (Or.inl rfl)
  exact mp_vret hx hb hr hlk hP hD hS (T, pl) ⟨⟨hXT, hU, kr38, hPS⟩, hO⟩ [] rfl rfl rfl (by omega) (by omega) dDA_init_190
set_option maxHeartbeats 4000000 in
set_option maxRecDepth 100000 in
theorem t_K_init (l : Launch) (g : Gd) (sz : Nat) (T0 : Ty) (pl : va_W) (hO : okx g T0 [] pl) (hU : uni T0) (h0 : Nat) (n_10_0 : nk T0 (10, 0)) (n_19_0 : nk T0 (19, 0)) (n_10_1 : nk T0 (10, 1)) (n_19_1 : nk T0 (19, 1)) (n_10_2 : nk T0 (10, 2)) (n_19_2 : nk T0 (19, 2)) (n_10_3 : nk T0 (10, 3)) (n_19_3 : nk T0 (19, 3)) (n_8_84 : nk T0 (8, 84))  : Met l y_K_init w_K_init ({ frames := 4, cells := 147, slots := 54542, locals := 100 } : Room) (va_Pc [.ref h0] (pr (en g) g.1 vcl sz ([(h0, .inr (0, [.null, .int 0, .null, .int 0, .null, .int 0, .null, .null, .null, .null, .null]))] ++ pl))) (va_Qv (fun (u : (Ty × (Nat → Nat)) × va_W) => (ext T0 u.1.1 ∧ uni u.1.1 ∧ pass T0 u.1.1 [(10, 0), (19, 0), (10, 1), (19, 1), (10, 2), (19, 2), (10, 3), (19, 3), (8, 84)] ∧ u.1.1 (u.1.2 0) = some (1, 16384) ∧ u.1.1 (u.1.2 1) = some (1, 8192) ∧ u.1.1 (u.1.2 2) = some (6, 0) ∧ u.1.1 (u.1.2 3) = some (50, 0) ∧ u.1.1 (u.1.2 4) = some (51, 0) ∧ u.1.1 (u.1.2 5) = some (10, 0) ∧ u.1.1 (u.1.2 6) = some (13, 0) ∧ u.1.1 (u.1.2 7) = some (15, 0)) ∧ okx g u.1.1 [] u.2) (po g.1 vcl (va_A ([(h0, .inr (0, [.null, .int 0, .null, .int 0, .null, .int 0, .null, .null, .null, .null, .null]))] ++ pl) sz) (fun (u : (Ty × (Nat → Nat)) × va_W) => [(h0, .inr (0, [.ref ((u.1.2 0)), .int (nI 0), .ref ((u.1.2 1)), .int (nI 0), .ref ((u.1.2 2)), .int (nI 0), .ref ((u.1.2 3)), .ref ((u.1.2 4)), .ref ((u.1.2 5)), .ref ((u.1.2 6)), .ref ((u.1.2 7))]))] ++ u.2)) (va_A ([(h0, .inr (0, [.null, .int 0, .null, .int 0, .null, .int 0, .null, .null, .null, .null, .null]))] ++ pl) sz)) 147 54542 (va_A ([(h0, .inr (0, [.null, .int 0, .null, .int 0, .null, .int 0, .null, .null, .null, .null, .null]))] ++ pl) sz) := by
  refine mc_entry (cc := c_K_init) (maxL := 2) (ret := none) (by decide) rfl (Nat.le_of_ble_eq_true rfl) ?_
  intro p e s m args below meth c ls F hr hlk hnm hsz hP hD hE hA hl
  obtain ⟨hx, hb, hml, hown, hts⟩ := id F
  have hK := hE.1
  generalize va_A ([(h0, .inr (0, [.null, .int 0, .null, .int 0, .null, .int 0, .null, .null, .null, .null, .null]))] ++ pl) sz = A at hD hE hA ⊢
  obtain ⟨T, hXT, hPS, hO, hU, n_10_0, n_19_0, n_10_1, n_19_1, n_10_2, n_19_2, n_10_3, n_19_3, n_8_84⟩ : ∃ T, ext T0 T ∧ pass T0 T [(10, 0), (19, 0), (10, 1), (19, 1), (10, 2), (19, 2), (10, 3), (19, 3), (8, 84)] ∧ okx g T [] pl ∧ uni T ∧ nk T (10, 0) ∧ nk T (19, 0) ∧ nk T (10, 1) ∧ nk T (19, 1) ∧ nk T (10, 2) ∧ nk T (19, 2) ∧ nk T (10, 3) ∧ nk T (19, 3) ∧ nk T (8, 84) := ⟨T0, ext_rf, pass_rf, hO, hU, n_10_0, n_19_0, n_10_1, n_19_1, n_10_2, n_19_2, n_10_3, n_19_3, n_8_84⟩
  have hS : va_S A s.heap s.heap [] := va_S.rf
  have hl : lv_has ls 2 [(0, .ref h0)] := hl
  refine lv_aload_n hx hb dK_init_0 rfl (lv_at hl 0 rfl) ?_
  refine W.objInit hx hb hown (hts _ (wg_t kw_40)) (hts _ (wg_t kw_41)) (hts _ (wg_t kobj)) rfl (by rw [hml]; exact hl.1) rfl dK_init_1 (Nat.le_of_ble_eq_true rfl) (Nat.le_of_ble_eq_true rfl) ?_
  refine W.eq (g2 := F0 m 4 ls []) rfl ?_
  refine lv_aload_n hx hb dK_init_4 rfl (lv_at hl 0 rfl) ?_
  refine lv_sipush (v := nI 16384) hx hb dK_init_5 (by decide) ?_
  refine ma_newa (ws := [(h0, .inr (0, [.null, .int 0, .null, .int 0, .null, .int 0, .null, .null, .null, .null, .null]))] ++ pl) (atype := .byte) hx hb (hts _ (wg_t kw_72)) rfl hK hP hD hS hA 1 rfl (N' := 16384) (a0 := (16384, .inl (fun _ => 0))) (fun _ => rfl) (nI_pos (by omega)) (nI_clamp (by omega)) (by show (16384) * 1 ≤ 536870912; omega) (Nat.le_of_ble_eq_true rfl) (Nat.le_of_ble_eq_true rfl) dK_init_8 (fun q21 H hP hD hS => ?_)
  refine W.widen (k := 1) (n := 16384) (by omega) (by omega) ?_
  obtain ⟨T, pl, hxt21, hU, kr21, hO, hP, hD, hnk21⟩ := absorb (X := [(h0, .inr (0, [.null, .int 0, .null, .int 0, .null, .int 0, .null, .null, .null, .null, .null]))]) (1, 16384) hP hD hO hU (Or.inl rfl) (fun _ _ _ => ⟨_, rfl, byt_0⟩)
  have hXT := ext_tr hXT hxt21
  have n_10_0 := hnk21 _ (by decide) n_10_0
  have n_19_0 := hnk21 _ (by decide) n_19_0
  have n_10_1 := hnk21 _ (by decide) n_10_1
  have n_19_1 := hnk21 _ (by decide) n_19_1
  have n_10_2 := hnk21 _ (by decide) n_10_2
  have n_19_2 := hnk21 _ (by decide) n_19_2
  have n_10_3 := hnk21 _ (by decide) n_10_3
  have n_19_3 := hnk21 _ (by decide) n_19_3
  have n_8_84 := hnk21 _ (by decide) n_8_84
  have hP : va_P g.1 vcl ([(h0, .inr (0, [.null, .int 0, .null, .int 0, .null, .int 0, .null, .null, .null, .null, .null]))] ++ pl) _ := hP
  have hD : va_D _ ([(h0, .inr (0, [.null, .int 0, .null, .int 0, .null, .int 0, .null, .null, .null, .null, .null]))] ++ pl) := hD
  have hPS := pass_one hPS hnk21 (Or.inl rfl)
  refine va_putF (D := g.1) (ci := 0) (v := .ref q21) (ty := .array .byte) (C := "LatticeKeys") (T := T_K) (N := 11) hx hb hts (wg_ft i_K) ty_K k_K n_K hown hK hP hD hS 0 rfl rfl 0 (by decide) (hts _ (wg_t kw_374)) (fun _ h9 => h9) rfl hnm rfl (by decide +kernel) rfl rfl (Nat.le_of_ble_eq_true rfl) dK_init_10 (fun H locs hP hD hS => ?_)
  have hP : va_P g.1 vcl ([(h0, .inr (0, [.ref q21, .int 0, .null, .int 0, .null, .int 0, .null, .null, .null, .null, .null]))] ++ pl) _ := hP
  have hD : va_D _ ([(h0, .inr (0, [.ref q21, .int 0, .null, .int 0, .null, .int 0, .null, .null, .null, .null, .null]))] ++ pl) := hD
  refine lv_aload_n hx hb dK_init_13 rfl (lv_at hl 0 rfl) ?_
  refine lv_iconst (v := nI 0) hx hb dK_init_14 (by decide) ?_
  refine va_put (D := g.1) (ci := 0) (v := .int (nI 0)) (ty := .int) (C := "LatticeKeys") (T := T_K) (N := 11) hx hb hts (wg_ft i_K) ty_K k_K n_K hown hK hP hD hS 0 rfl rfl 1 (by decide) (hts _ (wg_t kw_375)) (fun _ h9 => h9) rfl (by decide +kernel) rfl rfl (Nat.le_of_ble_eq_true rfl) dK_init_15 (fun H locs hP hD hS => ?_)
  have hP : va_P g.1 vcl ([(h0, .inr (0, [.ref q21, .int (nI 0), .null, .int 0, .null, .int 0, .null, .null, .null, .null, .null]))] ++ pl) _ := hP
  have hD : va_D _ ([(h0, .inr (0, [.ref q21, .int (nI 0), .null, .int 0, .null, .int 0, .null, .null, .null, .null, .null]))] ++ pl) := hD
  refine lv_aload_n hx hb dK_init_18 rfl (lv_at hl 0 rfl) ?_
  refine lv_sipush (v := nI 8192) hx hb dK_init_19 (by decide) ?_
  refine ma_newa (ws := [(h0, .inr (0, [.ref q21, .int (nI 0), .null, .int 0, .null, .int 0, .null, .null, .null, .null, .null]))] ++ pl) (atype := .byte) hx hb (hts _ (wg_t kw_72)) rfl hK hP hD hS hA 1 rfl (N' := 8192) (a0 := (8192, .inl (fun _ => 0))) (fun _ => rfl) (nI_pos (by omega)) (nI_clamp (by omega)) (by show (8192) * 1 ≤ 536870912; omega) (Nat.le_of_ble_eq_true rfl) (Nat.le_of_ble_eq_true rfl) dK_init_22 (fun q22 H hP hD hS => ?_)
  refine W.widen (k := 2) (n := 24576) (by omega) (by omega) ?_
  obtain ⟨T, pl, hxt22, hU, kr22, hO, hP, hD, hnk22⟩ := absorb (X := [(h0, .inr (0, [.ref q21, .int (nI 0), .null, .int 0, .null, .int 0, .null, .null, .null, .null, .null]))]) (1, 8192) hP hD hO hU (Or.inl rfl) (fun _ _ _ => ⟨_, rfl, byt_0⟩)
  have kr21 := hxt22 _ _ kr21
  have hXT := ext_tr hXT hxt22
  have n_10_0 := hnk22 _ (by decide) n_10_0
  have n_19_0 := hnk22 _ (by decide) n_19_0
  have n_10_1 := hnk22 _ (by decide) n_10_1
  have n_19_1 := hnk22 _ (by decide) n_19_1
  have n_10_2 := hnk22 _ (by decide) n_10_2
  have n_19_2 := hnk22 _ (by decide) n_19_2
  have n_10_3 := hnk22 _ (by decide) n_10_3
  have n_19_3 := hnk22 _ (by decide) n_19_3
  have n_8_84 := hnk22 _ (by decide) n_8_84
  have hP : va_P g.1 vcl ([(h0, .inr (0, [.ref q21, .int (nI 0), .null, .int 0, .null, .int 0, .null, .null, .null, .null, .null]))] ++ pl) _ := hP
  have hD : va_D _ ([(h0, .inr (0, [.ref q21, .int (nI 0), .null, .int 0, .null, .int 0, .null, .null, .null, .null, .null]))] ++ pl) := hD
  have hPS := pass_one hPS hnk22 (Or.inl rfl)
  refine va_putF (D := g.1) (ci := 0) (v := .ref q22) (ty := .array .byte) (C := "LatticeKeys") (T := T_K) (N := 11) hx hb hts (wg_ft i_K) ty_K k_K n_K hown hK hP hD hS 0 rfl rfl 2 (by decide) (hts _ (wg_t kw_376)) (fun _ h9 => h9) rfl hnm rfl (by decide +kernel) rfl rfl (Nat.le_of_ble_eq_true rfl) dK_init_24 (fun H locs hP hD hS => ?_)
  have hP : va_P g.1 vcl ([(h0, .inr (0, [.ref q21, .int (nI 0), .ref q22, .int 0, .null, .int 0, .null, .null, .null, .null, .null]))] ++ pl) _ := hP
  have hD : va_D _ ([(h0, .inr (0, [.ref q21, .int (nI 0), .ref q22, .int 0, .null, .int 0, .null, .null, .null, .null, .null]))] ++ pl) := hD
  refine lv_aload_n hx hb dK_init_27 rfl (lv_at hl 0 rfl) ?_
  refine lv_iconst (v := nI 0) hx hb dK_init_28 (by decide) ?_
  refine va_put (D := g.1) (ci := 0) (v := .int (nI 0)) (ty := .int) (C := "LatticeKeys") (T := T_K) (N := 11) hx hb hts (wg_ft i_K) ty_K k_K n_K hown hK hP hD hS 0 rfl rfl 3 (by decide) (hts _ (wg_t kw_377)) (fun _ h9 => h9) rfl (by decide +kernel) rfl rfl (Nat.le_of_ble_eq_true rfl) dK_init_29 (fun H locs hP hD hS => ?_)
  have hP : va_P g.1 vcl ([(h0, .inr (0, [.ref q21, .int (nI 0), .ref q22, .int (nI 0), .null, .int 0, .null, .null, .null, .null, .null]))] ++ pl) _ := hP
  have hD : va_D _ ([(h0, .inr (0, [.ref q21, .int (nI 0), .ref q22, .int (nI 0), .null, .int 0, .null, .null, .null, .null, .null]))] ++ pl) := hD
  refine lv_aload_n hx hb dK_init_32 rfl (lv_at hl 0 rfl) ?_
  refine lv_bipush (v := nI 8) hx hb dK_init_33 (by decide) ?_
  refine ma_newq (ws := [(h0, .inr (0, [.ref q21, .int (nI 0), .ref q22, .int (nI 0), .null, .int 0, .null, .null, .null, .null, .null]))] ++ pl) 5 hx hb hown (hts _ (wg_t kw_43)) hE.2.2.1 hK hP hD hS hA rfl (N' := 8) (by decide) (by decide) (by decide) (Nat.le_of_ble_eq_true rfl) (Nat.le_of_ble_eq_true rfl) dK_init_35 (fun q23 H hP hD hS => ?_)
  refine W.widen (k := 3) (n := 24584) (by omega) (by omega) ?_
  obtain ⟨T, pl, hxt23, hU, kr23, hO, hP, hD, hnk23⟩ := absorb (X := [(h0, .inr (0, [.ref q21, .int (nI 0), .ref q22, .int (nI 0), .null, .int 0, .null, .null, .null, .null, .null]))]) (6, 0) hP hD hO hU (Or.inl rfl) (fun _ _ _ => ⟨_, rfl, fun j _ r h8 => nomatch h8⟩)
  have kr21 := hxt23 _ _ kr21
  have kr22 := hxt23 _ _ kr22
  have hXT := ext_tr hXT hxt23
  have n_10_0 := hnk23 _ (by decide) n_10_0
  have n_19_0 := hnk23 _ (by decide) n_19_0
  have n_10_1 := hnk23 _ (by decide) n_10_1
  have n_19_1 := hnk23 _ (by decide) n_19_1
  have n_10_2 := hnk23 _ (by decide) n_10_2
  have n_19_2 := hnk23 _ (by decide) n_19_2
  have n_10_3 := hnk23 _ (by decide) n_10_3
  have n_19_3 := hnk23 _ (by decide) n_19_3
  have n_8_84 := hnk23 _ (by decide) n_8_84
  have hP : va_P g.1 vcl ([(h0, .inr (0, [.ref q21, .int (nI 0), .ref q22, .int (nI 0), .null, .int 0, .null, .null, .null, .null, .null]))] ++ pl) _ := hP
  have hD : va_D _ ([(h0, .inr (0, [.ref q21, .int (nI 0), .ref q22, .int (nI 0), .null, .int 0, .null, .null, .null, .null, .null]))] ++ pl) := hD
  have hPS := pass_one hPS hnk23 (Or.inl rfl)
  refine va_putF (D := g.1) (ci := 0) (v := .ref q23) (ty := .array (.object "LatticeKeys$KeyPair")) (C := "LatticeKeys") (T := T_K) (N := 11) hx hb hts (wg_ft i_K) ty_K k_K n_K hown hK hP hD hS 0 rfl rfl 4 (by decide) (hts _ (wg_t kw_378)) (fun _ h9 => h9) rfl hnm rfl (by decide +kernel) rfl rfl (Nat.le_of_ble_eq_true rfl) dK_init_38 (fun H locs hP hD hS => ?_)
  have hP : va_P g.1 vcl ([(h0, .inr (0, [.ref q21, .int (nI 0), .ref q22, .int (nI 0), .ref q23, .int 0, .null, .null, .null, .null, .null]))] ++ pl) _ := hP
  have hD : va_D _ ([(h0, .inr (0, [.ref q21, .int (nI 0), .ref q22, .int (nI 0), .ref q23, .int 0, .null, .null, .null, .null, .null]))] ++ pl) := hD
  refine lv_aload_n hx hb dK_init_41 rfl (lv_at hl 0 rfl) ?_
  refine lv_iconst (v := nI 0) hx hb dK_init_42 (by decide) ?_
  refine va_put (D := g.1) (ci := 0) (v := .int (nI 0)) (ty := .int) (C := "LatticeKeys") (T := T_K) (N := 11) hx hb hts (wg_ft i_K) ty_K k_K n_K hown hK hP hD hS 0 rfl rfl 5 (by decide) (hts _ (wg_t kw_379)) (fun _ h9 => h9) rfl (by decide +kernel) rfl rfl (Nat.le_of_ble_eq_true rfl) dK_init_43 (fun H locs hP hD hS => ?_)
  have hP : va_P g.1 vcl ([(h0, .inr (0, [.ref q21, .int (nI 0), .ref q22, .int (nI 0), .ref q23, .int (nI 0), .null, .null, .null, .null, .null]))] ++ pl) _ := hP
  have hD : va_D _ ([(h0, .inr (0, [.ref q21, .int (nI 0), .ref q22, .int (nI 0), .ref q23, .int (nI 0), .null, .null, .null, .null, .null]))] ++ pl) := hD
  refine lv_aload_n hx hb dK_init_46 rfl (lv_at hl 0 rfl) ?_
  refine lv_iconst (v := nI 3) hx hb dK_init_47 (by decide) ?_
  refine ma_newq (ws := [(h0, .inr (0, [.ref q21, .int (nI 0), .ref q22, .int (nI 0), .ref q23, .int (nI 0), .null, .null, .null, .null, .null]))] ++ pl) 3 hx hb hown (hts _ (wg_t kw_45)) hE.2.2.2.1 hK hP hD hS hA rfl (N' := 3) (by decide) (by decide) (by decide) (Nat.le_of_ble_eq_true rfl) (Nat.le_of_ble_eq_true rfl) dK_init_48 (fun q24 H hP hD hS => ?_)
  refine W.widen (k := 4) (n := 24587) (by omega) (by omega) ?_
  obtain ⟨hP, hD⟩ := mv_first hP hD
  have hP : va_P g.1 vcl ([(h0, .inr (0, [.ref q21, .int (nI 0), .ref q22, .int (nI 0), .ref q23, .int (nI 0), .null, .null, .null, .null, .null])), (q24, .inl (g.2.1 3, 3, .inr (.inr (.inr (.inr ((fun _ => none)))))))] ++ pl) _ := hP
  have hD : va_D _ ([(h0, .inr (0, [.ref q21, .int (nI 0), .ref q22, .int (nI 0), .ref q23, .int (nI 0), .null, .null, .null, .null, .null])), (q24, .inl (g.2.1 3, 3, .inr (.inr (.inr (.inr ((fun _ => none)))))))] ++ pl) := hD
  refine va_putF (D := g.1) (ci := 0) (v := .ref q24) (ty := .array (.object "LatticeKeys$KemSet")) (C := "LatticeKeys") (T := T_K) (N := 11) hx hb hts (wg_ft i_K) ty_K k_K n_K hown hK hP hD hS 0 rfl rfl 6 (by decide) (hts _ (wg_t kw_380)) (fun _ h9 => h9) rfl hnm rfl (by decide +kernel) rfl rfl (Nat.le_of_ble_eq_true rfl) dK_init_51 (fun H locs hP hD hS => ?_)
  have hP : va_P g.1 vcl ([(h0, .inr (0, [.ref q21, .int (nI 0), .ref q22, .int (nI 0), .ref q23, .int (nI 0), .ref q24, .null, .null, .null, .null])), (q24, .inl (g.2.1 3, 3, .inr (.inr (.inr (.inr ((fun _ => none)))))))] ++ pl) _ := hP
  have hD : va_D _ ([(h0, .inr (0, [.ref q21, .int (nI 0), .ref q22, .int (nI 0), .ref q23, .int (nI 0), .ref q24, .null, .null, .null, .null])), (q24, .inl (g.2.1 3, 3, .inr (.inr (.inr (.inr ((fun _ => none)))))))] ++ pl) := hD
  refine lv_aload_n hx hb dK_init_54 rfl (lv_at hl 0 rfl) ?_
  refine lv_iconst (v := nI 3) hx hb dK_init_55 (by decide) ?_
  refine ma_newq (ws := [(h0, .inr (0, [.ref q21, .int (nI 0), .ref q22, .int (nI 0), .ref q23, .int (nI 0), .ref q24, .null, .null, .null, .null])), (q24, .inl (g.2.1 3, 3, .inr (.inr (.inr (.inr ((fun _ => none)))))))] ++ pl) 4 hx hb hown (hts _ (wg_t kw_47)) hE.2.2.2.2.1 hK hP hD hS hA rfl (N' := 3) (by decide) (by decide) (by decide) (Nat.le_of_ble_eq_true rfl) (Nat.le_of_ble_eq_true rfl) dK_init_56 (fun q25 H hP hD hS => ?_)
  refine W.widen (k := 5) (n := 24590) (by omega) (by omega) ?_
  obtain ⟨hP, hD⟩ := mv_first hP hD
  have hP : va_P g.1 vcl ([(h0, .inr (0, [.ref q21, .int (nI 0), .ref q22, .int (nI 0), .ref q23, .int (nI 0), .ref q24, .null, .null, .null, .null])), (q24, .inl (g.2.1 3, 3, .inr (.inr (.inr (.inr ((fun _ => none))))))), (q25, .inl (g.2.1 4, 3, .inr (.inr (.inr (.inr ((fun _ => none)))))))] ++ pl) _ := hP
  have hD : va_D _ ([(h0, .inr (0, [.ref q21, .int (nI 0), .ref q22, .int (nI 0), .ref q23, .int (nI 0), .ref q24, .null, .null, .null, .null])), (q24, .inl (g.2.1 3, 3, .inr (.inr (.inr (.inr ((fun _ => none))))))), (q25, .inl (g.2.1 4, 3, .inr (.inr (.inr (.inr ((fun _ => none)))))))] ++ pl) := hD
  refine va_putF (D := g.1) (ci := 0) (v := .ref q25) (ty := .array (.object "LatticeKeys$DsaSet")) (C := "LatticeKeys") (T := T_K) (N := 11) hx hb hts (wg_ft i_K) ty_K k_K n_K hown hK hP hD hS 0 rfl rfl 7 (by decide) (hts _ (wg_t kw_381)) (fun _ h9 => h9) rfl hnm rfl (by decide +kernel) rfl rfl (Nat.le_of_ble_eq_true rfl) dK_init_59 (fun H locs hP hD hS => ?_)
  have hP : va_P g.1 vcl ([(h0, .inr (0, [.ref q21, .int (nI 0), .ref q22, .int (nI 0), .ref q23, .int (nI 0), .ref q24, .ref q25, .null, .null, .null])), (q24, .inl (g.2.1 3, 3, .inr (.inr (.inr (.inr ((fun _ => none))))))), (q25, .inl (g.2.1 4, 3, .inr (.inr (.inr (.inr ((fun _ => none)))))))] ++ pl) _ := hP
  have hD : va_D _ ([(h0, .inr (0, [.ref q21, .int (nI 0), .ref q22, .int (nI 0), .ref q23, .int (nI 0), .ref q24, .ref q25, .null, .null, .null])), (q24, .inl (g.2.1 3, 3, .inr (.inr (.inr (.inr ((fun _ => none))))))), (q25, .inl (g.2.1 4, 3, .inr (.inr (.inr (.inr ((fun _ => none)))))))] ++ pl) := hD
  refine lv_aload_n hx hb dK_init_62 rfl (lv_at hl 0 rfl) ?_
  refine va_new (ws := [(h0, .inr (0, [.ref q21, .int (nI 0), .ref q22, .int (nI 0), .ref q23, .int (nI 0), .ref q24, .ref q25, .null, .null, .null])), (q24, .inl (g.2.1 3, 3, .inr (.inr (.inr (.inr ((fun _ => none))))))), (q25, .inl (g.2.1 4, 3, .inr (.inr (.inr (.inr ((fun _ => none)))))))] ++ pl) (ci := 3) (fs := [.null, .int 0, .int 0, .int 0]) (C := "LatticeKeys$Sponge") (T := T_SP) (N := 4) hx hb hts (wg_ft i_SP) ty_SP k_SP hown (hts _ (wg_t kw_49)) (hts _ (wg_t kw_50)) (hts _ (wg_t kw_2)) hK hP hD hS hA rfl z_SP (Nat.le_of_ble_eq_true rfl) (Nat.le_of_ble_eq_true rfl) dK_init_63 (fun q26 H hP hD hS => ?_)
  obtain ⟨hP, hD⟩ := mv_first hP hD
  have hP : va_P g.1 vcl ([(h0, .inr (0, [.ref q21, .int (nI 0), .ref q22, .int (nI 0), .ref q23, .int (nI 0), .ref q24, .ref q25, .null, .null, .null])), (q24, .inl (g.2.1 3, 3, .inr (.inr (.inr (.inr ((fun _ => none))))))), (q25, .inl (g.2.1 4, 3, .inr (.inr (.inr (.inr ((fun _ => none))))))), (q26, .inr (3, [.null, .int 0, .int 0, .int 0]))] ++ pl) _ := hP
  have hD : va_D _ ([(h0, .inr (0, [.ref q21, .int (nI 0), .ref q22, .int (nI 0), .ref q23, .int (nI 0), .ref q24, .ref q25, .null, .null, .null])), (q24, .inl (g.2.1 3, 3, .inr (.inr (.inr (.inr ((fun _ => none))))))), (q25, .inl (g.2.1 4, 3, .inr (.inr (.inr (.inr ((fun _ => none))))))), (q26, .inr (3, [.null, .int 0, .int 0, .int 0]))] ++ pl) := hD
  refine W.widen (k := 6) (n := 24594) (by omega) (by omega) ?_
  refine lv_dup hx hb dK_init_66 rfl ?_
  refine mp_v (cx := [(q26, .inr (3, [.null, .int 0, .int 0, .int 0]))]) (wr := [(h0, .inr (0, [.ref q21, .int (nI 0), .ref q22, .int (nI 0), .ref q23, .int (nI 0), .ref q24, .ref q25, .null, .null, .null])), (q24, .inl (g.2.1 3, 3, .inr (.inr (.inr (.inr ((fun _ => none))))))), (q25, .inl (g.2.1 4, 3, .inr (.inr (.inr (.inr ((fun _ => none)))))))]) hP hD hS hA [3] [0, 1, 2] rfl rfl rfl (by decide) (va_runI (As := []) (rest := [.ref q26, .ref h0]) F (t_SP_init_0 l g _ T  pl hO hU  q26 n_10_0 n_19_0) (cwI 0 hts (wg_in kw_53) rfl rfl rfl (hts _ (wg_t kw_2)) (hts _ (wg_t kw_51)) (hts _ (wg_t kw_52)) rfl (by decide +kernel) ⟨by decide, by decide⟩) (pp_S (en_ok g) hP hD hS hA hE [3] rfl rfl) rfl rfl hl.1 rfl (lv_room (Nat.le_of_ble_eq_true rfl)) dK_init_67 ⟨Nat.le_of_ble_eq_true rfl, Nat.le_of_ble_eq_true rfl⟩) (fun  u21 H locs hu21 hP hD hS => ?_)
  obtain ⟨T, pl⟩ := u21
  obtain ⟨hq21, hO⟩ := hu21
  have hP : va_P g.1 vcl ([(h0, .inr (0, [.ref q21, .int (nI 0), .ref q22, .int (nI 0), .ref q23, .int (nI 0), .ref q24, .ref q25, .null, .null, .null])), (q24, .inl (g.2.1 3, 3, .inr (.inr (.inr (.inr ((fun _ => none))))))), (q25, .inl (g.2.1 4, 3, .inr (.inr (.inr (.inr ((fun _ => none)))))))] ++ pl) _ := hP
  have hD : va_D _ ([(h0, .inr (0, [.ref q21, .int (nI 0), .ref q22, .int (nI 0), .ref q23, .int (nI 0), .ref q24, .ref q25, .null, .null, .null])), (q24, .inl (g.2.1 3, 3, .inr (.inr (.inr (.inr ((fun _ => none))))))), (q25, .inl (g.2.1 4, 3, .inr (.inr (.inr (.inr ((fun _ => none)))))))] ++ pl) := hD
  obtain ⟨hxt24, hU, kr24, hps21⟩ := hq21
  have kr21 := hxt24 _ _ kr21
  have kr22 := hxt24 _ _ kr22
  have kr23 := hxt24 _ _ kr23
  have hXT := ext_tr hXT hxt24
  have n_10_1 := hps21 _ (by decide) n_10_1
  have n_19_1 := hps21 _ (by decide) n_19_1
  have n_10_2 := hps21 _ (by decide) n_10_2
  have n_19_2 := hps21 _ (by decide) n_19_2
  have n_10_3 := hps21 _ (by decide) n_10_3
  have n_19_3 := hps21 _ (by decide) n_19_3
  have n_8_84 := hps21 _ (by decide) n_8_84
  have hPS := pass_tr hPS hps21 (by decide)
  refine W.widen (k := 7) (n := 24619) (by omega) (by omega) ?_
  refine va_putF (D := g.1) (ci := 0) (v := .ref q26) (ty := .object "LatticeKeys$Sponge") (C := "LatticeKeys") (T := T_K) (N := 11) hx hb hts (wg_ft i_K) ty_K k_K n_K hown hK hP hD hS 0 rfl rfl 8 (by decide) (hts _ (wg_t kw_382)) (fun _ h9 => h9) rfl hnm rfl (by decide +kernel) rfl rfl (Nat.le_of_ble_eq_true rfl) dK_init_70 (fun H locs hP hD hS => ?_)
  have hP : va_P g.1 vcl ([(h0, .inr (0, [.ref q21, .int (nI 0), .ref q22, .int (nI 0), .ref q23, .int (nI 0), .ref q24, .ref q25, .ref q26, .null, .null])), (q24, .inl (g.2.1 3, 3, .inr (.inr (.inr (.inr ((fun _ => none))))))), (q25, .inl (g.2.1 4, 3, .inr (.inr (.inr (.inr ((fun _ => none)))))))] ++ pl) _ := hP
  have hD : va_D _ ([(h0, .inr (0, [.ref q21, .int (nI 0), .ref q22, .int (nI 0), .ref q23, .int (nI 0), .ref q24, .ref q25, .ref q26, .null, .null])), (q24, .inl (g.2.1 3, 3, .inr (.inr (.inr (.inr ((fun _ => none))))))), (q25, .inl (g.2.1 4, 3, .inr (.inr (.inr (.inr ((fun _ => none)))))))] ++ pl) := hD
  refine lv_aload_n hx hb dK_init_73 rfl (lv_at hl 0 rfl) ?_
  refine va_new (ws := [(h0, .inr (0, [.ref q21, .int (nI 0), .ref q22, .int (nI 0), .ref q23, .int (nI 0), .ref q24, .ref q25, .ref q26, .null, .null])), (q24, .inl (g.2.1 3, 3, .inr (.inr (.inr (.inr ((fun _ => none))))))), (q25, .inl (g.2.1 4, 3, .inr (.inr (.inr (.inr ((fun _ => none)))))))] ++ pl) (ci := 5) (fs := [.null, .null, .null, .null, .null, .null, .null, .null, .null, .null]) (C := "LatticeKeys$Kem") (T := T_KM) (N := 10) hx hb hts (wg_ft i_KM) ty_KM k_KM hown (hts _ (wg_t kw_74)) (hts _ (wg_t kw_75)) (hts _ (wg_t kw_3)) hK hP hD hS hA rfl z_KM (Nat.le_of_ble_eq_true rfl) (Nat.le_of_ble_eq_true rfl) dK_init_74 (fun q27 H hP hD hS => ?_)
  obtain ⟨hP, hD⟩ := mv_first hP hD
  have hP : va_P g.1 vcl ([(h0, .inr (0, [.ref q21, .int (nI 0), .ref q22, .int (nI 0), .ref q23, .int (nI 0), .ref q24, .ref q25, .ref q26, .null, .null])), (q24, .inl (g.2.1 3, 3, .inr (.inr (.inr (.inr ((fun _ => none))))))), (q25, .inl (g.2.1 4, 3, .inr (.inr (.inr (.inr ((fun _ => none))))))), (q27, .inr (5, [.null, .null, .null, .null, .null, .null, .null, .null, .null, .null]))] ++ pl) _ := hP
  have hD : va_D _ ([(h0, .inr (0, [.ref q21, .int (nI 0), .ref q22, .int (nI 0), .ref q23, .int (nI 0), .ref q24, .ref q25, .ref q26, .null, .null])), (q24, .inl (g.2.1 3, 3, .inr (.inr (.inr (.inr ((fun _ => none))))))), (q25, .inl (g.2.1 4, 3, .inr (.inr (.inr (.inr ((fun _ => none))))))), (q27, .inr (5, [.null, .null, .null, .null, .null, .null, .null, .null, .null, .null]))] ++ pl) := hD
  refine W.widen (k := 8) (n := 24629) (by omega) (by omega) ?_
  refine lv_dup hx hb dK_init_77 rfl ?_
  refine mp_v (cx := [(q27, .inr (5, [.null, .null, .null, .null, .null, .null, .null, .null, .null, .null]))]) (wr := [(h0, .inr (0, [.ref q21, .int (nI 0), .ref q22, .int (nI 0), .ref q23, .int (nI 0), .ref q24, .ref q25, .ref q26, .null, .null])), (q24, .inl (g.2.1 3, 3, .inr (.inr (.inr (.inr ((fun _ => none))))))), (q25, .inl (g.2.1 4, 3, .inr (.inr (.inr (.inr ((fun _ => none)))))))]) hP hD hS hA [3] [0, 1, 2] rfl rfl rfl (by decide) (va_runI (As := []) (rest := [.ref q27, .ref h0]) F (t_KM_init l g _ T  pl hO hU  q27 n_10_1 n_19_1) (cwI 0 hts (wg_in kw_78) rfl rfl rfl (hts _ (wg_t kw_3)) (hts _ (wg_t kw_76)) (hts _ (wg_t kw_77)) rfl (by decide +kernel) ⟨by decide, by decide⟩) (pp_S (en_ok g) hP hD hS hA hE [3] rfl rfl) rfl rfl hl.1 rfl (lv_room (Nat.le_of_ble_eq_true rfl)) dK_init_78 ⟨Nat.le_of_ble_eq_true rfl, Nat.le_of_ble_eq_true rfl⟩) (fun  u22 H locs hu22 hP hD hS => ?_)
  obtain ⟨T, pl⟩ := u22
  obtain ⟨hq22, hO⟩ := hu22
  have hP : va_P g.1 vcl ([(h0, .inr (0, [.ref q21, .int (nI 0), .ref q22, .int (nI 0), .ref q23, .int (nI 0), .ref q24, .ref q25, .ref q26, .null, .null])), (q24, .inl (g.2.1 3, 3, .inr (.inr (.inr (.inr ((fun _ => none))))))), (q25, .inl (g.2.1 4, 3, .inr (.inr (.inr (.inr ((fun _ => none)))))))] ++ pl) _ := hP
  have hD : va_D _ ([(h0, .inr (0, [.ref q21, .int (nI 0), .ref q22, .int (nI 0), .ref q23, .int (nI 0), .ref q24, .ref q25, .ref q26, .null, .null])), (q24, .inl (g.2.1 3, 3, .inr (.inr (.inr (.inr ((fun _ => none))))))), (q25, .inl (g.2.1 4, 3, .inr (.inr (.inr (.inr ((fun _ => none)))))))] ++ pl) := hD
  obtain ⟨hxt25, hU, kr25, hps22⟩ := hq22
  have kr21 := hxt25 _ _ kr21
  have kr22 := hxt25 _ _ kr22
  have kr23 := hxt25 _ _ kr23
  have kr24 := hxt25 _ _ kr24
  have hXT := ext_tr hXT hxt25
  have n_10_2 := hps22 _ (by decide) n_10_2
  have n_19_2 := hps22 _ (by decide) n_19_2
  have n_10_3 := hps22 _ (by decide) n_10_3
  have n_19_3 := hps22 _ (by decide) n_19_3
  have n_8_84 := hps22 _ (by decide) n_8_84
  have hPS := pass_tr hPS hps22 (by decide)
  refine W.widen (k := 24) (n := 28218) (by omega) (by omega) ?_
  refine va_putF (D := g.1) (ci := 0) (v := .ref q27) (ty := .object "LatticeKeys$Kem") (C := "LatticeKeys") (T := T_K) (N := 11) hx hb hts (wg_ft i_K) ty_K k_K n_K hown hK hP hD hS 0 rfl rfl 9 (by decide) (hts _ (wg_t kw_383)) (fun _ h9 => h9) rfl hnm rfl (by decide +kernel) rfl rfl (Nat.le_of_ble_eq_true rfl) dK_init_81 (fun H locs hP hD hS => ?_)
  have hP : va_P g.1 vcl ([(h0, .inr (0, [.ref q21, .int (nI 0), .ref q22, .int (nI 0), .ref q23, .int (nI 0), .ref q24, .ref q25, .ref q26, .ref q27, .null])), (q24, .inl (g.2.1 3, 3, .inr (.inr (.inr (.inr ((fun _ => none))))))), (q25, .inl (g.2.1 4, 3, .inr (.inr (.inr (.inr ((fun _ => none)))))))] ++ pl) _ := hP
  have hD : va_D _ ([(h0, .inr (0, [.ref q21, .int (nI 0), .ref q22, .int (nI 0), .ref q23, .int (nI 0), .ref q24, .ref q25, .ref q26, .ref q27, .null])), (q24, .inl (g.2.1 3, 3, .inr (.inr (.inr (.inr ((fun _ => none))))))), (q25, .inl (g.2.1 4, 3, .inr (.inr (.inr (.inr ((fun _ => none)))))))] ++ pl) := hD
  refine lv_aload_n hx hb dK_init_84 rfl (lv_at hl 0 rfl) ?_
  refine va_new (ws := [(h0, .inr (0, [.ref q21, .int (nI 0), .ref q22, .int (nI 0), .ref q23, .int (nI 0), .ref q24, .ref q25, .ref q26, .ref q27, .null])), (q24, .inl (g.2.1 3, 3, .inr (.inr (.inr (.inr ((fun _ => none))))))), (q25, .inl (g.2.1 4, 3, .inr (.inr (.inr (.inr ((fun _ => none)))))))] ++ pl) (ci := 6) (fs := [.null, .null, .null, .null, .null, .null, .null, .null, .null, .null, .null, .null, .null, .null, .null, .null, .null]) (C := "LatticeKeys$Dsa") (T := T_DA) (N := 17) hx hb hts (wg_ft i_DA) ty_DA k_DA hown (hts _ (wg_t kw_138)) (hts _ (wg_t kw_139)) (hts _ (wg_t kw_5)) hK hP hD hS hA rfl z_DA (Nat.le_of_ble_eq_true rfl) (Nat.le_of_ble_eq_true rfl) dK_init_85 (fun q28 H hP hD hS => ?_)
  obtain ⟨hP, hD⟩ := mv_first hP hD
  have hP : va_P g.1 vcl ([(h0, .inr (0, [.ref q21, .int (nI 0), .ref q22, .int (nI 0), .ref q23, .int (nI 0), .ref q24, .ref q25, .ref q26, .ref q27, .null])), (q24, .inl (g.2.1 3, 3, .inr (.inr (.inr (.inr ((fun _ => none))))))), (q25, .inl (g.2.1 4, 3, .inr (.inr (.inr (.inr ((fun _ => none))))))), (q28, .inr (6, [.null, .null, .null, .null, .null, .null, .null, .null, .null, .null, .null, .null, .null, .null, .null, .null, .null]))] ++ pl) _ := hP
  have hD : va_D _ ([(h0, .inr (0, [.ref q21, .int (nI 0), .ref q22, .int (nI 0), .ref q23, .int (nI 0), .ref q24, .ref q25, .ref q26, .ref q27, .null])), (q24, .inl (g.2.1 3, 3, .inr (.inr (.inr (.inr ((fun _ => none))))))), (q25, .inl (g.2.1 4, 3, .inr (.inr (.inr (.inr ((fun _ => none))))))), (q28, .inr (6, [.null, .null, .null, .null, .null, .null, .null, .null, .null, .null, .null, .null, .null, .null, .null, .null, .null]))] ++ pl) := hD
  refine W.widen (k := 25) (n := 28235) (by omega) (by omega) ?_
  refine lv_dup hx hb dK_init_88 rfl ?_
  refine mp_v (cx := [(q28, .inr (6, [.null, .null, .null, .null, .null, .null, .null, .null, .null, .null, .null, .null, .null, .null, .null, .null, .null]))]) (wr := [(h0, .inr (0, [.ref q21, .int (nI 0), .ref q22, .int (nI 0), .ref q23, .int (nI 0), .ref q24, .ref q25, .ref q26, .ref q27, .null])), (q24, .inl (g.2.1 3, 3, .inr (.inr (.inr (.inr ((fun _ => none))))))), (q25, .inl (g.2.1 4, 3, .inr (.inr (.inr (.inr ((fun _ => none)))))))]) hP hD hS hA [3] [0, 1, 2] rfl rfl rfl (by decide) (va_runI (As := []) (rest := [.ref q28, .ref h0]) F (t_DA_init l g _ T  pl hO hU  q28 n_10_2 n_19_2 n_10_3 n_19_3 n_8_84) (cwI 0 hts (wg_in kw_142) rfl rfl rfl (hts _ (wg_t kw_5)) (hts _ (wg_t kw_140)) (hts _ (wg_t kw_141)) rfl (by decide +kernel) ⟨by decide, by decide⟩) (pp_S (en_ok g) hP hD hS hA hE [3] rfl rfl) rfl rfl hl.1 rfl (lv_room (Nat.le_of_ble_eq_true rfl)) dK_init_89 ⟨Nat.le_of_ble_eq_true rfl, Nat.le_of_ble_eq_true rfl⟩) (fun  u23 H locs hu23 hP hD hS => ?_)
  obtain ⟨T, pl⟩ := u23
  obtain ⟨hq23, hO⟩ := hu23
  have hP : va_P g.1 vcl ([(h0, .inr (0, [.ref q21, .int (nI 0), .ref q22, .int (nI 0), .ref q23, .int (nI 0), .ref q24, .ref q25, .ref q26, .ref q27, .null])), (q24, .inl (g.2.1 3, 3, .inr (.inr (.inr (.inr ((fun _ => none))))))), (q25, .inl (g.2.1 4, 3, .inr (.inr (.inr (.inr ((fun _ => none)))))))] ++ pl) _ := hP
  have hD : va_D _ ([(h0, .inr (0, [.ref q21, .int (nI 0), .ref q22, .int (nI 0), .ref q23, .int (nI 0), .ref q24, .ref q25, .ref q26, .ref q27, .null])), (q24, .inl (g.2.1 3, 3, .inr (.inr (.inr (.inr ((fun _ => none))))))), (q25, .inl (g.2.1 4, 3, .inr (.inr (.inr (.inr ((fun _ => none)))))))] ++ pl) := hD
  obtain ⟨hxt26, hU, kr26, hps23⟩ := hq23
  have kr21 := hxt26 _ _ kr21
  have kr22 := hxt26 _ _ kr22
  have kr23 := hxt26 _ _ kr23
  have kr24 := hxt26 _ _ kr24
  have kr25 := hxt26 _ _ kr25
  have hXT := ext_tr hXT hxt26
  have hPS := pass_tr hPS hps23 (by decide)
  refine W.widen (k := 141) (n := 54461) (by omega) (by omega) ?_
  refine va_putF (D := g.1) (ci := 0) (v := .ref q28) (ty := .object "LatticeKeys$Dsa") (C := "LatticeKeys") (T := T_K) (N := 11) hx hb hts (wg_ft i_K) ty_K k_K n_K hown hK hP hD hS 0 rfl rfl 10 (by decide) (hts _ (wg_t kw_384)) (fun _ h9 => h9) rfl hnm rfl (by decide +kernel) rfl rfl (Nat.le_of_ble_eq_true rfl) dK_init_92 (fun H locs hP hD hS => ?_)
  have hP : va_P g.1 vcl ([(h0, .inr (0, [.ref q21, .int (nI 0), .ref q22, .int (nI 0), .ref q23, .int (nI 0), .ref q24, .ref q25, .ref q26, .ref q27, .ref q28])), (q24, .inl (g.2.1 3, 3, .inr (.inr (.inr (.inr ((fun _ => none))))))), (q25, .inl (g.2.1 4, 3, .inr (.inr (.inr (.inr ((fun _ => none)))))))] ++ pl) _ := hP
  have hD : va_D _ ([(h0, .inr (0, [.ref q21, .int (nI 0), .ref q22, .int (nI 0), .ref q23, .int (nI 0), .ref q24, .ref q25, .ref q26, .ref q27, .ref q28])), (q24, .inl (g.2.1 3, 3, .inr (.inr (.inr (.inr ((fun _ => none))))))), (q25, .inl (g.2.1 4, 3, .inr (.inr (.inr (.inr ((fun _ => none)))))))] ++ pl) := hD
  refine lv_iconst (v := nI 0) hx hb dK_init_95 (by decide) ?_
  refine lv_istore_n (lv' := [(1, .int (nI 0)), (0, .ref h0)]) hx hb dK_init_96 rfl hl (by decide) rfl (fun ls hl => ?_)
  refine lv_iload_n hx hb dK_init_97 rfl (lv_at hl 0 rfl) ?_
  refine lv_iconst (v := nI 3) hx hb dK_init_98 (by decide) ?_
  refine mi_ge (tgt := 122) hx hb dK_init_99 (by decide) (by omega) (by omega) (fun h21 => absurd h21 (by omega)) (fun h21 => ?_)
  refine lv_aload_n hx hb dK_init_102 rfl (lv_at hl 1 rfl) ?_
  refine va_get (D := g.1) (ci := 0) (C := "LatticeKeys") (T := T_K) (N := 11) hx hb hts (wg_ft i_K) hown hK hP 0 rfl rfl 6 (by decide) (hts _ (wg_t kw_380)) (fun _ h9 => h9) rfl dK_init_103 ?_
  refine lv_iload_n hx hb dK_init_106 rfl (lv_at hl 0 rfl) ?_
  refine va_new (ws := [(h0, .inr (0, [.ref q21, .int (nI 0), .ref q22, .int (nI 0), .ref q23, .int (nI 0), .ref q24, .ref q25, .ref q26, .ref q27, .ref q28])), (q24, .inl (g.2.1 3, 3, .inr (.inr (.inr (.inr ((fun _ => none))))))), (q25, .inl (g.2.1 4, 3, .inr (.inr (.inr (.inr ((fun _ => none)))))))] ++ pl) (ci := 1) (fs := [.int 0, .int 0, .int 0, .int 0, .int 0, .int 0, .int 0, .int 0, .int 0, .int 0]) (C := "LatticeKeys$KemSet") (T := T_KS) (N := 10) hx hb hts (wg_ft i_KS) ty_KS k_KS hown (hts _ (wg_t kw_45)) (hts _ (wg_t kw_217)) (hts _ (wg_t kw_7)) hK hP hD hS hA rfl z_KS (Nat.le_of_ble_eq_true rfl) (Nat.le_of_ble_eq_true rfl) dK_init_107 (fun q29 H hP hD hS => ?_)
  obtain ⟨hP, hD⟩ := mv_first hP hD
  have hP : va_P g.1 vcl ([(h0, .inr (0, [.ref q21, .int (nI 0), .ref q22, .int (nI 0), .ref q23, .int (nI 0), .ref q24, .ref q25, .ref q26, .ref q27, .ref q28])), (q24, .inl (g.2.1 3, 3, .inr (.inr (.inr (.inr ((fun _ => none))))))), (q25, .inl (g.2.1 4, 3, .inr (.inr (.inr (.inr ((fun _ => none))))))), (q29, .inr (1, [.int 0, .int 0, .int 0, .int 0, .int 0, .int 0, .int 0, .int 0, .int 0, .int 0]))] ++ pl) _ := hP
  have hD : va_D _ ([(h0, .inr (0, [.ref q21, .int (nI 0), .ref q22, .int (nI 0), .ref q23, .int (nI 0), .ref q24, .ref q25, .ref q26, .ref q27, .ref q28])), (q24, .inl (g.2.1 3, 3, .inr (.inr (.inr (.inr ((fun _ => none))))))), (q25, .inl (g.2.1 4, 3, .inr (.inr (.inr (.inr ((fun _ => none))))))), (q29, .inr (1, [.int 0, .int 0, .int 0, .int 0, .int 0, .int 0, .int 0, .int 0, .int 0, .int 0]))] ++ pl) := hD
  refine W.widen (k := 142) (n := 54471) (by omega) (by omega) ?_
  refine lv_dup hx hb dK_init_110 rfl ?_
  refine lv_iload_n hx hb dK_init_111 rfl (lv_at hl 0 rfl) ?_
  refine mp_v (cx := [(q29, .inr (1, [.int 0, .int 0, .int 0, .int 0, .int 0, .int 0, .int 0, .int 0, .int 0, .int 0]))]) (wr := [(h0, .inr (0, [.ref q21, .int (nI 0), .ref q22, .int (nI 0), .ref q23, .int (nI 0), .ref q24, .ref q25, .ref q26, .ref q27, .ref q28])), (q24, .inl (g.2.1 3, 3, .inr (.inr (.inr (.inr ((fun _ => none))))))), (q25, .inl (g.2.1 4, 3, .inr (.inr (.inr (.inr ((fun _ => none)))))))]) hP hD hS hA [3] [0, 1, 2] rfl rfl rfl (by decide) (va_runI (As := [.int (nI 0)]) (rest := [.ref q29, .int (nI 0), .ref q24]) F (t_KS_init_0 l g _ T  pl hO hU  q29) (cwI 1 hts (wg_in kw_220) rfl rfl rfl (hts _ (wg_t kw_7)) (hts _ (wg_t kw_218)) (hts _ (wg_t kw_219)) rfl (by decide +kernel) ⟨by decide, by decide⟩) (pp_S (en_ok g) hP hD hS hA hE [3] rfl rfl) rfl rfl hl.1 rfl (lv_room (Nat.le_of_ble_eq_true rfl)) dK_init_112 ⟨Nat.le_of_ble_eq_true rfl, Nat.le_of_ble_eq_true rfl⟩) (fun  pl H locs hu24 hP hD hS => ?_)
  obtain ⟨hq24, hO⟩ := hu24
  have hP : va_P g.1 vcl ([(h0, .inr (0, [.ref q21, .int (nI 0), .ref q22, .int (nI 0), .ref q23, .int (nI 0), .ref q24, .ref q25, .ref q26, .ref q27, .ref q28])), (q24, .inl (g.2.1 3, 3, .inr (.inr (.inr (.inr ((fun _ => none))))))), (q25, .inl (g.2.1 4, 3, .inr (.inr (.inr (.inr ((fun _ => none))))))), (q29, .inr (1, [.int (nI 2), .int (nI 3), .int (nI 10), .int (nI 4), .int (nI 800), .int (nI 1632), .int (nI 768), .int (nI 768), .int (nI 1568), .int (nI 1600)]))] ++ pl) _ := hP
  have hD : va_D _ ([(h0, .inr (0, [.ref q21, .int (nI 0), .ref q22, .int (nI 0), .ref q23, .int (nI 0), .ref q24, .ref q25, .ref q26, .ref q27, .ref q28])), (q24, .inl (g.2.1 3, 3, .inr (.inr (.inr (.inr ((fun _ => none))))))), (q25, .inl (g.2.1 4, 3, .inr (.inr (.inr (.inr ((fun _ => none))))))), (q29, .inr (1, [.int (nI 2), .int (nI 3), .int (nI 10), .int (nI 4), .int (nI 800), .int (nI 1632), .int (nI 768), .int (nI 768), .int (nI 1568), .int (nI 1600)]))] ++ pl) := hD
  refine W.widen (k := 142) (n := 54471) (by omega) (by omega) ?_
  refine va_astq hx hb hK hP hD hS 1 3 3 1 rfl rfl rfl rfl (vp_in_nI (by decide) (by decide)) dK_init_115 (fun H locs hP hD hS => ?_)
  have hP : va_P g.1 vcl ([(h0, .inr (0, [.ref q21, .int (nI 0), .ref q22, .int (nI 0), .ref q23, .int (nI 0), .ref q24, .ref q25, .ref q26, .ref q27, .ref q28])), (q24, .inl (g.2.1 3, 3, .inr (.inr (.inr (.inr ((va_up (fun _ => none) 0 (some q29)))))))), (q25, .inl (g.2.1 4, 3, .inr (.inr (.inr (.inr ((fun _ => none))))))), (q29, .inr (1, [.int (nI 2), .int (nI 3), .int (nI 10), .int (nI 4), .int (nI 800), .int (nI 1632), .int (nI 768), .int (nI 768), .int (nI 1568), .int (nI 1600)]))] ++ pl) _ := hP
  have hD : va_D _ ([(h0, .inr (0, [.ref q21, .int (nI 0), .ref q22, .int (nI 0), .ref q23, .int (nI 0), .ref q24, .ref q25, .ref q26, .ref q27, .ref q28])), (q24, .inl (g.2.1 3, 3, .inr (.inr (.inr (.inr ((va_up (fun _ => none) 0 (some q29)))))))), (q25, .inl (g.2.1 4, 3, .inr (.inr (.inr (.inr ((fun _ => none))))))), (q29, .inr (1, [.int (nI 2), .int (nI 3), .int (nI 10), .int (nI 4), .int (nI 800), .int (nI 1632), .int (nI 768), .int (nI 768), .int (nI 1568), .int (nI 1600)]))] ++ pl) := hD
  refine mi_iinc (k := 0) (x := 0) (d := 1) (y := 1) (lv' := [(1, .int (nI 1)), (0, .ref h0)]) hx hb dK_init_116 hl rfl (by decide) rfl (by decide) rfl (fun ls hl => ?_)
  refine lv_goto (tgt := 97) hx hb dK_init_119 (by decide) ?_
  refine lv_iload_n hx hb dK_init_97 rfl (lv_at hl 0 rfl) ?_
  refine lv_iconst (v := nI 3) hx hb dK_init_98 (by decide) ?_
  refine mi_ge (tgt := 122) hx hb dK_init_99 (by decide) (by omega) (by omega) (fun h22 => absurd h22 (by omega)) (fun h22 => ?_)
  refine lv_aload_n hx hb dK_init_102 rfl (lv_at hl 1 rfl) ?_
  refine va_get (D := g.1) (ci := 0) (C := "LatticeKeys") (T := T_K) (N := 11) hx hb hts (wg_ft i_K) hown hK hP 0 rfl rfl 6 (by decide) (hts _ (wg_t kw_380)) (fun _ h9 => h9) rfl dK_init_103 ?_
  refine lv_iload_n hx hb dK_init_106 rfl (lv_at hl 0 rfl) ?_
  refine va_new (ws := [(h0, .inr (0, [.ref q21, .int (nI 0), .ref q22, .int (nI 0), .ref q23, .int (nI 0), .ref q24, .ref q25, .ref q26, .ref q27, .ref q28])), (q24, .inl (g.2.1 3, 3, .inr (.inr (.inr (.inr ((va_up (fun _ => none) 0 (some q29)))))))), (q25, .inl (g.2.1 4, 3, .inr (.inr (.inr (.inr ((fun _ => none))))))), (q29, .inr (1, [.int (nI 2), .int (nI 3), .int (nI 10), .int (nI 4), .int (nI 800), .int (nI 1632), .int (nI 768), .int (nI 768), .int (nI 1568), .int (nI 1600)]))] ++ pl) (ci := 1) (fs := [.int 0, .int 0, .int 0, .int 0, .int 0, .int 0, .int 0, .int 0, .int 0, .int 0]) (C := "LatticeKeys$KemSet") (T := T_KS) (N := 10) hx hb hts (wg_ft i_KS) ty_KS k_KS hown (hts _ (wg_t kw_45)) (hts _ (wg_t kw_217)) (hts _ (wg_t kw_7)) hK hP hD hS hA rfl z_KS (Nat.le_of_ble_eq_true rfl) (Nat.le_of_ble_eq_true rfl) dK_init_107 (fun q30 H hP hD hS => ?_)
  obtain ⟨hP, hD⟩ := mv_first hP hD
  have hP : va_P g.1 vcl ([(h0, .inr (0, [.ref q21, .int (nI 0), .ref q22, .int (nI 0), .ref q23, .int (nI 0), .ref q24, .ref q25, .ref q26, .ref q27, .ref q28])), (q24, .inl (g.2.1 3, 3, .inr (.inr (.inr (.inr ((va_up (fun _ => none) 0 (some q29)))))))), (q25, .inl (g.2.1 4, 3, .inr (.inr (.inr (.inr ((fun _ => none))))))), (q29, .inr (1, [.int (nI 2), .int (nI 3), .int (nI 10), .int (nI 4), .int (nI 800), .int (nI 1632), .int (nI 768), .int (nI 768), .int (nI 1568), .int (nI 1600)])), (q30, .inr (1, [.int 0, .int 0, .int 0, .int 0, .int 0, .int 0, .int 0, .int 0, .int 0, .int 0]))] ++ pl) _ := hP
  have hD : va_D _ ([(h0, .inr (0, [.ref q21, .int (nI 0), .ref q22, .int (nI 0), .ref q23, .int (nI 0), .ref q24, .ref q25, .ref q26, .ref q27, .ref q28])), (q24, .inl (g.2.1 3, 3, .inr (.inr (.inr (.inr ((va_up (fun _ => none) 0 (some q29)))))))), (q25, .inl (g.2.1 4, 3, .inr (.inr (.inr (.inr ((fun _ => none))))))), (q29, .inr (1, [.int (nI 2), .int (nI 3), .int (nI 10), .int (nI 4), .int (nI 800), .int (nI 1632), .int (nI 768), .int (nI 768), .int (nI 1568), .int (nI 1600)])), (q30, .inr (1, [.int 0, .int 0, .int 0, .int 0, .int 0, .int 0, .int 0, .int 0, .int 0, .int 0]))] ++ pl) := hD
  refine W.widen (k := 143) (n := 54481) (by omega) (by omega) ?_
  refine lv_dup hx hb dK_init_110 rfl ?_
  refine lv_iload_n hx hb dK_init_111 rfl (lv_at hl 0 rfl) ?_
  refine mp_v (cx := [(q30, .inr (1, [.int 0, .int 0, .int 0, .int 0, .int 0, .int 0, .int 0, .int 0, .int 0, .int 0]))]) (wr := [(h0, .inr (0, [.ref q21, .int (nI 0), .ref q22, .int (nI 0), .ref q23, .int (nI 0), .ref q24, .ref q25, .ref q26, .ref q27, .ref q28])), (q24, .inl (g.2.1 3, 3, .inr (.inr (.inr (.inr ((va_up (fun _ => none) 0 (some q29)))))))), (q25, .inl (g.2.1 4, 3, .inr (.inr (.inr (.inr ((fun _ => none))))))), (q29, .inr (1, [.int (nI 2), .int (nI 3), .int (nI 10), .int (nI 4), .int (nI 800), .int (nI 1632), .int (nI 768), .int (nI 768), .int (nI 1568), .int (nI 1600)]))]) hP hD hS hA [4] [0, 1, 2, 3] rfl rfl rfl (by decide) (va_runI (As := [.int (nI 1)]) (rest := [.ref q30, .int (nI 1), .ref q24]) F (t_KS_init_1 l g _ T  pl hO hU  q30) (cwI 1 hts (wg_in kw_220) rfl rfl rfl (hts _ (wg_t kw_7)) (hts _ (wg_t kw_218)) (hts _ (wg_t kw_219)) rfl (by decide +kernel) ⟨by decide, by decide⟩) (pp_S (en_ok g) hP hD hS hA hE [4] rfl rfl) rfl rfl hl.1 rfl (lv_room (Nat.le_of_ble_eq_true rfl)) dK_init_112 ⟨Nat.le_of_ble_eq_true rfl, Nat.le_of_ble_eq_true rfl⟩) (fun  pl H locs hu25 hP hD hS => ?_)
  obtain ⟨hq25, hO⟩ := hu25
  have hP : va_P g.1 vcl ([(h0, .inr (0, [.ref q21, .int (nI 0), .ref q22, .int (nI 0), .ref q23, .int (nI 0), .ref q24, .ref q25, .ref q26, .ref q27, .ref q28])), (q24, .inl (g.2.1 3, 3, .inr (.inr (.inr (.inr ((va_up (fun _ => none) 0 (some q29)))))))), (q25, .inl (g.2.1 4, 3, .inr (.inr (.inr (.inr ((fun _ => none))))))), (q29, .inr (1, [.int (nI 2), .int (nI 3), .int (nI 10), .int (nI 4), .int (nI 800), .int (nI 1632), .int (nI 768), .int (nI 768), .int (nI 1568), .int (nI 1600)])), (q30, .inr (1, [.int (nI 3), .int (nI 2), .int (nI 10), .int (nI 4), .int (nI 1184), .int (nI 2400), .int (nI 1088), .int (nI 1152), .int (nI 2336), .int (nI 2368)]))] ++ pl) _ := hP
  have hD : va_D _ ([(h0, .inr (0, [.ref q21, .int (nI 0), .ref q22, .int (nI 0), .ref q23, .int (nI 0), .ref q24, .ref q25, .ref q26, .ref q27, .ref q28])), (q24, .inl (g.2.1 3, 3, .inr (.inr (.inr (.inr ((va_up (fun _ => none) 0 (some q29)))))))), (q25, .inl (g.2.1 4, 3, .inr (.inr (.inr (.inr ((fun _ => none))))))), (q29, .inr (1, [.int (nI 2), .int (nI 3), .int (nI 10), .int (nI 4), .int (nI 800), .int (nI 1632), .int (nI 768), .int (nI 768), .int (nI 1568), .int (nI 1600)])), (q30, .inr (1, [.int (nI 3), .int (nI 2), .int (nI 10), .int (nI 4), .int (nI 1184), .int (nI 2400), .int (nI 1088), .int (nI 1152), .int (nI 2336), .int (nI 2368)]))] ++ pl) := hD
  refine W.widen (k := 143) (n := 54481) (by omega) (by omega) ?_
  refine va_astq hx hb hK hP hD hS 1 3 4 1 rfl rfl rfl rfl (vp_in_nI (by decide) (by decide)) dK_init_115 (fun H locs hP hD hS => ?_)
  have hP : va_P g.1 vcl ([(h0, .inr (0, [.ref q21, .int (nI 0), .ref q22, .int (nI 0), .ref q23, .int (nI 0), .ref q24, .ref q25, .ref q26, .ref q27, .ref q28])), (q24, .inl (g.2.1 3, 3, .inr (.inr (.inr (.inr ((va_up (va_up (fun _ => none) 0 (some q29)) 1 (some q30)))))))), (q25, .inl (g.2.1 4, 3, .inr (.inr (.inr (.inr ((fun _ => none))))))), (q29, .inr (1, [.int (nI 2), .int (nI 3), .int (nI 10), .int (nI 4), .int (nI 800), .int (nI 1632), .int (nI 768), .int (nI 768), .int (nI 1568), .int (nI 1600)])), (q30, .inr (1, [.int (nI 3), .int (nI 2), .int (nI 10), .int (nI 4), .int (nI 1184), .int (nI 2400), .int (nI 1088), .int (nI 1152), .int (nI 2336), .int (nI 2368)]))] ++ pl) _ := hP
  have hD : va_D _ ([(h0, .inr (0, [.ref q21, .int (nI 0), .ref q22, .int (nI 0), .ref q23, .int (nI 0), .ref q24, .ref q25, .ref q26, .ref q27, .ref q28])), (q24, .inl (g.2.1 3, 3, .inr (.inr (.inr (.inr ((va_up (va_up (fun _ => none) 0 (some q29)) 1 (some q30)))))))), (q25, .inl (g.2.1 4, 3, .inr (.inr (.inr (.inr ((fun _ => none))))))), (q29, .inr (1, [.int (nI 2), .int (nI 3), .int (nI 10), .int (nI 4), .int (nI 800), .int (nI 1632), .int (nI 768), .int (nI 768), .int (nI 1568), .int (nI 1600)])), (q30, .inr (1, [.int (nI 3), .int (nI 2), .int (nI 10), .int (nI 4), .int (nI 1184), .int (nI 2400), .int (nI 1088), .int (nI 1152), .int (nI 2336), .int (nI 2368)]))] ++ pl) := hD
  refine mi_iinc (k := 0) (x := 1) (d := 1) (y := 2) (lv' := [(1, .int (nI 2)), (0, .ref h0)]) hx hb dK_init_116 hl rfl (by decide) rfl (by decide) rfl (fun ls hl => ?_)
  refine lv_goto (tgt := 97) hx hb dK_init_119 (by decide) ?_
  refine lv_iload_n hx hb dK_init_97 rfl (lv_at hl 0 rfl) ?_
  refine lv_iconst (v := nI 3) hx hb dK_init_98 (by decide) ?_
  refine mi_ge (tgt := 122) hx hb dK_init_99 (by decide) (by omega) (by omega) (fun h23 => absurd h23 (by omega)) (fun h23 => ?_)
  refine lv_aload_n hx hb dK_init_102 rfl (lv_at hl 1 rfl) ?_
  refine va_get (D := g.1) (ci := 0) (C := "LatticeKeys") (T := T_K) (N := 11) hx hb hts (wg_ft i_K) hown hK hP 0 rfl rfl 6 (by decide) (hts _ (wg_t kw_380)) (fun _ h9 => h9) rfl dK_init_103 ?_
  refine lv_iload_n hx hb dK_init_106 rfl (lv_at hl 0 rfl) ?_
  refine va_new (ws := [(h0, .inr (0, [.ref q21, .int (nI 0), .ref q22, .int (nI 0), .ref q23, .int (nI 0), .ref q24, .ref q25, .ref q26, .ref q27, .ref q28])), (q24, .inl (g.2.1 3, 3, .inr (.inr (.inr (.inr ((va_up (va_up (fun _ => none) 0 (some q29)) 1 (some q30)))))))), (q25, .inl (g.2.1 4, 3, .inr (.inr (.inr (.inr ((fun _ => none))))))), (q29, .inr (1, [.int (nI 2), .int (nI 3), .int (nI 10), .int (nI 4), .int (nI 800), .int (nI 1632), .int (nI 768), .int (nI 768), .int (nI 1568), .int (nI 1600)])), (q30, .inr (1, [.int (nI 3), .int (nI 2), .int (nI 10), .int (nI 4), .int (nI 1184), .int (nI 2400), .int (nI 1088), .int (nI 1152), .int (nI 2336), .int (nI 2368)]))] ++ pl) (ci := 1) (fs := [.int 0, .int 0, .int 0, .int 0, .int 0, .int 0, .int 0, .int 0, .int 0, .int 0]) (C := "LatticeKeys$KemSet") (T := T_KS) (N := 10) hx hb hts (wg_ft i_KS) ty_KS k_KS hown (hts _ (wg_t kw_45)) (hts _ (wg_t kw_217)) (hts _ (wg_t kw_7)) hK hP hD hS hA rfl z_KS (Nat.le_of_ble_eq_true rfl) (Nat.le_of_ble_eq_true rfl) dK_init_107 (fun q31 H hP hD hS => ?_)
  obtain ⟨hP, hD⟩ := mv_first hP hD
  have hP : va_P g.1 vcl ([(h0, .inr (0, [.ref q21, .int (nI 0), .ref q22, .int (nI 0), .ref q23, .int (nI 0), .ref q24, .ref q25, .ref q26, .ref q27, .ref q28])), (q24, .inl (g.2.1 3, 3, .inr (.inr (.inr (.inr ((va_up (va_up (fun _ => none) 0 (some q29)) 1 (some q30)))))))), (q25, .inl (g.2.1 4, 3, .inr (.inr (.inr (.inr ((fun _ => none))))))), (q29, .inr (1, [.int (nI 2), .int (nI 3), .int (nI 10), .int (nI 4), .int (nI 800), .int (nI 1632), .int (nI 768), .int (nI 768), .int (nI 1568), .int (nI 1600)])), (q30, .inr (1, [.int (nI 3), .int (nI 2), .int (nI 10), .int (nI 4), .int (nI 1184), .int (nI 2400), .int (nI 1088), .int (nI 1152), .int (nI 2336), .int (nI 2368)])), (q31, .inr (1, [.int 0, .int 0, .int 0, .int 0, .int 0, .int 0, .int 0, .int 0, .int 0, .int 0]))] ++ pl) _ := hP
  have hD : va_D _ ([(h0, .inr (0, [.ref q21, .int (nI 0), .ref q22, .int (nI 0), .ref q23, .int (nI 0), .ref q24, .ref q25, .ref q26, .ref q27, .ref q28])), (q24, .inl (g.2.1 3, 3, .inr (.inr (.inr (.inr ((va_up (va_up (fun _ => none) 0 (some q29)) 1 (some q30)))))))), (q25, .inl (g.2.1 4, 3, .inr (.inr (.inr (.inr ((fun _ => none))))))), (q29, .inr (1, [.int (nI 2), .int (nI 3), .int (nI 10), .int (nI 4), .int (nI 800), .int (nI 1632), .int (nI 768), .int (nI 768), .int (nI 1568), .int (nI 1600)])), (q30, .inr (1, [.int (nI 3), .int (nI 2), .int (nI 10), .int (nI 4), .int (nI 1184), .int (nI 2400), .int (nI 1088), .int (nI 1152), .int (nI 2336), .int (nI 2368)])), (q31, .inr (1, [.int 0, .int 0, .int 0, .int 0, .int 0, .int 0, .int 0, .int 0, .int 0, .int 0]))] ++ pl) := hD
  refine W.widen (k := 144) (n := 54491) (by omega) (by omega) ?_
  refine lv_dup hx hb dK_init_110 rfl ?_
  refine lv_iload_n hx hb dK_init_111 rfl (lv_at hl 0 rfl) ?_
  refine mp_v (cx := [(q31, .inr (1, [.int 0, .int 0, .int 0, .int 0, .int 0, .int 0, .int 0, .int 0, .int 0, .int 0]))]) (wr := [(h0, .inr (0, [.ref q21, .int (nI 0), .ref q22, .int (nI 0), .ref q23, .int (nI 0), .ref q24, .ref q25, .ref q26, .ref q27, .ref q28])), (q24, .inl (g.2.1 3, 3, .inr (.inr (.inr (.inr ((va_up (va_up (fun _ => none) 0 (some q29)) 1 (some q30)))))))), (q25, .inl (g.2.1 4, 3, .inr (.inr (.inr (.inr ((fun _ => none))))))), (q29, .inr (1, [.int (nI 2), .int (nI 3), .int (nI 10), .int (nI 4), .int (nI 800), .int (nI 1632), .int (nI 768), .int (nI 768), .int (nI 1568), .int (nI 1600)])), (q30, .inr (1, [.int (nI 3), .int (nI 2), .int (nI 10), .int (nI 4), .int (nI 1184), .int (nI 2400), .int (nI 1088), .int (nI 1152), .int (nI 2336), .int (nI 2368)]))]) hP hD hS hA [5] [0, 1, 2, 3, 4] rfl rfl rfl (by decide) (va_runI (As := [.int (nI 2)]) (rest := [.ref q31, .int (nI 2), .ref q24]) F (t_KS_init_2 l g _ T  pl hO hU  q31) (cwI 1 hts (wg_in kw_220) rfl rfl rfl (hts _ (wg_t kw_7)) (hts _ (wg_t kw_218)) (hts _ (wg_t kw_219)) rfl (by decide +kernel) ⟨by decide, by decide⟩) (pp_S (en_ok g) hP hD hS hA hE [5] rfl rfl) rfl rfl hl.1 rfl (lv_room (Nat.le_of_ble_eq_true rfl)) dK_init_112 ⟨Nat.le_of_ble_eq_true rfl, Nat.le_of_ble_eq_true rfl⟩) (fun  pl H locs hu26 hP hD hS => ?_)
  obtain ⟨hq26, hO⟩ := hu26
  have hP : va_P g.1 vcl ([(h0, .inr (0, [.ref q21, .int (nI 0), .ref q22, .int (nI 0), .ref q23, .int (nI 0), .ref q24, .ref q25, .ref q26, .ref q27, .ref q28])), (q24, .inl (g.2.1 3, 3, .inr (.inr (.inr (.inr ((va_up (va_up (fun _ => none) 0 (some q29)) 1 (some q30)))))))), (q25, .inl (g.2.1 4, 3, .inr (.inr (.inr (.inr ((fun _ => none))))))), (q29, .inr (1, [.int (nI 2), .int (nI 3), .int (nI 10), .int (nI 4), .int (nI 800), .int (nI 1632), .int (nI 768), .int (nI 768), .int (nI 1568), .int (nI 1600)])), (q30, .inr (1, [.int (nI 3), .int (nI 2), .int (nI 10), .int (nI 4), .int (nI 1184), .int (nI 2400), .int (nI 1088), .int (nI 1152), .int (nI 2336), .int (nI 2368)])), (q31, .inr (1, [.int (nI 4), .int (nI 2), .int (nI 11), .int (nI 5), .int (nI 1568), .int (nI 3168), .int (nI 1568), .int (nI 1536), .int (nI 3104), .int (nI 3136)]))] ++ pl) _ := hP
  have hD : va_D _ ([(h0, .inr (0, [.ref q21, .int (nI 0), .ref q22, .int (nI 0), .ref q23, .int (nI 0), .ref q24, .ref q25, .ref q26, .ref q27, .ref q28])), (q24, .inl (g.2.1 3, 3, .inr (.inr (.inr (.inr ((va_up (va_up (fun _ => none) 0 (some q29)) 1 (some q30)))))))), (q25, .inl (g.2.1 4, 3, .inr (.inr (.inr (.inr ((fun _ => none))))))), (q29, .inr (1, [.int (nI 2), .int (nI 3), .int (nI 10), .int (nI 4), .int (nI 800), .int (nI 1632), .int (nI 768), .int (nI 768), .int (nI 1568), .int (nI 1600)])), (q30, .inr (1, [.int (nI 3), .int (nI 2), .int (nI 10), .int (nI 4), .int (nI 1184), .int (nI 2400), .int (nI 1088), .int (nI 1152), .int (nI 2336), .int (nI 2368)])), (q31, .inr (1, [.int (nI 4), .int (nI 2), .int (nI 11), .int (nI 5), .int (nI 1568), .int (nI 3168), .int (nI 1568), .int (nI 1536), .int (nI 3104), .int (nI 3136)]))] ++ pl) := hD
  refine W.widen (k := 144) (n := 54491) (by omega) (by omega) ?_
  refine va_astq hx hb hK hP hD hS 1 3 5 1 rfl rfl rfl rfl (vp_in_nI (by decide) (by decide)) dK_init_115 (fun H locs hP hD hS => ?_)
  have hP : va_P g.1 vcl ([(h0, .inr (0, [.ref q21, .int (nI 0), .ref q22, .int (nI 0), .ref q23, .int (nI 0), .ref q24, .ref q25, .ref q26, .ref q27, .ref q28])), (q24, .inl (g.2.1 3, 3, .inr (.inr (.inr (.inr ((va_up (va_up (va_up (fun _ => none) 0 (some q29)) 1 (some q30)) 2 (some q31)))))))), (q25, .inl (g.2.1 4, 3, .inr (.inr (.inr (.inr ((fun _ => none))))))), (q29, .inr (1, [.int (nI 2), .int (nI 3), .int (nI 10), .int (nI 4), .int (nI 800), .int (nI 1632), .int (nI 768), .int (nI 768), .int (nI 1568), .int (nI 1600)])), (q30, .inr (1, [.int (nI 3), .int (nI 2), .int (nI 10), .int (nI 4), .int (nI 1184), .int (nI 2400), .int (nI 1088), .int (nI 1152), .int (nI 2336), .int (nI 2368)])), (q31, .inr (1, [.int (nI 4), .int (nI 2), .int (nI 11), .int (nI 5), .int (nI 1568), .int (nI 3168), .int (nI 1568), .int (nI 1536), .int (nI 3104), .int (nI 3136)]))] ++ pl) _ := hP
  have hD : va_D _ ([(h0, .inr (0, [.ref q21, .int (nI 0), .ref q22, .int (nI 0), .ref q23, .int (nI 0), .ref q24, .ref q25, .ref q26, .ref q27, .ref q28])), (q24, .inl (g.2.1 3, 3, .inr (.inr (.inr (.inr ((va_up (va_up (va_up (fun _ => none) 0 (some q29)) 1 (some q30)) 2 (some q31)))))))), (q25, .inl (g.2.1 4, 3, .inr (.inr (.inr (.inr ((fun _ => none))))))), (q29, .inr (1, [.int (nI 2), .int (nI 3), .int (nI 10), .int (nI 4), .int (nI 800), .int (nI 1632), .int (nI 768), .int (nI 768), .int (nI 1568), .int (nI 1600)])), (q30, .inr (1, [.int (nI 3), .int (nI 2), .int (nI 10), .int (nI 4), .int (nI 1184), .int (nI 2400), .int (nI 1088), .int (nI 1152), .int (nI 2336), .int (nI 2368)])), (q31, .inr (1, [.int (nI 4), .int (nI 2), .int (nI 11), .int (nI 5), .int (nI 1568), .int (nI 3168), .int (nI 1568), .int (nI 1536), .int (nI 3104), .int (nI 3136)]))] ++ pl) := hD
  refine mi_iinc (k := 0) (x := 2) (d := 1) (y := 3) (lv' := [(1, .int (nI 3)), (0, .ref h0)]) hx hb dK_init_116 hl rfl (by decide) rfl (by decide) rfl (fun ls hl => ?_)
  refine lv_goto (tgt := 97) hx hb dK_init_119 (by decide) ?_
  refine lv_iload_n hx hb dK_init_97 rfl (lv_at hl 0 rfl) ?_
  refine lv_iconst (v := nI 3) hx hb dK_init_98 (by decide) ?_
  refine mi_ge (tgt := 122) hx hb dK_init_99 (by decide) (by omega) (by omega) (fun h24 => ?_) (fun h24 => absurd h24 (by omega))
  refine lv_iconst (v := nI 0) hx hb dK_init_122 (by decide) ?_
  refine lv_istore_n (lv' := [(1, .int (nI 0)), (0, .ref h0)]) hx hb dK_init_123 rfl hl (by decide) rfl (fun ls hl => ?_)
  refine lv_iload_n hx hb dK_init_124 rfl (lv_at hl 0 rfl) ?_
  refine lv_iconst (v := nI 3) hx hb dK_init_125 (by decide) ?_
  refine mi_ge (tgt := 149) hx hb dK_init_126 (by decide) (by omega) (by omega) (fun h25 => absurd h25 (by omega)) (fun h25 => ?_)
  refine lv_aload_n hx hb dK_init_129 rfl (lv_at hl 1 rfl) ?_
  refine va_get (D := g.1) (ci := 0) (C := "LatticeKeys") (T := T_K) (N := 11) hx hb hts (wg_ft i_K) hown hK hP 0 rfl rfl 7 (by decide) (hts _ (wg_t kw_381)) (fun _ h9 => h9) rfl dK_init_130 ?_
  refine lv_iload_n hx hb dK_init_133 rfl (lv_at hl 0 rfl) ?_
  refine va_new (ws := [(h0, .inr (0, [.ref q21, .int (nI 0), .ref q22, .int (nI 0), .ref q23, .int (nI 0), .ref q24, .ref q25, .ref q26, .ref q27, .ref q28])), (q24, .inl (g.2.1 3, 3, .inr (.inr (.inr (.inr ((va_up (va_up (va_up (fun _ => none) 0 (some q29)) 1 (some q30)) 2 (some q31)))))))), (q25, .inl (g.2.1 4, 3, .inr (.inr (.inr (.inr ((fun _ => none))))))), (q29, .inr (1, [.int (nI 2), .int (nI 3), .int (nI 10), .int (nI 4), .int (nI 800), .int (nI 1632), .int (nI 768), .int (nI 768), .int (nI 1568), .int (nI 1600)])), (q30, .inr (1, [.int (nI 3), .int (nI 2), .int (nI 10), .int (nI 4), .int (nI 1184), .int (nI 2400), .int (nI 1088), .int (nI 1152), .int (nI 2336), .int (nI 2368)])), (q31, .inr (1, [.int (nI 4), .int (nI 2), .int (nI 11), .int (nI 5), .int (nI 1568), .int (nI 3168), .int (nI 1568), .int (nI 1536), .int (nI 3104), .int (nI 3136)]))] ++ pl) (ci := 2) (fs := [.int 0, .int 0, .int 0, .int 0, .int 0, .int 0, .int 0, .int 0, .int 0, .int 0, .int 0, .int 0, .int 0, .int 0, .int 0, .int 0, .int 0]) (C := "LatticeKeys$DsaSet") (T := T_DS) (N := 17) hx hb hts (wg_ft i_DS) ty_DS k_DS hown (hts _ (wg_t kw_47)) (hts _ (wg_t kw_274)) (hts _ (wg_t kw_8)) hK hP hD hS hA rfl z_DS (Nat.le_of_ble_eq_true rfl) (Nat.le_of_ble_eq_true rfl) dK_init_134 (fun q32 H hP hD hS => ?_)
  obtain ⟨hP, hD⟩ := mv_first hP hD
  have hP : va_P g.1 vcl ([(h0, .inr (0, [.ref q21, .int (nI 0), .ref q22, .int (nI 0), .ref q23, .int (nI 0), .ref q24, .ref q25, .ref q26, .ref q27, .ref q28])), (q24, .inl (g.2.1 3, 3, .inr (.inr (.inr (.inr ((va_up (va_up (va_up (fun _ => none) 0 (some q29)) 1 (some q30)) 2 (some q31)))))))), (q25, .inl (g.2.1 4, 3, .inr (.inr (.inr (.inr ((fun _ => none))))))), (q29, .inr (1, [.int (nI 2), .int (nI 3), .int (nI 10), .int (nI 4), .int (nI 800), .int (nI 1632), .int (nI 768), .int (nI 768), .int (nI 1568), .int (nI 1600)])), (q30, .inr (1, [.int (nI 3), .int (nI 2), .int (nI 10), .int (nI 4), .int (nI 1184), .int (nI 2400), .int (nI 1088), .int (nI 1152), .int (nI 2336), .int (nI 2368)])), (q31, .inr (1, [.int (nI 4), .int (nI 2), .int (nI 11), .int (nI 5), .int (nI 1568), .int (nI 3168), .int (nI 1568), .int (nI 1536), .int (nI 3104), .int (nI 3136)])), (q32, .inr (2, [.int 0, .int 0, .int 0, .int 0, .int 0, .int 0, .int 0, .int 0, .int 0, .int 0, .int 0, .int 0, .int 0, .int 0, .int 0, .int 0, .int 0]))] ++ pl) _ := hP
  have hD : va_D _ ([(h0, .inr (0, [.ref q21, .int (nI 0), .ref q22, .int (nI 0), .ref q23, .int (nI 0), .ref q24, .ref q25, .ref q26, .ref q27, .ref q28])), (q24, .inl (g.2.1 3, 3, .inr (.inr (.inr (.inr ((va_up (va_up (va_up (fun _ => none) 0 (some q29)) 1 (some q30)) 2 (some q31)))))))), (q25, .inl (g.2.1 4, 3, .inr (.inr (.inr (.inr ((fun _ => none))))))), (q29, .inr (1, [.int (nI 2), .int (nI 3), .int (nI 10), .int (nI 4), .int (nI 800), .int (nI 1632), .int (nI 768), .int (nI 768), .int (nI 1568), .int (nI 1600)])), (q30, .inr (1, [.int (nI 3), .int (nI 2), .int (nI 10), .int (nI 4), .int (nI 1184), .int (nI 2400), .int (nI 1088), .int (nI 1152), .int (nI 2336), .int (nI 2368)])), (q31, .inr (1, [.int (nI 4), .int (nI 2), .int (nI 11), .int (nI 5), .int (nI 1568), .int (nI 3168), .int (nI 1568), .int (nI 1536), .int (nI 3104), .int (nI 3136)])), (q32, .inr (2, [.int 0, .int 0, .int 0, .int 0, .int 0, .int 0, .int 0, .int 0, .int 0, .int 0, .int 0, .int 0, .int 0, .int 0, .int 0, .int 0, .int 0]))] ++ pl) := hD
  refine W.widen (k := 145) (n := 54508) (by omega) (by omega) ?_
  refine lv_dup hx hb dK_init_137 rfl ?_
  refine lv_iload_n hx hb dK_init_138 rfl (lv_at hl 0 rfl) ?_
  refine mp_v (cx := [(q32, .inr (2, [.int 0, .int 0, .int 0, .int 0, .int 0, .int 0, .int 0, .int 0, .int 0, .int 0, .int 0, .int 0, .int 0, .int 0, .int 0, .int 0, .int 0]))]) (wr := [(h0, .inr (0, [.ref q21, .int (nI 0), .ref q22, .int (nI 0), .ref q23, .int (nI 0), .ref q24, .ref q25, .ref q26, .ref q27, .ref q28])), (q24, .inl (g.2.1 3, 3, .inr (.inr (.inr (.inr ((va_up (va_up (va_up (fun _ => none) 0 (some q29)) 1 (some q30)) 2 (some q31)))))))), (q25, .inl (g.2.1 4, 3, .inr (.inr (.inr (.inr ((fun _ => none))))))), (q29, .inr (1, [.int (nI 2), .int (nI 3), .int (nI 10), .int (nI 4), .int (nI 800), .int (nI 1632), .int (nI 768), .int (nI 768), .int (nI 1568), .int (nI 1600)])), (q30, .inr (1, [.int (nI 3), .int (nI 2), .int (nI 10), .int (nI 4), .int (nI 1184), .int (nI 2400), .int (nI 1088), .int (nI 1152), .int (nI 2336), .int (nI 2368)])), (q31, .inr (1, [.int (nI 4), .int (nI 2), .int (nI 11), .int (nI 5), .int (nI 1568), .int (nI 3168), .int (nI 1568), .int (nI 1536), .int (nI 3104), .int (nI 3136)]))]) hP hD hS hA [6] [0, 1, 2, 3, 4, 5] rfl rfl rfl (by decide) (va_runI (As := [.int (nI 0)]) (rest := [.ref q32, .int (nI 0), .ref q25]) F (t_DS_init_0 l g _ T  pl hO hU  q32) (cwI 1 hts (wg_in kw_277) rfl rfl rfl (hts _ (wg_t kw_8)) (hts _ (wg_t kw_275)) (hts _ (wg_t kw_276)) rfl (by decide +kernel) ⟨by decide, by decide⟩) (pp_S (en_ok g) hP hD hS hA hE [6] rfl rfl) rfl rfl hl.1 rfl (lv_room (Nat.le_of_ble_eq_true rfl)) dK_init_139 ⟨Nat.le_of_ble_eq_true rfl, Nat.le_of_ble_eq_true rfl⟩) (fun  pl H locs hu27 hP hD hS => ?_)
  obtain ⟨hq27, hO⟩ := hu27
  have hP : va_P g.1 vcl ([(h0, .inr (0, [.ref q21, .int (nI 0), .ref q22, .int (nI 0), .ref q23, .int (nI 0), .ref q24, .ref q25, .ref q26, .ref q27, .ref q28])), (q24, .inl (g.2.1 3, 3, .inr (.inr (.inr (.inr ((va_up (va_up (va_up (fun _ => none) 0 (some q29)) 1 (some q30)) 2 (some q31)))))))), (q25, .inl (g.2.1 4, 3, .inr (.inr (.inr (.inr ((fun _ => none))))))), (q29, .inr (1, [.int (nI 2), .int (nI 3), .int (nI 10), .int (nI 4), .int (nI 800), .int (nI 1632), .int (nI 768), .int (nI 768), .int (nI 1568), .int (nI 1600)])), (q30, .inr (1, [.int (nI 3), .int (nI 2), .int (nI 10), .int (nI 4), .int (nI 1184), .int (nI 2400), .int (nI 1088), .int (nI 1152), .int (nI 2336), .int (nI 2368)])), (q31, .inr (1, [.int (nI 4), .int (nI 2), .int (nI 11), .int (nI 5), .int (nI 1568), .int (nI 3168), .int (nI 1568), .int (nI 1536), .int (nI 3104), .int (nI 3136)])), (q32, .inr (2, [.int (nI 4), .int (nI 4), .int (nI 2), .int (nI 3), .int (nI 39), .int (nI 32), .int (nI 18), .int (nI 131072), .int (nI 44), .int (nI 6), .int (nI 95232), .int (nI 80), .int (nI 78), .int (nI 1312), .int (nI 2560), .int (nI 2336), .int (nI 2420)]))] ++ pl) _ := hP
  have hD : va_D _ ([(h0, .inr (0, [.ref q21, .int (nI 0), .ref q22, .int (nI 0), .ref q23, .int (nI 0), .ref q24, .ref q25, .ref q26, .ref q27, .ref q28])), (q24, .inl (g.2.1 3, 3, .inr (.inr (.inr (.inr ((va_up (va_up (va_up (fun _ => none) 0 (some q29)) 1 (some q30)) 2 (some q31)))))))), (q25, .inl (g.2.1 4, 3, .inr (.inr (.inr (.inr ((fun _ => none))))))), (q29, .inr (1, [.int (nI 2), .int (nI 3), .int (nI 10), .int (nI 4), .int (nI 800), .int (nI 1632), .int (nI 768), .int (nI 768), .int (nI 1568), .int (nI 1600)])), (q30, .inr (1, [.int (nI 3), .int (nI 2), .int (nI 10), .int (nI 4), .int (nI 1184), .int (nI 2400), .int (nI 1088), .int (nI 1152), .int (nI 2336), .int (nI 2368)])), (q31, .inr (1, [.int (nI 4), .int (nI 2), .int (nI 11), .int (nI 5), .int (nI 1568), .int (nI 3168), .int (nI 1568), .int (nI 1536), .int (nI 3104), .int (nI 3136)])), (q32, .inr (2, [.int (nI 4), .int (nI 4), .int (nI 2), .int (nI 3), .int (nI 39), .int (nI 32), .int (nI 18), .int (nI 131072), .int (nI 44), .int (nI 6), .int (nI 95232), .int (nI 80), .int (nI 78), .int (nI 1312), .int (nI 2560), .int (nI 2336), .int (nI 2420)]))] ++ pl) := hD
  refine W.widen (k := 145) (n := 54508) (by omega) (by omega) ?_
  refine va_astq hx hb hK hP hD hS 2 4 6 2 rfl rfl rfl rfl (vp_in_nI (by decide) (by decide)) dK_init_142 (fun H locs hP hD hS => ?_)
  have hP : va_P g.1 vcl ([(h0, .inr (0, [.ref q21, .int (nI 0), .ref q22, .int (nI 0), .ref q23, .int (nI 0), .ref q24, .ref q25, .ref q26, .ref q27, .ref q28])), (q24, .inl (g.2.1 3, 3, .inr (.inr (.inr (.inr ((va_up (va_up (va_up (fun _ => none) 0 (some q29)) 1 (some q30)) 2 (some q31)))))))), (q25, .inl (g.2.1 4, 3, .inr (.inr (.inr (.inr ((va_up (fun _ => none) 0 (some q32)))))))), (q29, .inr (1, [.int (nI 2), .int (nI 3), .int (nI 10), .int (nI 4), .int (nI 800), .int (nI 1632), .int (nI 768), .int (nI 768), .int (nI 1568), .int (nI 1600)])), (q30, .inr (1, [.int (nI 3), .int (nI 2), .int (nI 10), .int (nI 4), .int (nI 1184), .int (nI 2400), .int (nI 1088), .int (nI 1152), .int (nI 2336), .int (nI 2368)])), (q31, .inr (1, [.int (nI 4), .int (nI 2), .int (nI 11), .int (nI 5), .int (nI 1568), .int (nI 3168), .int (nI 1568), .int (nI 1536), .int (nI 3104), .int (nI 3136)])), (q32, .inr (2, [.int (nI 4), .int (nI 4), .int (nI 2), .int (nI 3), .int (nI 39), .int (nI 32), .int (nI 18), .int (nI 131072), .int (nI 44), .int (nI 6), .int (nI 95232), .int (nI 80), .int (nI 78), .int (nI 1312), .int (nI 2560), .int (nI 2336), .int (nI 2420)]))] ++ pl) _ := hP
  have hD : va_D _ ([(h0, .inr (0, [.ref q21, .int (nI 0), .ref q22, .int (nI 0), .ref q23, .int (nI 0), .ref q24, .ref q25, .ref q26, .ref q27, .ref q28])), (q24, .inl (g.2.1 3, 3, .inr (.inr (.inr (.inr ((va_up (va_up (va_up (fun _ => none) 0 (some q29)) 1 (some q30)) 2 (some q31)))))))), (q25, .inl (g.2.1 4, 3, .inr (.inr (.inr (.inr ((va_up (fun _ => none) 0 (some q32)))))))), (q29, .inr (1, [.int (nI 2), .int (nI 3), .int (nI 10), .int (nI 4), .int (nI 800), .int (nI 1632), .int (nI 768), .int (nI 768), .int (nI 1568), .int (nI 1600)])), (q30, .inr (1, [.int (nI 3), .int (nI 2), .int (nI 10), .int (nI 4), .int (nI 1184), .int (nI 2400), .int (nI 1088), .int (nI 1152), .int (nI 2336), .int (nI 2368)])), (q31, .inr (1, [.int (nI 4), .int (nI 2), .int (nI 11), .int (nI 5), .int (nI 1568), .int (nI 3168), .int (nI 1568), .int (nI 1536), .int (nI 3104), .int (nI 3136)])), (q32, .inr (2, [.int (nI 4), .int (nI 4), .int (nI 2), .int (nI 3), .int (nI 39), .int (nI 32), .int (nI 18), .int (nI 131072), .int (nI 44), .int (nI 6), .int (nI 95232), .int (nI 80), .int (nI 78), .int (nI 1312), .int (nI 2560), .int (nI 2336), .int (nI 2420)]))] ++ pl) := hD
  refine mi_iinc (k := 0) (x := 0) (d := 1) (y := 1) (lv' := [(1, .int (nI 1)), (0, .ref h0)]) hx hb dK_init_143 hl rfl (by decide) rfl (by decide) rfl (fun ls hl => ?_)
  refine lv_goto (tgt := 124) hx hb dK_init_146 (by decide) ?_
  refine lv_iload_n hx hb dK_init_124 rfl (lv_at hl 0 rfl) ?_
  refine lv_iconst (v := nI 3) hx hb dK_init_125 (by decide) ?_
  refine mi_ge (tgt := 149) hx hb dK_init_126 (by decide) (by omega) (by omega) (fun h26 => absurd h26 (by omega)) (fun h26 => ?_)
  refine lv_aload_n hx hb dK_init_129 rfl (lv_at hl 1 rfl) ?_
  refine va_get (D := g.1) (ci := 0) (C := "LatticeKeys") (T := T_K) (N := 11) hx hb hts (wg_ft i_K) hown hK hP 0 rfl rfl 7 (by decide) (hts _ (wg_t kw_381)) (fun _ h9 => h9) rfl dK_init_130 ?_
  refine lv_iload_n hx hb dK_init_133 rfl (lv_at hl 0 rfl) ?_
  refine va_new (ws := [(h0, .inr (0, [.ref q21, .int (nI 0), .ref q22, .int (nI 0), .ref q23, .int (nI 0), .ref q24, .ref q25, .ref q26, .ref q27, .ref q28])), (q24, .inl (g.2.1 3, 3, .inr (.inr (.inr (.inr ((va_up (va_up (va_up (fun _ => none) 0 (some q29)) 1 (some q30)) 2 (some q31)))))))), (q25, .inl (g.2.1 4, 3, .inr (.inr (.inr (.inr ((va_up (fun _ => none) 0 (some q32)))))))), (q29, .inr (1, [.int (nI 2), .int (nI 3), .int (nI 10), .int (nI 4), .int (nI 800), .int (nI 1632), .int (nI 768), .int (nI 768), .int (nI 1568), .int (nI 1600)])), (q30, .inr (1, [.int (nI 3), .int (nI 2), .int (nI 10), .int (nI 4), .int (nI 1184), .int (nI 2400), .int (nI 1088), .int (nI 1152), .int (nI 2336), .int (nI 2368)])), (q31, .inr (1, [.int (nI 4), .int (nI 2), .int (nI 11), .int (nI 5), .int (nI 1568), .int (nI 3168), .int (nI 1568), .int (nI 1536), .int (nI 3104), .int (nI 3136)])), (q32, .inr (2, [.int (nI 4), .int (nI 4), .int (nI 2), .int (nI 3), .int (nI 39), .int (nI 32), .int (nI 18), .int (nI 131072), .int (nI 44), .int (nI 6), .int (nI 95232), .int (nI 80), .int (nI 78), .int (nI 1312), .int (nI 2560), .int (nI 2336), .int (nI 2420)]))] ++ pl) (ci := 2) (fs := [.int 0, .int 0, .int 0, .int 0, .int 0, .int 0, .int 0, .int 0, .int 0, .int 0, .int 0, .int 0, .int 0, .int 0, .int 0, .int 0, .int 0]) (C := "LatticeKeys$DsaSet") (T := T_DS) (N := 17) hx hb hts (wg_ft i_DS) ty_DS k_DS hown (hts _ (wg_t kw_47)) (hts _ (wg_t kw_274)) (hts _ (wg_t kw_8)) hK hP hD hS hA rfl z_DS (Nat.le_of_ble_eq_true rfl) (Nat.le_of_ble_eq_true rfl) dK_init_134 (fun q33 H hP hD hS => ?_)
  obtain ⟨hP, hD⟩ := mv_first hP hD
  have hP : va_P g.1 vcl ([(h0, .inr (0, [.ref q21, .int (nI 0), .ref q22, .int (nI 0), .ref q23, .int (nI 0), .ref q24, .ref q25, .ref q26, .ref q27, .ref q28])), (q24, .inl (g.2.1 3, 3, .inr (.inr (.inr (.inr ((va_up (va_up (va_up (fun _ => none) 0 (some q29)) 1 (some q30)) 2 (some q31)))))))), (q25, .inl (g.2.1 4, 3, .inr (.inr (.inr (.inr ((va_up (fun _ => none) 0 (some q32)))))))), (q29, .inr (1, [.int (nI 2), .int (nI 3), .int (nI 10), .int (nI 4), .int (nI 800), .int (nI 1632), .int (nI 768), .int (nI 768), .int (nI 1568), .int (nI 1600)])), (q30, .inr (1, [.int (nI 3), .int (nI 2), .int (nI 10), .int (nI 4), .int (nI 1184), .int (nI 2400), .int (nI 1088), .int (nI 1152), .int (nI 2336), .int (nI 2368)])), (q31, .inr (1, [.int (nI 4), .int (nI 2), .int (nI 11), .int (nI 5), .int (nI 1568), .int (nI 3168), .int (nI 1568), .int (nI 1536), .int (nI 3104), .int (nI 3136)])), (q32, .inr (2, [.int (nI 4), .int (nI 4), .int (nI 2), .int (nI 3), .int (nI 39), .int (nI 32), .int (nI 18), .int (nI 131072), .int (nI 44), .int (nI 6), .int (nI 95232), .int (nI 80), .int (nI 78), .int (nI 1312), .int (nI 2560), .int (nI 2336), .int (nI 2420)])), (q33, .inr (2, [.int 0, .int 0, .int 0, .int 0, .int 0, .int 0, .int 0, .int 0, .int 0, .int 0, .int 0, .int 0, .int 0, .int 0, .int 0, .int 0, .int 0]))] ++ pl) _ := hP
  have hD : va_D _ ([(h0, .inr (0, [.ref q21, .int (nI 0), .ref q22, .int (nI 0), .ref q23, .int (nI 0), .ref q24, .ref q25, .ref q26, .ref q27, .ref q28])), (q24, .inl (g.2.1 3, 3, .inr (.inr (.inr (.inr ((va_up (va_up (va_up (fun _ => none) 0 (some q29)) 1 (some q30)) 2 (some q31)))))))), (q25, .inl (g.2.1 4, 3, .inr (.inr (.inr (.inr ((va_up (fun _ => none) 0 (some q32)))))))), (q29, .inr (1, [.int (nI 2), .int (nI 3), .int (nI 10), .int (nI 4), .int (nI 800), .int (nI 1632), .int (nI 768), .int (nI 768), .int (nI 1568), .int (nI 1600)])), (q30, .inr (1, [.int (nI 3), .int (nI 2), .int (nI 10), .int (nI 4), .int (nI 1184), .int (nI 2400), .int (nI 1088), .int (nI 1152), .int (nI 2336), .int (nI 2368)])), (q31, .inr (1, [.int (nI 4), .int (nI 2), .int (nI 11), .int (nI 5), .int (nI 1568), .int (nI 3168), .int (nI 1568), .int (nI 1536), .int (nI 3104), .int (nI 3136)])), (q32, .inr (2, [.int (nI 4), .int (nI 4), .int (nI 2), .int (nI 3), .int (nI 39), .int (nI 32), .int (nI 18), .int (nI 131072), .int (nI 44), .int (nI 6), .int (nI 95232), .int (nI 80), .int (nI 78), .int (nI 1312), .int (nI 2560), .int (nI 2336), .int (nI 2420)])), (q33, .inr (2, [.int 0, .int 0, .int 0, .int 0, .int 0, .int 0, .int 0, .int 0, .int 0, .int 0, .int 0, .int 0, .int 0, .int 0, .int 0, .int 0, .int 0]))] ++ pl) := hD
  refine W.widen (k := 146) (n := 54525) (by omega) (by omega) ?_
  refine lv_dup hx hb dK_init_137 rfl ?_
  refine lv_iload_n hx hb dK_init_138 rfl (lv_at hl 0 rfl) ?_
  refine mp_v (cx := [(q33, .inr (2, [.int 0, .int 0, .int 0, .int 0, .int 0, .int 0, .int 0, .int 0, .int 0, .int 0, .int 0, .int 0, .int 0, .int 0, .int 0, .int 0, .int 0]))]) (wr := [(h0, .inr (0, [.ref q21, .int (nI 0), .ref q22, .int (nI 0), .ref q23, .int (nI 0), .ref q24, .ref q25, .ref q26, .ref q27, .ref q28])), (q24, .inl (g.2.1 3, 3, .inr (.inr (.inr (.inr ((va_up (va_up (va_up (fun _ => none) 0 (some q29)) 1 (some q30)) 2 (some q31)))))))), (q25, .inl (g.2.1 4, 3, .inr (.inr (.inr (.inr ((va_up (fun _ => none) 0 (some q32)))))))), (q29, .inr (1, [.int (nI 2), .int (nI 3), .int (nI 10), .int (nI 4), .int (nI 800), .int (nI 1632), .int (nI 768), .int (nI 768), .int (nI 1568), .int (nI 1600)])), (q30, .inr (1, [.int (nI 3), .int (nI 2), .int (nI 10), .int (nI 4), .int (nI 1184), .int (nI 2400), .int (nI 1088), .int (nI 1152), .int (nI 2336), .int (nI 2368)])), (q31, .inr (1, [.int (nI 4), .int (nI 2), .int (nI 11), .int (nI 5), .int (nI 1568), .int (nI 3168), .int (nI 1568), .int (nI 1536), .int (nI 3104), .int (nI 3136)])), (q32, .inr (2, [.int (nI 4), .int (nI 4), .int (nI 2), .int (nI 3), .int (nI 39), .int (nI 32), .int (nI 18), .int (nI 131072), .int (nI 44), .int (nI 6), .int (nI 95232), .int (nI 80), .int (nI 78), .int (nI 1312), .int (nI 2560), .int (nI 2336), .int (nI 2420)]))]) hP hD hS hA [7] [0, 1, 2, 3, 4, 5, 6] rfl rfl rfl (by decide) (va_runI (As := [.int (nI 1)]) (rest := [.ref q33, .int (nI 1), .ref q25]) F (t_DS_init_1 l g _ T  pl hO hU  q33) (cwI 1 hts (wg_in kw_277) rfl rfl rfl (hts _ (wg_t kw_8)) (hts _ (wg_t kw_275)) (hts _ (wg_t kw_276)) rfl (by decide +kernel) ⟨by decide, by decide⟩) (pp_S (en_ok g) hP hD hS hA hE [7] rfl rfl) rfl rfl hl.1 rfl (lv_room (Nat.le_of_ble_eq_true rfl)) dK_init_139 ⟨Nat.le_of_ble_eq_true rfl, Nat.le_of_ble_eq_true rfl⟩) (fun  pl H locs hu28 hP hD hS => ?_)
  obtain ⟨hq28, hO⟩ := hu28
  have hP : va_P g.1 vcl ([(h0, .inr (0, [.ref q21, .int (nI 0), .ref q22, .int (nI 0), .ref q23, .int (nI 0), .ref q24, .ref q25, .ref q26, .ref q27, .ref q28])), (q24, .inl (g.2.1 3, 3, .inr (.inr (.inr (.inr ((va_up (va_up (va_up (fun _ => none) 0 (some q29)) 1 (some q30)) 2 (some q31)))))))), (q25, .inl (g.2.1 4, 3, .inr (.inr (.inr (.inr ((va_up (fun _ => none) 0 (some q32)))))))), (q29, .inr (1, [.int (nI 2), .int (nI 3), .int (nI 10), .int (nI 4), .int (nI 800), .int (nI 1632), .int (nI 768), .int (nI 768), .int (nI 1568), .int (nI 1600)])), (q30, .inr (1, [.int (nI 3), .int (nI 2), .int (nI 10), .int (nI 4), .int (nI 1184), .int (nI 2400), .int (nI 1088), .int (nI 1152), .int (nI 2336), .int (nI 2368)])), (q31, .inr (1, [.int (nI 4), .int (nI 2), .int (nI 11), .int (nI 5), .int (nI 1568), .int (nI 3168), .int (nI 1568), .int (nI 1536), .int (nI 3104), .int (nI 3136)])), (q32, .inr (2, [.int (nI 4), .int (nI 4), .int (nI 2), .int (nI 3), .int (nI 39), .int (nI 32), .int (nI 18), .int (nI 131072), .int (nI 44), .int (nI 6), .int (nI 95232), .int (nI 80), .int (nI 78), .int (nI 1312), .int (nI 2560), .int (nI 2336), .int (nI 2420)])), (q33, .inr (2, [.int (nI 6), .int (nI 5), .int (nI 4), .int (nI 4), .int (nI 49), .int (nI 48), .int (nI 20), .int (nI 524288), .int (nI 16), .int (nI 4), .int (nI 261888), .int (nI 55), .int (nI 196), .int (nI 1952), .int (nI 4032), .int (nI 3248), .int (nI 3309)]))] ++ pl) _ := hP
  have hD : va_D _ ([(h0, .inr (0, [.ref q21, .int (nI 0), .ref q22, .int (nI 0), .ref q23, .int (nI 0), .ref q24, .ref q25, .ref q26, .ref q27, .ref q28])), (q24, .inl (g.2.1 3, 3, .inr (.inr (.inr (.inr ((va_up (va_up (va_up (fun _ => none) 0 (some q29)) 1 (some q30)) 2 (some q31)))))))), (q25, .inl (g.2.1 4, 3, .inr (.inr (.inr (.inr ((va_up (fun _ => none) 0 (some q32)))))))), (q29, .inr (1, [.int (nI 2), .int (nI 3), .int (nI 10), .int (nI 4), .int (nI 800), .int (nI 1632), .int (nI 768), .int (nI 768), .int (nI 1568), .int (nI 1600)])), (q30, .inr (1, [.int (nI 3), .int (nI 2), .int (nI 10), .int (nI 4), .int (nI 1184), .int (nI 2400), .int (nI 1088), .int (nI 1152), .int (nI 2336), .int (nI 2368)])), (q31, .inr (1, [.int (nI 4), .int (nI 2), .int (nI 11), .int (nI 5), .int (nI 1568), .int (nI 3168), .int (nI 1568), .int (nI 1536), .int (nI 3104), .int (nI 3136)])), (q32, .inr (2, [.int (nI 4), .int (nI 4), .int (nI 2), .int (nI 3), .int (nI 39), .int (nI 32), .int (nI 18), .int (nI 131072), .int (nI 44), .int (nI 6), .int (nI 95232), .int (nI 80), .int (nI 78), .int (nI 1312), .int (nI 2560), .int (nI 2336), .int (nI 2420)])), (q33, .inr (2, [.int (nI 6), .int (nI 5), .int (nI 4), .int (nI 4), .int (nI 49), .int (nI 48), .int (nI 20), .int (nI 524288), .int (nI 16), .int (nI 4), .int (nI 261888), .int (nI 55), .int (nI 196), .int (nI 1952), .int (nI 4032), .int (nI 3248), .int (nI 3309)]))] ++ pl) := hD
  refine W.widen (k := 146) (n := 54525) (by omega) (by omega) ?_
  refine va_astq hx hb hK hP hD hS 2 4 7 2 rfl rfl rfl rfl (vp_in_nI (by decide) (by decide)) dK_init_142 (fun H locs hP hD hS => ?_)
  have hP : va_P g.1 vcl ([(h0, .inr (0, [.ref q21, .int (nI 0), .ref q22, .int (nI 0), .ref q23, .int (nI 0), .ref q24, .ref q25, .ref q26, .ref q27, .ref q28])), (q24, .inl (g.2.1 3, 3, .inr (.inr (.inr (.inr ((va_up (va_up (va_up (fun _ => none) 0 (some q29)) 1 (some q30)) 2 (some q31)))))))), (q25, .inl (g.2.1 4, 3, .inr (.inr (.inr (.inr ((va_up (va_up (fun _ => none) 0 (some q32)) 1 (some q33)))))))), (q29, .inr (1, [.int (nI 2), .int (nI 3), .int (nI 10), .int (nI 4), .int (nI 800), .int (nI 1632), .int (nI 768), .int (nI 768), .int (nI 1568), .int (nI 1600)])), (q30, .inr (1, [.int (nI 3), .int (nI 2), .int (nI 10), .int (nI 4), .int (nI 1184), .int (nI 2400), .int (nI 1088), .int (nI 1152), .int (nI 2336), .int (nI 2368)])), (q31, .inr (1, [.int (nI 4), .int (nI 2), .int (nI 11), .int (nI 5), .int (nI 1568), .int (nI 3168), .int (nI 1568), .int (nI 1536), .int (nI 3104), .int (nI 3136)])), (q32, .inr (2, [.int (nI 4), .int (nI 4), .int (nI 2), .int (nI 3), .int (nI 39), .int (nI 32), .int (nI 18), .int (nI 131072), .int (nI 44), .int (nI 6), .int (nI 95232), .int (nI 80), .int (nI 78), .int (nI 1312), .int (nI 2560), .int (nI 2336), .int (nI 2420)])), (q33, .inr (2, [.int (nI 6), .int (nI 5), .int (nI 4), .int (nI 4), .int (nI 49), .int (nI 48), .int (nI 20), .int (nI 524288), .int (nI 16), .int (nI 4), .int (nI 261888), .int (nI 55), .int (nI 196), .int (nI 1952), .int (nI 4032), .int (nI 3248), .int (nI 3309)]))] ++ pl) _ := hP
  have hD : va_D _ ([(h0, .inr (0, [.ref q21, .int (nI 0), .ref q22, .int (nI 0), .ref q23, .int (nI 0), .ref q24, .ref q25, .ref q26, .ref q27, .ref q28])), (q24, .inl (g.2.1 3, 3, .inr (.inr (.inr (.inr ((va_up (va_up (va_up (fun _ => none) 0 (some q29)) 1 (some q30)) 2 (some q31)))))))), (q25, .inl (g.2.1 4, 3, .inr (.inr (.inr (.inr ((va_up (va_up (fun _ => none) 0 (some q32)) 1 (some q33)))))))), (q29, .inr (1, [.int (nI 2), .int (nI 3), .int (nI 10), .int (nI 4), .int (nI 800), .int (nI 1632), .int (nI 768), .int (nI 768), .int (nI 1568), .int (nI 1600)])), (q30, .inr (1, [.int (nI 3), .int (nI 2), .int (nI 10), .int (nI 4), .int (nI 1184), .int (nI 2400), .int (nI 1088), .int (nI 1152), .int (nI 2336), .int (nI 2368)])), (q31, .inr (1, [.int (nI 4), .int (nI 2), .int (nI 11), .int (nI 5), .int (nI 1568), .int (nI 3168), .int (nI 1568), .int (nI 1536), .int (nI 3104), .int (nI 3136)])), (q32, .inr (2, [.int (nI 4), .int (nI 4), .int (nI 2), .int (nI 3), .int (nI 39), .int (nI 32), .int (nI 18), .int (nI 131072), .int (nI 44), .int (nI 6), .int (nI 95232), .int (nI 80), .int (nI 78), .int (nI 1312), .int (nI 2560), .int (nI 2336), .int (nI 2420)])), (q33, .inr (2, [.int (nI 6), .int (nI 5), .int (nI 4), .int (nI 4), .int (nI 49), .int (nI 48), .int (nI 20), .int (nI 524288), .int (nI 16), .int (nI 4), .int (nI 261888), .int (nI 55), .int (nI 196), .int (nI 1952), .int (nI 4032), .int (nI 3248), .int (nI 3309)]))] ++ pl) := hD
  refine mi_iinc (k := 0) (x := 1) (d := 1) (y := 2) (lv' := [(1, .int (nI 2)), (0, .ref h0)]) hx hb dK_init_143 hl rfl (by decide) rfl (by decide) rfl (fun ls hl => ?_)
  refine lv_goto (tgt := 124) hx hb dK_init_146 (by decide) ?_
  refine lv_iload_n hx hb dK_init_124 rfl (lv_at hl 0 rfl) ?_
  refine lv_iconst (v := nI 3) hx hb dK_init_125 (by decide) ?_
  refine mi_ge (tgt := 149) hx hb dK_init_126 (by decide) (by omega) (by omega) (fun h27 => absurd h27 (by omega)) (fun h27 => ?_)
  refine lv_aload_n hx hb dK_init_129 rfl (lv_at hl 1 rfl) ?_
  refine va_get (D := g.1) (ci := 0) (C := "LatticeKeys") (T := T_K) (N := 11) hx hb hts (wg_ft i_K) hown hK hP 0 rfl rfl 7 (by decide) (hts _ (wg_t kw_381)) (fun _ h9 => h9) rfl dK_init_130 ?_
  refine lv_iload_n hx hb dK_init_133 rfl (lv_at hl 0 rfl) ?_
  refine va_new (ws := [(h0, .inr (0, [.ref q21, .int (nI 0), .ref q22, .int (nI 0), .ref q23, .int (nI 0), .ref q24, .ref q25, .ref q26, .ref q27, .ref q28])), (q24, .inl (g.2.1 3, 3, .inr (.inr (.inr (.inr ((va_up (va_up (va_up (fun _ => none) 0 (some q29)) 1 (some q30)) 2 (some q31)))))))), (q25, .inl (g.2.1 4, 3, .inr (.inr (.inr (.inr ((va_up (va_up (fun _ => none) 0 (some q32)) 1 (some q33)))))))), (q29, .inr (1, [.int (nI 2), .int (nI 3), .int (nI 10), .int (nI 4), .int (nI 800), .int (nI 1632), .int (nI 768), .int (nI 768), .int (nI 1568), .int (nI 1600)])), (q30, .inr (1, [.int (nI 3), .int (nI 2), .int (nI 10), .int (nI 4), .int (nI 1184), .int (nI 2400), .int (nI 1088), .int (nI 1152), .int (nI 2336), .int (nI 2368)])), (q31, .inr (1, [.int (nI 4), .int (nI 2), .int (nI 11), .int (nI 5), .int (nI 1568), .int (nI 3168), .int (nI 1568), .int (nI 1536), .int (nI 3104), .int (nI 3136)])), (q32, .inr (2, [.int (nI 4), .int (nI 4), .int (nI 2), .int (nI 3), .int (nI 39), .int (nI 32), .int (nI 18), .int (nI 131072), .int (nI 44), .int (nI 6), .int (nI 95232), .int (nI 80), .int (nI 78), .int (nI 1312), .int (nI 2560), .int (nI 2336), .int (nI 2420)])), (q33, .inr (2, [.int (nI 6), .int (nI 5), .int (nI 4), .int (nI 4), .int (nI 49), .int (nI 48), .int (nI 20), .int (nI 524288), .int (nI 16), .int (nI 4), .int (nI 261888), .int (nI 55), .int (nI 196), .int (nI 1952), .int (nI 4032), .int (nI 3248), .int (nI 3309)]))] ++ pl) (ci := 2) (fs := [.int 0, .int 0, .int 0, .int 0, .int 0, .int 0, .int 0, .int 0, .int 0, .int 0, .int 0, .int 0, .int 0, .int 0, .int 0, .int 0, .int 0]) (C := "LatticeKeys$DsaSet") (T := T_DS) (N := 17) hx hb hts (wg_ft i_DS) ty_DS k_DS hown (hts _ (wg_t kw_47)) (hts _ (wg_t kw_274)) (hts _ (wg_t kw_8)) hK hP hD hS hA rfl z_DS (Nat.le_of_ble_eq_true rfl) (Nat.le_of_ble_eq_true rfl) dK_init_134 (fun q34 H hP hD hS => ?_)
  obtain ⟨hP, hD⟩ := mv_first hP hD
  have hP : va_P g.1 vcl ([(h0, .inr (0, [.ref q21, .int (nI 0), .ref q22, .int (nI 0), .ref q23, .int (nI 0), .ref q24, .ref q25, .ref q26, .ref q27, .ref q28])), (q24, .inl (g.2.1 3, 3, .inr (.inr (.inr (.inr ((va_up (va_up (va_up (fun _ => none) 0 (some q29)) 1 (some q30)) 2 (some q31)))))))), (q25, .inl (g.2.1 4, 3, .inr (.inr (.inr (.inr ((va_up (va_up (fun _ => none) 0 (some q32)) 1 (some q33)))))))), (q29, .inr (1, [.int (nI 2), .int (nI 3), .int (nI 10), .int (nI 4), .int (nI 800), .int (nI 1632), .int (nI 768), .int (nI 768), .int (nI 1568), .int (nI 1600)])), (q30, .inr (1, [.int (nI 3), .int (nI 2), .int (nI 10), .int (nI 4), .int (nI 1184), .int (nI 2400), .int (nI 1088), .int (nI 1152), .int (nI 2336), .int (nI 2368)])), (q31, .inr (1, [.int (nI 4), .int (nI 2), .int (nI 11), .int (nI 5), .int (nI 1568), .int (nI 3168), .int (nI 1568), .int (nI 1536), .int (nI 3104), .int (nI 3136)])), (q32, .inr (2, [.int (nI 4), .int (nI 4), .int (nI 2), .int (nI 3), .int (nI 39), .int (nI 32), .int (nI 18), .int (nI 131072), .int (nI 44), .int (nI 6), .int (nI 95232), .int (nI 80), .int (nI 78), .int (nI 1312), .int (nI 2560), .int (nI 2336), .int (nI 2420)])), (q33, .inr (2, [.int (nI 6), .int (nI 5), .int (nI 4), .int (nI 4), .int (nI 49), .int (nI 48), .int (nI 20), .int (nI 524288), .int (nI 16), .int (nI 4), .int (nI 261888), .int (nI 55), .int (nI 196), .int (nI 1952), .int (nI 4032), .int (nI 3248), .int (nI 3309)])), (q34, .inr (2, [.int 0, .int 0, .int 0, .int 0, .int 0, .int 0, .int 0, .int 0, .int 0, .int 0, .int 0, .int 0, .int 0, .int 0, .int 0, .int 0, .int 0]))] ++ pl) _ := hP
  have hD : va_D _ ([(h0, .inr (0, [.ref q21, .int (nI 0), .ref q22, .int (nI 0), .ref q23, .int (nI 0), .ref q24, .ref q25, .ref q26, .ref q27, .ref q28])), (q24, .inl (g.2.1 3, 3, .inr (.inr (.inr (.inr ((va_up (va_up (va_up (fun _ => none) 0 (some q29)) 1 (some q30)) 2 (some q31)))))))), (q25, .inl (g.2.1 4, 3, .inr (.inr (.inr (.inr ((va_up (va_up (fun _ => none) 0 (some q32)) 1 (some q33)))))))), (q29, .inr (1, [.int (nI 2), .int (nI 3), .int (nI 10), .int (nI 4), .int (nI 800), .int (nI 1632), .int (nI 768), .int (nI 768), .int (nI 1568), .int (nI 1600)])), (q30, .inr (1, [.int (nI 3), .int (nI 2), .int (nI 10), .int (nI 4), .int (nI 1184), .int (nI 2400), .int (nI 1088), .int (nI 1152), .int (nI 2336), .int (nI 2368)])), (q31, .inr (1, [.int (nI 4), .int (nI 2), .int (nI 11), .int (nI 5), .int (nI 1568), .int (nI 3168), .int (nI 1568), .int (nI 1536), .int (nI 3104), .int (nI 3136)])), (q32, .inr (2, [.int (nI 4), .int (nI 4), .int (nI 2), .int (nI 3), .int (nI 39), .int (nI 32), .int (nI 18), .int (nI 131072), .int (nI 44), .int (nI 6), .int (nI 95232), .int (nI 80), .int (nI 78), .int (nI 1312), .int (nI 2560), .int (nI 2336), .int (nI 2420)])), (q33, .inr (2, [.int (nI 6), .int (nI 5), .int (nI 4), .int (nI 4), .int (nI 49), .int (nI 48), .int (nI 20), .int (nI 524288), .int (nI 16), .int (nI 4), .int (nI 261888), .int (nI 55), .int (nI 196), .int (nI 1952), .int (nI 4032), .int (nI 3248), .int (nI 3309)])), (q34, .inr (2, [.int 0, .int 0, .int 0, .int 0, .int 0, .int 0, .int 0, .int 0, .int 0, .int 0, .int 0, .int 0, .int 0, .int 0, .int 0, .int 0, .int 0]))] ++ pl) := hD
  refine W.widen (k := 147) (n := 54542) (by omega) (by omega) ?_
  refine lv_dup hx hb dK_init_137 rfl ?_
  refine lv_iload_n hx hb dK_init_138 rfl (lv_at hl 0 rfl) ?_
  refine mp_v (cx := [(q34, .inr (2, [.int 0, .int 0, .int 0, .int 0, .int 0, .int 0, .int 0, .int 0, .int 0, .int 0, .int 0, .int 0, .int 0, .int 0, .int 0, .int 0, .int 0]))]) (wr := [(h0, .inr (0, [.ref q21, .int (nI 0), .ref q22, .int (nI 0), .ref q23, .int (nI 0), .ref q24, .ref q25, .ref q26, .ref q27, .ref q28])), (q24, .inl (g.2.1 3, 3, .inr (.inr (.inr (.inr ((va_up (va_up (va_up (fun _ => none) 0 (some q29)) 1 (some q30)) 2 (some q31)))))))), (q25, .inl (g.2.1 4, 3, .inr (.inr (.inr (.inr ((va_up (va_up (fun _ => none) 0 (some q32)) 1 (some q33)))))))), (q29, .inr (1, [.int (nI 2), .int (nI 3), .int (nI 10), .int (nI 4), .int (nI 800), .int (nI 1632), .int (nI 768), .int (nI 768), .int (nI 1568), .int (nI 1600)])), (q30, .inr (1, [.int (nI 3), .int (nI 2), .int (nI 10), .int (nI 4), .int (nI 1184), .int (nI 2400), .int (nI 1088), .int (nI 1152), .int (nI 2336), .int (nI 2368)])), (q31, .inr (1, [.int (nI 4), .int (nI 2), .int (nI 11), .int (nI 5), .int (nI 1568), .int (nI 3168), .int (nI 1568), .int (nI 1536), .int (nI 3104), .int (nI 3136)])), (q32, .inr (2, [.int (nI 4), .int (nI 4), .int (nI 2), .int (nI 3), .int (nI 39), .int (nI 32), .int (nI 18), .int (nI 131072), .int (nI 44), .int (nI 6), .int (nI 95232), .int (nI 80), .int (nI 78), .int (nI 1312), .int (nI 2560), .int (nI 2336), .int (nI 2420)])), (q33, .inr (2, [.int (nI 6), .int (nI 5), .int (nI 4), .int (nI 4), .int (nI 49), .int (nI 48), .int (nI 20), .int (nI 524288), .int (nI 16), .int (nI 4), .int (nI 261888), .int (nI 55), .int (nI 196), .int (nI 1952), .int (nI 4032), .int (nI 3248), .int (nI 3309)]))]) hP hD hS hA [8] [0, 1, 2, 3, 4, 5, 6, 7] rfl rfl rfl (by decide) (va_runI (As := [.int (nI 2)]) (rest := [.ref q34, .int (nI 2), .ref q25]) F (t_DS_init_2 l g _ T  pl hO hU  q34) (cwI 1 hts (wg_in kw_277) rfl rfl rfl (hts _ (wg_t kw_8)) (hts _ (wg_t kw_275)) (hts _ (wg_t kw_276)) rfl (by decide +kernel) ⟨by decide, by decide⟩) (pp_S (en_ok g) hP hD hS hA hE [8] rfl rfl) rfl rfl hl.1 rfl (lv_room (Nat.le_of_ble_eq_true rfl)) dK_init_139 ⟨Nat.le_of_ble_eq_true rfl, Nat.le_of_ble_eq_true rfl⟩) (fun  pl H locs hu29 hP hD hS => ?_)
  obtain ⟨hq29, hO⟩ := hu29
  have hP : va_P g.1 vcl ([(h0, .inr (0, [.ref q21, .int (nI 0), .ref q22, .int (nI 0), .ref q23, .int (nI 0), .ref q24, .ref q25, .ref q26, .ref q27, .ref q28])), (q24, .inl (g.2.1 3, 3, .inr (.inr (.inr (.inr ((va_up (va_up (va_up (fun _ => none) 0 (some q29)) 1 (some q30)) 2 (some q31)))))))), (q25, .inl (g.2.1 4, 3, .inr (.inr (.inr (.inr ((va_up (va_up (fun _ => none) 0 (some q32)) 1 (some q33)))))))), (q29, .inr (1, [.int (nI 2), .int (nI 3), .int (nI 10), .int (nI 4), .int (nI 800), .int (nI 1632), .int (nI 768), .int (nI 768), .int (nI 1568), .int (nI 1600)])), (q30, .inr (1, [.int (nI 3), .int (nI 2), .int (nI 10), .int (nI 4), .int (nI 1184), .int (nI 2400), .int (nI 1088), .int (nI 1152), .int (nI 2336), .int (nI 2368)])), (q31, .inr (1, [.int (nI 4), .int (nI 2), .int (nI 11), .int (nI 5), .int (nI 1568), .int (nI 3168), .int (nI 1568), .int (nI 1536), .int (nI 3104), .int (nI 3136)])), (q32, .inr (2, [.int (nI 4), .int (nI 4), .int (nI 2), .int (nI 3), .int (nI 39), .int (nI 32), .int (nI 18), .int (nI 131072), .int (nI 44), .int (nI 6), .int (nI 95232), .int (nI 80), .int (nI 78), .int (nI 1312), .int (nI 2560), .int (nI 2336), .int (nI 2420)])), (q33, .inr (2, [.int (nI 6), .int (nI 5), .int (nI 4), .int (nI 4), .int (nI 49), .int (nI 48), .int (nI 20), .int (nI 524288), .int (nI 16), .int (nI 4), .int (nI 261888), .int (nI 55), .int (nI 196), .int (nI 1952), .int (nI 4032), .int (nI 3248), .int (nI 3309)])), (q34, .inr (2, [.int (nI 8), .int (nI 7), .int (nI 2), .int (nI 3), .int (nI 60), .int (nI 64), .int (nI 20), .int (nI 524288), .int (nI 16), .int (nI 4), .int (nI 261888), .int (nI 75), .int (nI 120), .int (nI 2592), .int (nI 4896), .int (nI 4544), .int (nI 4627)]))] ++ pl) _ := hP
  have hD : va_D _ ([(h0, .inr (0, [.ref q21, .int (nI 0), .ref q22, .int (nI 0), .ref q23, .int (nI 0), .ref q24, .ref q25, .ref q26, .ref q27, .ref q28])), (q24, .inl (g.2.1 3, 3, .inr (.inr (.inr (.inr ((va_up (va_up (va_up (fun _ => none) 0 (some q29)) 1 (some q30)) 2 (some q31)))))))), (q25, .inl (g.2.1 4, 3, .inr (.inr (.inr (.inr ((va_up (va_up (fun _ => none) 0 (some q32)) 1 (some q33)))))))), (q29, .inr (1, [.int (nI 2), .int (nI 3), .int (nI 10), .int (nI 4), .int (nI 800), .int (nI 1632), .int (nI 768), .int (nI 768), .int (nI 1568), .int (nI 1600)])), (q30, .inr (1, [.int (nI 3), .int (nI 2), .int (nI 10), .int (nI 4), .int (nI 1184), .int (nI 2400), .int (nI 1088), .int (nI 1152), .int (nI 2336), .int (nI 2368)])), (q31, .inr (1, [.int (nI 4), .int (nI 2), .int (nI 11), .int (nI 5), .int (nI 1568), .int (nI 3168), .int (nI 1568), .int (nI 1536), .int (nI 3104), .int (nI 3136)])), (q32, .inr (2, [.int (nI 4), .int (nI 4), .int (nI 2), .int (nI 3), .int (nI 39), .int (nI 32), .int (nI 18), .int (nI 131072), .int (nI 44), .int (nI 6), .int (nI 95232), .int (nI 80), .int (nI 78), .int (nI 1312), .int (nI 2560), .int (nI 2336), .int (nI 2420)])), (q33, .inr (2, [.int (nI 6), .int (nI 5), .int (nI 4), .int (nI 4), .int (nI 49), .int (nI 48), .int (nI 20), .int (nI 524288), .int (nI 16), .int (nI 4), .int (nI 261888), .int (nI 55), .int (nI 196), .int (nI 1952), .int (nI 4032), .int (nI 3248), .int (nI 3309)])), (q34, .inr (2, [.int (nI 8), .int (nI 7), .int (nI 2), .int (nI 3), .int (nI 60), .int (nI 64), .int (nI 20), .int (nI 524288), .int (nI 16), .int (nI 4), .int (nI 261888), .int (nI 75), .int (nI 120), .int (nI 2592), .int (nI 4896), .int (nI 4544), .int (nI 4627)]))] ++ pl) := hD
  refine W.widen (k := 147) (n := 54542) (by omega) (by omega) ?_
  refine va_astq hx hb hK hP hD hS 2 4 8 2 rfl rfl rfl rfl (vp_in_nI (by decide) (by decide)) dK_init_142 (fun H locs hP hD hS => ?_)
  have hP : va_P g.1 vcl ([(h0, .inr (0, [.ref q21, .int (nI 0), .ref q22, .int (nI 0), .ref q23, .int (nI 0), .ref q24, .ref q25, .ref q26, .ref q27, .ref q28])), (q24, .inl (g.2.1 3, 3, .inr (.inr (.inr (.inr ((va_up (va_up (va_up (fun _ => none) 0 (some q29)) 1 (some q30)) 2 (some q31)))))))), (q25, .inl (g.2.1 4, 3, .inr (.inr (.inr (.inr ((va_up (va_up (va_up (fun _ => none) 0 (some q32)) 1 (some q33)) 2 (some q34)))))))), (q29, .inr (1, [.int (nI 2), .int (nI 3), .int (nI 10), .int (nI 4), .int (nI 800), .int (nI 1632), .int (nI 768), .int (nI 768), .int (nI 1568), .int (nI 1600)])), (q30, .inr (1, [.int (nI 3), .int (nI 2), .int (nI 10), .int (nI 4), .int (nI 1184), .int (nI 2400), .int (nI 1088), .int (nI 1152), .int (nI 2336), .int (nI 2368)])), (q31, .inr (1, [.int (nI 4), .int (nI 2), .int (nI 11), .int (nI 5), .int (nI 1568), .int (nI 3168), .int (nI 1568), .int (nI 1536), .int (nI 3104), .int (nI 3136)])), (q32, .inr (2, [.int (nI 4), .int (nI 4), .int (nI 2), .int (nI 3), .int (nI 39), .int (nI 32), .int (nI 18), .int (nI 131072), .int (nI 44), .int (nI 6), .int (nI 95232), .int (nI 80), .int (nI 78), .int (nI 1312), .int (nI 2560), .int (nI 2336), .int (nI 2420)])), (q33, .inr (2, [.int (nI 6), .int (nI 5), .int (nI 4), .int (nI 4), .int (nI 49), .int (nI 48), .int (nI 20), .int (nI 524288), .int (nI 16), .int (nI 4), .int (nI 261888), .int (nI 55), .int (nI 196), .int (nI 1952), .int (nI 4032), .int (nI 3248), .int (nI 3309)])), (q34, .inr (2, [.int (nI 8), .int (nI 7), .int (nI 2), .int (nI 3), .int (nI 60), .int (nI 64), .int (nI 20), .int (nI 524288), .int (nI 16), .int (nI 4), .int (nI 261888), .int (nI 75), .int (nI 120), .int (nI 2592), .int (nI 4896), .int (nI 4544), .int (nI 4627)]))] ++ pl) _ := hP
  have hD : va_D _ ([(h0, .inr (0, [.ref q21, .int (nI 0), .ref q22, .int (nI 0), .ref q23, .int (nI 0), .ref q24, .ref q25, .ref q26, .ref q27, .ref q28])), (q24, .inl (g.2.1 3, 3, .inr (.inr (.inr (.inr ((va_up (va_up (va_up (fun _ => none) 0 (some q29)) 1 (some q30)) 2 (some q31)))))))), (q25, .inl (g.2.1 4, 3, .inr (.inr (.inr (.inr ((va_up (va_up (va_up (fun _ => none) 0 (some q32)) 1 (some q33)) 2 (some q34)))))))), (q29, .inr (1, [.int (nI 2), .int (nI 3), .int (nI 10), .int (nI 4), .int (nI 800), .int (nI 1632), .int (nI 768), .int (nI 768), .int (nI 1568), .int (nI 1600)])), (q30, .inr (1, [.int (nI 3), .int (nI 2), .int (nI 10), .int (nI 4), .int (nI 1184), .int (nI 2400), .int (nI 1088), .int (nI 1152), .int (nI 2336), .int (nI 2368)])), (q31, .inr (1, [.int (nI 4), .int (nI 2), .int (nI 11), .int (nI 5), .int (nI 1568), .int (nI 3168), .int (nI 1568), .int (nI 1536), .int (nI 3104), .int (nI 3136)])), (q32, .inr (2, [.int (nI 4), .int (nI 4), .int (nI 2), .int (nI 3), .int (nI 39), .int (nI 32), .int (nI 18), .int (nI 131072), .int (nI 44), .int (nI 6), .int (nI 95232), .int (nI 80), .int (nI 78), .int (nI 1312), .int (nI 2560), .int (nI 2336), .int (nI 2420)])), (q33, .inr (2, [.int (nI 6), .int (nI 5), .int (nI 4), .int (nI 4), .int (nI 49), .int (nI 48), .int (nI 20), .int (nI 524288), .int (nI 16), .int (nI 4), .int (nI 261888), .int (nI 55), .int (nI 196), .int (nI 1952), .int (nI 4032), .int (nI 3248), .int (nI 3309)])), (q34, .inr (2, [.int (nI 8), .int (nI 7), .int (nI 2), .int (nI 3), .int (nI 60), .int (nI 64), .int (nI 20), .int (nI 524288), .int (nI 16), .int (nI 4), .int (nI 261888), .int (nI 75), .int (nI 120), .int (nI 2592), .int (nI 4896), .int (nI 4544), .int (nI 4627)]))] ++ pl) := hD
  refine mi_iinc (k := 0) (x := 2) (d := 1) (y := 3) (lv' := [(1, .int (nI 3)), (0, .ref h0)]) hx hb dK_init_143 hl rfl (by decide) rfl (by decide) rfl (fun ls hl => ?_)
  refine lv_goto (tgt := 124) hx hb dK_init_146 (by decide) ?_
  refine lv_iload_n hx hb dK_init_124 rfl (lv_at hl 0 rfl) ?_
  refine lv_iconst (v := nI 3) hx hb dK_init_125 (by decide) ?_
  refine mi_ge (tgt := 149) hx hb dK_init_126 (by decide) (by omega) (by omega) (fun h28 => ?_) (fun h28 => absurd h28 (by omega))
  have hP : va_P g.1 vcl ([(h0, .inr (0, [.ref q21, .int (nI 0), .ref q22, .int (nI 0), .ref q23, .int (nI 0), .ref q24, .ref q25, .ref q26, .ref q27, .ref q28])), (q24, .inl (g.2.1 3, 3, .inr (.inr (.inr (.inr ((va_up (va_up (va_up (fun _ => none) 0 (some q29)) 1 (some q30)) 2 (some q31)))))))), (q25, .inl (g.2.1 4, 3, .inr (.inr (.inr (.inr ((va_up (va_up (va_up (fun _ => none) 0 (some q32)) 1 (some q33)) 2 (some q34)))))))), (q30, .inr (1, [.int (nI 3), .int (nI 2), .int (nI 10), .int (nI 4), .int (nI 1184), .int (nI 2400), .int (nI 1088), .int (nI 1152), .int (nI 2336), .int (nI 2368)])), (q31, .inr (1, [.int (nI 4), .int (nI 2), .int (nI 11), .int (nI 5), .int (nI 1568), .int (nI 3168), .int (nI 1568), .int (nI 1536), .int (nI 3104), .int (nI 3136)])), (q32, .inr (2, [.int (nI 4), .int (nI 4), .int (nI 2), .int (nI 3), .int (nI 39), .int (nI 32), .int (nI 18), .int (nI 131072), .int (nI 44), .int (nI 6), .int (nI 95232), .int (nI 80), .int (nI 78), .int (nI 1312), .int (nI 2560), .int (nI 2336), .int (nI 2420)])), (q33, .inr (2, [.int (nI 6), .int (nI 5), .int (nI 4), .int (nI 4), .int (nI 49), .int (nI 48), .int (nI 20), .int (nI 524288), .int (nI 16), .int (nI 4), .int (nI 261888), .int (nI 55), .int (nI 196), .int (nI 1952), .int (nI 4032), .int (nI 3248), .int (nI 3309)])), (q34, .inr (2, [.int (nI 8), .int (nI 7), .int (nI 2), .int (nI 3), .int (nI 60), .int (nI 64), .int (nI 20), .int (nI 524288), .int (nI 16), .int (nI 4), .int (nI 261888), .int (nI 75), .int (nI 120), .int (nI 2592), .int (nI 4896), .int (nI 4544), .int (nI 4627)])), (q29, .inr (1, [.int (nI 2), .int (nI 3), .int (nI 10), .int (nI 4), .int (nI 800), .int (nI 1632), .int (nI 768), .int (nI 768), .int (nI 1568), .int (nI 1600)]))] ++ pl) _ := hP.part [0, 1, 2, 4, 5, 6, 7, 8, 3] rfl
  have hD : va_D _ ([(h0, .inr (0, [.ref q21, .int (nI 0), .ref q22, .int (nI 0), .ref q23, .int (nI 0), .ref q24, .ref q25, .ref q26, .ref q27, .ref q28])), (q24, .inl (g.2.1 3, 3, .inr (.inr (.inr (.inr ((va_up (va_up (va_up (fun _ => none) 0 (some q29)) 1 (some q30)) 2 (some q31)))))))), (q25, .inl (g.2.1 4, 3, .inr (.inr (.inr (.inr ((va_up (va_up (va_up (fun _ => none) 0 (some q32)) 1 (some q33)) 2 (some q34)))))))), (q30, .inr (1, [.int (nI 3), .int (nI 2), .int (nI 10), .int (nI 4), .int (nI 1184), .int (nI 2400), .int (nI 1088), .int (nI 1152), .int (nI 2336), .int (nI 2368)])), (q31, .inr (1, [.int (nI 4), .int (nI 2), .int (nI 11), .int (nI 5), .int (nI 1568), .int (nI 3168), .int (nI 1568), .int (nI 1536), .int (nI 3104), .int (nI 3136)])), (q32, .inr (2, [.int (nI 4), .int (nI 4), .int (nI 2), .int (nI 3), .int (nI 39), .int (nI 32), .int (nI 18), .int (nI 131072), .int (nI 44), .int (nI 6), .int (nI 95232), .int (nI 80), .int (nI 78), .int (nI 1312), .int (nI 2560), .int (nI 2336), .int (nI 2420)])), (q33, .inr (2, [.int (nI 6), .int (nI 5), .int (nI 4), .int (nI 4), .int (nI 49), .int (nI 48), .int (nI 20), .int (nI 524288), .int (nI 16), .int (nI 4), .int (nI 261888), .int (nI 55), .int (nI 196), .int (nI 1952), .int (nI 4032), .int (nI 3248), .int (nI 3309)])), (q34, .inr (2, [.int (nI 8), .int (nI 7), .int (nI 2), .int (nI 3), .int (nI 60), .int (nI 64), .int (nI 20), .int (nI 524288), .int (nI 16), .int (nI 4), .int (nI 261888), .int (nI 75), .int (nI 120), .int (nI 2592), .int (nI 4896), .int (nI 4544), .int (nI 4627)])), (q29, .inr (1, [.int (nI 2), .int (nI 3), .int (nI 10), .int (nI 4), .int (nI 800), .int (nI 1632), .int (nI 768), .int (nI 768), .int (nI 1568), .int (nI 1600)]))] ++ pl) := hD.part [0, 1, 2, 4, 5, 6, 7, 8, 3] (by decide) rfl
  obtain ⟨hP, hD⟩ := mv_last (X := [(h0, .inr (0, [.ref q21, .int (nI 0), .ref q22, .int (nI 0), .ref q23, .int (nI 0), .ref q24, .ref q25, .ref q26, .ref q27, .ref q28])), (q24, .inl (g.2.1 3, 3, .inr (.inr (.inr (.inr ((va_up (va_up (va_up (fun _ => none) 0 (some q29)) 1 (some q30)) 2 (some q31)))))))), (q25, .inl (g.2.1 4, 3, .inr (.inr (.inr (.inr ((va_up (va_up (va_up (fun _ => none) 0 (some q32)) 1 (some q33)) 2 (some q34)))))))), (q30, .inr (1, [.int (nI 3), .int (nI 2), .int (nI 10), .int (nI 4), .int (nI 1184), .int (nI 2400), .int (nI 1088), .int (nI 1152), .int (nI 2336), .int (nI 2368)])), (q31, .inr (1, [.int (nI 4), .int (nI 2), .int (nI 11), .int (nI 5), .int (nI 1568), .int (nI 3168), .int (nI 1568), .int (nI 1536), .int (nI 3104), .int (nI 3136)])), (q32, .inr (2, [.int (nI 4), .int (nI 4), .int (nI 2), .int (nI 3), .int (nI 39), .int (nI 32), .int (nI 18), .int (nI 131072), .int (nI 44), .int (nI 6), .int (nI 95232), .int (nI 80), .int (nI 78), .int (nI 1312), .int (nI 2560), .int (nI 2336), .int (nI 2420)])), (q33, .inr (2, [.int (nI 6), .int (nI 5), .int (nI 4), .int (nI 4), .int (nI 49), .int (nI 48), .int (nI 20), .int (nI 524288), .int (nI 16), .int (nI 4), .int (nI 261888), .int (nI 55), .int (nI 196), .int (nI 1952), .int (nI 4032), .int (nI 3248), .int (nI 3309)])), (q34, .inr (2, [.int (nI 8), .int (nI 7), .int (nI 2), .int (nI 3), .int (nI 60), .int (nI 64), .int (nI 20), .int (nI 524288), .int (nI 16), .int (nI 4), .int (nI 261888), .int (nI 75), .int (nI 120), .int (nI 2592), .int (nI 4896), .int (nI 4544), .int (nI 4627)]))]) (c := (q29, .inr (1, [.int (nI 2), .int (nI 3), .int (nI 10), .int (nI 4), .int (nI 800), .int (nI 1632), .int (nI 768), .int (nI 768), .int (nI 1568), .int (nI 1600)]))) hP hD
  obtain ⟨T, pl, hxt27, hU, kr27, hO, hP, hD, hnk24⟩ := absorb (X := [(h0, .inr (0, [.ref q21, .int (nI 0), .ref q22, .int (nI 0), .ref q23, .int (nI 0), .ref q24, .ref q25, .ref q26, .ref q27, .ref q28])), (q24, .inl (g.2.1 3, 3, .inr (.inr (.inr (.inr ((va_up (va_up (va_up (fun _ => none) 0 (some q29)) 1 (some q30)) 2 (some q31)))))))), (q25, .inl (g.2.1 4, 3, .inr (.inr (.inr (.inr ((va_up (va_up (va_up (fun _ => none) 0 (some q32)) 1 (some q33)) 2 (some q34)))))))), (q30, .inr (1, [.int (nI 3), .int (nI 2), .int (nI 10), .int (nI 4), .int (nI 1184), .int (nI 2400), .int (nI 1088), .int (nI 1152), .int (nI 2336), .int (nI 2368)])), (q31, .inr (1, [.int (nI 4), .int (nI 2), .int (nI 11), .int (nI 5), .int (nI 1568), .int (nI 3168), .int (nI 1568), .int (nI 1536), .int (nI 3104), .int (nI 3136)])), (q32, .inr (2, [.int (nI 4), .int (nI 4), .int (nI 2), .int (nI 3), .int (nI 39), .int (nI 32), .int (nI 18), .int (nI 131072), .int (nI 44), .int (nI 6), .int (nI 95232), .int (nI 80), .int (nI 78), .int (nI 1312), .int (nI 2560), .int (nI 2336), .int (nI 2420)])), (q33, .inr (2, [.int (nI 6), .int (nI 5), .int (nI 4), .int (nI 4), .int (nI 49), .int (nI 48), .int (nI 20), .int (nI 524288), .int (nI 16), .int (nI 4), .int (nI 261888), .int (nI 55), .int (nI 196), .int (nI 1952), .int (nI 4032), .int (nI 3248), .int (nI 3309)])), (q34, .inr (2, [.int (nI 8), .int (nI 7), .int (nI 2), .int (nI 3), .int (nI 60), .int (nI 64), .int (nI 20), .int (nI 524288), .int (nI 16), .int (nI 4), .int (nI 261888), .int (nI 75), .int (nI 120), .int (nI 2592), .int (nI 4896), .int (nI 4544), .int (nI 4627)]))]) (40, 0) hP hD hO hU (Or.inl rfl) (fun T9 h9 _ => ⟨_, rfl, rfl, rfl, rfl, rfl, rfl, rfl, rfl, rfl, rfl, rfl, trivial⟩)
  have kr21 := hxt27 _ _ kr21
  have kr22 := hxt27 _ _ kr22
  have kr23 := hxt27 _ _ kr23
  have kr24 := hxt27 _ _ kr24
  have kr25 := hxt27 _ _ kr25
  have kr26 := hxt27 _ _ kr26
  have hXT := ext_tr hXT hxt27
  have hP : va_P g.1 vcl ([(h0, .inr (0, [.ref q21, .int (nI 0), .ref q22, .int (nI 0), .ref q23, .int (nI 0), .ref q24, .ref q25, .ref q26, .ref q27, .ref q28])), (q24, .inl (g.2.1 3, 3, .inr (.inr (.inr (.inr ((va_up (va_up (va_up (fun _ => none) 0 (some q29)) 1 (some q30)) 2 (some q31)))))))), (q25, .inl (g.2.1 4, 3, .inr (.inr (.inr (.inr ((va_up (va_up (va_up (fun _ => none) 0 (some q32)) 1 (some q33)) 2 (some q34)))))))), (q30, .inr (1, [.int (nI 3), .int (nI 2), .int (nI 10), .int (nI 4), .int (nI 1184), .int (nI 2400), .int (nI 1088), .int (nI 1152), .int (nI 2336), .int (nI 2368)])), (q31, .inr (1, [.int (nI 4), .int (nI 2), .int (nI 11), .int (nI 5), .int (nI 1568), .int (nI 3168), .int (nI 1568), .int (nI 1536), .int (nI 3104), .int (nI 3136)])), (q32, .inr (2, [.int (nI 4), .int (nI 4), .int (nI 2), .int (nI 3), .int (nI 39), .int (nI 32), .int (nI 18), .int (nI 131072), .int (nI 44), .int (nI 6), .int (nI 95232), .int (nI 80), .int (nI 78), .int (nI 1312), .int (nI 2560), .int (nI 2336), .int (nI 2420)])), (q33, .inr (2, [.int (nI 6), .int (nI 5), .int (nI 4), .int (nI 4), .int (nI 49), .int (nI 48), .int (nI 20), .int (nI 524288), .int (nI 16), .int (nI 4), .int (nI 261888), .int (nI 55), .int (nI 196), .int (nI 1952), .int (nI 4032), .int (nI 3248), .int (nI 3309)])), (q34, .inr (2, [.int (nI 8), .int (nI 7), .int (nI 2), .int (nI 3), .int (nI 60), .int (nI 64), .int (nI 20), .int (nI 524288), .int (nI 16), .int (nI 4), .int (nI 261888), .int (nI 75), .int (nI 120), .int (nI 2592), .int (nI 4896), .int (nI 4544), .int (nI 4627)]))] ++ pl) _ := hP
  have hD : va_D _ ([(h0, .inr (0, [.ref q21, .int (nI 0), .ref q22, .int (nI 0), .ref q23, .int (nI 0), .ref q24, .ref q25, .ref q26, .ref q27, .ref q28])), (q24, .inl (g.2.1 3, 3, .inr (.inr (.inr (.inr ((va_up (va_up (va_up (fun _ => none) 0 (some q29)) 1 (some q30)) 2 (some q31)))))))), (q25, .inl (g.2.1 4, 3, .inr (.inr (.inr (.inr ((va_up (va_up (va_up (fun _ => none) 0 (some q32)) 1 (some q33)) 2 (some q34)))))))), (q30, .inr (1, [.int (nI 3), .int (nI 2), .int (nI 10), .int (nI 4), .int (nI 1184), .int (nI 2400), .int (nI 1088), .int (nI 1152), .int (nI 2336), .int (nI 2368)])), (q31, .inr (1, [.int (nI 4), .int (nI 2), .int (nI 11), .int (nI 5), .int (nI 1568), .int (nI 3168), .int (nI 1568), .int (nI 1536), .int (nI 3104), .int (nI 3136)])), (q32, .inr (2, [.int (nI 4), .int (nI 4), .int (nI 2), .int (nI 3), .int (nI 39), .int (nI 32), .int (nI 18), .int (nI 131072), .int (nI 44), .int (nI 6), .int (nI 95232), .int (nI 80), .int (nI 78), .int (nI 1312), .int (nI 2560), .int (nI 2336), .int (nI 2420)])), (q33, .inr (2, [.int (nI 6), .int (nI 5), .int (nI 4), .int (nI 4), .int (nI 49), .int (nI 48), .int (nI 20), .int (nI 524288), .int (nI 16), .int (nI 4), .int (nI 261888), .int (nI 55), .int (nI 196), .int (nI 1952), .int (nI 4032), .int (nI 3248), .int (nI 3309)])), (q34, .inr (2, [.int (nI 8), .int (nI 7), .int (nI 2), .int (nI 3), .int (nI 60), .int (nI 64), .int (nI 20), .int (nI 524288), .int (nI 16), .int (nI 4), .int (nI 261888), .int (nI 75), .int (nI 120), .int (nI 2592), .int (nI 4896), .int (nI 4544), .int (nI 4627)]))] ++ pl) := hD
  have hPS := pass_one hPS hnk24 (Or.inl rfl)
  have hP : va_P g.1 vcl ([(h0, .inr (0, [.ref q21, .int (nI 0), .ref q22, .int (nI 0), .ref q23, .int (nI 0), .ref q24, .ref q25, .ref q26, .ref q27, .ref q28])), (q24, .inl (g.2.1 3, 3, .inr (.inr (.inr (.inr ((va_up (va_up (va_up (fun _ => none) 0 (some q29)) 1 (some q30)) 2 (some q31)))))))), (q25, .inl (g.2.1 4, 3, .inr (.inr (.inr (.inr ((va_up (va_up (va_up (fun _ => none) 0 (some q32)) 1 (some q33)) 2 (some q34)))))))), (q31, .inr (1, [.int (nI 4), .int (nI 2), .int (nI 11), .int (nI 5), .int (nI 1568), .int (nI 3168), .int (nI 1568), .int (nI 1536), .int (nI 3104), .int (nI 3136)])), (q32, .inr (2, [.int (nI 4), .int (nI 4), .int (nI 2), .int (nI 3), .int (nI 39), .int (nI 32), .int (nI 18), .int (nI 131072), .int (nI 44), .int (nI 6), .int (nI 95232), .int (nI 80), .int (nI 78), .int (nI 1312), .int (nI 2560), .int (nI 2336), .int (nI 2420)])), (q33, .inr (2, [.int (nI 6), .int (nI 5), .int (nI 4), .int (nI 4), .int (nI 49), .int (nI 48), .int (nI 20), .int (nI 524288), .int (nI 16), .int (nI 4), .int (nI 261888), .int (nI 55), .int (nI 196), .int (nI 1952), .int (nI 4032), .int (nI 3248), .int (nI 3309)])), (q34, .inr (2, [.int (nI 8), .int (nI 7), .int (nI 2), .int (nI 3), .int (nI 60), .int (nI 64), .int (nI 20), .int (nI 524288), .int (nI 16), .int (nI 4), .int (nI 261888), .int (nI 75), .int (nI 120), .int (nI 2592), .int (nI 4896), .int (nI 4544), .int (nI 4627)])), (q30, .inr (1, [.int (nI 3), .int (nI 2), .int (nI 10), .int (nI 4), .int (nI 1184), .int (nI 2400), .int (nI 1088), .int (nI 1152), .int (nI 2336), .int (nI 2368)]))] ++ pl) _ := hP.part [0, 1, 2, 4, 5, 6, 7, 3] rfl
  have hD : va_D _ ([(h0, .inr (0, [.ref q21, .int (nI 0), .ref q22, .int (nI 0), .ref q23, .int (nI 0), .ref q24, .ref q25, .ref q26, .ref q27, .ref q28])), (q24, .inl (g.2.1 3, 3, .inr (.inr (.inr (.inr ((va_up (va_up (va_up (fun _ => none) 0 (some q29)) 1 (some q30)) 2 (some q31)))))))), (q25, .inl (g.2.1 4, 3, .inr (.inr (.inr (.inr ((va_up (va_up (va_up (fun _ => none) 0 (some q32)) 1 (some q33)) 2 (some q34)))))))), (q31, .inr (1, [.int (nI 4), .int (nI 2), .int (nI 11), .int (nI 5), .int (nI 1568), .int (nI 3168), .int (nI 1568), .int (nI 1536), .int (nI 3104), .int (nI 3136)])), (q32, .inr (2, [.int (nI 4), .int (nI 4), .int (nI 2), .int (nI 3), .int (nI 39), .int (nI 32), .int (nI 18), .int (nI 131072), .int (nI 44), .int (nI 6), .int (nI 95232), .int (nI 80), .int (nI 78), .int (nI 1312), .int (nI 2560), .int (nI 2336), .int (nI 2420)])), (q33, .inr (2, [.int (nI 6), .int (nI 5), .int (nI 4), .int (nI 4), .int (nI 49), .int (nI 48), .int (nI 20), .int (nI 524288), .int (nI 16), .int (nI 4), .int (nI 261888), .int (nI 55), .int (nI 196), .int (nI 1952), .int (nI 4032), .int (nI 3248), .int (nI 3309)])), (q34, .inr (2, [.int (nI 8), .int (nI 7), .int (nI 2), .int (nI 3), .int (nI 60), .int (nI 64), .int (nI 20), .int (nI 524288), .int (nI 16), .int (nI 4), .int (nI 261888), .int (nI 75), .int (nI 120), .int (nI 2592), .int (nI 4896), .int (nI 4544), .int (nI 4627)])), (q30, .inr (1, [.int (nI 3), .int (nI 2), .int (nI 10), .int (nI 4), .int (nI 1184), .int (nI 2400), .int (nI 1088), .int (nI 1152), .int (nI 2336), .int (nI 2368)]))] ++ pl) := hD.part [0, 1, 2, 4, 5, 6, 7, 3] (by decide) rfl
  obtain ⟨hP, hD⟩ := mv_last (X := [(h0, .inr (0, [.ref q21, .int (nI 0), .ref q22, .int (nI 0), .ref q23, .int (nI 0), .ref q24, .ref q25, .ref q26, .ref q27, .ref q28])), (q24, .inl (g.2.1 3, 3, .inr (.inr (.inr (.inr ((va_up (va_up (va_up (fun _ => none) 0 (some q29)) 1 (some q30)) 2 (some q31)))))))), (q25, .inl (g.2.1 4, 3, .inr (.inr (.inr (.inr ((va_up (va_up (va_up (fun _ => none) 0 (some q32)) 1 (some q33)) 2 (some q34)))))))), (q31, .inr (1, [.int (nI 4), .int (nI 2), .int (nI 11), .int (nI 5), .int (nI 1568), .int (nI 3168), .int (nI 1568), .int (nI 1536), .int (nI 3104), .int (nI 3136)])), (q32, .inr (2, [.int (nI 4), .int (nI 4), .int (nI 2), .int (nI 3), .int (nI 39), .int (nI 32), .int (nI 18), .int (nI 131072), .int (nI 44), .int (nI 6), .int (nI 95232), .int (nI 80), .int (nI 78), .int (nI 1312), .int (nI 2560), .int (nI 2336), .int (nI 2420)])), (q33, .inr (2, [.int (nI 6), .int (nI 5), .int (nI 4), .int (nI 4), .int (nI 49), .int (nI 48), .int (nI 20), .int (nI 524288), .int (nI 16), .int (nI 4), .int (nI 261888), .int (nI 55), .int (nI 196), .int (nI 1952), .int (nI 4032), .int (nI 3248), .int (nI 3309)])), (q34, .inr (2, [.int (nI 8), .int (nI 7), .int (nI 2), .int (nI 3), .int (nI 60), .int (nI 64), .int (nI 20), .int (nI 524288), .int (nI 16), .int (nI 4), .int (nI 261888), .int (nI 75), .int (nI 120), .int (nI 2592), .int (nI 4896), .int (nI 4544), .int (nI 4627)]))]) (c := (q30, .inr (1, [.int (nI 3), .int (nI 2), .int (nI 10), .int (nI 4), .int (nI 1184), .int (nI 2400), .int (nI 1088), .int (nI 1152), .int (nI 2336), .int (nI 2368)]))) hP hD
  obtain ⟨T, pl, hxt28, hU, kr28, hO, hP, hD, hnk25⟩ := absorb (X := [(h0, .inr (0, [.ref q21, .int (nI 0), .ref q22, .int (nI 0), .ref q23, .int (nI 0), .ref q24, .ref q25, .ref q26, .ref q27, .ref q28])), (q24, .inl (g.2.1 3, 3, .inr (.inr (.inr (.inr ((va_up (va_up (va_up (fun _ => none) 0 (some q29)) 1 (some q30)) 2 (some q31)))))))), (q25, .inl (g.2.1 4, 3, .inr (.inr (.inr (.inr ((va_up (va_up (va_up (fun _ => none) 0 (some q32)) 1 (some q33)) 2 (some q34)))))))), (q31, .inr (1, [.int (nI 4), .int (nI 2), .int (nI 11), .int (nI 5), .int (nI 1568), .int (nI 3168), .int (nI 1568), .int (nI 1536), .int (nI 3104), .int (nI 3136)])), (q32, .inr (2, [.int (nI 4), .int (nI 4), .int (nI 2), .int (nI 3), .int (nI 39), .int (nI 32), .int (nI 18), .int (nI 131072), .int (nI 44), .int (nI 6), .int (nI 95232), .int (nI 80), .int (nI 78), .int (nI 1312), .int (nI 2560), .int (nI 2336), .int (nI 2420)])), (q33, .inr (2, [.int (nI 6), .int (nI 5), .int (nI 4), .int (nI 4), .int (nI 49), .int (nI 48), .int (nI 20), .int (nI 524288), .int (nI 16), .int (nI 4), .int (nI 261888), .int (nI 55), .int (nI 196), .int (nI 1952), .int (nI 4032), .int (nI 3248), .int (nI 3309)])), (q34, .inr (2, [.int (nI 8), .int (nI 7), .int (nI 2), .int (nI 3), .int (nI 60), .int (nI 64), .int (nI 20), .int (nI 524288), .int (nI 16), .int (nI 4), .int (nI 261888), .int (nI 75), .int (nI 120), .int (nI 2592), .int (nI 4896), .int (nI 4544), .int (nI 4627)]))]) (41, 0) hP hD hO hU (Or.inl rfl) (fun T9 h9 _ => ⟨_, rfl, rfl, rfl, rfl, rfl, rfl, rfl, rfl, rfl, rfl, rfl, trivial⟩)
  have kr21 := hxt28 _ _ kr21
  have kr22 := hxt28 _ _ kr22
  have kr23 := hxt28 _ _ kr23
  have kr24 := hxt28 _ _ kr24
  have kr25 := hxt28 _ _ kr25
  have kr26 := hxt28 _ _ kr26
  have kr27 := hxt28 _ _ kr27
  have hXT := ext_tr hXT hxt28
  have hP : va_P g.1 vcl ([(h0, .inr (0, [.ref q21, .int (nI 0), .ref q22, .int (nI 0), .ref q23, .int (nI 0), .ref q24, .ref q25, .ref q26, .ref q27, .ref q28])), (q24, .inl (g.2.1 3, 3, .inr (.inr (.inr (.inr ((va_up (va_up (va_up (fun _ => none) 0 (some q29)) 1 (some q30)) 2 (some q31)))))))), (q25, .inl (g.2.1 4, 3, .inr (.inr (.inr (.inr ((va_up (va_up (va_up (fun _ => none) 0 (some q32)) 1 (some q33)) 2 (some q34)))))))), (q31, .inr (1, [.int (nI 4), .int (nI 2), .int (nI 11), .int (nI 5), .int (nI 1568), .int (nI 3168), .int (nI 1568), .int (nI 1536), .int (nI 3104), .int (nI 3136)])), (q32, .inr (2, [.int (nI 4), .int (nI 4), .int (nI 2), .int (nI 3), .int (nI 39), .int (nI 32), .int (nI 18), .int (nI 131072), .int (nI 44), .int (nI 6), .int (nI 95232), .int (nI 80), .int (nI 78), .int (nI 1312), .int (nI 2560), .int (nI 2336), .int (nI 2420)])), (q33, .inr (2, [.int (nI 6), .int (nI 5), .int (nI 4), .int (nI 4), .int (nI 49), .int (nI 48), .int (nI 20), .int (nI 524288), .int (nI 16), .int (nI 4), .int (nI 261888), .int (nI 55), .int (nI 196), .int (nI 1952), .int (nI 4032), .int (nI 3248), .int (nI 3309)])), (q34, .inr (2, [.int (nI 8), .int (nI 7), .int (nI 2), .int (nI 3), .int (nI 60), .int (nI 64), .int (nI 20), .int (nI 524288), .int (nI 16), .int (nI 4), .int (nI 261888), .int (nI 75), .int (nI 120), .int (nI 2592), .int (nI 4896), .int (nI 4544), .int (nI 4627)]))] ++ pl) _ := hP
  have hD : va_D _ ([(h0, .inr (0, [.ref q21, .int (nI 0), .ref q22, .int (nI 0), .ref q23, .int (nI 0), .ref q24, .ref q25, .ref q26, .ref q27, .ref q28])), (q24, .inl (g.2.1 3, 3, .inr (.inr (.inr (.inr ((va_up (va_up (va_up (fun _ => none) 0 (some q29)) 1 (some q30)) 2 (some q31)))))))), (q25, .inl (g.2.1 4, 3, .inr (.inr (.inr (.inr ((va_up (va_up (va_up (fun _ => none) 0 (some q32)) 1 (some q33)) 2 (some q34)))))))), (q31, .inr (1, [.int (nI 4), .int (nI 2), .int (nI 11), .int (nI 5), .int (nI 1568), .int (nI 3168), .int (nI 1568), .int (nI 1536), .int (nI 3104), .int (nI 3136)])), (q32, .inr (2, [.int (nI 4), .int (nI 4), .int (nI 2), .int (nI 3), .int (nI 39), .int (nI 32), .int (nI 18), .int (nI 131072), .int (nI 44), .int (nI 6), .int (nI 95232), .int (nI 80), .int (nI 78), .int (nI 1312), .int (nI 2560), .int (nI 2336), .int (nI 2420)])), (q33, .inr (2, [.int (nI 6), .int (nI 5), .int (nI 4), .int (nI 4), .int (nI 49), .int (nI 48), .int (nI 20), .int (nI 524288), .int (nI 16), .int (nI 4), .int (nI 261888), .int (nI 55), .int (nI 196), .int (nI 1952), .int (nI 4032), .int (nI 3248), .int (nI 3309)])), (q34, .inr (2, [.int (nI 8), .int (nI 7), .int (nI 2), .int (nI 3), .int (nI 60), .int (nI 64), .int (nI 20), .int (nI 524288), .int (nI 16), .int (nI 4), .int (nI 261888), .int (nI 75), .int (nI 120), .int (nI 2592), .int (nI 4896), .int (nI 4544), .int (nI 4627)]))] ++ pl) := hD
  have hPS := pass_one hPS hnk25 (Or.inl rfl)
  have hP : va_P g.1 vcl ([(h0, .inr (0, [.ref q21, .int (nI 0), .ref q22, .int (nI 0), .ref q23, .int (nI 0), .ref q24, .ref q25, .ref q26, .ref q27, .ref q28])), (q24, .inl (g.2.1 3, 3, .inr (.inr (.inr (.inr ((va_up (va_up (va_up (fun _ => none) 0 (some q29)) 1 (some q30)) 2 (some q31)))))))), (q25, .inl (g.2.1 4, 3, .inr (.inr (.inr (.inr ((va_up (va_up (va_up (fun _ => none) 0 (some q32)) 1 (some q33)) 2 (some q34)))))))), (q32, .inr (2, [.int (nI 4), .int (nI 4), .int (nI 2), .int (nI 3), .int (nI 39), .int (nI 32), .int (nI 18), .int (nI 131072), .int (nI 44), .int (nI 6), .int (nI 95232), .int (nI 80), .int (nI 78), .int (nI 1312), .int (nI 2560), .int (nI 2336), .int (nI 2420)])), (q33, .inr (2, [.int (nI 6), .int (nI 5), .int (nI 4), .int (nI 4), .int (nI 49), .int (nI 48), .int (nI 20), .int (nI 524288), .int (nI 16), .int (nI 4), .int (nI 261888), .int (nI 55), .int (nI 196), .int (nI 1952), .int (nI 4032), .int (nI 3248), .int (nI 3309)])), (q34, .inr (2, [.int (nI 8), .int (nI 7), .int (nI 2), .int (nI 3), .int (nI 60), .int (nI 64), .int (nI 20), .int (nI 524288), .int (nI 16), .int (nI 4), .int (nI 261888), .int (nI 75), .int (nI 120), .int (nI 2592), .int (nI 4896), .int (nI 4544), .int (nI 4627)])), (q31, .inr (1, [.int (nI 4), .int (nI 2), .int (nI 11), .int (nI 5), .int (nI 1568), .int (nI 3168), .int (nI 1568), .int (nI 1536), .int (nI 3104), .int (nI 3136)]))] ++ pl) _ := hP.part [0, 1, 2, 4, 5, 6, 3] rfl
  have hD : va_D _ ([(h0, .inr (0, [.ref q21, .int (nI 0), .ref q22, .int (nI 0), .ref q23, .int (nI 0), .ref q24, .ref q25, .ref q26, .ref q27, .ref q28])), (q24, .inl (g.2.1 3, 3, .inr (.inr (.inr (.inr ((va_up (va_up (va_up (fun _ => none) 0 (some q29)) 1 (some q30)) 2 (some q31)))))))), (q25, .inl (g.2.1 4, 3, .inr (.inr (.inr (.inr ((va_up (va_up (va_up (fun _ => none) 0 (some q32)) 1 (some q33)) 2 (some q34)))))))), (q32, .inr (2, [.int (nI 4), .int (nI 4), .int (nI 2), .int (nI 3), .int (nI 39), .int (nI 32), .int (nI 18), .int (nI 131072), .int (nI 44), .int (nI 6), .int (nI 95232), .int (nI 80), .int (nI 78), .int (nI 1312), .int (nI 2560), .int (nI 2336), .int (nI 2420)])), (q33, .inr (2, [.int (nI 6), .int (nI 5), .int (nI 4), .int (nI 4), .int (nI 49), .int (nI 48), .int (nI 20), .int (nI 524288), .int (nI 16), .int (nI 4), .int (nI 261888), .int (nI 55), .int (nI 196), .int (nI 1952), .int (nI 4032), .int (nI 3248), .int (nI 3309)])), (q34, .inr (2, [.int (nI 8), .int (nI 7), .int (nI 2), .int (nI 3), .int (nI 60), .int (nI 64), .int (nI 20), .int (nI 524288), .int (nI 16), .int (nI 4), .int (nI 261888), .int (nI 75), .int (nI 120), .int (nI 2592), .int (nI 4896), .int (nI 4544), .int (nI 4627)])), (q31, .inr (1, [.int (nI 4), .int (nI 2), .int (nI 11), .int (nI 5), .int (nI 1568), .int (nI 3168), .int (nI 1568), .int (nI 1536), .int (nI 3104), .int (nI 3136)]))] ++ pl) := hD.part [0, 1, 2, 4, 5, 6, 3] (by decide) rfl
  obtain ⟨hP, hD⟩ := mv_last (X := [(h0, .inr (0, [.ref q21, .int (nI 0), .ref q22, .int (nI 0), .ref q23, .int (nI 0), .ref q24, .ref q25, .ref q26, .ref q27, .ref q28])), (q24, .inl (g.2.1 3, 3, .inr (.inr (.inr (.inr ((va_up (va_up (va_up (fun _ => none) 0 (some q29)) 1 (some q30)) 2 (some q31)))))))), (q25, .inl (g.2.1 4, 3, .inr (.inr (.inr (.inr ((va_up (va_up (va_up (fun _ => none) 0 (some q32)) 1 (some q33)) 2 (some q34)))))))), (q32, .inr (2, [.int (nI 4), .int (nI 4), .int (nI 2), .int (nI 3), .int (nI 39), .int (nI 32), .int (nI 18), .int (nI 131072), .int (nI 44), .int (nI 6), .int (nI 95232), .int (nI 80), .int (nI 78), .int (nI 1312), .int (nI 2560), .int (nI 2336), .int (nI 2420)])), (q33, .inr (2, [.int (nI 6), .int (nI 5), .int (nI 4), .int (nI 4), .int (nI 49), .int (nI 48), .int (nI 20), .int (nI 524288), .int (nI 16), .int (nI 4), .int (nI 261888), .int (nI 55), .int (nI 196), .int (nI 1952), .int (nI 4032), .int (nI 3248), .int (nI 3309)])), (q34, .inr (2, [.int (nI 8), .int (nI 7), .int (nI 2), .int (nI 3), .int (nI 60), .int (nI 64), .int (nI 20), .int (nI 524288), .int (nI 16), .int (nI 4), .int (nI 261888), .int (nI 75), .int (nI 120), .int (nI 2592), .int (nI 4896), .int (nI 4544), .int (nI 4627)]))]) (c := (q31, .inr (1, [.int (nI 4), .int (nI 2), .int (nI 11), .int (nI 5), .int (nI 1568), .int (nI 3168), .int (nI 1568), .int (nI 1536), .int (nI 3104), .int (nI 3136)]))) hP hD
  obtain ⟨T, pl, hxt29, hU, kr29, hO, hP, hD, hnk26⟩ := absorb (X := [(h0, .inr (0, [.ref q21, .int (nI 0), .ref q22, .int (nI 0), .ref q23, .int (nI 0), .ref q24, .ref q25, .ref q26, .ref q27, .ref q28])), (q24, .inl (g.2.1 3, 3, .inr (.inr (.inr (.inr ((va_up (va_up (va_up (fun _ => none) 0 (some q29)) 1 (some q30)) 2 (some q31)))))))), (q25, .inl (g.2.1 4, 3, .inr (.inr (.inr (.inr ((va_up (va_up (va_up (fun _ => none) 0 (some q32)) 1 (some q33)) 2 (some q34)))))))), (q32, .inr (2, [.int (nI 4), .int (nI 4), .int (nI 2), .int (nI 3), .int (nI 39), .int (nI 32), .int (nI 18), .int (nI 131072), .int (nI 44), .int (nI 6), .int (nI 95232), .int (nI 80), .int (nI 78), .int (nI 1312), .int (nI 2560), .int (nI 2336), .int (nI 2420)])), (q33, .inr (2, [.int (nI 6), .int (nI 5), .int (nI 4), .int (nI 4), .int (nI 49), .int (nI 48), .int (nI 20), .int (nI 524288), .int (nI 16), .int (nI 4), .int (nI 261888), .int (nI 55), .int (nI 196), .int (nI 1952), .int (nI 4032), .int (nI 3248), .int (nI 3309)])), (q34, .inr (2, [.int (nI 8), .int (nI 7), .int (nI 2), .int (nI 3), .int (nI 60), .int (nI 64), .int (nI 20), .int (nI 524288), .int (nI 16), .int (nI 4), .int (nI 261888), .int (nI 75), .int (nI 120), .int (nI 2592), .int (nI 4896), .int (nI 4544), .int (nI 4627)]))]) (42, 0) hP hD hO hU (Or.inl rfl) (fun T9 h9 _ => ⟨_, rfl, rfl, rfl, rfl, rfl, rfl, rfl, rfl, rfl, rfl, rfl, trivial⟩)
  have kr21 := hxt29 _ _ kr21
  have kr22 := hxt29 _ _ kr22
  have kr23 := hxt29 _ _ kr23
  have kr24 := hxt29 _ _ kr24
  have kr25 := hxt29 _ _ kr25
  have kr26 := hxt29 _ _ kr26
  have kr27 := hxt29 _ _ kr27
  have kr28 := hxt29 _ _ kr28
  have hXT := ext_tr hXT hxt29
  have hP : va_P g.1 vcl ([(h0, .inr (0, [.ref q21, .int (nI 0), .ref q22, .int (nI 0), .ref q23, .int (nI 0), .ref q24, .ref q25, .ref q26, .ref q27, .ref q28])), (q24, .inl (g.2.1 3, 3, .inr (.inr (.inr (.inr ((va_up (va_up (va_up (fun _ => none) 0 (some q29)) 1 (some q30)) 2 (some q31)))))))), (q25, .inl (g.2.1 4, 3, .inr (.inr (.inr (.inr ((va_up (va_up (va_up (fun _ => none) 0 (some q32)) 1 (some q33)) 2 (some q34)))))))), (q32, .inr (2, [.int (nI 4), .int (nI 4), .int (nI 2), .int (nI 3), .int (nI 39), .int (nI 32), .int (nI 18), .int (nI 131072), .int (nI 44), .int (nI 6), .int (nI 95232), .int (nI 80), .int (nI 78), .int (nI 1312), .int (nI 2560), .int (nI 2336), .int (nI 2420)])), (q33, .inr (2, [.int (nI 6), .int (nI 5), .int (nI 4), .int (nI 4), .int (nI 49), .int (nI 48), .int (nI 20), .int (nI 524288), .int (nI 16), .int (nI 4), .int (nI 261888), .int (nI 55), .int (nI 196), .int (nI 1952), .int (nI 4032), .int (nI 3248), .int (nI 3309)])), (q34, .inr (2, [.int (nI 8), .int (nI 7), .int (nI 2), .int (nI 3), .int (nI 60), .int (nI 64), .int (nI 20), .int (nI 524288), .int (nI 16), .int (nI 4), .int (nI 261888), .int (nI 75), .int (nI 120), .int (nI 2592), .int (nI 4896), .int (nI 4544), .int (nI 4627)]))] ++ pl) _ := hP
  have hD : va_D _ ([(h0, .inr (0, [.ref q21, .int (nI 0), .ref q22, .int (nI 0), .ref q23, .int (nI 0), .ref q24, .ref q25, .ref q26, .ref q27, .ref q28])), (q24, .inl (g.2.1 3, 3, .inr (.inr (.inr (.inr ((va_up (va_up (va_up (fun _ => none) 0 (some q29)) 1 (some q30)) 2 (some q31)))))))), (q25, .inl (g.2.1 4, 3, .inr (.inr (.inr (.inr ((va_up (va_up (va_up (fun _ => none) 0 (some q32)) 1 (some q33)) 2 (some q34)))))))), (q32, .inr (2, [.int (nI 4), .int (nI 4), .int (nI 2), .int (nI 3), .int (nI 39), .int (nI 32), .int (nI 18), .int (nI 131072), .int (nI 44), .int (nI 6), .int (nI 95232), .int (nI 80), .int (nI 78), .int (nI 1312), .int (nI 2560), .int (nI 2336), .int (nI 2420)])), (q33, .inr (2, [.int (nI 6), .int (nI 5), .int (nI 4), .int (nI 4), .int (nI 49), .int (nI 48), .int (nI 20), .int (nI 524288), .int (nI 16), .int (nI 4), .int (nI 261888), .int (nI 55), .int (nI 196), .int (nI 1952), .int (nI 4032), .int (nI 3248), .int (nI 3309)])), (q34, .inr (2, [.int (nI 8), .int (nI 7), .int (nI 2), .int (nI 3), .int (nI 60), .int (nI 64), .int (nI 20), .int (nI 524288), .int (nI 16), .int (nI 4), .int (nI 261888), .int (nI 75), .int (nI 120), .int (nI 2592), .int (nI 4896), .int (nI 4544), .int (nI 4627)]))] ++ pl) := hD
  have hPS := pass_one hPS hnk26 (Or.inl rfl)
  have hP : va_P g.1 vcl ([(h0, .inr (0, [.ref q21, .int (nI 0), .ref q22, .int (nI 0), .ref q23, .int (nI 0), .ref q24, .ref q25, .ref q26, .ref q27, .ref q28])), (q25, .inl (g.2.1 4, 3, .inr (.inr (.inr (.inr ((va_up (va_up (va_up (fun _ => none) 0 (some q32)) 1 (some q33)) 2 (some q34)))))))), (q32, .inr (2, [.int (nI 4), .int (nI 4), .int (nI 2), .int (nI 3), .int (nI 39), .int (nI 32), .int (nI 18), .int (nI 131072), .int (nI 44), .int (nI 6), .int (nI 95232), .int (nI 80), .int (nI 78), .int (nI 1312), .int (nI 2560), .int (nI 2336), .int (nI 2420)])), (q33, .inr (2, [.int (nI 6), .int (nI 5), .int (nI 4), .int (nI 4), .int (nI 49), .int (nI 48), .int (nI 20), .int (nI 524288), .int (nI 16), .int (nI 4), .int (nI 261888), .int (nI 55), .int (nI 196), .int (nI 1952), .int (nI 4032), .int (nI 3248), .int (nI 3309)])), (q34, .inr (2, [.int (nI 8), .int (nI 7), .int (nI 2), .int (nI 3), .int (nI 60), .int (nI 64), .int (nI 20), .int (nI 524288), .int (nI 16), .int (nI 4), .int (nI 261888), .int (nI 75), .int (nI 120), .int (nI 2592), .int (nI 4896), .int (nI 4544), .int (nI 4627)])), (q24, .inl (g.2.1 3, 3, .inr (.inr (.inr (.inr ((va_up (va_up (va_up (fun _ => none) 0 (some q29)) 1 (some q30)) 2 (some q31))))))))] ++ pl) _ := hP.part [0, 2, 3, 4, 5, 1] rfl
  have hD : va_D _ ([(h0, .inr (0, [.ref q21, .int (nI 0), .ref q22, .int (nI 0), .ref q23, .int (nI 0), .ref q24, .ref q25, .ref q26, .ref q27, .ref q28])), (q25, .inl (g.2.1 4, 3, .inr (.inr (.inr (.inr ((va_up (va_up (va_up (fun _ => none) 0 (some q32)) 1 (some q33)) 2 (some q34)))))))), (q32, .inr (2, [.int (nI 4), .int (nI 4), .int (nI 2), .int (nI 3), .int (nI 39), .int (nI 32), .int (nI 18), .int (nI 131072), .int (nI 44), .int (nI 6), .int (nI 95232), .int (nI 80), .int (nI 78), .int (nI 1312), .int (nI 2560), .int (nI 2336), .int (nI 2420)])), (q33, .inr (2, [.int (nI 6), .int (nI 5), .int (nI 4), .int (nI 4), .int (nI 49), .int (nI 48), .int (nI 20), .int (nI 524288), .int (nI 16), .int (nI 4), .int (nI 261888), .int (nI 55), .int (nI 196), .int (nI 1952), .int (nI 4032), .int (nI 3248), .int (nI 3309)])), (q34, .inr (2, [.int (nI 8), .int (nI 7), .int (nI 2), .int (nI 3), .int (nI 60), .int (nI 64), .int (nI 20), .int (nI 524288), .int (nI 16), .int (nI 4), .int (nI 261888), .int (nI 75), .int (nI 120), .int (nI 2592), .int (nI 4896), .int (nI 4544), .int (nI 4627)])), (q24, .inl (g.2.1 3, 3, .inr (.inr (.inr (.inr ((va_up (va_up (va_up (fun _ => none) 0 (some q29)) 1 (some q30)) 2 (some q31))))))))] ++ pl) := hD.part [0, 2, 3, 4, 5, 1] (by decide) rfl
  obtain ⟨hP, hD⟩ := mv_last (X := [(h0, .inr (0, [.ref q21, .int (nI 0), .ref q22, .int (nI 0), .ref q23, .int (nI 0), .ref q24, .ref q25, .ref q26, .ref q27, .ref q28])), (q25, .inl (g.2.1 4, 3, .inr (.inr (.inr (.inr ((va_up (va_up (va_up (fun _ => none) 0 (some q32)) 1 (some q33)) 2 (some q34)))))))), (q32, .inr (2, [.int (nI 4), .int (nI 4), .int (nI 2), .int (nI 3), .int (nI 39), .int (nI 32), .int (nI 18), .int (nI 131072), .int (nI 44), .int (nI 6), .int (nI 95232), .int (nI 80), .int (nI 78), .int (nI 1312), .int (nI 2560), .int (nI 2336), .int (nI 2420)])), (q33, .inr (2, [.int (nI 6), .int (nI 5), .int (nI 4), .int (nI 4), .int (nI 49), .int (nI 48), .int (nI 20), .int (nI 524288), .int (nI 16), .int (nI 4), .int (nI 261888), .int (nI 55), .int (nI 196), .int (nI 1952), .int (nI 4032), .int (nI 3248), .int (nI 3309)])), (q34, .inr (2, [.int (nI 8), .int (nI 7), .int (nI 2), .int (nI 3), .int (nI 60), .int (nI 64), .int (nI 20), .int (nI 524288), .int (nI 16), .int (nI 4), .int (nI 261888), .int (nI 75), .int (nI 120), .int (nI 2592), .int (nI 4896), .int (nI 4544), .int (nI 4627)]))]) (c := (q24, .inl (g.2.1 3, 3, .inr (.inr (.inr (.inr ((va_up (va_up (va_up (fun _ => none) 0 (some q29)) 1 (some q30)) 2 (some q31))))))))) hP hD
  obtain ⟨T, pl, hxt30, hU, kr30, hO, hP, hD, hnk27⟩ := absorb (X := [(h0, .inr (0, [.ref q21, .int (nI 0), .ref q22, .int (nI 0), .ref q23, .int (nI 0), .ref q24, .ref q25, .ref q26, .ref q27, .ref q28])), (q25, .inl (g.2.1 4, 3, .inr (.inr (.inr (.inr ((va_up (va_up (va_up (fun _ => none) 0 (some q32)) 1 (some q33)) 2 (some q34)))))))), (q32, .inr (2, [.int (nI 4), .int (nI 4), .int (nI 2), .int (nI 3), .int (nI 39), .int (nI 32), .int (nI 18), .int (nI 131072), .int (nI 44), .int (nI 6), .int (nI 95232), .int (nI 80), .int (nI 78), .int (nI 1312), .int (nI 2560), .int (nI 2336), .int (nI 2420)])), (q33, .inr (2, [.int (nI 6), .int (nI 5), .int (nI 4), .int (nI 4), .int (nI 49), .int (nI 48), .int (nI 20), .int (nI 524288), .int (nI 16), .int (nI 4), .int (nI 261888), .int (nI 55), .int (nI 196), .int (nI 1952), .int (nI 4032), .int (nI 3248), .int (nI 3309)])), (q34, .inr (2, [.int (nI 8), .int (nI 7), .int (nI 2), .int (nI 3), .int (nI 60), .int (nI 64), .int (nI 20), .int (nI 524288), .int (nI 16), .int (nI 4), .int (nI 261888), .int (nI 75), .int (nI 120), .int (nI 2592), .int (nI 4896), .int (nI 4544), .int (nI 4627)]))]) (50, 0) hP hD hO hU (Or.inl rfl) (fun T9 h9 _ => ⟨_, rfl, fun j hj => by match j, hj with | 0, _ => exact ⟨_, rfl, h9 _ _ kr27⟩ | 1, _ => exact ⟨_, rfl, h9 _ _ kr28⟩ | 2, _ => exact ⟨_, rfl, h9 _ _ kr29⟩ | _ + 3, h => exact absurd h (by omega)⟩)
  have kr21 := hxt30 _ _ kr21
  have kr22 := hxt30 _ _ kr22
  have kr23 := hxt30 _ _ kr23
  have kr24 := hxt30 _ _ kr24
  have kr25 := hxt30 _ _ kr25
  have kr26 := hxt30 _ _ kr26
  have kr27 := hxt30 _ _ kr27
  have kr28 := hxt30 _ _ kr28
  have kr29 := hxt30 _ _ kr29
  have hXT := ext_tr hXT hxt30
  have hP : va_P g.1 vcl ([(h0, .inr (0, [.ref q21, .int (nI 0), .ref q22, .int (nI 0), .ref q23, .int (nI 0), .ref q24, .ref q25, .ref q26, .ref q27, .ref q28])), (q25, .inl (g.2.1 4, 3, .inr (.inr (.inr (.inr ((va_up (va_up (va_up (fun _ => none) 0 (some q32)) 1 (some q33)) 2 (some q34)))))))), (q32, .inr (2, [.int (nI 4), .int (nI 4), .int (nI 2), .int (nI 3), .int (nI 39), .int (nI 32), .int (nI 18), .int (nI 131072), .int (nI 44), .int (nI 6), .int (nI 95232), .int (nI 80), .int (nI 78), .int (nI 1312), .int (nI 2560), .int (nI 2336), .int (nI 2420)])), (q33, .inr (2, [.int (nI 6), .int (nI 5), .int (nI 4), .int (nI 4), .int (nI 49), .int (nI 48), .int (nI 20), .int (nI 524288), .int (nI 16), .int (nI 4), .int (nI 261888), .int (nI 55), .int (nI 196), .int (nI 1952), .int (nI 4032), .int (nI 3248), .int (nI 3309)])), (q34, .inr (2, [.int (nI 8), .int (nI 7), .int (nI 2), .int (nI 3), .int (nI 60), .int (nI 64), .int (nI 20), .int (nI 524288), .int (nI 16), .int (nI 4), .int (nI 261888), .int (nI 75), .int (nI 120), .int (nI 2592), .int (nI 4896), .int (nI 4544), .int (nI 4627)]))] ++ pl) _ := hP
  have hD : va_D _ ([(h0, .inr (0, [.ref q21, .int (nI 0), .ref q22, .int (nI 0), .ref q23, .int (nI 0), .ref q24, .ref q25, .ref q26, .ref q27, .ref q28])), (q25, .inl (g.2.1 4, 3, .inr (.inr (.inr (.inr ((va_up (va_up (va_up (fun _ => none) 0 (some q32)) 1 (some q33)) 2 (some q34)))))))), (q32, .inr (2, [.int (nI 4), .int (nI 4), .int (nI 2), .int (nI 3), .int (nI 39), .int (nI 32), .int (nI 18), .int (nI 131072), .int (nI 44), .int (nI 6), .int (nI 95232), .int (nI 80), .int (nI 78), .int (nI 1312), .int (nI 2560), .int (nI 2336), .int (nI 2420)])), (q33, .inr (2, [.int (nI 6), .int (nI 5), .int (nI 4), .int (nI 4), .int (nI 49), .int (nI 48), .int (nI 20), .int (nI 524288), .int (nI 16), .int (nI 4), .int (nI 261888), .int (nI 55), .int (nI 196), .int (nI 1952), .int (nI 4032), .int (nI 3248), .int (nI 3309)])), (q34, .inr (2, [.int (nI 8), .int (nI 7), .int (nI 2), .int (nI 3), .int (nI 60), .int (nI 64), .int (nI 20), .int (nI 524288), .int (nI 16), .int (nI 4), .int (nI 261888), .int (nI 75), .int (nI 120), .int (nI 2592), .int (nI 4896), .int (nI 4544), .int (nI 4627)]))] ++ pl) := hD
  have hPS := pass_one hPS hnk27 (Or.inl rfl)
  have hP : va_P g.1 vcl ([(h0, .inr (0, [.ref q21, .int (nI 0), .ref q22, .int (nI 0), .ref q23, .int (nI 0), .ref q24, .ref q25, .ref q26, .ref q27, .ref q28])), (q25, .inl (g.2.1 4, 3, .inr (.inr (.inr (.inr ((va_up (va_up (va_up (fun _ => none) 0 (some q32)) 1 (some q33)) 2 (some q34)))))))), (q33, .inr (2, [.int (nI 6), .int (nI 5), .int (nI 4), .int (nI 4), .int (nI 49), .int (nI 48), .int (nI 20), .int (nI 524288), .int (nI 16), .int (nI 4), .int (nI 261888), .int (nI 55), .int (nI 196), .int (nI 1952), .int (nI 4032), .int (nI 3248), .int (nI 3309)])), (q34, .inr (2, [.int (nI 8), .int (nI 7), .int (nI 2), .int (nI 3), .int (nI 60), .int (nI 64), .int (nI 20), .int (nI 524288), .int (nI 16), .int (nI 4), .int (nI 261888), .int (nI 75), .int (nI 120), .int (nI 2592), .int (nI 4896), .int (nI 4544), .int (nI 4627)])), (q32, .inr (2, [.int (nI 4), .int (nI 4), .int (nI 2), .int (nI 3), .int (nI 39), .int (nI 32), .int (nI 18), .int (nI 131072), .int (nI 44), .int (nI 6), .int (nI 95232), .int (nI 80), .int (nI 78), .int (nI 1312), .int (nI 2560), .int (nI 2336), .int (nI 2420)]))] ++ pl) _ := hP.part [0, 1, 3, 4, 2] rfl
  have hD : va_D _ ([(h0, .inr (0, [.ref q21, .int (nI 0), .ref q22, .int (nI 0), .ref q23, .int (nI 0), .ref q24, .ref q25, .ref q26, .ref q27, .ref q28])), (q25, .inl (g.2.1 4, 3, .inr (.inr (.inr (.inr ((va_up (va_up (va_up (fun _ => none) 0 (some q32)) 1 (some q33)) 2 (some q34)))))))), (q33, .inr (2, [.int (nI 6), .int (nI 5), .int (nI 4), .int (nI 4), .int (nI 49), .int (nI 48), .int (nI 20), .int (nI 524288), .int (nI 16), .int (nI 4), .int (nI 261888), .int (nI 55), .int (nI 196), .int (nI 1952), .int (nI 4032), .int (nI 3248), .int (nI 3309)])), (q34, .inr (2, [.int (nI 8), .int (nI 7), .int (nI 2), .int (nI 3), .int (nI 60), .int (nI 64), .int (nI 20), .int (nI 524288), .int (nI 16), .int (nI 4), .int (nI 261888), .int (nI 75), .int (nI 120), .int (nI 2592), .int (nI 4896), .int (nI 4544), .int (nI 4627)])), (q32, .inr (2, [.int (nI 4), .int (nI 4), .int (nI 2), .int (nI 3), .int (nI 39), .int (nI 32), .int (nI 18), .int (nI 131072), .int (nI 44), .int (nI 6), .int (nI 95232), .int (nI 80), .int (nI 78), .int (nI 1312), .int (nI 2560), .int (nI 2336), .int (nI 2420)]))] ++ pl) := hD.part [0, 1, 3, 4, 2] (by decide) rfl
  obtain ⟨hP, hD⟩ := mv_last (X := [(h0, .inr (0, [.ref q21, .int (nI 0), .ref q22, .int (nI 0), .ref q23, .int (nI 0), .ref q24, .ref q25, .ref q26, .ref q27, .ref q28])), (q25, .inl (g.2.1 4, 3, .inr (.inr (.inr (.inr ((va_up (va_up (va_up (fun _ => none) 0 (some q32)) 1 (some q33)) 2 (some q34)))))))), (q33, .inr (2, [.int (nI 6), .int (nI 5), .int (nI 4), .int (nI 4), .int (nI 49), .int (nI 48), .int (nI 20), .int (nI 524288), .int (nI 16), .int (nI 4), .int (nI 261888), .int (nI 55), .int (nI 196), .int (nI 1952), .int (nI 4032), .int (nI 3248), .int (nI 3309)])), (q34, .inr (2, [.int (nI 8), .int (nI 7), .int (nI 2), .int (nI 3), .int (nI 60), .int (nI 64), .int (nI 20), .int (nI 524288), .int (nI 16), .int (nI 4), .int (nI 261888), .int (nI 75), .int (nI 120), .int (nI 2592), .int (nI 4896), .int (nI 4544), .int (nI 4627)]))]) (c := (q32, .inr (2, [.int (nI 4), .int (nI 4), .int (nI 2), .int (nI 3), .int (nI 39), .int (nI 32), .int (nI 18), .int (nI 131072), .int (nI 44), .int (nI 6), .int (nI 95232), .int (nI 80), .int (nI 78), .int (nI 1312), .int (nI 2560), .int (nI 2336), .int (nI 2420)]))) hP hD
  obtain ⟨T, pl, hxt31, hU, kr31, hO, hP, hD, hnk28⟩ := absorb (X := [(h0, .inr (0, [.ref q21, .int (nI 0), .ref q22, .int (nI 0), .ref q23, .int (nI 0), .ref q24, .ref q25, .ref q26, .ref q27, .ref q28])), (q25, .inl (g.2.1 4, 3, .inr (.inr (.inr (.inr ((va_up (va_up (va_up (fun _ => none) 0 (some q32)) 1 (some q33)) 2 (some q34)))))))), (q33, .inr (2, [.int (nI 6), .int (nI 5), .int (nI 4), .int (nI 4), .int (nI 49), .int (nI 48), .int (nI 20), .int (nI 524288), .int (nI 16), .int (nI 4), .int (nI 261888), .int (nI 55), .int (nI 196), .int (nI 1952), .int (nI 4032), .int (nI 3248), .int (nI 3309)])), (q34, .inr (2, [.int (nI 8), .int (nI 7), .int (nI 2), .int (nI 3), .int (nI 60), .int (nI 64), .int (nI 20), .int (nI 524288), .int (nI 16), .int (nI 4), .int (nI 261888), .int (nI 75), .int (nI 120), .int (nI 2592), .int (nI 4896), .int (nI 4544), .int (nI 4627)]))]) (43, 0) hP hD hO hU (Or.inl rfl) (fun T9 h9 _ => ⟨_, rfl, rfl, rfl, rfl, rfl, rfl, rfl, rfl, rfl, rfl, rfl, rfl, rfl, rfl, rfl, rfl, rfl, rfl, trivial⟩)
  have kr21 := hxt31 _ _ kr21
  have kr22 := hxt31 _ _ kr22
  have kr23 := hxt31 _ _ kr23
  have kr24 := hxt31 _ _ kr24
  have kr25 := hxt31 _ _ kr25
  have kr26 := hxt31 _ _ kr26
  have kr27 := hxt31 _ _ kr27
  have kr28 := hxt31 _ _ kr28
  have kr29 := hxt31 _ _ kr29
  have kr30 := hxt31 _ _ kr30
  have hXT := ext_tr hXT hxt31
  have hP : va_P g.1 vcl ([(h0, .inr (0, [.ref q21, .int (nI 0), .ref q22, .int (nI 0), .ref q23, .int (nI 0), .ref q24, .ref q25, .ref q26, .ref q27, .ref q28])), (q25, .inl (g.2.1 4, 3, .inr (.inr (.inr (.inr ((va_up (va_up (va_up (fun _ => none) 0 (some q32)) 1 (some q33)) 2 (some q34)))))))), (q33, .inr (2, [.int (nI 6), .int (nI 5), .int (nI 4), .int (nI 4), .int (nI 49), .int (nI 48), .int (nI 20), .int (nI 524288), .int (nI 16), .int (nI 4), .int (nI 261888), .int (nI 55), .int (nI 196), .int (nI 1952), .int (nI 4032), .int (nI 3248), .int (nI 3309)])), (q34, .inr (2, [.int (nI 8), .int (nI 7), .int (nI 2), .int (nI 3), .int (nI 60), .int (nI 64), .int (nI 20), .int (nI 524288), .int (nI 16), .int (nI 4), .int (nI 261888), .int (nI 75), .int (nI 120), .int (nI 2592), .int (nI 4896), .int (nI 4544), .int (nI 4627)]))] ++ pl) _ := hP
  have hD : va_D _ ([(h0, .inr (0, [.ref q21, .int (nI 0), .ref q22, .int (nI 0), .ref q23, .int (nI 0), .ref q24, .ref q25, .ref q26, .ref q27, .ref q28])), (q25, .inl (g.2.1 4, 3, .inr (.inr (.inr (.inr ((va_up (va_up (va_up (fun _ => none) 0 (some q32)) 1 (some q33)) 2 (some q34)))))))), (q33, .inr (2, [.int (nI 6), .int (nI 5), .int (nI 4), .int (nI 4), .int (nI 49), .int (nI 48), .int (nI 20), .int (nI 524288), .int (nI 16), .int (nI 4), .int (nI 261888), .int (nI 55), .int (nI 196), .int (nI 1952), .int (nI 4032), .int (nI 3248), .int (nI 3309)])), (q34, .inr (2, [.int (nI 8), .int (nI 7), .int (nI 2), .int (nI 3), .int (nI 60), .int (nI 64), .int (nI 20), .int (nI 524288), .int (nI 16), .int (nI 4), .int (nI 261888), .int (nI 75), .int (nI 120), .int (nI 2592), .int (nI 4896), .int (nI 4544), .int (nI 4627)]))] ++ pl) := hD
  have hPS := pass_one hPS hnk28 (Or.inl rfl)
  have hP : va_P g.1 vcl ([(h0, .inr (0, [.ref q21, .int (nI 0), .ref q22, .int (nI 0), .ref q23, .int (nI 0), .ref q24, .ref q25, .ref q26, .ref q27, .ref q28])), (q25, .inl (g.2.1 4, 3, .inr (.inr (.inr (.inr ((va_up (va_up (va_up (fun _ => none) 0 (some q32)) 1 (some q33)) 2 (some q34)))))))), (q34, .inr (2, [.int (nI 8), .int (nI 7), .int (nI 2), .int (nI 3), .int (nI 60), .int (nI 64), .int (nI 20), .int (nI 524288), .int (nI 16), .int (nI 4), .int (nI 261888), .int (nI 75), .int (nI 120), .int (nI 2592), .int (nI 4896), .int (nI 4544), .int (nI 4627)])), (q33, .inr (2, [.int (nI 6), .int (nI 5), .int (nI 4), .int (nI 4), .int (nI 49), .int (nI 48), .int (nI 20), .int (nI 524288), .int (nI 16), .int (nI 4), .int (nI 261888), .int (nI 55), .int (nI 196), .int (nI 1952), .int (nI 4032), .int (nI 3248), .int (nI 3309)]))] ++ pl) _ := hP.part [0, 1, 3, 2] rfl
  have hD : va_D _ ([(h0, .inr (0, [.ref q21, .int (nI 0), .ref q22, .int (nI 0), .ref q23, .int (nI 0), .ref q24, .ref q25, .ref q26, .ref q27, .ref q28])), (q25, .inl (g.2.1 4, 3, .inr (.inr (.inr (.inr ((va_up (va_up (va_up (fun _ => none) 0 (some q32)) 1 (some q33)) 2 (some q34)))))))), (q34, .inr (2, [.int (nI 8), .int (nI 7), .int (nI 2), .int (nI 3), .int (nI 60), .int (nI 64), .int (nI 20), .int (nI 524288), .int (nI 16), .int (nI 4), .int (nI 261888), .int (nI 75), .int (nI 120), .int (nI 2592), .int (nI 4896), .int (nI 4544), .int (nI 4627)])), (q33, .inr (2, [.int (nI 6), .int (nI 5), .int (nI 4), .int (nI 4), .int (nI 49), .int (nI 48), .int (nI 20), .int (nI 524288), .int (nI 16), .int (nI 4), .int (nI 261888), .int (nI 55), .int (nI 196), .int (nI 1952), .int (nI 4032), .int (nI 3248), .int (nI 3309)]))] ++ pl) := hD.part [0, 1, 3, 2] (by decide) rfl
  obtain ⟨hP, hD⟩ := mv_last (X := [(h0, .inr (0, [.ref q21, .int (nI 0), .ref q22, .int (nI 0), .ref q23, .int (nI 0), .ref q24, .ref q25, .ref q26, .ref q27, .ref q28])), (q25, .inl (g.2.1 4, 3, .inr (.inr (.inr (.inr ((va_up (va_up (va_up (fun _ => none) 0 (some q32)) 1 (some q33)) 2 (some q34)))))))), (q34, .inr (2, [.int (nI 8), .int (nI 7), .int (nI 2), .int (nI 3), .int (nI 60), .int (nI 64), .int (nI 20), .int (nI 524288), .int (nI 16), .int (nI 4), .int (nI 261888), .int (nI 75), .int (nI 120), .int (nI 2592), .int (nI 4896), .int (nI 4544), .int (nI 4627)]))]) (c := (q33, .inr (2, [.int (nI 6), .int (nI 5), .int (nI 4), .int (nI 4), .int (nI 49), .int (nI 48), .int (nI 20), .int (nI 524288), .int (nI 16), .int (nI 4), .int (nI 261888), .int (nI 55), .int (nI 196), .int (nI 1952), .int (nI 4032), .int (nI 3248), .int (nI 3309)]))) hP hD
  obtain ⟨T, pl, hxt32, hU, kr32, hO, hP, hD, hnk29⟩ := absorb (X := [(h0, .inr (0, [.ref q21, .int (nI 0), .ref q22, .int (nI 0), .ref q23, .int (nI 0), .ref q24, .ref q25, .ref q26, .ref q27, .ref q28])), (q25, .inl (g.2.1 4, 3, .inr (.inr (.inr (.inr ((va_up (va_up (va_up (fun _ => none) 0 (some q32)) 1 (some q33)) 2 (some q34)))))))), (q34, .inr (2, [.int (nI 8), .int (nI 7), .int (nI 2), .int (nI 3), .int (nI 60), .int (nI 64), .int (nI 20), .int (nI 524288), .int (nI 16), .int (nI 4), .int (nI 261888), .int (nI 75), .int (nI 120), .int (nI 2592), .int (nI 4896), .int (nI 4544), .int (nI 4627)]))]) (44, 0) hP hD hO hU (Or.inl rfl) (fun T9 h9 _ => ⟨_, rfl, rfl, rfl, rfl, rfl, rfl, rfl, rfl, rfl, rfl, rfl, rfl, rfl, rfl, rfl, rfl, rfl, rfl, trivial⟩)
  have kr21 := hxt32 _ _ kr21
  have kr22 := hxt32 _ _ kr22
  have kr23 := hxt32 _ _ kr23
  have kr24 := hxt32 _ _ kr24
  have kr25 := hxt32 _ _ kr25
  have kr26 := hxt32 _ _ kr26
  have kr27 := hxt32 _ _ kr27
  have kr28 := hxt32 _ _ kr28
  have kr29 := hxt32 _ _ kr29
  have kr30 := hxt32 _ _ kr30
  have kr31 := hxt32 _ _ kr31
  have hXT := ext_tr hXT hxt32
  have hP : va_P g.1 vcl ([(h0, .inr (0, [.ref q21, .int (nI 0), .ref q22, .int (nI 0), .ref q23, .int (nI 0), .ref q24, .ref q25, .ref q26, .ref q27, .ref q28])), (q25, .inl (g.2.1 4, 3, .inr (.inr (.inr (.inr ((va_up (va_up (va_up (fun _ => none) 0 (some q32)) 1 (some q33)) 2 (some q34)))))))), (q34, .inr (2, [.int (nI 8), .int (nI 7), .int (nI 2), .int (nI 3), .int (nI 60), .int (nI 64), .int (nI 20), .int (nI 524288), .int (nI 16), .int (nI 4), .int (nI 261888), .int (nI 75), .int (nI 120), .int (nI 2592), .int (nI 4896), .int (nI 4544), .int (nI 4627)]))] ++ pl) _ := hP
  have hD : va_D _ ([(h0, .inr (0, [.ref q21, .int (nI 0), .ref q22, .int (nI 0), .ref q23, .int (nI 0), .ref q24, .ref q25, .ref q26, .ref q27, .ref q28])), (q25, .inl (g.2.1 4, 3, .inr (.inr (.inr (.inr ((va_up (va_up (va_up (fun _ => none) 0 (some q32)) 1 (some q33)) 2 (some q34)))))))), (q34, .inr (2, [.int (nI 8), .int (nI 7), .int (nI 2), .int (nI 3), .int (nI 60), .int (nI 64), .int (nI 20), .int (nI 524288), .int (nI 16), .int (nI 4), .int (nI 261888), .int (nI 75), .int (nI 120), .int (nI 2592), .int (nI 4896), .int (nI 4544), .int (nI 4627)]))] ++ pl) := hD
  have hPS := pass_one hPS hnk29 (Or.inl rfl)
  obtain ⟨hP, hD⟩ := mv_last (X := [(h0, .inr (0, [.ref q21, .int (nI 0), .ref q22, .int (nI 0), .ref q23, .int (nI 0), .ref q24, .ref q25, .ref q26, .ref q27, .ref q28])), (q25, .inl (g.2.1 4, 3, .inr (.inr (.inr (.inr ((va_up (va_up (va_up (fun _ => none) 0 (some q32)) 1 (some q33)) 2 (some q34))))))))]) (c := (q34, .inr (2, [.int (nI 8), .int (nI 7), .int (nI 2), .int (nI 3), .int (nI 60), .int (nI 64), .int (nI 20), .int (nI 524288), .int (nI 16), .int (nI 4), .int (nI 261888), .int (nI 75), .int (nI 120), .int (nI 2592), .int (nI 4896), .int (nI 4544), .int (nI 4627)]))) hP hD
  obtain ⟨T, pl, hxt33, hU, kr33, hO, hP, hD, hnk30⟩ := absorb (X := [(h0, .inr (0, [.ref q21, .int (nI 0), .ref q22, .int (nI 0), .ref q23, .int (nI 0), .ref q24, .ref q25, .ref q26, .ref q27, .ref q28])), (q25, .inl (g.2.1 4, 3, .inr (.inr (.inr (.inr ((va_up (va_up (va_up (fun _ => none) 0 (some q32)) 1 (some q33)) 2 (some q34))))))))]) (45, 0) hP hD hO hU (Or.inl rfl) (fun T9 h9 _ => ⟨_, rfl, rfl, rfl, rfl, rfl, rfl, rfl, rfl, rfl, rfl, rfl, rfl, rfl, rfl, rfl, rfl, rfl, rfl, trivial⟩)
  have kr21 := hxt33 _ _ kr21
  have kr22 := hxt33 _ _ kr22
  have kr23 := hxt33 _ _ kr23
  have kr24 := hxt33 _ _ kr24
  have kr25 := hxt33 _ _ kr25
  have kr26 := hxt33 _ _ kr26
  have kr27 := hxt33 _ _ kr27
  have kr28 := hxt33 _ _ kr28
  have kr29 := hxt33 _ _ kr29
  have kr30 := hxt33 _ _ kr30
  have kr31 := hxt33 _ _ kr31
  have kr32 := hxt33 _ _ kr32
  have hXT := ext_tr hXT hxt33
  have hP : va_P g.1 vcl ([(h0, .inr (0, [.ref q21, .int (nI 0), .ref q22, .int (nI 0), .ref q23, .int (nI 0), .ref q24, .ref q25, .ref q26, .ref q27, .ref q28])), (q25, .inl (g.2.1 4, 3, .inr (.inr (.inr (.inr ((va_up (va_up (va_up (fun _ => none) 0 (some q32)) 1 (some q33)) 2 (some q34))))))))] ++ pl) _ := hP
  have hD : va_D _ ([(h0, .inr (0, [.ref q21, .int (nI 0), .ref q22, .int (nI 0), .ref q23, .int (nI 0), .ref q24, .ref q25, .ref q26, .ref q27, .ref q28])), (q25, .inl (g.2.1 4, 3, .inr (.inr (.inr (.inr ((va_up (va_up (va_up (fun _ => none) 0 (some q32)) 1 (some q33)) 2 (some q34))))))))] ++ pl) := hD
  have hPS := pass_one hPS hnk30 (Or.inl rfl)
  obtain ⟨hP, hD⟩ := mv_last (X := [(h0, .inr (0, [.ref q21, .int (nI 0), .ref q22, .int (nI 0), .ref q23, .int (nI 0), .ref q24, .ref q25, .ref q26, .ref q27, .ref q28]))]) (c := (q25, .inl (g.2.1 4, 3, .inr (.inr (.inr (.inr ((va_up (va_up (va_up (fun _ => none) 0 (some q32)) 1 (some q33)) 2 (some q34))))))))) hP hD
  obtain ⟨T, pl, hxt34, hU, kr34, hO, hP, hD, hnk31⟩ := absorb (X := [(h0, .inr (0, [.ref q21, .int (nI 0), .ref q22, .int (nI 0), .ref q23, .int (nI 0), .ref q24, .ref q25, .ref q26, .ref q27, .ref q28]))]) (51, 0) hP hD hO hU (Or.inl rfl) (fun T9 h9 _ => ⟨_, rfl, fun j hj => by match j, hj with | 0, _ => exact ⟨_, rfl, h9 _ _ kr31⟩ | 1, _ => exact ⟨_, rfl, h9 _ _ kr32⟩ | 2, _ => exact ⟨_, rfl, h9 _ _ kr33⟩ | _ + 3, h => exact absurd h (by omega)⟩)
  have kr21 := hxt34 _ _ kr21
  have kr22 := hxt34 _ _ kr22
  have kr23 := hxt34 _ _ kr23
  have kr24 := hxt34 _ _ kr24
  have kr25 := hxt34 _ _ kr25
  have kr26 := hxt34 _ _ kr26
  have kr27 := hxt34 _ _ kr27
  have kr28 := hxt34 _ _ kr28
  have kr29 := hxt34 _ _ kr29
  have kr30 := hxt34 _ _ kr30
  have kr31 := hxt34 _ _ kr31
  have kr32 := hxt34 _ _ kr32
  have kr33 := hxt34 _ _ kr33
  have hXT := ext_tr hXT hxt34
  have hP : va_P g.1 vcl ([(h0, .inr (0, [.ref q21, .int (nI 0), .ref q22, .int (nI 0), .ref q23, .int (nI 0), .ref q24, .ref q25, .ref q26, .ref q27, .ref q28]))] ++ pl) _ := hP
  have hD : va_D _ ([(h0, .inr (0, [.ref q21, .int (nI 0), .ref q22, .int (nI 0), .ref q23, .int (nI 0), .ref q24, .ref q25, .ref q26, .ref q27, .ref q28]))] ++ pl) := hD
  have hPS := pass_one hPS hnk31 (Or.inl rfl)
  exact mp_vret hx hb hr hlk hP hD hS ((T, fun k => match k with | 0 => q21 | 1 => q22 | 2 => q23 | 3 => q24 | 4 => q25 | 5 => q26 | 6 => q27 | 7 => q28 | _ => 0), pl) ⟨⟨hXT, hU, hPS, kr21, kr22, kr23, kr30, kr34, kr24, kr25, kr26⟩, hO⟩ [0] rfl rfl rfl (by omega) (by omega) dK_init_149
