abbrev c_DA_hintsAreInForm : ByteArray := prog_3_method_21_code
abbrev y_DA_hintsAreInForm : MethodName := ⟨"LatticeKeys$Dsa", "hintsAreInForm", "(LLatticeKeys$DsaSet;)Z"⟩
abbrev w_DA_hintsAreInForm : List Cond := Cond.code y_DA_hintsAreInForm c_DA_hintsAreInForm 6 (some .boolean) :: WG
theorem dDA_hintsAreInForm_0 : decode c_DA_hintsAreInForm 0 = .ok (.iconst 0, 1) := by decide +kernel
theorem dDA_hintsAreInForm_1 : decode c_DA_hintsAreInForm 1 = .ok (.istore_n 2, 1) := by decide +kernel
theorem dDA_hintsAreInForm_2 : decode c_DA_hintsAreInForm 2 = .ok (.iconst 0, 1) := by decide +kernel
theorem dDA_hintsAreInForm_3 : decode c_DA_hintsAreInForm 3 = .ok (.istore_n 3, 1) := by decide +kernel
theorem dDA_hintsAreInForm_4 : decode c_DA_hintsAreInForm 4 = .ok (.iload_n 3, 1) := by decide +kernel
theorem dDA_hintsAreInForm_5 : decode c_DA_hintsAreInForm 5 = .ok (.aload_n 1, 1) := by decide +kernel
theorem dDA_hintsAreInForm_6 : decode c_DA_hintsAreInForm 6 = .ok (.getfield 87, 3) := by decide +kernel
theorem dDA_hintsAreInForm_9 : decode c_DA_hintsAreInForm 9 = .ok (.if_icmp .ge 93, 3) := by decide +kernel
theorem dDA_hintsAreInForm_12 : decode c_DA_hintsAreInForm 12 = .ok (.aload_n 0, 1) := by decide +kernel
theorem dDA_hintsAreInForm_13 : decode c_DA_hintsAreInForm 13 = .ok (.getfield 73, 3) := by decide +kernel
theorem dDA_hintsAreInForm_16 : decode c_DA_hintsAreInForm 16 = .ok (.aload_n 1, 1) := by decide +kernel
theorem dDA_hintsAreInForm_17 : decode c_DA_hintsAreInForm 17 = .ok (.getfield 252, 3) := by decide +kernel
theorem dDA_hintsAreInForm_20 : decode c_DA_hintsAreInForm 20 = .ok (.iload_n 3, 1) := by decide +kernel
theorem dDA_hintsAreInForm_21 : decode c_DA_hintsAreInForm 21 = .ok (.iadd, 1) := by decide +kernel
theorem dDA_hintsAreInForm_22 : decode c_DA_hintsAreInForm 22 = .ok (.baload, 1) := by decide +kernel
theorem dDA_hintsAreInForm_23 : decode c_DA_hintsAreInForm 23 = .ok (.sipush 255, 3) := by decide +kernel
theorem dDA_hintsAreInForm_26 : decode c_DA_hintsAreInForm 26 = .ok (.iand, 1) := by decide +kernel
theorem dDA_hintsAreInForm_27 : decode c_DA_hintsAreInForm 27 = .ok (.istore 4, 2) := by decide +kernel
theorem dDA_hintsAreInForm_29 : decode c_DA_hintsAreInForm 29 = .ok (.iload 4, 2) := by decide +kernel
theorem dDA_hintsAreInForm_31 : decode c_DA_hintsAreInForm 31 = .ok (.iload_n 2, 1) := by decide +kernel
theorem dDA_hintsAreInForm_32 : decode c_DA_hintsAreInForm 32 = .ok (.if_icmp .lt 12, 3) := by decide +kernel
theorem dDA_hintsAreInForm_35 : decode c_DA_hintsAreInForm 35 = .ok (.iload 4, 2) := by decide +kernel
theorem dDA_hintsAreInForm_37 : decode c_DA_hintsAreInForm 37 = .ok (.aload_n 1, 1) := by decide +kernel
theorem dDA_hintsAreInForm_38 : decode c_DA_hintsAreInForm 38 = .ok (.getfield 252, 3) := by decide +kernel
theorem dDA_hintsAreInForm_41 : decode c_DA_hintsAreInForm 41 = .ok (.if_icmp .le 5, 3) := by decide +kernel
theorem dDA_hintsAreInForm_44 : decode c_DA_hintsAreInForm 44 = .ok (.iconst 0, 1) := by decide +kernel
theorem dDA_hintsAreInForm_45 : decode c_DA_hintsAreInForm 45 = .ok (.ireturn, 1) := by decide +kernel
theorem dDA_hintsAreInForm_46 : decode c_DA_hintsAreInForm 46 = .ok (.iload_n 2, 1) := by decide +kernel
theorem dDA_hintsAreInForm_47 : decode c_DA_hintsAreInForm 47 = .ok (.iconst 1, 1) := by decide +kernel
theorem dDA_hintsAreInForm_48 : decode c_DA_hintsAreInForm 48 = .ok (.iadd, 1) := by decide +kernel
theorem dDA_hintsAreInForm_49 : decode c_DA_hintsAreInForm 49 = .ok (.istore 5, 2) := by decide +kernel
theorem dDA_hintsAreInForm_51 : decode c_DA_hintsAreInForm 51 = .ok (.iload 5, 2) := by decide +kernel
theorem dDA_hintsAreInForm_53 : decode c_DA_hintsAreInForm 53 = .ok (.iload 4, 2) := by decide +kernel
theorem dDA_hintsAreInForm_55 : decode c_DA_hintsAreInForm 55 = .ok (.if_icmp .ge 38, 3) := by decide +kernel
theorem dDA_hintsAreInForm_58 : decode c_DA_hintsAreInForm 58 = .ok (.aload_n 0, 1) := by decide +kernel
theorem dDA_hintsAreInForm_59 : decode c_DA_hintsAreInForm 59 = .ok (.getfield 73, 3) := by decide +kernel
theorem dDA_hintsAreInForm_62 : decode c_DA_hintsAreInForm 62 = .ok (.iload 5, 2) := by decide +kernel
theorem dDA_hintsAreInForm_64 : decode c_DA_hintsAreInForm 64 = .ok (.iconst 1, 1) := by decide +kernel
theorem dDA_hintsAreInForm_65 : decode c_DA_hintsAreInForm 65 = .ok (.isub, 1) := by decide +kernel
theorem dDA_hintsAreInForm_66 : decode c_DA_hintsAreInForm 66 = .ok (.baload, 1) := by decide +kernel
theorem dDA_hintsAreInForm_67 : decode c_DA_hintsAreInForm 67 = .ok (.sipush 255, 3) := by decide +kernel
theorem dDA_hintsAreInForm_70 : decode c_DA_hintsAreInForm 70 = .ok (.iand, 1) := by decide +kernel
theorem dDA_hintsAreInForm_71 : decode c_DA_hintsAreInForm 71 = .ok (.aload_n 0, 1) := by decide +kernel
theorem dDA_hintsAreInForm_72 : decode c_DA_hintsAreInForm 72 = .ok (.getfield 73, 3) := by decide +kernel
theorem dDA_hintsAreInForm_75 : decode c_DA_hintsAreInForm 75 = .ok (.iload 5, 2) := by decide +kernel
theorem dDA_hintsAreInForm_77 : decode c_DA_hintsAreInForm 77 = .ok (.baload, 1) := by decide +kernel
theorem dDA_hintsAreInForm_78 : decode c_DA_hintsAreInForm 78 = .ok (.sipush 255, 3) := by decide +kernel
theorem dDA_hintsAreInForm_81 : decode c_DA_hintsAreInForm 81 = .ok (.iand, 1) := by decide +kernel
theorem dDA_hintsAreInForm_82 : decode c_DA_hintsAreInForm 82 = .ok (.if_icmp .lt 5, 3) := by decide +kernel
theorem dDA_hintsAreInForm_85 : decode c_DA_hintsAreInForm 85 = .ok (.iconst 0, 1) := by decide +kernel
theorem dDA_hintsAreInForm_86 : decode c_DA_hintsAreInForm 86 = .ok (.ireturn, 1) := by decide +kernel
theorem dDA_hintsAreInForm_87 : decode c_DA_hintsAreInForm 87 = .ok (.iinc 5 1, 3) := by decide +kernel
theorem dDA_hintsAreInForm_90 : decode c_DA_hintsAreInForm 90 = .ok (.goto (-39), 3) := by decide +kernel
theorem dDA_hintsAreInForm_93 : decode c_DA_hintsAreInForm 93 = .ok (.iload 4, 2) := by decide +kernel
theorem dDA_hintsAreInForm_95 : decode c_DA_hintsAreInForm 95 = .ok (.istore_n 2, 1) := by decide +kernel
theorem dDA_hintsAreInForm_96 : decode c_DA_hintsAreInForm 96 = .ok (.iinc 3 1, 3) := by decide +kernel
theorem dDA_hintsAreInForm_99 : decode c_DA_hintsAreInForm 99 = .ok (.goto (-95), 3) := by decide +kernel
theorem dDA_hintsAreInForm_102 : decode c_DA_hintsAreInForm 102 = .ok (.iload_n 2, 1) := by decide +kernel
theorem dDA_hintsAreInForm_103 : decode c_DA_hintsAreInForm 103 = .ok (.istore_n 3, 1) := by decide +kernel
theorem dDA_hintsAreInForm_104 : decode c_DA_hintsAreInForm 104 = .ok (.iload_n 3, 1) := by decide +kernel
theorem dDA_hintsAreInForm_105 : decode c_DA_hintsAreInForm 105 = .ok (.aload_n 1, 1) := by decide +kernel
theorem dDA_hintsAreInForm_106 : decode c_DA_hintsAreInForm 106 = .ok (.getfield 252, 3) := by decide +kernel
theorem dDA_hintsAreInForm_109 : decode c_DA_hintsAreInForm 109 = .ok (.if_icmp .ge 20, 3) := by decide +kernel
theorem dDA_hintsAreInForm_112 : decode c_DA_hintsAreInForm 112 = .ok (.aload_n 0, 1) := by decide +kernel
theorem dDA_hintsAreInForm_113 : decode c_DA_hintsAreInForm 113 = .ok (.getfield 73, 3) := by decide +kernel
theorem dDA_hintsAreInForm_116 : decode c_DA_hintsAreInForm 116 = .ok (.iload_n 3, 1) := by decide +kernel
theorem dDA_hintsAreInForm_117 : decode c_DA_hintsAreInForm 117 = .ok (.baload, 1) := by decide +kernel
theorem dDA_hintsAreInForm_118 : decode c_DA_hintsAreInForm 118 = .ok (.ifCond .eq 5, 3) := by decide +kernel
theorem dDA_hintsAreInForm_121 : decode c_DA_hintsAreInForm 121 = .ok (.iconst 0, 1) := by decide +kernel
theorem dDA_hintsAreInForm_122 : decode c_DA_hintsAreInForm 122 = .ok (.ireturn, 1) := by decide +kernel
theorem dDA_hintsAreInForm_123 : decode c_DA_hintsAreInForm 123 = .ok (.iinc 3 1, 3) := by decide +kernel
theorem dDA_hintsAreInForm_126 : decode c_DA_hintsAreInForm 126 = .ok (.goto (-22), 3) := by decide +kernel
theorem dDA_hintsAreInForm_129 : decode c_DA_hintsAreInForm 129 = .ok (.iconst 1, 1) := by decide +kernel
theorem dDA_hintsAreInForm_130 : decode c_DA_hintsAreInForm 130 = .ok (.ireturn, 1) := by decide +kernel
abbrev c_DA_readSignature : ByteArray := prog_3_method_20_code
abbrev y_DA_readSignature : MethodName := ⟨"LatticeKeys$Dsa", "readSignature", "(LLatticeKeys$DsaSet;[B)Z"⟩
abbrev w_DA_readSignature : List Cond := Cond.code y_DA_readSignature c_DA_readSignature 4 (some .boolean) :: WG
theorem dDA_readSignature_0 : decode c_DA_readSignature 0 = .ok (.aload_n 2, 1) := by decide +kernel
theorem dDA_readSignature_1 : decode c_DA_readSignature 1 = .ok (.iconst 0, 1) := by decide +kernel
theorem dDA_readSignature_2 : decode c_DA_readSignature 2 = .ok (.aload_n 0, 1) := by decide +kernel
theorem dDA_readSignature_3 : decode c_DA_readSignature 3 = .ok (.getfield 67, 3) := by decide +kernel
theorem dDA_readSignature_6 : decode c_DA_readSignature 6 = .ok (.iconst 0, 1) := by decide +kernel
theorem dDA_readSignature_7 : decode c_DA_readSignature 7 = .ok (.aload_n 1, 1) := by decide +kernel
theorem dDA_readSignature_8 : decode c_DA_readSignature 8 = .ok (.getfield 220, 3) := by decide +kernel
theorem dDA_readSignature_11 : decode c_DA_readSignature 11 = .ok (.invokestatic 105, 3) := by decide +kernel
theorem dDA_readSignature_14 : decode c_DA_readSignature 14 = .ok (.aload_n 2, 1) := by decide +kernel
theorem dDA_readSignature_15 : decode c_DA_readSignature 15 = .ok (.aload_n 1, 1) := by decide +kernel
theorem dDA_readSignature_16 : decode c_DA_readSignature 16 = .ok (.getfield 258, 3) := by decide +kernel
theorem dDA_readSignature_19 : decode c_DA_readSignature 19 = .ok (.aload_n 0, 1) := by decide +kernel
theorem dDA_readSignature_20 : decode c_DA_readSignature 20 = .ok (.getfield 73, 3) := by decide +kernel
theorem dDA_readSignature_23 : decode c_DA_readSignature 23 = .ok (.iconst 0, 1) := by decide +kernel
theorem dDA_readSignature_24 : decode c_DA_readSignature 24 = .ok (.aload_n 1, 1) := by decide +kernel
theorem dDA_readSignature_25 : decode c_DA_readSignature 25 = .ok (.getfield 252, 3) := by decide +kernel
theorem dDA_readSignature_28 : decode c_DA_readSignature 28 = .ok (.aload_n 1, 1) := by decide +kernel
theorem dDA_readSignature_29 : decode c_DA_readSignature 29 = .ok (.getfield 87, 3) := by decide +kernel
theorem dDA_readSignature_32 : decode c_DA_readSignature 32 = .ok (.iadd, 1) := by decide +kernel
theorem dDA_readSignature_33 : decode c_DA_readSignature 33 = .ok (.invokestatic 105, 3) := by decide +kernel
theorem dDA_readSignature_36 : decode c_DA_readSignature 36 = .ok (.aload_n 0, 1) := by decide +kernel
theorem dDA_readSignature_37 : decode c_DA_readSignature 37 = .ok (.aload_n 1, 1) := by decide +kernel
theorem dDA_readSignature_38 : decode c_DA_readSignature 38 = .ok (.invokevirtual 279, 3) := by decide +kernel
theorem dDA_readSignature_41 : decode c_DA_readSignature 41 = .ok (.ifCond .ne 5, 3) := by decide +kernel
theorem dDA_readSignature_44 : decode c_DA_readSignature 44 = .ok (.iconst 0, 1) := by decide +kernel
theorem dDA_readSignature_45 : decode c_DA_readSignature 45 = .ok (.ireturn, 1) := by decide +kernel
theorem dDA_readSignature_46 : decode c_DA_readSignature 46 = .ok (.iconst 0, 1) := by decide +kernel
theorem dDA_readSignature_47 : decode c_DA_readSignature 47 = .ok (.istore_n 3, 1) := by decide +kernel
theorem dDA_readSignature_48 : decode c_DA_readSignature 48 = .ok (.iload_n 3, 1) := by decide +kernel
theorem dDA_readSignature_49 : decode c_DA_readSignature 49 = .ok (.aload_n 1, 1) := by decide +kernel
theorem dDA_readSignature_50 : decode c_DA_readSignature 50 = .ok (.getfield 96, 3) := by decide +kernel
theorem dDA_readSignature_53 : decode c_DA_readSignature 53 = .ok (.if_icmp .ge 69, 3) := by decide +kernel
theorem dDA_readSignature_56 : decode c_DA_readSignature 56 = .ok (.aload_n 0, 1) := by decide +kernel
theorem dDA_readSignature_57 : decode c_DA_readSignature 57 = .ok (.aload_n 0, 1) := by decide +kernel
theorem dDA_readSignature_58 : decode c_DA_readSignature 58 = .ok (.getfield 47, 3) := by decide +kernel
theorem dDA_readSignature_61 : decode c_DA_readSignature 61 = .ok (.iload_n 3, 1) := by decide +kernel
theorem dDA_readSignature_62 : decode c_DA_readSignature 62 = .ok (.aaload, 1) := by decide +kernel
theorem dDA_readSignature_63 : decode c_DA_readSignature 63 = .ok (.aload_n 1, 1) := by decide +kernel
theorem dDA_readSignature_64 : decode c_DA_readSignature 64 = .ok (.getfield 255, 3) := by decide +kernel
theorem dDA_readSignature_67 : decode c_DA_readSignature 67 = .ok (.aload_n 1, 1) := by decide +kernel
theorem dDA_readSignature_68 : decode c_DA_readSignature 68 = .ok (.getfield 202, 3) := by decide +kernel
theorem dDA_readSignature_71 : decode c_DA_readSignature 71 = .ok (.aload_n 2, 1) := by decide +kernel
theorem dDA_readSignature_72 : decode c_DA_readSignature 72 = .ok (.aload_n 1, 1) := by decide +kernel
theorem dDA_readSignature_73 : decode c_DA_readSignature 73 = .ok (.getfield 220, 3) := by decide +kernel
theorem dDA_readSignature_76 : decode c_DA_readSignature 76 = .ok (.bipush 32, 2) := by decide +kernel
theorem dDA_readSignature_78 : decode c_DA_readSignature 78 = .ok (.aload_n 1, 1) := by decide +kernel
theorem dDA_readSignature_79 : decode c_DA_readSignature 79 = .ok (.getfield 255, 3) := by decide +kernel
theorem dDA_readSignature_82 : decode c_DA_readSignature 82 = .ok (.imul, 1) := by decide +kernel
theorem dDA_readSignature_83 : decode c_DA_readSignature 83 = .ok (.iload_n 3, 1) := by decide +kernel
theorem dDA_readSignature_84 : decode c_DA_readSignature 84 = .ok (.imul, 1) := by decide +kernel
theorem dDA_readSignature_85 : decode c_DA_readSignature 85 = .ok (.iadd, 1) := by decide +kernel
theorem dDA_readSignature_86 : decode c_DA_readSignature 86 = .ok (.invokevirtual 185, 3) := by decide +kernel
theorem dDA_readSignature_89 : decode c_DA_readSignature 89 = .ok (.aload_n 0, 1) := by decide +kernel
theorem dDA_readSignature_90 : decode c_DA_readSignature 90 = .ok (.getfield 22, 3) := by decide +kernel
theorem dDA_readSignature_93 : decode c_DA_readSignature 93 = .ok (.aload_n 0, 1) := by decide +kernel
theorem dDA_readSignature_94 : decode c_DA_readSignature 94 = .ok (.getfield 47, 3) := by decide +kernel
theorem dDA_readSignature_97 : decode c_DA_readSignature 97 = .ok (.iload_n 3, 1) := by decide +kernel
theorem dDA_readSignature_98 : decode c_DA_readSignature 98 = .ok (.aaload, 1) := by decide +kernel
theorem dDA_readSignature_99 : decode c_DA_readSignature 99 = .ok (.aload_n 1, 1) := by decide +kernel
theorem dDA_readSignature_100 : decode c_DA_readSignature 100 = .ok (.getfield 202, 3) := by decide +kernel
theorem dDA_readSignature_103 : decode c_DA_readSignature 103 = .ok (.aload_n 1, 1) := by decide +kernel
theorem dDA_readSignature_104 : decode c_DA_readSignature 104 = .ok (.getfield 233, 3) := by decide +kernel
theorem dDA_readSignature_107 : decode c_DA_readSignature 107 = .ok (.isub, 1) := by decide +kernel
theorem dDA_readSignature_108 : decode c_DA_readSignature 108 = .ok (.invokevirtual 236, 3) := by decide +kernel
theorem dDA_readSignature_111 : decode c_DA_readSignature 111 = .ok (.ifCond .ne 5, 3) := by decide +kernel
theorem dDA_readSignature_114 : decode c_DA_readSignature 114 = .ok (.iconst 0, 1) := by decide +kernel
theorem dDA_readSignature_115 : decode c_DA_readSignature 115 = .ok (.ireturn, 1) := by decide +kernel
theorem dDA_readSignature_116 : decode c_DA_readSignature 116 = .ok (.iinc 3 1, 3) := by decide +kernel
theorem dDA_readSignature_119 : decode c_DA_readSignature 119 = .ok (.goto (-71), 3) := by decide +kernel
theorem dDA_readSignature_122 : decode c_DA_readSignature 122 = .ok (.iconst 1, 1) := by decide +kernel
theorem dDA_readSignature_123 : decode c_DA_readSignature 123 = .ok (.ireturn, 1) := by decide +kernel
abbrev c_DA_useHints : ByteArray := prog_3_method_23_code
abbrev y_DA_useHints : MethodName := ⟨"LatticeKeys$Dsa", "useHints", "(LLatticeKeys$DsaSet;[III)V"⟩
abbrev w_DA_useHints : List Cond := Cond.code y_DA_useHints c_DA_useHints 7 none :: WG
theorem dDA_useHints_0 : decode c_DA_useHints 0 = .ok (.iconst 0, 1) := by decide +kernel
theorem dDA_useHints_1 : decode c_DA_useHints 1 = .ok (.istore 5, 2) := by decide +kernel
theorem dDA_useHints_3 : decode c_DA_useHints 3 = .ok (.iload 5, 2) := by decide +kernel
theorem dDA_useHints_5 : decode c_DA_useHints 5 = .ok (.sipush 256, 3) := by decide +kernel
theorem dDA_useHints_8 : decode c_DA_useHints 8 = .ok (.if_icmp .ge 24, 3) := by decide +kernel
theorem dDA_useHints_11 : decode c_DA_useHints 11 = .ok (.aload_n 0, 1) := by decide +kernel
theorem dDA_useHints_12 : decode c_DA_useHints 12 = .ok (.getfield 57, 3) := by decide +kernel
theorem dDA_useHints_15 : decode c_DA_useHints 15 = .ok (.iload 5, 2) := by decide +kernel
theorem dDA_useHints_17 : decode c_DA_useHints 17 = .ok (.aload_n 1, 1) := by decide +kernel
theorem dDA_useHints_18 : decode c_DA_useHints 18 = .ok (.aload_n 2, 1) := by decide +kernel
theorem dDA_useHints_19 : decode c_DA_useHints 19 = .ok (.iload 5, 2) := by decide +kernel
theorem dDA_useHints_21 : decode c_DA_useHints 21 = .ok (.iaload, 1) := by decide +kernel
theorem dDA_useHints_22 : decode c_DA_useHints 22 = .ok (.invokevirtual 212, 3) := by decide +kernel
theorem dDA_useHints_25 : decode c_DA_useHints 25 = .ok (.iastore, 1) := by decide +kernel
theorem dDA_useHints_26 : decode c_DA_useHints 26 = .ok (.iinc 5 1, 3) := by decide +kernel
theorem dDA_useHints_29 : decode c_DA_useHints 29 = .ok (.goto (-26), 3) := by decide +kernel
theorem dDA_useHints_32 : decode c_DA_useHints 32 = .ok (.iload_n 3, 1) := by decide +kernel
theorem dDA_useHints_33 : decode c_DA_useHints 33 = .ok (.istore 5, 2) := by decide +kernel
theorem dDA_useHints_35 : decode c_DA_useHints 35 = .ok (.iload 5, 2) := by decide +kernel
theorem dDA_useHints_37 : decode c_DA_useHints 37 = .ok (.iload 4, 2) := by decide +kernel
theorem dDA_useHints_39 : decode c_DA_useHints 39 = .ok (.if_icmp .ge 37, 3) := by decide +kernel
theorem dDA_useHints_42 : decode c_DA_useHints 42 = .ok (.aload_n 0, 1) := by decide +kernel
theorem dDA_useHints_43 : decode c_DA_useHints 43 = .ok (.getfield 73, 3) := by decide +kernel
theorem dDA_useHints_46 : decode c_DA_useHints 46 = .ok (.iload 5, 2) := by decide +kernel
theorem dDA_useHints_48 : decode c_DA_useHints 48 = .ok (.baload, 1) := by decide +kernel
theorem dDA_useHints_49 : decode c_DA_useHints 49 = .ok (.sipush 255, 3) := by decide +kernel
theorem dDA_useHints_52 : decode c_DA_useHints 52 = .ok (.iand, 1) := by decide +kernel
theorem dDA_useHints_53 : decode c_DA_useHints 53 = .ok (.istore 6, 2) := by decide +kernel
theorem dDA_useHints_55 : decode c_DA_useHints 55 = .ok (.aload_n 0, 1) := by decide +kernel
theorem dDA_useHints_56 : decode c_DA_useHints 56 = .ok (.getfield 57, 3) := by decide +kernel
theorem dDA_useHints_59 : decode c_DA_useHints 59 = .ok (.iload 6, 2) := by decide +kernel
theorem dDA_useHints_61 : decode c_DA_useHints 61 = .ok (.aload_n 1, 1) := by decide +kernel
theorem dDA_useHints_62 : decode c_DA_useHints 62 = .ok (.aload_n 2, 1) := by decide +kernel
theorem dDA_useHints_63 : decode c_DA_useHints 63 = .ok (.iload 6, 2) := by decide +kernel
theorem dDA_useHints_65 : decode c_DA_useHints 65 = .ok (.iaload, 1) := by decide +kernel
theorem dDA_useHints_66 : decode c_DA_useHints 66 = .ok (.invokevirtual 282, 3) := by decide +kernel
theorem dDA_useHints_69 : decode c_DA_useHints 69 = .ok (.iastore, 1) := by decide +kernel
theorem dDA_useHints_70 : decode c_DA_useHints 70 = .ok (.iinc 5 1, 3) := by decide +kernel
theorem dDA_useHints_73 : decode c_DA_useHints 73 = .ok (.goto (-38), 3) := by decide +kernel
theorem dDA_useHints_76 : decode c_DA_useHints 76 = .ok (.return_, 1) := by decide +kernel
abbrev c_DA_rebuildRow : ByteArray := prog_3_method_22_code
abbrev y_DA_rebuildRow : MethodName := ⟨"LatticeKeys$Dsa", "rebuildRow", "(LLatticeKeys$DsaSet;[BI)V"⟩
abbrev w_DA_rebuildRow : List Cond := Cond.code y_DA_rebuildRow c_DA_rebuildRow 5 none :: WG
theorem dDA_rebuildRow_0 : decode c_DA_rebuildRow 0 = .ok (.aload_n 0, 1) := by decide +kernel
theorem dDA_rebuildRow_1 : decode c_DA_rebuildRow 1 = .ok (.aload_n 1, 1) := by decide +kernel
theorem dDA_rebuildRow_2 : decode c_DA_rebuildRow 2 = .ok (.iload_n 3, 1) := by decide +kernel
theorem dDA_rebuildRow_3 : decode c_DA_rebuildRow 3 = .ok (.aload_n 0, 1) := by decide +kernel
theorem dDA_rebuildRow_4 : decode c_DA_rebuildRow 4 = .ok (.getfield 47, 3) := by decide +kernel
theorem dDA_rebuildRow_7 : decode c_DA_rebuildRow 7 = .ok (.invokevirtual 126, 3) := by decide +kernel
theorem dDA_rebuildRow_10 : decode c_DA_rebuildRow 10 = .ok (.aload_n 0, 1) := by decide +kernel
theorem dDA_rebuildRow_11 : decode c_DA_rebuildRow 11 = .ok (.getfield 57, 3) := by decide +kernel
theorem dDA_rebuildRow_14 : decode c_DA_rebuildRow 14 = .ok (.bipush 10, 2) := by decide +kernel
theorem dDA_rebuildRow_16 : decode c_DA_rebuildRow 16 = .ok (.aload_n 2, 1) := by decide +kernel
theorem dDA_rebuildRow_17 : decode c_DA_rebuildRow 17 = .ok (.bipush 32, 2) := by decide +kernel
theorem dDA_rebuildRow_19 : decode c_DA_rebuildRow 19 = .ok (.sipush 320, 3) := by decide +kernel
theorem dDA_rebuildRow_22 : decode c_DA_rebuildRow 22 = .ok (.iload_n 3, 1) := by decide +kernel
theorem dDA_rebuildRow_23 : decode c_DA_rebuildRow 23 = .ok (.imul, 1) := by decide +kernel
theorem dDA_rebuildRow_24 : decode c_DA_rebuildRow 24 = .ok (.iadd, 1) := by decide +kernel
theorem dDA_rebuildRow_25 : decode c_DA_rebuildRow 25 = .ok (.invokestatic 189, 3) := by decide +kernel
theorem dDA_rebuildRow_28 : decode c_DA_rebuildRow 28 = .ok (.iconst 0, 1) := by decide +kernel
theorem dDA_rebuildRow_29 : decode c_DA_rebuildRow 29 = .ok (.istore 4, 2) := by decide +kernel
theorem dDA_rebuildRow_31 : decode c_DA_rebuildRow 31 = .ok (.iload 4, 2) := by decide +kernel
theorem dDA_rebuildRow_33 : decode c_DA_rebuildRow 33 = .ok (.sipush 256, 3) := by decide +kernel
theorem dDA_rebuildRow_36 : decode c_DA_rebuildRow 36 = .ok (.if_icmp .ge 21, 3) := by decide +kernel
theorem dDA_rebuildRow_39 : decode c_DA_rebuildRow 39 = .ok (.aload_n 0, 1) := by decide +kernel
theorem dDA_rebuildRow_40 : decode c_DA_rebuildRow 40 = .ok (.getfield 57, 3) := by decide +kernel
theorem dDA_rebuildRow_43 : decode c_DA_rebuildRow 43 = .ok (.iload 4, 2) := by decide +kernel
theorem dDA_rebuildRow_45 : decode c_DA_rebuildRow 45 = .ok (.dup2, 1) := by decide +kernel
theorem dDA_rebuildRow_46 : decode c_DA_rebuildRow 46 = .ok (.iaload, 1) := by decide +kernel
theorem dDA_rebuildRow_47 : decode c_DA_rebuildRow 47 = .ok (.bipush 13, 2) := by decide +kernel
theorem dDA_rebuildRow_49 : decode c_DA_rebuildRow 49 = .ok (.ishl, 1) := by decide +kernel
theorem dDA_rebuildRow_50 : decode c_DA_rebuildRow 50 = .ok (.iastore, 1) := by decide +kernel
theorem dDA_rebuildRow_51 : decode c_DA_rebuildRow 51 = .ok (.iinc 4 1, 3) := by decide +kernel
theorem dDA_rebuildRow_54 : decode c_DA_rebuildRow 54 = .ok (.goto (-23), 3) := by decide +kernel
theorem dDA_rebuildRow_57 : decode c_DA_rebuildRow 57 = .ok (.aload_n 0, 1) := by decide +kernel
theorem dDA_rebuildRow_58 : decode c_DA_rebuildRow 58 = .ok (.getfield 22, 3) := by decide +kernel
theorem dDA_rebuildRow_61 : decode c_DA_rebuildRow 61 = .ok (.aload_n 0, 1) := by decide +kernel
theorem dDA_rebuildRow_62 : decode c_DA_rebuildRow 62 = .ok (.getfield 57, 3) := by decide +kernel
theorem dDA_rebuildRow_65 : decode c_DA_rebuildRow 65 = .ok (.invokevirtual 119, 3) := by decide +kernel
theorem dDA_rebuildRow_68 : decode c_DA_rebuildRow 68 = .ok (.aload_n 0, 1) := by decide +kernel
theorem dDA_rebuildRow_69 : decode c_DA_rebuildRow 69 = .ok (.getfield 44, 3) := by decide +kernel
theorem dDA_rebuildRow_72 : decode c_DA_rebuildRow 72 = .ok (.iload_n 3, 1) := by decide +kernel
theorem dDA_rebuildRow_73 : decode c_DA_rebuildRow 73 = .ok (.aaload, 1) := by decide +kernel
theorem dDA_rebuildRow_74 : decode c_DA_rebuildRow 74 = .ok (.iconst 0, 1) := by decide +kernel
theorem dDA_rebuildRow_75 : decode c_DA_rebuildRow 75 = .ok (.invokestatic 192, 3) := by decide +kernel
theorem dDA_rebuildRow_78 : decode c_DA_rebuildRow 78 = .ok (.aload_n 0, 1) := by decide +kernel
theorem dDA_rebuildRow_79 : decode c_DA_rebuildRow 79 = .ok (.getfield 22, 3) := by decide +kernel
theorem dDA_rebuildRow_82 : decode c_DA_rebuildRow 82 = .ok (.aload_n 0, 1) := by decide +kernel
theorem dDA_rebuildRow_83 : decode c_DA_rebuildRow 83 = .ok (.getfield 44, 3) := by decide +kernel
theorem dDA_rebuildRow_86 : decode c_DA_rebuildRow 86 = .ok (.iload_n 3, 1) := by decide +kernel
theorem dDA_rebuildRow_87 : decode c_DA_rebuildRow 87 = .ok (.aaload, 1) := by decide +kernel
theorem dDA_rebuildRow_88 : decode c_DA_rebuildRow 88 = .ok (.aload_n 0, 1) := by decide +kernel
theorem dDA_rebuildRow_89 : decode c_DA_rebuildRow 89 = .ok (.getfield 53, 3) := by decide +kernel
theorem dDA_rebuildRow_92 : decode c_DA_rebuildRow 92 = .ok (.aload_n 0, 1) := by decide +kernel
theorem dDA_rebuildRow_93 : decode c_DA_rebuildRow 93 = .ok (.getfield 57, 3) := by decide +kernel
theorem dDA_rebuildRow_96 : decode c_DA_rebuildRow 96 = .ok (.invokevirtual 205, 3) := by decide +kernel
theorem dDA_rebuildRow_99 : decode c_DA_rebuildRow 99 = .ok (.aload_n 0, 1) := by decide +kernel
theorem dDA_rebuildRow_100 : decode c_DA_rebuildRow 100 = .ok (.getfield 22, 3) := by decide +kernel
theorem dDA_rebuildRow_103 : decode c_DA_rebuildRow 103 = .ok (.aload_n 0, 1) := by decide +kernel
theorem dDA_rebuildRow_104 : decode c_DA_rebuildRow 104 = .ok (.getfield 50, 3) := by decide +kernel
theorem dDA_rebuildRow_107 : decode c_DA_rebuildRow 107 = .ok (.iload_n 3, 1) := by decide +kernel
theorem dDA_rebuildRow_108 : decode c_DA_rebuildRow 108 = .ok (.aaload, 1) := by decide +kernel
theorem dDA_rebuildRow_109 : decode c_DA_rebuildRow 109 = .ok (.aload_n 0, 1) := by decide +kernel
theorem dDA_rebuildRow_110 : decode c_DA_rebuildRow 110 = .ok (.getfield 44, 3) := by decide +kernel
theorem dDA_rebuildRow_113 : decode c_DA_rebuildRow 113 = .ok (.iload_n 3, 1) := by decide +kernel
theorem dDA_rebuildRow_114 : decode c_DA_rebuildRow 114 = .ok (.aaload, 1) := by decide +kernel
theorem dDA_rebuildRow_115 : decode c_DA_rebuildRow 115 = .ok (.invokevirtual 243, 3) := by decide +kernel
theorem dDA_rebuildRow_118 : decode c_DA_rebuildRow 118 = .ok (.aload_n 0, 1) := by decide +kernel
theorem dDA_rebuildRow_119 : decode c_DA_rebuildRow 119 = .ok (.getfield 22, 3) := by decide +kernel
theorem dDA_rebuildRow_122 : decode c_DA_rebuildRow 122 = .ok (.aload_n 0, 1) := by decide +kernel
theorem dDA_rebuildRow_123 : decode c_DA_rebuildRow 123 = .ok (.getfield 50, 3) := by decide +kernel
theorem dDA_rebuildRow_126 : decode c_DA_rebuildRow 126 = .ok (.iload_n 3, 1) := by decide +kernel
theorem dDA_rebuildRow_127 : decode c_DA_rebuildRow 127 = .ok (.aaload, 1) := by decide +kernel
theorem dDA_rebuildRow_128 : decode c_DA_rebuildRow 128 = .ok (.invokevirtual 130, 3) := by decide +kernel
theorem dDA_rebuildRow_131 : decode c_DA_rebuildRow 131 = .ok (.return_, 1) := by decide +kernel
abbrev c_DA_challengesAgree : ByteArray := prog_3_method_24_code
abbrev y_DA_challengesAgree : MethodName := ⟨"LatticeKeys$Dsa", "challengesAgree", "(LLatticeKeys$DsaSet;)Z"⟩
abbrev w_DA_challengesAgree : List Cond := Cond.code y_DA_challengesAgree c_DA_challengesAgree 3 (some .boolean) :: WG
theorem dDA_challengesAgree_0 : decode c_DA_challengesAgree 0 = .ok (.iconst 0, 1) := by decide +kernel
theorem dDA_challengesAgree_1 : decode c_DA_challengesAgree 1 = .ok (.istore_n 2, 1) := by decide +kernel
theorem dDA_challengesAgree_2 : decode c_DA_challengesAgree 2 = .ok (.iload_n 2, 1) := by decide +kernel
theorem dDA_challengesAgree_3 : decode c_DA_challengesAgree 3 = .ok (.aload_n 1, 1) := by decide +kernel
theorem dDA_challengesAgree_4 : decode c_DA_challengesAgree 4 = .ok (.getfield 220, 3) := by decide +kernel
theorem dDA_challengesAgree_7 : decode c_DA_challengesAgree 7 = .ok (.if_icmp .ge 26, 3) := by decide +kernel
theorem dDA_challengesAgree_10 : decode c_DA_challengesAgree 10 = .ok (.aload_n 0, 1) := by decide +kernel
theorem dDA_challengesAgree_11 : decode c_DA_challengesAgree 11 = .ok (.getfield 67, 3) := by decide +kernel
theorem dDA_challengesAgree_14 : decode c_DA_challengesAgree 14 = .ok (.iload_n 2, 1) := by decide +kernel
theorem dDA_challengesAgree_15 : decode c_DA_challengesAgree 15 = .ok (.baload, 1) := by decide +kernel
theorem dDA_challengesAgree_16 : decode c_DA_challengesAgree 16 = .ok (.aload_n 0, 1) := by decide +kernel
theorem dDA_challengesAgree_17 : decode c_DA_challengesAgree 17 = .ok (.getfield 70, 3) := by decide +kernel
theorem dDA_challengesAgree_20 : decode c_DA_challengesAgree 20 = .ok (.iload_n 2, 1) := by decide +kernel
theorem dDA_challengesAgree_21 : decode c_DA_challengesAgree 21 = .ok (.baload, 1) := by decide +kernel
theorem dDA_challengesAgree_22 : decode c_DA_challengesAgree 22 = .ok (.if_icmp .eq 5, 3) := by decide +kernel
theorem dDA_challengesAgree_25 : decode c_DA_challengesAgree 25 = .ok (.iconst 0, 1) := by decide +kernel
theorem dDA_challengesAgree_26 : decode c_DA_challengesAgree 26 = .ok (.ireturn, 1) := by decide +kernel
theorem dDA_challengesAgree_27 : decode c_DA_challengesAgree 27 = .ok (.iinc 2 1, 3) := by decide +kernel
theorem dDA_challengesAgree_30 : decode c_DA_challengesAgree 30 = .ok (.goto (-28), 3) := by decide +kernel
theorem dDA_challengesAgree_33 : decode c_DA_challengesAgree 33 = .ok (.iconst 1, 1) := by decide +kernel
theorem dDA_challengesAgree_34 : decode c_DA_challengesAgree 34 = .ok (.ireturn, 1) := by decide +kernel
abbrev c_DA_accepts : ByteArray := prog_3_method_19_code
abbrev y_DA_accepts : MethodName := ⟨"LatticeKeys$Dsa", "accepts", "(LLatticeKeys$DsaSet;[B[BII)Z"⟩
abbrev w_DA_accepts : List Cond := Cond.code y_DA_accepts c_DA_accepts 9 (some .boolean) :: WG
theorem dDA_accepts_0 : decode c_DA_accepts 0 = .ok (.aload_n 0, 1) := by decide +kernel
theorem dDA_accepts_1 : decode c_DA_accepts 1 = .ok (.aload_n 1, 1) := by decide +kernel
theorem dDA_accepts_2 : decode c_DA_accepts 2 = .ok (.aload_n 3, 1) := by decide +kernel
theorem dDA_accepts_3 : decode c_DA_accepts 3 = .ok (.invokevirtual 261, 3) := by decide +kernel
theorem dDA_accepts_6 : decode c_DA_accepts 6 = .ok (.ifCond .ne 5, 3) := by decide +kernel
theorem dDA_accepts_9 : decode c_DA_accepts 9 = .ok (.iconst 0, 1) := by decide +kernel
theorem dDA_accepts_10 : decode c_DA_accepts 10 = .ok (.ireturn, 1) := by decide +kernel
theorem dDA_accepts_11 : decode c_DA_accepts 11 = .ok (.aload_n 0, 1) := by decide +kernel
theorem dDA_accepts_12 : decode c_DA_accepts 12 = .ok (.aload_n 2, 1) := by decide +kernel
theorem dDA_accepts_13 : decode c_DA_accepts 13 = .ok (.invokevirtual 146, 3) := by decide +kernel
theorem dDA_accepts_16 : decode c_DA_accepts 16 = .ok (.aload_n 0, 1) := by decide +kernel
theorem dDA_accepts_17 : decode c_DA_accepts 17 = .ok (.aload_n 3, 1) := by decide +kernel
theorem dDA_accepts_18 : decode c_DA_accepts 18 = .ok (.aload_n 1, 1) := by decide +kernel
theorem dDA_accepts_19 : decode c_DA_accepts 19 = .ok (.getfield 265, 3) := by decide +kernel
theorem dDA_accepts_22 : decode c_DA_accepts 22 = .ok (.iload 4, 2) := by decide +kernel
theorem dDA_accepts_24 : decode c_DA_accepts 24 = .ok (.iload 5, 2) := by decide +kernel
theorem dDA_accepts_26 : decode c_DA_accepts 26 = .ok (.invokevirtual 164, 3) := by decide +kernel
theorem dDA_accepts_29 : decode c_DA_accepts 29 = .ok (.aload_n 0, 1) := by decide +kernel
theorem dDA_accepts_30 : decode c_DA_accepts 30 = .ok (.getfield 29, 3) := by decide +kernel
theorem dDA_accepts_33 : decode c_DA_accepts 33 = .ok (.aload_n 1, 1) := by decide +kernel
theorem dDA_accepts_34 : decode c_DA_accepts 34 = .ok (.aload_n 2, 1) := by decide +kernel
theorem dDA_accepts_35 : decode c_DA_accepts 35 = .ok (.aload_n 0, 1) := by decide +kernel
theorem dDA_accepts_36 : decode c_DA_accepts 36 = .ok (.getfield 35, 3) := by decide +kernel
theorem dDA_accepts_39 : decode c_DA_accepts 39 = .ok (.invokevirtual 115, 3) := by decide +kernel
theorem dDA_accepts_42 : decode c_DA_accepts 42 = .ok (.aload_n 0, 1) := by decide +kernel
theorem dDA_accepts_43 : decode c_DA_accepts 43 = .ok (.getfield 29, 3) := by decide +kernel
theorem dDA_accepts_46 : decode c_DA_accepts 46 = .ok (.aload_n 1, 1) := by decide +kernel
theorem dDA_accepts_47 : decode c_DA_accepts 47 = .ok (.aload_n 0, 1) := by decide +kernel
theorem dDA_accepts_48 : decode c_DA_accepts 48 = .ok (.getfield 53, 3) := by decide +kernel
theorem dDA_accepts_51 : decode c_DA_accepts 51 = .ok (.aload_n 0, 1) := by decide +kernel
theorem dDA_accepts_52 : decode c_DA_accepts 52 = .ok (.getfield 67, 3) := by decide +kernel
theorem dDA_accepts_55 : decode c_DA_accepts 55 = .ok (.invokevirtual 223, 3) := by decide +kernel
theorem dDA_accepts_58 : decode c_DA_accepts 58 = .ok (.aload_n 0, 1) := by decide +kernel
theorem dDA_accepts_59 : decode c_DA_accepts 59 = .ok (.getfield 22, 3) := by decide +kernel
theorem dDA_accepts_62 : decode c_DA_accepts 62 = .ok (.aload_n 0, 1) := by decide +kernel
theorem dDA_accepts_63 : decode c_DA_accepts 63 = .ok (.getfield 53, 3) := by decide +kernel
theorem dDA_accepts_66 : decode c_DA_accepts 66 = .ok (.invokevirtual 119, 3) := by decide +kernel
theorem dDA_accepts_69 : decode c_DA_accepts 69 = .ok (.iconst 0, 1) := by decide +kernel
theorem dDA_accepts_70 : decode c_DA_accepts 70 = .ok (.istore 6, 2) := by decide +kernel
theorem dDA_accepts_72 : decode c_DA_accepts 72 = .ok (.iload 6, 2) := by decide +kernel
theorem dDA_accepts_74 : decode c_DA_accepts 74 = .ok (.aload_n 1, 1) := by decide +kernel
theorem dDA_accepts_75 : decode c_DA_accepts 75 = .ok (.getfield 96, 3) := by decide +kernel
theorem dDA_accepts_78 : decode c_DA_accepts 78 = .ok (.if_icmp .ge 23, 3) := by decide +kernel
theorem dDA_accepts_81 : decode c_DA_accepts 81 = .ok (.aload_n 0, 1) := by decide +kernel
theorem dDA_accepts_82 : decode c_DA_accepts 82 = .ok (.getfield 22, 3) := by decide +kernel
theorem dDA_accepts_85 : decode c_DA_accepts 85 = .ok (.aload_n 0, 1) := by decide +kernel
theorem dDA_accepts_86 : decode c_DA_accepts 86 = .ok (.getfield 47, 3) := by decide +kernel
theorem dDA_accepts_89 : decode c_DA_accepts 89 = .ok (.iload 6, 2) := by decide +kernel
theorem dDA_accepts_91 : decode c_DA_accepts 91 = .ok (.aaload, 1) := by decide +kernel
theorem dDA_accepts_92 : decode c_DA_accepts 92 = .ok (.invokevirtual 119, 3) := by decide +kernel
theorem dDA_accepts_95 : decode c_DA_accepts 95 = .ok (.iinc 6 1, 3) := by decide +kernel
theorem dDA_accepts_98 : decode c_DA_accepts 98 = .ok (.goto (-26), 3) := by decide +kernel
theorem dDA_accepts_101 : decode c_DA_accepts 101 = .ok (.aload_n 0, 1) := by decide +kernel
theorem dDA_accepts_102 : decode c_DA_accepts 102 = .ok (.invokevirtual 209, 3) := by decide +kernel
theorem dDA_accepts_105 : decode c_DA_accepts 105 = .ok (.iconst 0, 1) := by decide +kernel
theorem dDA_accepts_106 : decode c_DA_accepts 106 = .ok (.istore 6, 2) := by decide +kernel
theorem dDA_accepts_108 : decode c_DA_accepts 108 = .ok (.iconst 0, 1) := by decide +kernel
theorem dDA_accepts_109 : decode c_DA_accepts 109 = .ok (.istore 7, 2) := by decide +kernel
theorem dDA_accepts_111 : decode c_DA_accepts 111 = .ok (.iload 7, 2) := by decide +kernel
theorem dDA_accepts_113 : decode c_DA_accepts 113 = .ok (.aload_n 1, 1) := by decide +kernel
theorem dDA_accepts_114 : decode c_DA_accepts 114 = .ok (.getfield 87, 3) := by decide +kernel
theorem dDA_accepts_117 : decode c_DA_accepts 117 = .ok (.if_icmp .ge 60, 3) := by decide +kernel
theorem dDA_accepts_120 : decode c_DA_accepts 120 = .ok (.aload_n 0, 1) := by decide +kernel
theorem dDA_accepts_121 : decode c_DA_accepts 121 = .ok (.getfield 73, 3) := by decide +kernel
theorem dDA_accepts_124 : decode c_DA_accepts 124 = .ok (.aload_n 1, 1) := by decide +kernel
theorem dDA_accepts_125 : decode c_DA_accepts 125 = .ok (.getfield 252, 3) := by decide +kernel
theorem dDA_accepts_128 : decode c_DA_accepts 128 = .ok (.iload 7, 2) := by decide +kernel
theorem dDA_accepts_130 : decode c_DA_accepts 130 = .ok (.iadd, 1) := by decide +kernel
theorem dDA_accepts_131 : decode c_DA_accepts 131 = .ok (.baload, 1) := by decide +kernel
theorem dDA_accepts_132 : decode c_DA_accepts 132 = .ok (.sipush 255, 3) := by decide +kernel
theorem dDA_accepts_135 : decode c_DA_accepts 135 = .ok (.iand, 1) := by decide +kernel
theorem dDA_accepts_136 : decode c_DA_accepts 136 = .ok (.istore 8, 2) := by decide +kernel
theorem dDA_accepts_138 : decode c_DA_accepts 138 = .ok (.aload_n 0, 1) := by decide +kernel
theorem dDA_accepts_139 : decode c_DA_accepts 139 = .ok (.aload_n 1, 1) := by decide +kernel
theorem dDA_accepts_140 : decode c_DA_accepts 140 = .ok (.aload_n 2, 1) := by decide +kernel
theorem dDA_accepts_141 : decode c_DA_accepts 141 = .ok (.iload 7, 2) := by decide +kernel
theorem dDA_accepts_143 : decode c_DA_accepts 143 = .ok (.invokevirtual 268, 3) := by decide +kernel
theorem dDA_accepts_146 : decode c_DA_accepts 146 = .ok (.aload_n 0, 1) := by decide +kernel
theorem dDA_accepts_147 : decode c_DA_accepts 147 = .ok (.aload_n 1, 1) := by decide +kernel
theorem dDA_accepts_148 : decode c_DA_accepts 148 = .ok (.aload_n 0, 1) := by decide +kernel
theorem dDA_accepts_149 : decode c_DA_accepts 149 = .ok (.getfield 50, 3) := by decide +kernel
theorem dDA_accepts_152 : decode c_DA_accepts 152 = .ok (.iload 7, 2) := by decide +kernel
theorem dDA_accepts_154 : decode c_DA_accepts 154 = .ok (.aaload, 1) := by decide +kernel
theorem dDA_accepts_155 : decode c_DA_accepts 155 = .ok (.iload 6, 2) := by decide +kernel
theorem dDA_accepts_157 : decode c_DA_accepts 157 = .ok (.iload 8, 2) := by decide +kernel
theorem dDA_accepts_159 : decode c_DA_accepts 159 = .ok (.invokevirtual 272, 3) := by decide +kernel
theorem dDA_accepts_162 : decode c_DA_accepts 162 = .ok (.aload_n 0, 1) := by decide +kernel
theorem dDA_accepts_163 : decode c_DA_accepts 163 = .ok (.aload_n 1, 1) := by decide +kernel
theorem dDA_accepts_164 : decode c_DA_accepts 164 = .ok (.invokevirtual 216, 3) := by decide +kernel
theorem dDA_accepts_167 : decode c_DA_accepts 167 = .ok (.iload 8, 2) := by decide +kernel
theorem dDA_accepts_169 : decode c_DA_accepts 169 = .ok (.istore 6, 2) := by decide +kernel
theorem dDA_accepts_171 : decode c_DA_accepts 171 = .ok (.iinc 7 1, 3) := by decide +kernel
theorem dDA_accepts_174 : decode c_DA_accepts 174 = .ok (.goto (-63), 3) := by decide +kernel
theorem dDA_accepts_177 : decode c_DA_accepts 177 = .ok (.aload_n 0, 1) := by decide +kernel
theorem dDA_accepts_178 : decode c_DA_accepts 178 = .ok (.getfield 10, 3) := by decide +kernel
theorem dDA_accepts_181 : decode c_DA_accepts 181 = .ok (.invokevirtual 99, 3) := by decide +kernel
theorem dDA_accepts_184 : decode c_DA_accepts 184 = .ok (.aload_n 0, 1) := by decide +kernel
theorem dDA_accepts_185 : decode c_DA_accepts 185 = .ok (.getfield 10, 3) := by decide +kernel
theorem dDA_accepts_188 : decode c_DA_accepts 188 = .ok (.aload_n 0, 1) := by decide +kernel
theorem dDA_accepts_189 : decode c_DA_accepts 189 = .ok (.getfield 70, 3) := by decide +kernel
theorem dDA_accepts_192 : decode c_DA_accepts 192 = .ok (.iconst 0, 1) := by decide +kernel
theorem dDA_accepts_193 : decode c_DA_accepts 193 = .ok (.aload_n 1, 1) := by decide +kernel
theorem dDA_accepts_194 : decode c_DA_accepts 194 = .ok (.getfield 220, 3) := by decide +kernel
theorem dDA_accepts_197 : decode c_DA_accepts 197 = .ok (.invokevirtual 102, 3) := by decide +kernel
theorem dDA_accepts_200 : decode c_DA_accepts 200 = .ok (.aload_n 0, 1) := by decide +kernel
theorem dDA_accepts_201 : decode c_DA_accepts 201 = .ok (.aload_n 1, 1) := by decide +kernel
theorem dDA_accepts_202 : decode c_DA_accepts 202 = .ok (.invokevirtual 276, 3) := by decide +kernel
theorem dDA_accepts_205 : decode c_DA_accepts 205 = .ok (.ireturn, 1) := by decide +kernel
set_option maxHeartbeats 400000 in
set_option maxRecDepth 100000 in
theorem t_DA_hintsAreInForm_0 (l : Launch) (g : Gd) (sz : Nat) (T : Ty) (xs : List Nat) (pl : va_W) (hO : okx g T xs pl) (hU : uni T) (hc0 : clo T xs 0) (hints : Nat) (h0 st : Nat) (fh : Nat → Int32) (k_hints : T hints = some (8, 84)) (k_h0 : T h0 = some (15, 0)) (k_st : T st = some (43, 0))  : Met l y_DA_hintsAreInForm w_DA_hintsAreInForm ({ frames := 0, cells := 0, slots := 0, locals := 0 } : Room) (va_Pc [.ref h0, .ref st] (pr (en g) g.1 vcl sz ([(hints, .inl (g.2.1 1, 84, .inl fh))] ++ pl))) (va_Qi (fun (r : Int32) (u : va_W) => (r = nI 0 ∨ hgood 80 4 fh) ∧ okx g T xs u) (po g.1 vcl (va_A ([(hints, .inl (g.2.1 1, 84, .inl fh))] ++ pl) sz) (fun (u : va_W) => [(hints, .inl (g.2.1 1, 84, .inl fh))] ++ u)) (va_A ([(hints, .inl (g.2.1 1, 84, .inl fh))] ++ pl) sz)) 0 0 (va_A ([(hints, .inl (g.2.1 1, 84, .inl fh))] ++ pl) sz) := by
  sorry
set_option maxHeartbeats 400000 in
set_option maxRecDepth 100000 in
theorem t_DA_hintsAreInForm_1 (l : Launch) (g : Gd) (sz : Nat) (T : Ty) (xs : List Nat) (pl : va_W) (hO : okx g T xs pl) (hU : uni T) (hc0 : clo T xs 0) (hints : Nat) (h0 st : Nat) (fh : Nat → Int32) (k_hints : T hints = some (8, 84)) (k_h0 : T h0 = some (15, 0)) (k_st : T st = some (44, 0))  : Met l y_DA_hintsAreInForm w_DA_hintsAreInForm ({ frames := 0, cells := 0, slots := 0, locals := 0 } : Room) (va_Pc [.ref h0, .ref st] (pr (en g) g.1 vcl sz ([(hints, .inl (g.2.1 1, 84, .inl fh))] ++ pl))) (va_Qi (fun (r : Int32) (u : va_W) => (r = nI 0 ∨ hgood 55 6 fh) ∧ okx g T xs u) (po g.1 vcl (va_A ([(hints, .inl (g.2.1 1, 84, .inl fh))] ++ pl) sz) (fun (u : va_W) => [(hints, .inl (g.2.1 1, 84, .inl fh))] ++ u)) (va_A ([(hints, .inl (g.2.1 1, 84, .inl fh))] ++ pl) sz)) 0 0 (va_A ([(hints, .inl (g.2.1 1, 84, .inl fh))] ++ pl) sz) := by
  sorry
set_option maxHeartbeats 400000 in
set_option maxRecDepth 100000 in
theorem t_DA_hintsAreInForm_2 (l : Launch) (g : Gd) (sz : Nat) (T : Ty) (xs : List Nat) (pl : va_W) (hO : okx g T xs pl) (hU : uni T) (hc0 : clo T xs 0) (hints : Nat) (h0 st : Nat) (fh : Nat → Int32) (k_hints : T hints = some (8, 84)) (k_h0 : T h0 = some (15, 0)) (k_st : T st = some (45, 0))  : Met l y_DA_hintsAreInForm w_DA_hintsAreInForm ({ frames := 0, cells := 0, slots := 0, locals := 0 } : Room) (va_Pc [.ref h0, .ref st] (pr (en g) g.1 vcl sz ([(hints, .inl (g.2.1 1, 84, .inl fh))] ++ pl))) (va_Qi (fun (r : Int32) (u : va_W) => (r = nI 0 ∨ hgood 75 8 fh) ∧ okx g T xs u) (po g.1 vcl (va_A ([(hints, .inl (g.2.1 1, 84, .inl fh))] ++ pl) sz) (fun (u : va_W) => [(hints, .inl (g.2.1 1, 84, .inl fh))] ++ u)) (va_A ([(hints, .inl (g.2.1 1, 84, .inl fh))] ++ pl) sz)) 0 0 (va_A ([(hints, .inl (g.2.1 1, 84, .inl fh))] ++ pl) sz) := by
  sorry
set_option maxHeartbeats 400000 in
set_option maxRecDepth 100000 in
theorem t_DA_readSignature_0 (l : Launch) (g : Gd) (sz : Nat) (T : Ty) (xs : List Nat) (pl : va_W) (hO : okx g T xs pl) (hU : uni T) (hc0 : clo T xs 0) (hints : Nat) (h0 st tp n : Nat) (fh : Nat → Int32) (k_hints : T hints = some (8, 84)) (k_h0 : T h0 = some (15, 0)) (k_st : T st = some (43, 0)) (k_tp : T tp = some (1, n)) (hby : byt fh) (h1 : 2420 ≤ n) (h2 : n < 65536)  : Met l y_DA_readSignature w_DA_readSignature ({ frames := 2, cells := 0, slots := 0, locals := 60 } : Room) (va_Pc [.ref h0, .ref st, .ref tp] (pr (en g) g.1 vcl sz ([(hints, .inl (g.2.1 1, 84, .inl fh))] ++ pl))) (va_Qi (fun (r : Int32) (u : (Nat → Int32) × va_W) => ((r = nI 0 ∨ hgood 80 4 u.1) ∧ byt u.1) ∧ okx g T xs u.2) (po g.1 vcl (va_A ([(hints, .inl (g.2.1 1, 84, .inl fh))] ++ pl) sz) (fun (u : (Nat → Int32) × va_W) => [(hints, .inl (g.2.1 1, 84, .inl (u.1)))] ++ u.2)) (va_A ([(hints, .inl (g.2.1 1, 84, .inl fh))] ++ pl) sz)) 0 0 (va_A ([(hints, .inl (g.2.1 1, 84, .inl fh))] ++ pl) sz) := by
  sorry
set_option maxHeartbeats 400000 in
set_option maxRecDepth 100000 in
theorem t_DA_readSignature_1 (l : Launch) (g : Gd) (sz : Nat) (T : Ty) (xs : List Nat) (pl : va_W) (hO : okx g T xs pl) (hU : uni T) (hc0 : clo T xs 0) (hints : Nat) (h0 st tp n : Nat) (fh : Nat → Int32) (k_hints : T hints = some (8, 84)) (k_h0 : T h0 = some (15, 0)) (k_st : T st = some (44, 0)) (k_tp : T tp = some (1, n)) (hby : byt fh) (h1 : 3309 ≤ n) (h2 : n < 65536)  : Met l y_DA_readSignature w_DA_readSignature ({ frames := 2, cells := 0, slots := 0, locals := 60 } : Room) (va_Pc [.ref h0, .ref st, .ref tp] (pr (en g) g.1 vcl sz ([(hints, .inl (g.2.1 1, 84, .inl fh))] ++ pl))) (va_Qi (fun (r : Int32) (u : (Nat → Int32) × va_W) => ((r = nI 0 ∨ hgood 55 6 u.1) ∧ byt u.1) ∧ okx g T xs u.2) (po g.1 vcl (va_A ([(hints, .inl (g.2.1 1, 84, .inl fh))] ++ pl) sz) (fun (u : (Nat → Int32) × va_W) => [(hints, .inl (g.2.1 1, 84, .inl (u.1)))] ++ u.2)) (va_A ([(hints, .inl (g.2.1 1, 84, .inl fh))] ++ pl) sz)) 0 0 (va_A ([(hints, .inl (g.2.1 1, 84, .inl fh))] ++ pl) sz) := by
  sorry
set_option maxHeartbeats 400000 in
set_option maxRecDepth 100000 in
theorem t_DA_readSignature_2 (l : Launch) (g : Gd) (sz : Nat) (T : Ty) (xs : List Nat) (pl : va_W) (hO : okx g T xs pl) (hU : uni T) (hc0 : clo T xs 0) (hints : Nat) (h0 st tp n : Nat) (fh : Nat → Int32) (k_hints : T hints = some (8, 84)) (k_h0 : T h0 = some (15, 0)) (k_st : T st = some (45, 0)) (k_tp : T tp = some (1, n)) (hby : byt fh) (h1 : 4627 ≤ n) (h2 : n < 65536)  : Met l y_DA_readSignature w_DA_readSignature ({ frames := 2, cells := 0, slots := 0, locals := 60 } : Room) (va_Pc [.ref h0, .ref st, .ref tp] (pr (en g) g.1 vcl sz ([(hints, .inl (g.2.1 1, 84, .inl fh))] ++ pl))) (va_Qi (fun (r : Int32) (u : (Nat → Int32) × va_W) => ((r = nI 0 ∨ hgood 75 8 u.1) ∧ byt u.1) ∧ okx g T xs u.2) (po g.1 vcl (va_A ([(hints, .inl (g.2.1 1, 84, .inl fh))] ++ pl) sz) (fun (u : (Nat → Int32) × va_W) => [(hints, .inl (g.2.1 1, 84, .inl (u.1)))] ++ u.2)) (va_A ([(hints, .inl (g.2.1 1, 84, .inl fh))] ++ pl) sz)) 0 0 (va_A ([(hints, .inl (g.2.1 1, 84, .inl fh))] ++ pl) sz) := by
  sorry
set_option maxHeartbeats 400000 in
set_option maxRecDepth 100000 in
theorem t_DA_useHints_0 (l : Launch) (g : Gd) (sz : Nat) (T : Ty) (xs : List Nat) (pl : va_W) (hO : okx g T xs pl) (hU : uni T) (hc0 : clo T xs 0) (hints : Nat) (h0 st f fi en_ : Nat) (fh : Nat → Int32) (k_hints : T hints = some (8, 84)) (k_h0 : T h0 = some (15, 0)) (k_st : T st = some (43, 0)) (k_f : T f = some (0, 256)) (h1 : en_ ≤ 80) (h2 : fi ≤ 255)  : Met l y_DA_useHints w_DA_useHints ({ frames := 2, cells := 0, slots := 0, locals := 45 } : Room) (va_Pc [.ref h0, .ref st, .ref f, .int (nI fi), .int (nI en_)] (pr (en g) g.1 vcl sz ([(hints, .inl (g.2.1 1, 84, .inl fh))] ++ pl))) (va_Qv (fun (u : va_W) => (True) ∧ okx g T xs u) (po g.1 vcl (va_A ([(hints, .inl (g.2.1 1, 84, .inl fh))] ++ pl) sz) (fun (u : va_W) => [(hints, .inl (g.2.1 1, 84, .inl fh))] ++ u)) (va_A ([(hints, .inl (g.2.1 1, 84, .inl fh))] ++ pl) sz)) 0 0 (va_A ([(hints, .inl (g.2.1 1, 84, .inl fh))] ++ pl) sz) := by
  sorry
set_option maxHeartbeats 400000 in
set_option maxRecDepth 100000 in
theorem t_DA_useHints_1 (l : Launch) (g : Gd) (sz : Nat) (T : Ty) (xs : List Nat) (pl : va_W) (hO : okx g T xs pl) (hU : uni T) (hc0 : clo T xs 0) (hints : Nat) (h0 st f fi en_ : Nat) (fh : Nat → Int32) (k_hints : T hints = some (8, 84)) (k_h0 : T h0 = some (15, 0)) (k_st : T st = some (44, 0)) (k_f : T f = some (0, 256)) (h1 : en_ ≤ 55) (h2 : fi ≤ 255)  : Met l y_DA_useHints w_DA_useHints ({ frames := 2, cells := 0, slots := 0, locals := 45 } : Room) (va_Pc [.ref h0, .ref st, .ref f, .int (nI fi), .int (nI en_)] (pr (en g) g.1 vcl sz ([(hints, .inl (g.2.1 1, 84, .inl fh))] ++ pl))) (va_Qv (fun (u : va_W) => (True) ∧ okx g T xs u) (po g.1 vcl (va_A ([(hints, .inl (g.2.1 1, 84, .inl fh))] ++ pl) sz) (fun (u : va_W) => [(hints, .inl (g.2.1 1, 84, .inl fh))] ++ u)) (va_A ([(hints, .inl (g.2.1 1, 84, .inl fh))] ++ pl) sz)) 0 0 (va_A ([(hints, .inl (g.2.1 1, 84, .inl fh))] ++ pl) sz) := by
  sorry
set_option maxHeartbeats 400000 in
set_option maxRecDepth 100000 in
theorem t_DA_useHints_2 (l : Launch) (g : Gd) (sz : Nat) (T : Ty) (xs : List Nat) (pl : va_W) (hO : okx g T xs pl) (hU : uni T) (hc0 : clo T xs 0) (hints : Nat) (h0 st f fi en_ : Nat) (fh : Nat → Int32) (k_hints : T hints = some (8, 84)) (k_h0 : T h0 = some (15, 0)) (k_st : T st = some (45, 0)) (k_f : T f = some (0, 256)) (h1 : en_ ≤ 75) (h2 : fi ≤ 255)  : Met l y_DA_useHints w_DA_useHints ({ frames := 2, cells := 0, slots := 0, locals := 45 } : Room) (va_Pc [.ref h0, .ref st, .ref f, .int (nI fi), .int (nI en_)] (pr (en g) g.1 vcl sz ([(hints, .inl (g.2.1 1, 84, .inl fh))] ++ pl))) (va_Qv (fun (u : va_W) => (True) ∧ okx g T xs u) (po g.1 vcl (va_A ([(hints, .inl (g.2.1 1, 84, .inl fh))] ++ pl) sz) (fun (u : va_W) => [(hints, .inl (g.2.1 1, 84, .inl fh))] ++ u)) (va_A ([(hints, .inl (g.2.1 1, 84, .inl fh))] ++ pl) sz)) 0 0 (va_A ([(hints, .inl (g.2.1 1, 84, .inl fh))] ++ pl) sz) := by
  sorry
set_option maxHeartbeats 400000 in
set_option maxRecDepth 100000 in
theorem t_DA_rebuildRow_0 (l : Launch) (g : Gd) (sz : Nat) (T : Ty) (xs : List Nat) (pl : va_W) (hO : okx g T xs pl) (hU : uni T) (hc0 : clo T xs 0) (h0 st pk rw : Nat) (k_h0 : T h0 = some (15, 0)) (k_st : T st = some (43, 0)) (k_pk : T pk = some (1, 1312)) (h1 : rw < 4)  : Met l y_DA_rebuildRow w_DA_rebuildRow ({ frames := 2, cells := 0, slots := 0, locals := 54 } : Room) (va_Pc [.ref h0, .ref st, .ref pk, .int (nI rw)] (pr (en g) g.1 vcl sz ([] ++ pl))) (va_Qv (fun (u : va_W) => (True) ∧ okx g T xs u) (po g.1 vcl (va_A ([] ++ pl) sz) (fun (u : va_W) => [] ++ u)) (va_A ([] ++ pl) sz)) 0 0 (va_A ([] ++ pl) sz) := by
  sorry
set_option maxHeartbeats 400000 in
set_option maxRecDepth 100000 in
theorem t_DA_rebuildRow_1 (l : Launch) (g : Gd) (sz : Nat) (T : Ty) (xs : List Nat) (pl : va_W) (hO : okx g T xs pl) (hU : uni T) (hc0 : clo T xs 0) (h0 st pk rw : Nat) (k_h0 : T h0 = some (15, 0)) (k_st : T st = some (44, 0)) (k_pk : T pk = some (1, 1952)) (h1 : rw < 6)  : Met l y_DA_rebuildRow w_DA_rebuildRow ({ frames := 2, cells := 0, slots := 0, locals := 54 } : Room) (va_Pc [.ref h0, .ref st, .ref pk, .int (nI rw)] (pr (en g) g.1 vcl sz ([] ++ pl))) (va_Qv (fun (u : va_W) => (True) ∧ okx g T xs u) (po g.1 vcl (va_A ([] ++ pl) sz) (fun (u : va_W) => [] ++ u)) (va_A ([] ++ pl) sz)) 0 0 (va_A ([] ++ pl) sz) := by
  sorry
set_option maxHeartbeats 400000 in
set_option maxRecDepth 100000 in
theorem t_DA_rebuildRow_2 (l : Launch) (g : Gd) (sz : Nat) (T : Ty) (xs : List Nat) (pl : va_W) (hO : okx g T xs pl) (hU : uni T) (hc0 : clo T xs 0) (h0 st pk rw : Nat) (k_h0 : T h0 = some (15, 0)) (k_st : T st = some (45, 0)) (k_pk : T pk = some (1, 2592)) (h1 : rw < 8)  : Met l y_DA_rebuildRow w_DA_rebuildRow ({ frames := 2, cells := 0, slots := 0, locals := 54 } : Room) (va_Pc [.ref h0, .ref st, .ref pk, .int (nI rw)] (pr (en g) g.1 vcl sz ([] ++ pl))) (va_Qv (fun (u : va_W) => (True) ∧ okx g T xs u) (po g.1 vcl (va_A ([] ++ pl) sz) (fun (u : va_W) => [] ++ u)) (va_A ([] ++ pl) sz)) 0 0 (va_A ([] ++ pl) sz) := by
  sorry
set_option maxHeartbeats 400000 in
set_option maxRecDepth 100000 in
theorem t_DA_challengesAgree_0 (l : Launch) (g : Gd) (sz : Nat) (T : Ty) (xs : List Nat) (pl : va_W) (hO : okx g T xs pl) (hU : uni T) (hc0 : clo T xs 0) (h0 st : Nat) (k_h0 : T h0 = some (15, 0)) (k_st : T st = some (43, 0))  : Met l y_DA_challengesAgree w_DA_challengesAgree ({ frames := 0, cells := 0, slots := 0, locals := 0 } : Room) (va_Pc [.ref h0, .ref st] (pr (en g) g.1 vcl sz ([] ++ pl))) (va_Qi (fun (r : Int32) (u : va_W) => (r = nI 0 ∨ r = nI 1) ∧ okx g T xs u) (po g.1 vcl (va_A ([] ++ pl) sz) (fun (u : va_W) => [] ++ u)) (va_A ([] ++ pl) sz)) 0 0 (va_A ([] ++ pl) sz) := by
  sorry
set_option maxHeartbeats 400000 in
set_option maxRecDepth 100000 in
theorem t_DA_challengesAgree_1 (l : Launch) (g : Gd) (sz : Nat) (T : Ty) (xs : List Nat) (pl : va_W) (hO : okx g T xs pl) (hU : uni T) (hc0 : clo T xs 0) (h0 st : Nat) (k_h0 : T h0 = some (15, 0)) (k_st : T st = some (44, 0))  : Met l y_DA_challengesAgree w_DA_challengesAgree ({ frames := 0, cells := 0, slots := 0, locals := 0 } : Room) (va_Pc [.ref h0, .ref st] (pr (en g) g.1 vcl sz ([] ++ pl))) (va_Qi (fun (r : Int32) (u : va_W) => (r = nI 0 ∨ r = nI 1) ∧ okx g T xs u) (po g.1 vcl (va_A ([] ++ pl) sz) (fun (u : va_W) => [] ++ u)) (va_A ([] ++ pl) sz)) 0 0 (va_A ([] ++ pl) sz) := by
  sorry
set_option maxHeartbeats 400000 in
set_option maxRecDepth 100000 in
theorem t_DA_challengesAgree_2 (l : Launch) (g : Gd) (sz : Nat) (T : Ty) (xs : List Nat) (pl : va_W) (hO : okx g T xs pl) (hU : uni T) (hc0 : clo T xs 0) (h0 st : Nat) (k_h0 : T h0 = some (15, 0)) (k_st : T st = some (45, 0))  : Met l y_DA_challengesAgree w_DA_challengesAgree ({ frames := 0, cells := 0, slots := 0, locals := 0 } : Room) (va_Pc [.ref h0, .ref st] (pr (en g) g.1 vcl sz ([] ++ pl))) (va_Qi (fun (r : Int32) (u : va_W) => (r = nI 0 ∨ r = nI 1) ∧ okx g T xs u) (po g.1 vcl (va_A ([] ++ pl) sz) (fun (u : va_W) => [] ++ u)) (va_A ([] ++ pl) sz)) 0 0 (va_A ([] ++ pl) sz) := by
  sorry
set_option maxHeartbeats 400000 in
set_option maxRecDepth 100000 in
theorem t_DA_accepts_0 (l : Launch) (g : Gd) (sz : Nat) (T : Ty) (xs : List Nat) (pl : va_W) (hO : okx g T xs pl) (hU : uni T) (hc0 : clo T xs 0) (hc3 : clo T xs 3) (hc4 : clo T xs 4) (hc20 : clo T xs 20) (h0 st pk tp n len : Nat) (cl : Int32) (k_h0 : T h0 = some (15, 0)) (k_st : T st = some (43, 0)) (k_pk : T pk = some (1, 1312)) (k_tp : T tp = some (1, n)) (h1 : 2420 ≤ len) (h3 : len ≤ n) (h2 : n < 65536)  : Met l y_DA_accepts w_DA_accepts ({ frames := 5, cells := 0, slots := 0, locals := 152 } : Room) (va_Pc [.ref h0, .ref st, .ref pk, .ref tp, .int (nI len), .int cl] (pr (en g) g.1 vcl sz ([] ++ pl))) (va_Qi (fun (r : Int32) (u : va_W) => (r = nI 0 ∨ r = nI 1) ∧ okx g T xs u) (po g.1 vcl (va_A ([] ++ pl) sz) (fun (u : va_W) => [] ++ u)) (va_A ([] ++ pl) sz)) 0 0 (va_A ([] ++ pl) sz) := by
  sorry
set_option maxHeartbeats 400000 in
set_option maxRecDepth 100000 in
theorem t_DA_accepts_1 (l : Launch) (g : Gd) (sz : Nat) (T : Ty) (xs : List Nat) (pl : va_W) (hO : okx g T xs pl) (hU : uni T) (hc0 : clo T xs 0) (hc3 : clo T xs 3) (hc4 : clo T xs 4) (hc20 : clo T xs 20) (h0 st pk tp n len : Nat) (cl : Int32) (k_h0 : T h0 = some (15, 0)) (k_st : T st = some (44, 0)) (k_pk : T pk = some (1, 1952)) (k_tp : T tp = some (1, n)) (h1 : 3309 ≤ len) (h3 : len ≤ n) (h2 : n < 65536)  : Met l y_DA_accepts w_DA_accepts ({ frames := 5, cells := 0, slots := 0, locals := 152 } : Room) (va_Pc [.ref h0, .ref st, .ref pk, .ref tp, .int (nI len), .int cl] (pr (en g) g.1 vcl sz ([] ++ pl))) (va_Qi (fun (r : Int32) (u : va_W) => (r = nI 0 ∨ r = nI 1) ∧ okx g T xs u) (po g.1 vcl (va_A ([] ++ pl) sz) (fun (u : va_W) => [] ++ u)) (va_A ([] ++ pl) sz)) 0 0 (va_A ([] ++ pl) sz) := by
  sorry
set_option maxHeartbeats 400000 in
set_option maxRecDepth 100000 in
theorem t_DA_accepts_2 (l : Launch) (g : Gd) (sz : Nat) (T : Ty) (xs : List Nat) (pl : va_W) (hO : okx g T xs pl) (hU : uni T) (hc0 : clo T xs 0) (hc3 : clo T xs 3) (hc4 : clo T xs 4) (hc20 : clo T xs 20) (h0 st pk tp n len : Nat) (cl : Int32) (k_h0 : T h0 = some (15, 0)) (k_st : T st = some (45, 0)) (k_pk : T pk = some (1, 2592)) (k_tp : T tp = some (1, n)) (h1 : 4627 ≤ len) (h3 : len ≤ n) (h2 : n < 65536)  : Met l y_DA_accepts w_DA_accepts ({ frames := 5, cells := 0, slots := 0, locals := 152 } : Room) (va_Pc [.ref h0, .ref st, .ref pk, .ref tp, .int (nI len), .int cl] (pr (en g) g.1 vcl sz ([] ++ pl))) (va_Qi (fun (r : Int32) (u : va_W) => (r = nI 0 ∨ r = nI 1) ∧ okx g T xs u) (po g.1 vcl (va_A ([] ++ pl) sz) (fun (u : va_W) => [] ++ u)) (va_A ([] ++ pl) sz)) 0 0 (va_A ([] ++ pl) sz) := by
  sorry
