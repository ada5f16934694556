abbrev c_DA_hintsAreInForm : ByteArray := prog_3_method_21_code
abbrev y_DA_hintsAreInForm : MethodName := ⟨"LatticeKeys$Dsa", "hintsAreInForm", "(LLatticeKeys$DsaSet;)Z"⟩
abbrev w_DA_hintsAreInForm : List Cond := Cond.code y_DA_hintsAreInForm c_DA_hintsAreInForm 6 (some .boolean) :: WG
theorem dDA_hintsAreInForm_0 : decode c_DA_hintsAreInForm 0 = .ok (.iconst 0, 1) := by decide +kernel
theorem dDA_hintsAreInForm_1 : decode c_DA_hintsAreInForm 1 = .ok (.istore_n 2, 1) := by decide +kernel
theorem dDA_hintsAreInForm_2 : decode c_DA_hintsAreInForm 2 = .ok (.iconst 0, 1) := by decide +kernel
theorem dDA_hintsAreInForm_3 : decode c_DA_hintsAreInForm 3 = .ok (.istore_n 3, 1) := by decide +kernel
theorem dDA_hintsAreInForm_4 : decode c_DA_hintsAreInForm 4 = .ok (.iload_n 3, 1) := by decide +kernel
theorem dDA_hintsAreInForm_5 : decode c_DA_hintsAreInForm 5 = .ok (.aload_n 1, 1) := by decide +kernel
theorem dDA_hintsAreInForm_6 : decode c_DA_hintsAreInForm 6 = .ok (.getfield 87, 3) := by decide +kernel
theorem dDA_hintsAreInForm_9 : decode c_DA_hintsAreInForm 9 = .ok (.if_icmp .ge 93, 3) := by decide +kernel
theorem dDA_hintsAreInForm_12 : decode c_DA_hintsAreInForm 12 = .ok (.aload_n 0, 1) := by decide +kernel
theorem dDA_hintsAreInForm_13 : decode c_DA_hintsAreInForm 13 = .ok (.getfield 73, 3) := by decide +kernel
theorem dDA_hintsAreInForm_16 : decode c_DA_hintsAreInForm 16 = .ok (.aload_n 1, 1) := by decide +kernel
theorem dDA_hintsAreInForm_17 : decode c_DA_hintsAreInForm 17 = .ok (.getfield 252, 3) := by decide +kernel
theorem dDA_hintsAreInForm_20 : decode c_DA_hintsAreInForm 20 = .ok (.iload_n 3, 1) := by decide +kernel
theorem dDA_hintsAreInForm_21 : decode c_DA_hintsAreInForm 21 = .ok (.iadd, 1) := by decide +kernel
theorem dDA_hintsAreInForm_22 : decode c_DA_hintsAreInForm 22 = .ok (.baload, 1) := by decide +kernel
theorem dDA_hintsAreInForm_23 : decode c_DA_hintsAreInForm 23 = .ok (.sipush 255, 3) := by decide +kernel
theorem dDA_hintsAreInForm_26 : decode c_DA_hintsAreInForm 26 = .ok (.iand, 1) := by decide +kernel
theorem dDA_hintsAreInForm_27 : decode c_DA_hintsAreInForm 27 = .ok (.istore 4, 2) := by decide +kernel
theorem dDA_hintsAreInForm_29 : decode c_DA_hintsAreInForm 29 = .ok (.iload 4, 2) := by decide +kernel
theorem dDA_hintsAreInForm_31 : decode c_DA_hintsAreInForm 31 = .ok (.iload_n 2, 1) := by decide +kernel
theorem dDA_hintsAreInForm_32 : decode c_DA_hintsAreInForm 32 = .ok (.if_icmp .lt 12, 3) := by decide +kernel
theorem dDA_hintsAreInForm_35 : decode c_DA_hintsAreInForm 35 = .ok (.iload 4, 2) := by decide +kernel
theorem dDA_hintsAreInForm_37 : decode c_DA_hintsAreInForm 37 = .ok (.aload_n 1, 1) := by decide +kernel
theorem dDA_hintsAreInForm_38 : decode c_DA_hintsAreInForm 38 = .ok (.getfield 252, 3) := by decide +kernel
theorem dDA_hintsAreInForm_41 : decode c_DA_hintsAreInForm 41 = .ok (.if_icmp .le 5, 3) := by decide +kernel
theorem dDA_hintsAreInForm_44 : decode c_DA_hintsAreInForm 44 = .ok (.iconst 0, 1) := by decide +kernel
theorem dDA_hintsAreInForm_45 : decode c_DA_hintsAreInForm 45 = .ok (.ireturn, 1) := by decide +kernel
theorem dDA_hintsAreInForm_46 : decode c_DA_hintsAreInForm 46 = .ok (.iload_n 2, 1) := by decide +kernel
theorem dDA_hintsAreInForm_47 : decode c_DA_hintsAreInForm 47 = .ok (.iconst 1, 1) := by decide +kernel
theorem dDA_hintsAreInForm_48 : decode c_DA_hintsAreInForm 48 = .ok (.iadd, 1) := by decide +kernel
theorem dDA_hintsAreInForm_49 : decode c_DA_hintsAreInForm 49 = .ok (.istore 5, 2) := by decide +kernel
theorem dDA_hintsAreInForm_51 : decode c_DA_hintsAreInForm 51 = .ok (.iload 5, 2) := by decide +kernel
theorem dDA_hintsAreInForm_53 : decode c_DA_hintsAreInForm 53 = .ok (.iload 4, 2) := by decide +kernel
theorem dDA_hintsAreInForm_55 : decode c_DA_hintsAreInForm 55 = .ok (.if_icmp .ge 38, 3) := by decide +kernel
theorem dDA_hintsAreInForm_58 : decode c_DA_hintsAreInForm 58 = .ok (.aload_n 0, 1) := by decide +kernel
theorem dDA_hintsAreInForm_59 : decode c_DA_hintsAreInForm 59 = .ok (.getfield 73, 3) := by decide +kernel
theorem dDA_hintsAreInForm_62 : decode c_DA_hintsAreInForm 62 = .ok (.iload 5, 2) := by decide +kernel
theorem dDA_hintsAreInForm_64 : decode c_DA_hintsAreInForm 64 = .ok (.iconst 1, 1) := by decide +kernel
theorem dDA_hintsAreInForm_65 : decode c_DA_hintsAreInForm 65 = .ok (.isub, 1) := by decide +kernel
theorem dDA_hintsAreInForm_66 : decode c_DA_hintsAreInForm 66 = .ok (.baload, 1) := by decide +kernel
theorem dDA_hintsAreInForm_67 : decode c_DA_hintsAreInForm 67 = .ok (.sipush 255, 3) := by decide +kernel
theorem dDA_hintsAreInForm_70 : decode c_DA_hintsAreInForm 70 = .ok (.iand, 1) := by decide +kernel
theorem dDA_hintsAreInForm_71 : decode c_DA_hintsAreInForm 71 = .ok (.aload_n 0, 1) := by decide +kernel
theorem dDA_hintsAreInForm_72 : decode c_DA_hintsAreInForm 72 = .ok (.getfield 73, 3) := by decide +kernel
theorem dDA_hintsAreInForm_75 : decode c_DA_hintsAreInForm 75 = .ok (.iload 5, 2) := by decide +kernel
theorem dDA_hintsAreInForm_77 : decode c_DA_hintsAreInForm 77 = .ok (.baload, 1) := by decide +kernel
theorem dDA_hintsAreInForm_78 : decode c_DA_hintsAreInForm 78 = .ok (.sipush 255, 3) := by decide +kernel
theorem dDA_hintsAreInForm_81 : decode c_DA_hintsAreInForm 81 = .ok (.iand, 1) := by decide +kernel
theorem dDA_hintsAreInForm_82 : decode c_DA_hintsAreInForm 82 = .ok (.if_icmp .lt 5, 3) := by decide +kernel
theorem dDA_hintsAreInForm_85 : decode c_DA_hintsAreInForm 85 = .ok (.iconst 0, 1) := by decide +kernel
theorem dDA_hintsAreInForm_86 : decode c_DA_hintsAreInForm 86 = .ok (.ireturn, 1) := by decide +kernel
theorem dDA_hintsAreInForm_87 : decode c_DA_hintsAreInForm 87 = .ok (.iinc 5 1, 3) := by decide +kernel
theorem dDA_hintsAreInForm_90 : decode c_DA_hintsAreInForm 90 = .ok (.goto (-39), 3) := by decide +kernel
theorem dDA_hintsAreInForm_93 : decode c_DA_hintsAreInForm 93 = .ok (.iload 4, 2) := by decide +kernel
theorem dDA_hintsAreInForm_95 : decode c_DA_hintsAreInForm 95 = .ok (.istore_n 2, 1) := by decide +kernel
theorem dDA_hintsAreInForm_96 : decode c_DA_hintsAreInForm 96 = .ok (.iinc 3 1, 3) := by decide +kernel
theorem dDA_hintsAreInForm_99 : decode c_DA_hintsAreInForm 99 = .ok (.goto (-95), 3) := by decide +kernel
theorem dDA_hintsAreInForm_102 : decode c_DA_hintsAreInForm 102 = .ok (.iload_n 2, 1) := by decide +kernel
theorem dDA_hintsAreInForm_103 : decode c_DA_hintsAreInForm 103 = .ok (.istore_n 3, 1) := by decide +kernel
theorem dDA_hintsAreInForm_104 : decode c_DA_hintsAreInForm 104 = .ok (.iload_n 3, 1) := by decide +kernel
theorem dDA_hintsAreInForm_105 : decode c_DA_hintsAreInForm 105 = .ok (.aload_n 1, 1) := by decide +kernel
theorem dDA_hintsAreInForm_106 : decode c_DA_hintsAreInForm 106 = .ok (.getfield 252, 3) := by decide +kernel
theorem dDA_hintsAreInForm_109 : decode c_DA_hintsAreInForm 109 = .ok (.if_icmp .ge 20, 3) := by decide +kernel
theorem dDA_hintsAreInForm_112 : decode c_DA_hintsAreInForm 112 = .ok (.aload_n 0, 1) := by decide +kernel
theorem dDA_hintsAreInForm_113 : decode c_DA_hintsAreInForm 113 = .ok (.getfield 73, 3) := by decide +kernel
theorem dDA_hintsAreInForm_116 : decode c_DA_hintsAreInForm 116 = .ok (.iload_n 3, 1) := by decide +kernel
theorem dDA_hintsAreInForm_117 : decode c_DA_hintsAreInForm 117 = .ok (.baload, 1) := by decide +kernel
theorem dDA_hintsAreInForm_118 : decode c_DA_hintsAreInForm 118 = .ok (.ifCond .eq 5, 3) := by decide +kernel
theorem dDA_hintsAreInForm_121 : decode c_DA_hintsAreInForm 121 = .ok (.iconst 0, 1) := by decide +kernel
theorem dDA_hintsAreInForm_122 : decode c_DA_hintsAreInForm 122 = .ok (.ireturn, 1) := by decide +kernel
theorem dDA_hintsAreInForm_123 : decode c_DA_hintsAreInForm 123 = .ok (.iinc 3 1, 3) := by decide +kernel
theorem dDA_hintsAreInForm_126 : decode c_DA_hintsAreInForm 126 = .ok (.goto (-22), 3) := by decide +kernel
theorem dDA_hintsAreInForm_129 : decode c_DA_hintsAreInForm 129 = .ok (.iconst 1, 1) := by decide +kernel
theorem dDA_hintsAreInForm_130 : decode c_DA_hintsAreInForm 130 = .ok (.ireturn, 1) := by decide +kernel
abbrev c_DA_readSignature : ByteArray := prog_3_method_20_code
abbrev y_DA_readSignature : MethodName := ⟨"LatticeKeys$Dsa", "readSignature", "(LLatticeKeys$DsaSet;[B)Z"⟩
abbrev w_DA_readSignature : List Cond := Cond.code y_DA_readSignature c_DA_readSignature 4 (some .boolean) :: WG
theorem dDA_readSignature_0 : decode c_DA_readSignature 0 = .ok (.aload_n 2, 1) := by decide +kernel
theorem dDA_readSignature_1 : decode c_DA_readSignature 1 = .ok (.iconst 0, 1) := by decide +kernel
theorem dDA_readSignature_2 : decode c_DA_readSignature 2 = .ok (.aload_n 0, 1) := by decide +kernel
theorem dDA_readSignature_3 : decode c_DA_readSignature 3 = .ok (.getfield 67, 3) := by decide +kernel
theorem dDA_readSignature_6 : decode c_DA_readSignature 6 = .ok (.iconst 0, 1) := by decide +kernel
theorem dDA_readSignature_7 : decode c_DA_readSignature 7 = .ok (.aload_n 1, 1) := by decide +kernel
theorem dDA_readSignature_8 : decode c_DA_readSignature 8 = .ok (.getfield 220, 3) := by decide +kernel
theorem dDA_readSignature_11 : decode c_DA_readSignature 11 = .ok (.invokestatic 105, 3) := by decide +kernel
theorem dDA_readSignature_14 : decode c_DA_readSignature 14 = .ok (.aload_n 2, 1) := by decide +kernel
theorem dDA_readSignature_15 : decode c_DA_readSignature 15 = .ok (.aload_n 1, 1) := by decide +kernel
theorem dDA_readSignature_16 : decode c_DA_readSignature 16 = .ok (.getfield 258, 3) := by decide +kernel
theorem dDA_readSignature_19 : decode c_DA_readSignature 19 = .ok (.aload_n 0, 1) := by decide +kernel
theorem dDA_readSignature_20 : decode c_DA_readSignature 20 = .ok (.getfield 73, 3) := by decide +kernel
theorem dDA_readSignature_23 : decode c_DA_readSignature 23 = .ok (.iconst 0, 1) := by decide +kernel
theorem dDA_readSignature_24 : decode c_DA_readSignature 24 = .ok (.aload_n 1, 1) := by decide +kernel
theorem dDA_readSignature_25 : decode c_DA_readSignature 25 = .ok (.getfield 252, 3) := by decide +kernel
theorem dDA_readSignature_28 : decode c_DA_readSignature 28 = .ok (.aload_n 1, 1) := by decide +kernel
theorem dDA_readSignature_29 : decode c_DA_readSignature 29 = .ok (.getfield 87, 3) := by decide +kernel
theorem dDA_readSignature_32 : decode c_DA_readSignature 32 = .ok (.iadd, 1) := by decide +kernel
theorem dDA_readSignature_33 : decode c_DA_readSignature 33 = .ok (.invokestatic 105, 3) := by decide +kernel
theorem dDA_readSignature_36 : decode c_DA_readSignature 36 = .ok (.aload_n 0, 1) := by decide +kernel
theorem dDA_readSignature_37 : decode c_DA_readSignature 37 = .ok (.aload_n 1, 1) := by decide +kernel
theorem dDA_readSignature_38 : decode c_DA_readSignature 38 = .ok (.invokevirtual 279, 3) := by decide +kernel
theorem dDA_readSignature_41 : decode c_DA_readSignature 41 = .ok (.ifCond .ne 5, 3) := by decide +kernel
theorem dDA_readSignature_44 : decode c_DA_readSignature 44 = .ok (.iconst 0, 1) := by decide +kernel
theorem dDA_readSignature_45 : decode c_DA_readSignature 45 = .ok (.ireturn, 1) := by decide +kernel
theorem dDA_readSignature_46 : decode c_DA_readSignature 46 = .ok (.iconst 0, 1) := by decide +kernel
theorem dDA_readSignature_47 : decode c_DA_readSignature 47 = .ok (.istore_n 3, 1) := by decide +kernel
theorem dDA_readSignature_48 : decode c_DA_readSignature 48 = .ok (.iload_n 3, 1) := by decide +kernel
theorem dDA_readSignature_49 : decode c_DA_readSignature 49 = .ok (.aload_n 1, 1) := by decide +kernel
theorem dDA_readSignature_50 : decode c_DA_readSignature 50 = .ok (.getfield 96, 3) := by decide +kernel
theorem dDA_readSignature_53 : decode c_DA_readSignature 53 = .ok (.if_icmp .ge 69, 3) := by decide +kernel
theorem dDA_readSignature_56 : decode c_DA_readSignature 56 = .ok (.aload_n 0, 1) := by decide +kernel
theorem dDA_readSignature_57 : decode c_DA_readSignature 57 = .ok (.aload_n 0, 1) := by decide +kernel
theorem dDA_readSignature_58 : decode c_DA_readSignature 58 = .ok (.getfield 47, 3) := by decide +kernel
theorem dDA_readSignature_61 : decode c_DA_readSignature 61 = .ok (.iload_n 3, 1) := by decide +kernel
theorem dDA_readSignature_62 : decode c_DA_readSignature 62 = .ok (.aaload, 1) := by decide +kernel
theorem dDA_readSignature_63 : decode c_DA_readSignature 63 = .ok (.aload_n 1, 1) := by decide +kernel
theorem dDA_readSignature_64 : decode c_DA_readSignature 64 = .ok (.getfield 255, 3) := by decide +kernel
theorem dDA_readSignature_67 : decode c_DA_readSignature 67 = .ok (.aload_n 1, 1) := by decide +kernel
theorem dDA_readSignature_68 : decode c_DA_readSignature 68 = .ok (.getfield 202, 3) := by decide +kernel
theorem dDA_readSignature_71 : decode c_DA_readSignature 71 = .ok (.aload_n 2, 1) := by decide +kernel
theorem dDA_readSignature_72 : decode c_DA_readSignature 72 = .ok (.aload_n 1, 1) := by decide +kernel
theorem dDA_readSignature_73 : decode c_DA_readSignature 73 = .ok (.getfield 220, 3) := by decide +kernel
theorem dDA_readSignature_76 : decode c_DA_readSignature 76 = .ok (.bipush 32, 2) := by decide +kernel
theorem dDA_readSignature_78 : decode c_DA_readSignature 78 = .ok (.aload_n 1, 1) := by decide +kernel
theorem dDA_readSignature_79 : decode c_DA_readSignature 79 = .ok (.getfield 255, 3) := by decide +kernel
theorem dDA_readSignature_82 : decode c_DA_readSignature 82 = .ok (.imul, 1) := by decide +kernel
theorem dDA_readSignature_83 : decode c_DA_readSignature 83 = .ok (.iload_n 3, 1) := by decide +kernel
theorem dDA_readSignature_84 : decode c_DA_readSignature 84 = .ok (.imul, 1) := by decide +kernel
theorem dDA_readSignature_85 : decode c_DA_readSignature 85 = .ok (.iadd, 1) := by decide +kernel
theorem dDA_readSignature_86 : decode c_DA_readSignature 86 = .ok (.invokevirtual 185, 3) := by decide +kernel
theorem dDA_readSignature_89 : decode c_DA_readSignature 89 = .ok (.aload_n 0, 1) := by decide +kernel
theorem dDA_readSignature_90 : decode c_DA_readSignature 90 = .ok (.getfield 22, 3) := by decide +kernel
theorem dDA_readSignature_93 : decode c_DA_readSignature 93 = .ok (.aload_n 0, 1) := by decide +kernel
theorem dDA_readSignature_94 : decode c_DA_readSignature 94 = .ok (.getfield 47, 3) := by decide +kernel
theorem dDA_readSignature_97 : decode c_DA_readSignature 97 = .ok (.iload_n 3, 1) := by decide +kernel
theorem dDA_readSignature_98 : decode c_DA_readSignature 98 = .ok (.aaload, 1) := by decide +kernel
theorem dDA_readSignature_99 : decode c_DA_readSignature 99 = .ok (.aload_n 1, 1) := by decide +kernel
theorem dDA_readSignature_100 : decode c_DA_readSignature 100 = .ok (.getfield 202, 3) := by decide +kernel
theorem dDA_readSignature_103 : decode c_DA_readSignature 103 = .ok (.aload_n 1, 1) := by decide +kernel
theorem dDA_readSignature_104 : decode c_DA_readSignature 104 = .ok (.getfield 233, 3) := by decide +kernel
theorem dDA_readSignature_107 : decode c_DA_readSignature 107 = .ok (.isub, 1) := by decide +kernel
theorem dDA_readSignature_108 : decode c_DA_readSignature 108 = .ok (.invokevirtual 236, 3) := by decide +kernel
theorem dDA_readSignature_111 : decode c_DA_readSignature 111 = .ok (.ifCond .ne 5, 3) := by decide +kernel
theorem dDA_readSignature_114 : decode c_DA_readSignature 114 = .ok (.iconst 0, 1) := by decide +kernel
theorem dDA_readSignature_115 : decode c_DA_readSignature 115 = .ok (.ireturn, 1) := by decide +kernel
theorem dDA_readSignature_116 : decode c_DA_readSignature 116 = .ok (.iinc 3 1, 3) := by decide +kernel
theorem dDA_readSignature_119 : decode c_DA_readSignature 119 = .ok (.goto (-71), 3) := by decide +kernel
theorem dDA_readSignature_122 : decode c_DA_readSignature 122 = .ok (.iconst 1, 1) := by decide +kernel
theorem dDA_readSignature_123 : decode c_DA_readSignature 123 = .ok (.ireturn, 1) := by decide +kernel
abbrev c_DA_useHints : ByteArray := prog_3_method_23_code
abbrev y_DA_useHints : MethodName := ⟨"LatticeKeys$Dsa", "useHints", "(LLatticeKeys$DsaSet;[III)V"⟩
abbrev w_DA_useHints : List Cond := Cond.code y_DA_useHints c_DA_useHints 7 none :: WG
theorem dDA_useHints_0 : decode c_DA_useHints 0 = .ok (.iconst 0, 1) := by decide +kernel
theorem dDA_useHints_1 : decode c_DA_useHints 1 = .ok (.istore 5, 2) := by decide +kernel
theorem dDA_useHints_3 : decode c_DA_useHints 3 = .ok (.iload 5, 2) := by decide +kernel
theorem dDA_useHints_5 : decode c_DA_useHints 5 = .ok (.sipush 256, 3) := by decide +kernel
theorem dDA_useHints_8 : decode c_DA_useHints 8 = .ok (.if_icmp .ge 24, 3) := by decide +kernel
theorem dDA_useHints_11 : decode c_DA_useHints 11 = .ok (.aload_n 0, 1) := by decide +kernel
theorem dDA_useHints_12 : decode c_DA_useHints 12 = .ok (.getfield 57, 3) := by decide +kernel
theorem dDA_useHints_15 : decode c_DA_useHints 15 = .ok (.iload 5, 2) := by decide +kernel
theorem dDA_useHints_17 : decode c_DA_useHints 17 = .ok (.aload_n 1, 1) := by decide +kernel
theorem dDA_useHints_18 : decode c_DA_useHints 18 = .ok (.aload_n 2, 1) := by decide +kernel
theorem dDA_useHints_19 : decode c_DA_useHints 19 = .ok (.iload 5, 2) := by decide +kernel
theorem dDA_useHints_21 : decode c_DA_useHints 21 = .ok (.iaload, 1) := by decide +kernel
theorem dDA_useHints_22 : decode c_DA_useHints 22 = .ok (.invokevirtual 212, 3) := by decide +kernel
theorem dDA_useHints_25 : decode c_DA_useHints 25 = .ok (.iastore, 1) := by decide +kernel
theorem dDA_useHints_26 : decode c_DA_useHints 26 = .ok (.iinc 5 1, 3) := by decide +kernel
theorem dDA_useHints_29 : decode c_DA_useHints 29 = .ok (.goto (-26), 3) := by decide +kernel
theorem dDA_useHints_32 : decode c_DA_useHints 32 = .ok (.iload_n 3, 1) := by decide +kernel
theorem dDA_useHints_33 : decode c_DA_useHints 33 = .ok (.istore 5, 2) := by decide +kernel
theorem dDA_useHints_35 : decode c_DA_useHints 35 = .ok (.iload 5, 2) := by decide +kernel
theorem dDA_useHints_37 : decode c_DA_useHints 37 = .ok (.iload 4, 2) := by decide +kernel
theorem dDA_useHints_39 : decode c_DA_useHints 39 = .ok (.if_icmp .ge 37, 3) := by decide +kernel
theorem dDA_useHints_42 : decode c_DA_useHints 42 = .ok (.aload_n 0, 1) := by decide +kernel
theorem dDA_useHints_43 : decode c_DA_useHints 43 = .ok (.getfield 73, 3) := by decide +kernel
theorem dDA_useHints_46 : decode c_DA_useHints 46 = .ok (.iload 5, 2) := by decide +kernel
theorem dDA_useHints_48 : decode c_DA_useHints 48 = .ok (.baload, 1) := by decide +kernel
theorem dDA_useHints_49 : decode c_DA_useHints 49 = .ok (.sipush 255, 3) := by decide +kernel
theorem dDA_useHints_52 : decode c_DA_useHints 52 = .ok (.iand, 1) := by decide +kernel
theorem dDA_useHints_53 : decode c_DA_useHints 53 = .ok (.istore 6, 2) := by decide +kernel
theorem dDA_useHints_55 : decode c_DA_useHints 55 = .ok (.aload_n 0, 1) := by decide +kernel
theorem dDA_useHints_56 : decode c_DA_useHints 56 = .ok (.getfield 57, 3) := by decide +kernel
theorem dDA_useHints_59 : decode c_DA_useHints 59 = .ok (.iload 6, 2) := by decide +kernel
theorem dDA_useHints_61 : decode c_DA_useHints 61 = .ok (.aload_n 1, 1) := by decide +kernel
theorem dDA_useHints_62 : decode c_DA_useHints 62 = .ok (.aload_n 2, 1) := by decide +kernel
theorem dDA_useHints_63 : decode c_DA_useHints 63 = .ok (.iload 6, 2) := by decide +kernel
theorem dDA_useHints_65 : decode c_DA_useHints 65 = .ok (.iaload, 1) := by decide +kernel
theorem dDA_useHints_66 : decode c_DA_useHints 66 = .ok (.invokevirtual 282, 3) := by decide +kernel
theorem dDA_useHints_69 : decode c_DA_useHints 69 = .ok (.iastore, 1) := by decide +kernel
theorem dDA_useHints_70 : decode c_DA_useHints 70 = .ok (.iinc 5 1, 3) := by decide +kernel
theorem dDA_useHints_73 : decode c_DA_useHints 73 = .ok (.goto (-38), 3) := by decide +kernel
theorem dDA_useHints_76 : decode c_DA_useHints 76 = .ok (.return_, 1) := by decide +kernel
abbrev c_DA_rebuildRow : ByteArray := prog_3_method_22_code
abbrev y_DA_rebuildRow : MethodName := ⟨"LatticeKeys$Dsa", "rebuildRow", "(LLatticeKeys$DsaSet;[BI)V"⟩
abbrev w_DA_rebuildRow : List Cond := Cond.code y_DA_rebuildRow c_DA_rebuildRow 5 none :: WG
theorem dDA_rebuildRow_0 : decode c_DA_rebuildRow 0 = .ok (.aload_n 0, 1) := by decide +kernel
theorem dDA_rebuildRow_1 : decode c_DA_rebuildRow 1 = .ok (.aload_n 1, 1) := by decide +kernel
theorem dDA_rebuildRow_2 : decode c_DA_rebuildRow 2 = .ok (.iload_n 3, 1) := by decide +kernel
theorem dDA_rebuildRow_3 : decode c_DA_rebuildRow 3 = .ok (.aload_n 0, 1) := by decide +kernel
theorem dDA_rebuildRow_4 : decode c_DA_rebuildRow 4 = .ok (.getfield 47, 3) := by decide +kernel
theorem dDA_rebuildRow_7 : decode c_DA_rebuildRow 7 = .ok (.invokevirtual 126, 3) := by decide +kernel
theorem dDA_rebuildRow_10 : decode c_DA_rebuildRow 10 = .ok (.aload_n 0, 1) := by decide +kernel
theorem dDA_rebuildRow_11 : decode c_DA_rebuildRow 11 = .ok (.getfield 57, 3) := by decide +kernel
theorem dDA_rebuildRow_14 : decode c_DA_rebuildRow 14 = .ok (.bipush 10, 2) := by decide +kernel
theorem dDA_rebuildRow_16 : decode c_DA_rebuildRow 16 = .ok (.aload_n 2, 1) := by decide +kernel
theorem dDA_rebuildRow_17 : decode c_DA_rebuildRow 17 = .ok (.bipush 32, 2) := by decide +kernel
theorem dDA_rebuildRow_19 : decode c_DA_rebuildRow 19 = .ok (.sipush 320, 3) := by decide +kernel
theorem dDA_rebuildRow_22 : decode c_DA_rebuildRow 22 = .ok (.iload_n 3, 1) := by decide +kernel
theorem dDA_rebuildRow_23 : decode c_DA_rebuildRow 23 = .ok (.imul, 1) := by decide +kernel
theorem dDA_rebuildRow_24 : decode c_DA_rebuildRow 24 = .ok (.iadd, 1) := by decide +kernel
theorem dDA_rebuildRow_25 : decode c_DA_rebuildRow 25 = .ok (.invokestatic 189, 3) := by decide +kernel
theorem dDA_rebuildRow_28 : decode c_DA_rebuildRow 28 = .ok (.iconst 0, 1) := by decide +kernel
theorem dDA_rebuildRow_29 : decode c_DA_rebuildRow 29 = .ok (.istore 4, 2) := by decide +kernel
theorem dDA_rebuildRow_31 : decode c_DA_rebuildRow 31 = .ok (.iload 4, 2) := by decide +kernel
theorem dDA_rebuildRow_33 : decode c_DA_rebuildRow 33 = .ok (.sipush 256, 3) := by decide +kernel
theorem dDA_rebuildRow_36 : decode c_DA_rebuildRow 36 = .ok (.if_icmp .ge 21, 3) := by decide +kernel
theorem dDA_rebuildRow_39 : decode c_DA_rebuildRow 39 = .ok (.aload_n 0, 1) := by decide +kernel
theorem dDA_rebuildRow_40 : decode c_DA_rebuildRow 40 = .ok (.getfield 57, 3) := by decide +kernel
theorem dDA_rebuildRow_43 : decode c_DA_rebuildRow 43 = .ok (.iload 4, 2) := by decide +kernel
theorem dDA_rebuildRow_45 : decode c_DA_rebuildRow 45 = .ok (.dup2, 1) := by decide +kernel
theorem dDA_rebuildRow_46 : decode c_DA_rebuildRow 46 = .ok (.iaload, 1) := by decide +kernel
theorem dDA_rebuildRow_47 : decode c_DA_rebuildRow 47 = .ok (.bipush 13, 2) := by decide +kernel
theorem dDA_rebuildRow_49 : decode c_DA_rebuildRow 49 = .ok (.ishl, 1) := by decide +kernel
theorem dDA_rebuildRow_50 : decode c_DA_rebuildRow 50 = .ok (.iastore, 1) := by decide +kernel
theorem dDA_rebuildRow_51 : decode c_DA_rebuildRow 51 = .ok (.iinc 4 1, 3) := by decide +kernel
theorem dDA_rebuildRow_54 : decode c_DA_rebuildRow 54 = .ok (.goto (-23), 3) := by decide +kernel
theorem dDA_rebuildRow_57 : decode c_DA_rebuildRow 57 = .ok (.aload_n 0, 1) := by decide +kernel
theorem dDA_rebuildRow_58 : decode c_DA_rebuildRow 58 = .ok (.getfield 22, 3) := by decide +kernel
theorem dDA_rebuildRow_61 : decode c_DA_rebuildRow 61 = .ok (.aload_n 0, 1) := by decide +kernel
theorem dDA_rebuildRow_62 : decode c_DA_rebuildRow 62 = .ok (.getfield 57, 3) := by decide +kernel
theorem dDA_rebuildRow_65 : decode c_DA_rebuildRow 65 = .ok (.invokevirtual 119, 3) := by decide +kernel
theorem dDA_rebuildRow_68 : decode c_DA_rebuildRow 68 = .ok (.aload_n 0, 1) := by decide +kernel
theorem dDA_rebuildRow_69 : decode c_DA_rebuildRow 69 = .ok (.getfield 44, 3) := by decide +kernel
theorem dDA_rebuildRow_72 : decode c_DA_rebuildRow 72 = .ok (.iload_n 3, 1) := by decide +kernel
theorem dDA_rebuildRow_73 : decode c_DA_rebuildRow 73 = .ok (.aaload, 1) := by decide +kernel
theorem dDA_rebuildRow_74 : decode c_DA_rebuildRow 74 = .ok (.iconst 0, 1) := by decide +kernel
theorem dDA_rebuildRow_75 : decode c_DA_rebuildRow 75 = .ok (.invokestatic 192, 3) := by decide +kernel
theorem dDA_rebuildRow_78 : decode c_DA_rebuildRow 78 = .ok (.aload_n 0, 1) := by decide +kernel
theorem dDA_rebuildRow_79 : decode c_DA_rebuildRow 79 = .ok (.getfield 22, 3) := by decide +kernel
theorem dDA_rebuildRow_82 : decode c_DA_rebuildRow 82 = .ok (.aload_n 0, 1) := by decide +kernel
theorem dDA_rebuildRow_83 : decode c_DA_rebuildRow 83 = .ok (.getfield 44, 3) := by decide +kernel
theorem dDA_rebuildRow_86 : decode c_DA_rebuildRow 86 = .ok (.iload_n 3, 1) := by decide +kernel
theorem dDA_rebuildRow_87 : decode c_DA_rebuildRow 87 = .ok (.aaload, 1) := by decide +kernel
theorem dDA_rebuildRow_88 : decode c_DA_rebuildRow 88 = .ok (.aload_n 0, 1) := by decide +kernel
theorem dDA_rebuildRow_89 : decode c_DA_rebuildRow 89 = .ok (.getfield 53, 3) := by decide +kernel
theorem dDA_rebuildRow_92 : decode c_DA_rebuildRow 92 = .ok (.aload_n 0, 1) := by decide +kernel
theorem dDA_rebuildRow_93 : decode c_DA_rebuildRow 93 = .ok (.getfield 57, 3) := by decide +kernel
theorem dDA_rebuildRow_96 : decode c_DA_rebuildRow 96 = .ok (.invokevirtual 205, 3) := by decide +kernel
theorem dDA_rebuildRow_99 : decode c_DA_rebuildRow 99 = .ok (.aload_n 0, 1) := by decide +kernel
theorem dDA_rebuildRow_100 : decode c_DA_rebuildRow 100 = .ok (.getfield 22, 3) := by decide +kernel
theorem dDA_rebuildRow_103 : decode c_DA_rebuildRow 103 = .ok (.aload_n 0, 1) := by decide +kernel
theorem dDA_rebuildRow_104 : decode c_DA_rebuildRow 104 = .ok (.getfield 50, 3) := by decide +kernel
theorem dDA_rebuildRow_107 : decode c_DA_rebuildRow 107 = .ok (.iload_n 3, 1) := by decide +kernel
theorem dDA_rebuildRow_108 : decode c_DA_rebuildRow 108 = .ok (.aaload, 1) := by decide +kernel
theorem dDA_rebuildRow_109 : decode c_DA_rebuildRow 109 = .ok (.aload_n 0, 1) := by decide +kernel
theorem dDA_rebuildRow_110 : decode c_DA_rebuildRow 110 = .ok (.getfield 44, 3) := by decide +kernel
theorem dDA_rebuildRow_113 : decode c_DA_rebuildRow 113 = .ok (.iload_n 3, 1) := by decide +kernel
theorem dDA_rebuildRow_114 : decode c_DA_rebuildRow 114 = .ok (.aaload, 1) := by decide +kernel
theorem dDA_rebuildRow_115 : decode c_DA_rebuildRow 115 = .ok (.invokevirtual 243, 3) := by decide +kernel
theorem dDA_rebuildRow_118 : decode c_DA_rebuildRow 118 = .ok (.aload_n 0, 1) := by decide +kernel
theorem dDA_rebuildRow_119 : decode c_DA_rebuildRow 119 = .ok (.getfield 22, 3) := by decide +kernel
theorem dDA_rebuildRow_122 : decode c_DA_rebuildRow 122 = .ok (.aload_n 0, 1) := by decide +kernel
theorem dDA_rebuildRow_123 : decode c_DA_rebuildRow 123 = .ok (.getfield 50, 3) := by decide +kernel
theorem dDA_rebuildRow_126 : decode c_DA_rebuildRow 126 = .ok (.iload_n 3, 1) := by decide +kernel
theorem dDA_rebuildRow_127 : decode c_DA_rebuildRow 127 = .ok (.aaload, 1) := by decide +kernel
theorem dDA_rebuildRow_128 : decode c_DA_rebuildRow 128 = .ok (.invokevirtual 130, 3) := by decide +kernel
theorem dDA_rebuildRow_131 : decode c_DA_rebuildRow 131 = .ok (.return_, 1) := by decide +kernel
abbrev c_DA_challengesAgree : ByteArray := prog_3_method_24_code
abbrev y_DA_challengesAgree : MethodName := ⟨"LatticeKeys$Dsa", "challengesAgree", "(LLatticeKeys$DsaSet;)Z"⟩
abbrev w_DA_challengesAgree : List Cond := Cond.code y_DA_challengesAgree c_DA_challengesAgree 3 (some .boolean) :: WG
theorem dDA_challengesAgree_0 : decode c_DA_challengesAgree 0 = .ok (.iconst 0, 1) := by decide +kernel
theorem dDA_challengesAgree_1 : decode c_DA_challengesAgree 1 = .ok (.istore_n 2, 1) := by decide +kernel
theorem dDA_challengesAgree_2 : decode c_DA_challengesAgree 2 = .ok (.iload_n 2, 1) := by decide +kernel
theorem dDA_challengesAgree_3 : decode c_DA_challengesAgree 3 = .ok (.aload_n 1, 1) := by decide +kernel
theorem dDA_challengesAgree_4 : decode c_DA_challengesAgree 4 = .ok (.getfield 220, 3) := by decide +kernel
theorem dDA_challengesAgree_7 : decode c_DA_challengesAgree 7 = .ok (.if_icmp .ge 26, 3) := by decide +kernel
theorem dDA_challengesAgree_10 : decode c_DA_challengesAgree 10 = .ok (.aload_n 0, 1) := by decide +kernel
theorem dDA_challengesAgree_11 : decode c_DA_challengesAgree 11 = .ok (.getfield 67, 3) := by decide +kernel
theorem dDA_challengesAgree_14 : decode c_DA_challengesAgree 14 = .ok (.iload_n 2, 1) := by decide +kernel
theorem dDA_challengesAgree_15 : decode c_DA_challengesAgree 15 = .ok (.baload, 1) := by decide +kernel
theorem dDA_challengesAgree_16 : decode c_DA_challengesAgree 16 = .ok (.aload_n 0, 1) := by decide +kernel
theorem dDA_challengesAgree_17 : decode c_DA_challengesAgree 17 = .ok (.getfield 70, 3) := by decide +kernel
theorem dDA_challengesAgree_20 : decode c_DA_challengesAgree 20 = .ok (.iload_n 2, 1) := by decide +kernel
theorem dDA_challengesAgree_21 : decode c_DA_challengesAgree 21 = .ok (.baload, 1) := by decide +kernel
theorem dDA_challengesAgree_22 : decode c_DA_challengesAgree 22 = .ok (.if_icmp .eq 5, 3) := by decide +kernel
theorem dDA_challengesAgree_25 : decode c_DA_challengesAgree 25 = .ok (.iconst 0, 1) := by decide +kernel
theorem dDA_challengesAgree_26 : decode c_DA_challengesAgree 26 = .ok (.ireturn, 1) := by decide +kernel
theorem dDA_challengesAgree_27 : decode c_DA_challengesAgree 27 = .ok (.iinc 2 1, 3) := by decide +kernel
theorem dDA_challengesAgree_30 : decode c_DA_challengesAgree 30 = .ok (.goto (-28), 3) := by decide +kernel
theorem dDA_challengesAgree_33 : decode c_DA_challengesAgree 33 = .ok (.iconst 1, 1) := by decide +kernel
theorem dDA_challengesAgree_34 : decode c_DA_challengesAgree 34 = .ok (.ireturn, 1) := by decide +kernel
abbrev c_DA_accepts : ByteArray := prog_3_method_19_code
abbrev y_DA_accepts : MethodName := ⟨"LatticeKeys$Dsa", "accepts", "(LLatticeKeys$DsaSet;[B[BII)Z"⟩
abbrev w_DA_accepts : List Cond := Cond.code y_DA_accepts c_DA_accepts 9 (some .boolean) :: WG
theorem dDA_accepts_0 : decode c_DA_accepts 0 = .ok (.aload_n 0, 1) := by decide +kernel
theorem dDA_accepts_1 : decode c_DA_accepts 1 = .ok (.aload_n 1, 1) := by decide +kernel
theorem dDA_accepts_2 : decode c_DA_accepts 2 = .ok (.aload_n 3, 1) := by decide +kernel
theorem dDA_accepts_3 : decode c_DA_accepts 3 = .ok (.invokevirtual 261, 3) := by decide +kernel
theorem dDA_accepts_6 : decode c_DA_accepts 6 = .ok (.ifCond .ne 5, 3) := by decide +kernel
theorem dDA_accepts_9 : decode c_DA_accepts 9 = .ok (.iconst 0, 1) := by decide +kernel
theorem dDA_accepts_10 : decode c_DA_accepts 10 = .ok (.ireturn, 1) := by decide +kernel
theorem dDA_accepts_11 : decode c_DA_accepts 11 = .ok (.aload_n 0, 1) := by decide +kernel
theorem dDA_accepts_12 : decode c_DA_accepts 12 = .ok (.aload_n 2, 1) := by decide +kernel
theorem dDA_accepts_13 : decode c_DA_accepts 13 = .ok (.invokevirtual 146, 3) := by decide +kernel
theorem dDA_accepts_16 : decode c_DA_accepts 16 = .ok (.aload_n 0, 1) := by decide +kernel
theorem dDA_accepts_17 : decode c_DA_accepts 17 = .ok (.aload_n 3, 1) := by decide +kernel
theorem dDA_accepts_18 : decode c_DA_accepts 18 = .ok (.aload_n 1, 1) := by decide +kernel
theorem dDA_accepts_19 : decode c_DA_accepts 19 = .ok (.getfield 265, 3) := by decide +kernel
theorem dDA_accepts_22 : decode c_DA_accepts 22 = .ok (.iload 4, 2) := by decide +kernel
theorem dDA_accepts_24 : decode c_DA_accepts 24 = .ok (.iload 5, 2) := by decide +kernel
theorem dDA_accepts_26 : decode c_DA_accepts 26 = .ok (.invokevirtual 164, 3) := by decide +kernel
theorem dDA_accepts_29 : decode c_DA_accepts 29 = .ok (.aload_n 0, 1) := by decide +kernel
theorem dDA_accepts_30 : decode c_DA_accepts 30 = .ok (.getfield 29, 3) := by decide +kernel
theorem dDA_accepts_33 : decode c_DA_accepts 33 = .ok (.aload_n 1, 1) := by decide +kernel
theorem dDA_accepts_34 : decode c_DA_accepts 34 = .ok (.aload_n 2, 1) := by decide +kernel
theorem dDA_accepts_35 : decode c_DA_accepts 35 = .ok (.aload_n 0, 1) := by decide +kernel
theorem dDA_accepts_36 : decode c_DA_accepts 36 = .ok (.getfield 35, 3) := by decide +kernel
theorem dDA_accepts_39 : decode c_DA_accepts 39 = .ok (.invokevirtual 115, 3) := by decide +kernel
theorem dDA_accepts_42 : decode c_DA_accepts 42 = .ok (.aload_n 0, 1) := by decide +kernel
theorem dDA_accepts_43 : decode c_DA_accepts 43 = .ok (.getfield 29, 3) := by decide +kernel
theorem dDA_accepts_46 : decode c_DA_accepts 46 = .ok (.aload_n 1, 1) := by decide +kernel
theorem dDA_accepts_47 : decode c_DA_accepts 47 = .ok (.aload_n 0, 1) := by decide +kernel
theorem dDA_accepts_48 : decode c_DA_accepts 48 = .ok (.getfield 53, 3) := by decide +kernel
theorem dDA_accepts_51 : decode c_DA_accepts 51 = .ok (.aload_n 0, 1) := by decide +kernel
theorem dDA_accepts_52 : decode c_DA_accepts 52 = .ok (.getfield 67, 3) := by decide +kernel
theorem dDA_accepts_55 : decode c_DA_accepts 55 = .ok (.invokevirtual 223, 3) := by decide +kernel
theorem dDA_accepts_58 : decode c_DA_accepts 58 = .ok (.aload_n 0, 1) := by decide +kernel
theorem dDA_accepts_59 : decode c_DA_accepts 59 = .ok (.getfield 22, 3) := by decide +kernel
theorem dDA_accepts_62 : decode c_DA_accepts 62 = .ok (.aload_n 0, 1) := by decide +kernel
theorem dDA_accepts_63 : decode c_DA_accepts 63 = .ok (.getfield 53, 3) := by decide +kernel
theorem dDA_accepts_66 : decode c_DA_accepts 66 = .ok (.invokevirtual 119, 3) := by decide +kernel
theorem dDA_accepts_69 : decode c_DA_accepts 69 = .ok (.iconst 0, 1) := by decide +kernel
theorem dDA_accepts_70 : decode c_DA_accepts 70 = .ok (.istore 6, 2) := by decide +kernel
theorem dDA_accepts_72 : decode c_DA_accepts 72 = .ok (.iload 6, 2) := by decide +kernel
theorem dDA_accepts_74 : decode c_DA_accepts 74 = .ok (.aload_n 1, 1) := by decide +kernel
theorem dDA_accepts_75 : decode c_DA_accepts 75 = .ok (.getfield 96, 3) := by decide +kernel
theorem dDA_accepts_78 : decode c_DA_accepts 78 = .ok (.if_icmp .ge 23, 3) := by decide +kernel
theorem dDA_accepts_81 : decode c_DA_accepts 81 = .ok (.aload_n 0, 1) := by decide +kernel
theorem dDA_accepts_82 : decode c_DA_accepts 82 = .ok (.getfield 22, 3) := by decide +kernel
theorem dDA_accepts_85 : decode c_DA_accepts 85 = .ok (.aload_n 0, 1) := by decide +kernel
theorem dDA_accepts_86 : decode c_DA_accepts 86 = .ok (.getfield 47, 3) := by decide +kernel
theorem dDA_accepts_89 : decode c_DA_accepts 89 = .ok (.iload 6, 2) := by decide +kernel
theorem dDA_accepts_91 : decode c_DA_accepts 91 = .ok (.aaload, 1) := by decide +kernel
theorem dDA_accepts_92 : decode c_DA_accepts 92 = .ok (.invokevirtual 119, 3) := by decide +kernel
theorem dDA_accepts_95 : decode c_DA_accepts 95 = .ok (.iinc 6 1, 3) := by decide +kernel
theorem dDA_accepts_98 : decode c_DA_accepts 98 = .ok (.goto (-26), 3) := by decide +kernel
theorem dDA_accepts_101 : decode c_DA_accepts 101 = .ok (.aload_n 0, 1) := by decide +kernel
theorem dDA_accepts_102 : decode c_DA_accepts 102 = .ok (.invokevirtual 209, 3) := by decide +kernel
theorem dDA_accepts_105 : decode c_DA_accepts 105 = .ok (.iconst 0, 1) := by decide +kernel
theorem dDA_accepts_106 : decode c_DA_accepts 106 = .ok (.istore 6, 2) := by decide +kernel
theorem dDA_accepts_108 : decode c_DA_accepts 108 = .ok (.iconst 0, 1) := by decide +kernel
theorem dDA_accepts_109 : decode c_DA_accepts 109 = .ok (.istore 7, 2) := by decide +kernel
theorem dDA_accepts_111 : decode c_DA_accepts 111 = .ok (.iload 7, 2) := by decide +kernel
theorem dDA_accepts_113 : decode c_DA_accepts 113 = .ok (.aload_n 1, 1) := by decide +kernel
theorem dDA_accepts_114 : decode c_DA_accepts 114 = .ok (.getfield 87, 3) := by decide +kernel
theorem dDA_accepts_117 : decode c_DA_accepts 117 = .ok (.if_icmp .ge 60, 3) := by decide +kernel
theorem dDA_accepts_120 : decode c_DA_accepts 120 = .ok (.aload_n 0, 1) := by decide +kernel
theorem dDA_accepts_121 : decode c_DA_accepts 121 = .ok (.getfield 73, 3) := by decide +kernel
theorem dDA_accepts_124 : decode c_DA_accepts 124 = .ok (.aload_n 1, 1) := by decide +kernel
theorem dDA_accepts_125 : decode c_DA_accepts 125 = .ok (.getfield 252, 3) := by decide +kernel
theorem dDA_accepts_128 : decode c_DA_accepts 128 = .ok (.iload 7, 2) := by decide +kernel
theorem dDA_accepts_130 : decode c_DA_accepts 130 = .ok (.iadd, 1) := by decide +kernel
theorem dDA_accepts_131 : decode c_DA_accepts 131 = .ok (.baload, 1) := by decide +kernel
theorem dDA_accepts_132 : decode c_DA_accepts 132 = .ok (.sipush 255, 3) := by decide +kernel
theorem dDA_accepts_135 : decode c_DA_accepts 135 = .ok (.iand, 1) := by decide +kernel
theorem dDA_accepts_136 : decode c_DA_accepts 136 = .ok (.istore 8, 2) := by decide +kernel
theorem dDA_accepts_138 : decode c_DA_accepts 138 = .ok (.aload_n 0, 1) := by decide +kernel
theorem dDA_accepts_139 : decode c_DA_accepts 139 = .ok (.aload_n 1, 1) := by decide +kernel
theorem dDA_accepts_140 : decode c_DA_accepts 140 = .ok (.aload_n 2, 1) := by decide +kernel
theorem dDA_accepts_141 : decode c_DA_accepts 141 = .ok (.iload 7, 2) := by decide +kernel
theorem dDA_accepts_143 : decode c_DA_accepts 143 = .ok (.invokevirtual 268, 3) := by decide +kernel
theorem dDA_accepts_146 : decode c_DA_accepts 146 = .ok (.aload_n 0, 1) := by decide +kernel
theorem dDA_accepts_147 : decode c_DA_accepts 147 = .ok (.aload_n 1, 1) := by decide +kernel
theorem dDA_accepts_148 : decode c_DA_accepts 148 = .ok (.aload_n 0, 1) := by decide +kernel
theorem dDA_accepts_149 : decode c_DA_accepts 149 = .ok (.getfield 50, 3) := by decide +kernel
theorem dDA_accepts_152 : decode c_DA_accepts 152 = .ok (.iload 7, 2) := by decide +kernel
theorem dDA_accepts_154 : decode c_DA_accepts 154 = .ok (.aaload, 1) := by decide +kernel
theorem dDA_accepts_155 : decode c_DA_accepts 155 = .ok (.iload 6, 2) := by decide +kernel
theorem dDA_accepts_157 : decode c_DA_accepts 157 = .ok (.iload 8, 2) := by decide +kernel
theorem dDA_accepts_159 : decode c_DA_accepts 159 = .ok (.invokevirtual 272, 3) := by decide +kernel
theorem dDA_accepts_162 : decode c_DA_accepts 162 = .ok (.aload_n 0, 1) := by decide +kernel
theorem dDA_accepts_163 : decode c_DA_accepts 163 = .ok (.aload_n 1, 1) := by decide +kernel
theorem dDA_accepts_164 : decode c_DA_accepts 164 = .ok (.invokevirtual 216, 3) := by decide +kernel
theorem dDA_accepts_167 : decode c_DA_accepts 167 = .ok (.iload 8, 2) := by decide +kernel
theorem dDA_accepts_169 : decode c_DA_accepts 169 = .ok (.istore 6, 2) := by decide +kernel
theorem dDA_accepts_171 : decode c_DA_accepts 171 = .ok (.iinc 7 1, 3) := by decide +kernel
theorem dDA_accepts_174 : decode c_DA_accepts 174 = .ok (.goto (-63), 3) := by decide +kernel
theorem dDA_accepts_177 : decode c_DA_accepts 177 = .ok (.aload_n 0, 1) := by decide +kernel
theorem dDA_accepts_178 : decode c_DA_accepts 178 = .ok (.getfield 10, 3) := by decide +kernel
theorem dDA_accepts_181 : decode c_DA_accepts 181 = .ok (.invokevirtual 99, 3) := by decide +kernel
theorem dDA_accepts_184 : decode c_DA_accepts 184 = .ok (.aload_n 0, 1) := by decide +kernel
theorem dDA_accepts_185 : decode c_DA_accepts 185 = .ok (.getfield 10, 3) := by decide +kernel
theorem dDA_accepts_188 : decode c_DA_accepts 188 = .ok (.aload_n 0, 1) := by decide +kernel
theorem dDA_accepts_189 : decode c_DA_accepts 189 = .ok (.getfield 70, 3) := by decide +kernel
theorem dDA_accepts_192 : decode c_DA_accepts 192 = .ok (.iconst 0, 1) := by decide +kernel
theorem dDA_accepts_193 : decode c_DA_accepts 193 = .ok (.aload_n 1, 1) := by decide +kernel
theorem dDA_accepts_194 : decode c_DA_accepts 194 = .ok (.getfield 220, 3) := by decide +kernel
theorem dDA_accepts_197 : decode c_DA_accepts 197 = .ok (.invokevirtual 102, 3) := by decide +kernel
theorem dDA_accepts_200 : decode c_DA_accepts 200 = .ok (.aload_n 0, 1) := by decide +kernel
theorem dDA_accepts_201 : decode c_DA_accepts 201 = .ok (.aload_n 1, 1) := by decide +kernel
theorem dDA_accepts_202 : decode c_DA_accepts 202 = .ok (.invokevirtual 276, 3) := by decide +kernel
theorem dDA_accepts_205 : decode c_DA_accepts 205 = .ok (.ireturn, 1) := by decide +kernel
set_option maxHeartbeats 400000 in
set_option maxRecDepth 100000 in
theorem t_DA_hintsAreInForm_0 (l : Launch) (g : Gd) (sz : Nat) (T : Ty) (xs : List Nat) (pl : va_W) (hO : okx g T xs pl) (hU : uni T) (hc0 : clo T xs 0) (hints : Nat) (h0 st : Nat) (fh : Nat → Int32) (k_hints : T hints = some (8, 84)) (k_h0 : T h0 = some (15, 0)) (k_st : T st = some (43, 0))  : Met l y_DA_hintsAreInForm w_DA_hintsAreInForm ({ frames := 0, cells := 0, slots := 0, locals := 0 } : Room) (va_Pc [.ref h0, .ref st] (pr (en g) g.1 vcl sz ([(hints, .inl (g.2.1 1, 84, .inl fh))] ++ pl))) (va_Qi (fun (r : Int32) (u : va_W) => (r = nI 0 ∨ hgood 80 4 fh) ∧ okx g T xs u) (po g.1 vcl (va_A ([(hints, .inl (g.2.1 1, 84, .inl fh))] ++ pl) sz) (fun (u : va_W) => [(hints, .inl (g.2.1 1, 84, .inl fh))] ++ u)) (va_A ([(hints, .inl (g.2.1 1, 84, .inl fh))] ++ pl) sz)) 0 0 (va_A ([(hints, .inl (g.2.1 1, 84, .inl fh))] ++ pl) sz) := by
  refine mc_entry (cc := c_DA_hintsAreInForm) (maxL := 6) (ret := (some .boolean)) (by decide) rfl (Nat.le_of_ble_eq_true rfl) ?_
  intro p e s m args below meth c ls F hr hlk hnm hsz hP hD hE hA hl
  obtain ⟨hx, hb, hml, hown, hts⟩ := id F
  have hK := hE.1
  generalize va_A ([(hints, .inl (g.2.1 1, 84, .inl fh))] ++ pl) sz = A at hD hE hA ⊢
  have hS : va_S A s.heap s.heap [] := va_S.rf
  have hl : lv_has ls 6 [(0, .ref h0), (1, .ref st)] := hl
  refine lv_iconst (v := nI 0) hx hb dDA_hintsAreInForm_0 (by decide) ?_
  refine lv_istore_n (lv' := [(2, .int (nI 0)), (0, .ref h0), (1, .ref st)]) hx hb dDA_hintsAreInForm_1 rfl hl (by decide) rfl (fun ls hl => ?_)
  refine lv_iconst (v := nI 0) hx hb dDA_hintsAreInForm_2 (by decide) ?_
  refine lv_istore_n (lv' := [(3, .int (nI 0)), (2, .int (nI 0)), (0, .ref h0), (1, .ref st)]) hx hb dDA_hintsAreInForm_3 rfl hl (by decide) rfl (fun ls hl => ?_)
  have lp21 : ∀ (n21 : Nat) (i21 : Nat) (fs21 : Nat) (pl : va_W) (ls : Array Slot) (H : Heap) (locs : List Loc), n21 + i21 = 4 → (fs21 ≤ 80) → (hgood 80 i21 fh) → lv_has ls 6 [(3, .int (nI i21)), (2, .int (nI fs21)), (0, .ref h0), (1, .ref st)] → okx g T xs pl → va_P g.1 vcl ([(hints, .inl (g.2.1 1, 84, .inl fh))] ++ pl) H → va_D A ([(hints, .inl (g.2.1 1, 84, .inl fh))] ++ pl) → va_S A s.heap H locs → W p l e ({ frames := 0, cells := 0, slots := 0, locals := 0 } : Room) s m args below meth c H locs 0 0 (MQ below (va_Qi (fun (r : Int32) (u : va_W) => (r = nI 0 ∨ hgood 80 4 fh) ∧ okx g T xs u) (po g.1 vcl A (fun (u : va_W) => [(hints, .inl (g.2.1 1, 84, .inl fh))] ++ u)) A) args s 0 0 A) (F0 m 4 ls []) := by
    intro n21
    induction n21 with
    | zero =>
      intro i21 fs21 pl ls H locs hm21 hi21 hgd hl hO hP hD hS
      refine lv_iload_n hx hb dDA_hintsAreInForm_4 rfl (lv_at hl 0 rfl) ?_
      refine lv_aload_n hx hb dDA_hintsAreInForm_5 rfl (lv_at hl 3 rfl) ?_
      refine ty_get (ci := 2) (C := "LatticeKeys$DsaSet") (TT := T_DS) (N := 17) (kd := (43, 0)) hx hb hts (wg_ft i_DS) hown hK hO k_st (nxg hc0 k_st rfl) hP (fun _ h9 => h9) rfl 0 (by decide) (hts _ (wg_t kw_302)) (fun _ h9 => h9) (cd := (1, 0, 4)) rfl dDA_hintsAreInForm_6 (fun v21 hv21 => ?_)
      obtain rfl := (show v21 = .int (nI 4) from hv21)
      refine mi_ge (tgt := 102) hx hb dDA_hintsAreInForm_9 (by decide) (by omega) (by omega) (fun h21 => ?_) (fun h21 => absurd h21 (by omega))
      refine lv_iload_n hx hb dDA_hintsAreInForm_102 rfl (lv_at hl 1 rfl) ?_
      refine lv_istore_n (lv' := [(3, .int (nI fs21)), (2, .int (nI fs21)), (0, .ref h0), (1, .ref st)]) hx hb dDA_hintsAreInForm_103 rfl hl (by decide) rfl (fun ls hl => ?_)
      have lp22 : ∀ (n22 : Nat) (i22 : Nat) (pl : va_W) (ls : Array Slot) (H : Heap) (locs : List Loc), n22 + i22 = 80 → (fs21 ≤ i22) → lv_has ls 6 [(3, .int (nI i22)), (0, .ref h0), (1, .ref st)] → okx g T xs pl → va_P g.1 vcl ([(hints, .inl (g.2.1 1, 84, .inl fh))] ++ pl) H → va_D A ([(hints, .inl (g.2.1 1, 84, .inl fh))] ++ pl) → va_S A s.heap H locs → W p l e ({ frames := 0, cells := 0, slots := 0, locals := 0 } : Room) s m args below meth c H locs 0 0 (MQ below (va_Qi (fun (r : Int32) (u : va_W) => (r = nI 0 ∨ hgood 80 4 fh) ∧ okx g T xs u) (po g.1 vcl A (fun (u : va_W) => [(hints, .inl (g.2.1 1, 84, .inl fh))] ++ u)) A) args s 0 0 A) (F0 m 104 ls []) := by
        intro n22
        induction n22 with
        | zero =>
          intro i22 pl ls H locs hm22 hi23 hl hO hP hD hS
          refine lv_iload_n hx hb dDA_hintsAreInForm_104 rfl (lv_at hl 0 rfl) ?_
          refine lv_aload_n hx hb dDA_hintsAreInForm_105 rfl (lv_at hl 2 rfl) ?_
          refine ty_get (ci := 2) (C := "LatticeKeys$DsaSet") (TT := T_DS) (N := 17) (kd := (43, 0)) hx hb hts (wg_ft i_DS) hown hK hO k_st (nxg hc0 k_st rfl) hP (fun _ h9 => h9) rfl 11 (by decide) (hts _ (wg_t kw_327)) (fun _ h9 => h9) (cd := (1, 0, 80)) rfl dDA_hintsAreInForm_106 (fun v22 hv22 => ?_)
          obtain rfl := (show v22 = .int (nI 80) from hv22)
          refine mi_ge (tgt := 129) hx hb dDA_hintsAreInForm_109 (by decide) (by omega) (by omega) (fun h22 => ?_) (fun h22 => absurd h22 (by omega))
          refine lv_iconst (v := nI 1) hx hb dDA_hintsAreInForm_129 (by decide) ?_
          exact mp_zret hx hb hr hlk rfl hP hD hS pl ⟨(Or.inr (hg_at hgd (by omega))), hO⟩ [0] rfl rfl rfl (by omega) (by omega) dDA_hintsAreInForm_130
        | succ n22 ih22 =>
          intro i22 pl ls H locs hm22 hi23 hl hO hP hD hS
          refine lv_iload_n hx hb dDA_hintsAreInForm_104 rfl (lv_at hl 0 rfl) ?_
          refine lv_aload_n hx hb dDA_hintsAreInForm_105 rfl (lv_at hl 2 rfl) ?_
          refine ty_get (ci := 2) (C := "LatticeKeys$DsaSet") (TT := T_DS) (N := 17) (kd := (43, 0)) hx hb hts (wg_ft i_DS) hown hK hO k_st (nxg hc0 k_st rfl) hP (fun _ h9 => h9) rfl 11 (by decide) (hts _ (wg_t kw_327)) (fun _ h9 => h9) (cd := (1, 0, 80)) rfl dDA_hintsAreInForm_106 (fun v23 hv23 => ?_)
          obtain rfl := (show v23 = .int (nI 80) from hv23)
          refine mi_ge (tgt := 129) hx hb dDA_hintsAreInForm_109 (by decide) (by omega) (by omega) (fun h23 => absurd h23 (by omega)) (fun h23 => ?_)
          refine lv_aload_n hx hb dDA_hintsAreInForm_112 rfl (lv_at hl 1 rfl) ?_
          refine ty_get (ci := 6) (C := "LatticeKeys$Dsa") (TT := T_DA) (N := 17) (kd := (15, 0)) hx hb hts (wg_ft i_DA) hown hK hO k_h0 (nxg hc0 k_h0 rfl) hP (fun _ h9 => h9) rfl 15 (by decide) (hts _ (wg_t kw_180)) (fun _ h9 => h9) (cd := (3, 8, 84)) rfl dDA_hintsAreInForm_113 (fun v24 hv24 => ?_)
          obtain ⟨r21, rfl, kr21⟩ := (show ∃ r : Nat, v24 = .ref r ∧ T r = some (8, 84) from hv24)
          obtain rfl : hints = r21 := hU _ _ _ (by decide) k_hints kr21
          refine lv_iload_n hx hb dDA_hintsAreInForm_116 rfl (lv_at hl 0 rfl) ?_
          refine ma_bald hx hb hK hP 0 1 rfl rfl (vp_in_nI (by omega) (by decide)) dDA_hintsAreInForm_117 (fun z21 => ?_)
          refine lv_if_eq (tgt := 123) hx hb dDA_hintsAreInForm_118 (by decide) (fun h24 => ?_) (fun h24 => ?_)
          · refine mi_iinc (k := 0) (x := i22) (d := 1) (y := i22 + 1) (lv' := [(3, .int (nI (i22 + 1))), (0, .ref h0), (1, .ref st)]) hx hb dDA_hintsAreInForm_123 hl rfl (by decide) rfl (by decide) rfl (fun ls hl => ?_)
            refine lv_goto (tgt := 104) hx hb dDA_hintsAreInForm_126 (by decide) ?_
            exact ih22 (i22 + 1) pl ls H locs (by omega) (by omega) (lv_sub hl [0, 1, 2] rfl) hO hP hD hS
          · refine lv_iconst (v := nI 0) hx hb dDA_hintsAreInForm_121 (by decide) ?_
            exact mp_zret hx hb hr hlk rfl hP hD hS pl ⟨(Or.inl rfl), hO⟩ [0] rfl rfl rfl (by omega) (by omega) dDA_hintsAreInForm_122
      exact lp22 (80 - fs21) fs21 pl ls _ _ (by omega) (by omega) (lv_sub hl [0, 2, 3] rfl) hO hP hD hS
    | succ n21 ih21 =>
      intro i21 fs21 pl ls H locs hm21 hi21 hgd hl hO hP hD hS
      refine lv_iload_n hx hb dDA_hintsAreInForm_4 rfl (lv_at hl 0 rfl) ?_
      refine lv_aload_n hx hb dDA_hintsAreInForm_5 rfl (lv_at hl 3 rfl) ?_
      refine ty_get (ci := 2) (C := "LatticeKeys$DsaSet") (TT := T_DS) (N := 17) (kd := (43, 0)) hx hb hts (wg_ft i_DS) hown hK hO k_st (nxg hc0 k_st rfl) hP (fun _ h9 => h9) rfl 0 (by decide) (hts _ (wg_t kw_302)) (fun _ h9 => h9) (cd := (1, 0, 4)) rfl dDA_hintsAreInForm_6 (fun v25 hv25 => ?_)
      obtain rfl := (show v25 = .int (nI 4) from hv25)
      refine mi_ge (tgt := 102) hx hb dDA_hintsAreInForm_9 (by decide) (by omega) (by omega) (fun h25 => absurd h25 (by omega)) (fun h25 => ?_)
      refine lv_aload_n hx hb dDA_hintsAreInForm_12 rfl (lv_at hl 2 rfl) ?_
      refine ty_get (ci := 6) (C := "LatticeKeys$Dsa") (TT := T_DA) (N := 17) (kd := (15, 0)) hx hb hts (wg_ft i_DA) hown hK hO k_h0 (nxg hc0 k_h0 rfl) hP (fun _ h9 => h9) rfl 15 (by decide) (hts _ (wg_t kw_180)) (fun _ h9 => h9) (cd := (3, 8, 84)) rfl dDA_hintsAreInForm_13 (fun v26 hv26 => ?_)
      obtain ⟨r22, rfl, kr22⟩ := (show ∃ r : Nat, v26 = .ref r ∧ T r = some (8, 84) from hv26)
      obtain rfl : hints = r22 := hU _ _ _ (by decide) k_hints kr22
      refine lv_aload_n hx hb dDA_hintsAreInForm_16 rfl (lv_at hl 3 rfl) ?_
      refine ty_get (ci := 2) (C := "LatticeKeys$DsaSet") (TT := T_DS) (N := 17) (kd := (43, 0)) hx hb hts (wg_ft i_DS) hown hK hO k_st (nxg hc0 k_st rfl) hP (fun _ h9 => h9) rfl 11 (by decide) (hts _ (wg_t kw_327)) (fun _ h9 => h9) (cd := (1, 0, 80)) rfl dDA_hintsAreInForm_17 (fun v27 hv27 => ?_)
      obtain rfl := (show v27 = .int (nI 80) from hv27)
      refine lv_iload_n hx hb dDA_hintsAreInForm_20 rfl (lv_at hl 0 rfl) ?_
      refine mi_iadd hx hb dDA_hintsAreInForm_21 ?_
      refine va_bald hx hb hK hP 0 1 rfl rfl (vp_in_nI (by omega) (by decide)) dDA_hintsAreInForm_22 ?_
      rw [nI_clamp (show 80 + i21 < 2 ^ 31 by omega)]
      refine lv_sipush (v := nI 255) hx hb dDA_hintsAreInForm_23 (by decide) ?_
      refine mi_iandE hx hb 8 dDA_hintsAreInForm_26 (by decide) (fun z22 hz21 ez21 => ?_)
      have hz21 : z22 < 256 := hz21
      refine lv_istore (lv' := [(4, .int (nI z22)), (3, .int (nI i21)), (2, .int (nI fs21)), (0, .ref h0), (1, .ref st)]) hx hb dDA_hintsAreInForm_27 hl (by decide) rfl (fun ls hl => ?_)
      refine lv_iload hx hb dDA_hintsAreInForm_29 (lv_at hl 0 rfl) ?_
      refine lv_iload_n hx hb dDA_hintsAreInForm_31 rfl (lv_at hl 2 rfl) ?_
      refine mi_lt (tgt := 44) hx hb dDA_hintsAreInForm_32 (by decide) (by omega) (by omega) (fun h26 => ?_) (fun h26 => ?_)
      · refine lv_iconst (v := nI 0) hx hb dDA_hintsAreInForm_44 (by decide) ?_
        exact mp_zret hx hb hr hlk rfl hP hD hS pl ⟨(Or.inl rfl), hO⟩ [0] rfl rfl rfl (by omega) (by omega) dDA_hintsAreInForm_45
      · refine lv_iload hx hb dDA_hintsAreInForm_35 (lv_at hl 0 rfl) ?_
        refine lv_aload_n hx hb dDA_hintsAreInForm_37 rfl (lv_at hl 4 rfl) ?_
        refine ty_get (ci := 2) (C := "LatticeKeys$DsaSet") (TT := T_DS) (N := 17) (kd := (43, 0)) hx hb hts (wg_ft i_DS) hown hK hO k_st (nxg hc0 k_st rfl) hP (fun _ h9 => h9) rfl 11 (by decide) (hts _ (wg_t kw_327)) (fun _ h9 => h9) (cd := (1, 0, 80)) rfl dDA_hintsAreInForm_38 (fun v28 hv28 => ?_)
        obtain rfl := (show v28 = .int (nI 80) from hv28)
        refine mi_le (tgt := 46) hx hb dDA_hintsAreInForm_41 (by decide) (by omega) (by omega) (fun h27 => ?_) (fun h27 => ?_)
        · refine lv_iload_n hx hb dDA_hintsAreInForm_46 rfl (lv_at hl 2 rfl) ?_
          refine lv_iconst (v := nI 1) hx hb dDA_hintsAreInForm_47 (by decide) ?_
          refine mi_iadd hx hb dDA_hintsAreInForm_48 ?_
          refine lv_istore (lv' := [(5, .int (nI (fs21 + 1))), (4, .int (nI z22)), (3, .int (nI i21)), (2, .int (nI fs21)), (0, .ref h0), (1, .ref st)]) hx hb dDA_hintsAreInForm_49 hl (by decide) rfl (fun ls hl => ?_)
          have lp23 : ∀ (n23 : Nat) (kk21 : Nat) (pl : va_W) (ls : Array Slot) (H : Heap) (locs : List Loc), n23 = z22 - kk21 → (1 ≤ kk21) → (kk21 ≤ 85) → lv_has ls 6 [(5, .int (nI kk21)), (4, .int (nI z22)), (3, .int (nI i21)), (0, .ref h0), (1, .ref st)] → okx g T xs pl → va_P g.1 vcl ([(hints, .inl (g.2.1 1, 84, .inl fh))] ++ pl) H → va_D A ([(hints, .inl (g.2.1 1, 84, .inl fh))] ++ pl) → va_S A s.heap H locs → W p l e ({ frames := 0, cells := 0, slots := 0, locals := 0 } : Room) s m args below meth c H locs 0 0 (MQ below (va_Qi (fun (r : Int32) (u : va_W) => (r = nI 0 ∨ hgood 80 4 fh) ∧ okx g T xs u) (po g.1 vcl A (fun (u : va_W) => [(hints, .inl (g.2.1 1, 84, .inl fh))] ++ u)) A) args s 0 0 A) (F0 m 51 ls []) := by
            intro n23
            induction n23 with
            | zero =>
              intro kk21 pl ls H locs hm23 hi24 hi25 hl hO hP hD hS
              refine lv_iload hx hb dDA_hintsAreInForm_51 (lv_at hl 0 rfl) ?_
              refine lv_iload hx hb dDA_hintsAreInForm_53 (lv_at hl 1 rfl) ?_
              refine mi_ge (tgt := 93) hx hb dDA_hintsAreInForm_55 (by decide) (by omega) (by omega) (fun h28 => ?_) (fun h28 => absurd h28 (by omega))
              refine lv_iload hx hb dDA_hintsAreInForm_93 (lv_at hl 1 rfl) ?_
              refine lv_istore_n (lv' := [(2, .int (nI z22)), (5, .int (nI kk21)), (4, .int (nI z22)), (3, .int (nI i21)), (0, .ref h0), (1, .ref st)]) hx hb dDA_hintsAreInForm_95 rfl hl (by decide) rfl (fun ls hl => ?_)
              refine mi_iinc (k := 3) (x := i21) (d := 1) (y := i21 + 1) (lv' := [(3, .int (nI (i21 + 1))), (2, .int (nI z22)), (5, .int (nI kk21)), (4, .int (nI z22)), (0, .ref h0), (1, .ref st)]) hx hb dDA_hintsAreInForm_96 hl rfl (by decide) rfl (by decide) rfl (fun ls hl => ?_)
              refine lv_goto (tgt := 4) hx hb dDA_hintsAreInForm_99 (by decide) ?_
              exact ih21 (i21 + 1) z22 pl ls H locs (by omega) (by omega) (hg_step hgd (by omega) ez21) (lv_sub hl [0, 1, 4, 5] rfl) hO hP hD hS
            | succ n23 ih23 =>
              intro kk21 pl ls H locs hm23 hi24 hi25 hl hO hP hD hS
              refine lv_iload hx hb dDA_hintsAreInForm_51 (lv_at hl 0 rfl) ?_
              refine lv_iload hx hb dDA_hintsAreInForm_53 (lv_at hl 1 rfl) ?_
              refine mi_ge (tgt := 93) hx hb dDA_hintsAreInForm_55 (by decide) (by omega) (by omega) (fun h29 => absurd h29 (by omega)) (fun h29 => ?_)
              refine lv_aload_n hx hb dDA_hintsAreInForm_58 rfl (lv_at hl 3 rfl) ?_
              refine ty_get (ci := 6) (C := "LatticeKeys$Dsa") (TT := T_DA) (N := 17) (kd := (15, 0)) hx hb hts (wg_ft i_DA) hown hK hO k_h0 (nxg hc0 k_h0 rfl) hP (fun _ h9 => h9) rfl 15 (by decide) (hts _ (wg_t kw_180)) (fun _ h9 => h9) (cd := (3, 8, 84)) rfl dDA_hintsAreInForm_59 (fun v29 hv29 => ?_)
              obtain ⟨r23, rfl, kr23⟩ := (show ∃ r : Nat, v29 = .ref r ∧ T r = some (8, 84) from hv29)
              obtain rfl : hints = r23 := hU _ _ _ (by decide) k_hints kr23
              refine lv_iload hx hb dDA_hintsAreInForm_62 (lv_at hl 0 rfl) ?_
              refine lv_iconst (v := nI 1) hx hb dDA_hintsAreInForm_64 (by decide) ?_
              refine mi_isub hx hb dDA_hintsAreInForm_65 (by omega) ?_
              refine ma_bald hx hb hK hP 0 1 rfl rfl (vp_in_nI (by omega) (by decide)) dDA_hintsAreInForm_66 (fun z23 => ?_)
              refine lv_sipush (v := nI 255) hx hb dDA_hintsAreInForm_67 (by decide) ?_
              refine mi_iand hx hb 8 dDA_hintsAreInForm_70 (by decide) (fun z24 hz22 => ?_)
              have hz22 : z24 < 256 := hz22
              refine lv_aload_n hx hb dDA_hintsAreInForm_71 rfl (lv_at hl 3 rfl) ?_
              refine ty_get (ci := 6) (C := "LatticeKeys$Dsa") (TT := T_DA) (N := 17) (kd := (15, 0)) hx hb hts (wg_ft i_DA) hown hK hO k_h0 (nxg hc0 k_h0 rfl) hP (fun _ h9 => h9) rfl 15 (by decide) (hts _ (wg_t kw_180)) (fun _ h9 => h9) (cd := (3, 8, 84)) rfl dDA_hintsAreInForm_72 (fun v30 hv30 => ?_)
              obtain ⟨r24, rfl, kr24⟩ := (show ∃ r : Nat, v30 = .ref r ∧ T r = some (8, 84) from hv30)
              obtain rfl : hints = r24 := hU _ _ _ (by decide) k_hints kr24
              refine lv_iload hx hb dDA_hintsAreInForm_75 (lv_at hl 0 rfl) ?_
              refine ma_bald hx hb hK hP 0 1 rfl rfl (vp_in_nI (by omega) (by decide)) dDA_hintsAreInForm_77 (fun z25 => ?_)
              refine lv_sipush (v := nI 255) hx hb dDA_hintsAreInForm_78 (by decide) ?_
              refine mi_iand hx hb 8 dDA_hintsAreInForm_81 (by decide) (fun z26 hz23 => ?_)
              have hz23 : z26 < 256 := hz23
              refine mi_lt (tgt := 87) hx hb dDA_hintsAreInForm_82 (by decide) (by omega) (by omega) (fun h30 => ?_) (fun h30 => ?_)
              · refine mi_iinc (k := 0) (x := kk21) (d := 1) (y := kk21 + 1) (lv' := [(5, .int (nI (kk21 + 1))), (4, .int (nI z22)), (3, .int (nI i21)), (0, .ref h0), (1, .ref st)]) hx hb dDA_hintsAreInForm_87 hl rfl (by decide) rfl (by decide) rfl (fun ls hl => ?_)
                refine lv_goto (tgt := 51) hx hb dDA_hintsAreInForm_90 (by decide) ?_
                exact ih23 (kk21 + 1) pl ls H locs (by omega) (by omega) (by omega) (lv_sub hl [0, 1, 2, 3, 4] rfl) hO hP hD hS
              · refine lv_iconst (v := nI 0) hx hb dDA_hintsAreInForm_85 (by decide) ?_
                exact mp_zret hx hb hr hlk rfl hP hD hS pl ⟨(Or.inl rfl), hO⟩ [0] rfl rfl rfl (by omega) (by omega) dDA_hintsAreInForm_86
          exact lp23 (z22 - (fs21 + 1)) (fs21 + 1) pl ls _ _ (by omega) (by omega) (by omega) (lv_sub hl [0, 1, 2, 4, 5] rfl) hO hP hD hS
        · refine lv_iconst (v := nI 0) hx hb dDA_hintsAreInForm_44 (by decide) ?_
          exact mp_zret hx hb hr hlk rfl hP hD hS pl ⟨(Or.inl rfl), hO⟩ [0] rfl rfl rfl (by omega) (by omega) dDA_hintsAreInForm_45
  exact lp21 4 0 0 pl ls _ _ (by omega) (by omega) (fun _ h9 => absurd h9 (Nat.not_lt_zero _)) (lv_sub hl [0, 1, 2, 3] rfl) hO hP hD hS
set_option maxHeartbeats 400000 in
set_option maxRecDepth 100000 in
theorem t_DA_hintsAreInForm_1 (l : Launch) (g : Gd) (sz : Nat) (T : Ty) (xs : List Nat) (pl : va_W) (hO : okx g T xs pl) (hU : uni T) (hc0 : clo T xs 0) (hints : Nat) (h0 st : Nat) (fh : Nat → Int32) (k_hints : T hints = some (8, 84)) (k_h0 : T h0 = some (15, 0)) (k_st : T st = some (44, 0))  : Met l y_DA_hintsAreInForm w_DA_hintsAreInForm ({ frames := 0, cells := 0, slots := 0, locals := 0 } : Room) (va_Pc [.ref h0, .ref st] (pr (en g) g.1 vcl sz ([(hints, .inl (g.2.1 1, 84, .inl fh))] ++ pl))) (va_Qi (fun (r : Int32) (u : va_W) => (r = nI 0 ∨ hgood 55 6 fh) ∧ okx g T xs u) (po g.1 vcl (va_A ([(hints, .inl (g.2.1 1, 84, .inl fh))] ++ pl) sz) (fun (u : va_W) => [(hints, .inl (g.2.1 1, 84, .inl fh))] ++ u)) (va_A ([(hints, .inl (g.2.1 1, 84, .inl fh))] ++ pl) sz)) 0 0 (va_A ([(hints, .inl (g.2.1 1, 84, .inl fh))] ++ pl) sz) := by
  refine mc_entry (cc := c_DA_hintsAreInForm) (maxL := 6) (ret := (some .boolean)) (by decide) rfl (Nat.le_of_ble_eq_true rfl) ?_
  intro p e s m args below meth c ls F hr hlk hnm hsz hP hD hE hA hl
  obtain ⟨hx, hb, hml, hown, hts⟩ := id F
  have hK := hE.1
  generalize va_A ([(hints, .inl (g.2.1 1, 84, .inl fh))] ++ pl) sz = A at hD hE hA ⊢
  have hS : va_S A s.heap s.heap [] := va_S.rf
  have hl : lv_has ls 6 [(0, .ref h0), (1, .ref st)] := hl
  refine lv_iconst (v := nI 0) hx hb dDA_hintsAreInForm_0 (by decide) ?_
  refine lv_istore_n (lv' := [(2, .int (nI 0)), (0, .ref h0), (1, .ref st)]) hx hb dDA_hintsAreInForm_1 rfl hl (by decide) rfl (fun ls hl => ?_)
  refine lv_iconst (v := nI 0) hx hb dDA_hintsAreInForm_2 (by decide) ?_
  refine lv_istore_n (lv' := [(3, .int (nI 0)), (2, .int (nI 0)), (0, .ref h0), (1, .ref st)]) hx hb dDA_hintsAreInForm_3 rfl hl (by decide) rfl (fun ls hl => ?_)
  have lp21 : ∀ (n21 : Nat) (i21 : Nat) (fs21 : Nat) (pl : va_W) (ls : Array Slot) (H : Heap) (locs : List Loc), n21 + i21 = 6 → (fs21 ≤ 55) → (hgood 55 i21 fh) → lv_has ls 6 [(3, .int (nI i21)), (2, .int (nI fs21)), (0, .ref h0), (1, .ref st)] → okx g T xs pl → va_P g.1 vcl ([(hints, .inl (g.2.1 1, 84, .inl fh))] ++ pl) H → va_D A ([(hints, .inl (g.2.1 1, 84, .inl fh))] ++ pl) → va_S A s.heap H locs → W p l e ({ frames := 0, cells := 0, slots := 0, locals := 0 } : Room) s m args below meth c H locs 0 0 (MQ below (va_Qi (fun (r : Int32) (u : va_W) => (r = nI 0 ∨ hgood 55 6 fh) ∧ okx g T xs u) (po g.1 vcl A (fun (u : va_W) => [(hints, .inl (g.2.1 1, 84, .inl fh))] ++ u)) A) args s 0 0 A) (F0 m 4 ls []) := by
    intro n21
    induction n21 with
    | zero =>
      intro i21 fs21 pl ls H locs hm21 hi21 hgd hl hO hP hD hS
      refine lv_iload_n hx hb dDA_hintsAreInForm_4 rfl (lv_at hl 0 rfl) ?_
      refine lv_aload_n hx hb dDA_hintsAreInForm_5 rfl (lv_at hl 3 rfl) ?_
      refine ty_get (ci := 2) (C := "LatticeKeys$DsaSet") (TT := T_DS) (N := 17) (kd := (44, 0)) hx hb hts (wg_ft i_DS) hown hK hO k_st (nxg hc0 k_st rfl) hP (fun _ h9 => h9) rfl 0 (by decide) (hts _ (wg_t kw_302)) (fun _ h9 => h9) (cd := (1, 0, 6)) rfl dDA_hintsAreInForm_6 (fun v21 hv21 => ?_)
      obtain rfl := (show v21 = .int (nI 6) from hv21)
      refine mi_ge (tgt := 102) hx hb dDA_hintsAreInForm_9 (by decide) (by omega) (by omega) (fun h21 => ?_) (fun h21 => absurd h21 (by omega))
      refine lv_iload_n hx hb dDA_hintsAreInForm_102 rfl (lv_at hl 1 rfl) ?_
      refine lv_istore_n (lv' := [(3, .int (nI fs21)), (2, .int (nI fs21)), (0, .ref h0), (1, .ref st)]) hx hb dDA_hintsAreInForm_103 rfl hl (by decide) rfl (fun ls hl => ?_)
      have lp22 : ∀ (n22 : Nat) (i22 : Nat) (pl : va_W) (ls : Array Slot) (H : Heap) (locs : List Loc), n22 + i22 = 55 → (fs21 ≤ i22) → lv_has ls 6 [(3, .int (nI i22)), (0, .ref h0), (1, .ref st)] → okx g T xs pl → va_P g.1 vcl ([(hints, .inl (g.2.1 1, 84, .inl fh))] ++ pl) H → va_D A ([(hints, .inl (g.2.1 1, 84, .inl fh))] ++ pl) → va_S A s.heap H locs → W p l e ({ frames := 0, cells := 0, slots := 0, locals := 0 } : Room) s m args below meth c H locs 0 0 (MQ below (va_Qi (fun (r : Int32) (u : va_W) => (r = nI 0 ∨ hgood 55 6 fh) ∧ okx g T xs u) (po g.1 vcl A (fun (u : va_W) => [(hints, .inl (g.2.1 1, 84, .inl fh))] ++ u)) A) args s 0 0 A) (F0 m 104 ls []) := by
        intro n22
        induction n22 with
        | zero =>
          intro i22 pl ls H locs hm22 hi23 hl hO hP hD hS
          refine lv_iload_n hx hb dDA_hintsAreInForm_104 rfl (lv_at hl 0 rfl) ?_
          refine lv_aload_n hx hb dDA_hintsAreInForm_105 rfl (lv_at hl 2 rfl) ?_
          refine ty_get (ci := 2) (C := "LatticeKeys$DsaSet") (TT := T_DS) (N := 17) (kd := (44, 0)) hx hb hts (wg_ft i_DS) hown hK hO k_st (nxg hc0 k_st rfl) hP (fun _ h9 => h9) rfl 11 (by decide) (hts _ (wg_t kw_327)) (fun _ h9 => h9) (cd := (1, 0, 55)) rfl dDA_hintsAreInForm_106 (fun v22 hv22 => ?_)
          obtain rfl := (show v22 = .int (nI 55) from hv22)
          refine mi_ge (tgt := 129) hx hb dDA_hintsAreInForm_109 (by decide) (by omega) (by omega) (fun h22 => ?_) (fun h22 => absurd h22 (by omega))
          refine lv_iconst (v := nI 1) hx hb dDA_hintsAreInForm_129 (by decide) ?_
          exact mp_zret hx hb hr hlk rfl hP hD hS pl ⟨(Or.inr (hg_at hgd (by omega))), hO⟩ [0] rfl rfl rfl (by omega) (by omega) dDA_hintsAreInForm_130
        | succ n22 ih22 =>
          intro i22 pl ls H locs hm22 hi23 hl hO hP hD hS
          refine lv_iload_n hx hb dDA_hintsAreInForm_104 rfl (lv_at hl 0 rfl) ?_
          refine lv_aload_n hx hb dDA_hintsAreInForm_105 rfl (lv_at hl 2 rfl) ?_
          refine ty_get (ci := 2) (C := "LatticeKeys$DsaSet") (TT := T_DS) (N := 17) (kd := (44, 0)) hx hb hts (wg_ft i_DS) hown hK hO k_st (nxg hc0 k_st rfl) hP (fun _ h9 => h9) rfl 11 (by decide) (hts _ (wg_t kw_327)) (fun _ h9 => h9) (cd := (1, 0, 55)) rfl dDA_hintsAreInForm_106 (fun v23 hv23 => ?_)
          obtain rfl := (show v23 = .int (nI 55) from hv23)
          refine mi_ge (tgt := 129) hx hb dDA_hintsAreInForm_109 (by decide) (by omega) (by omega) (fun h23 => absurd h23 (by omega)) (fun h23 => ?_)
          refine lv_aload_n hx hb dDA_hintsAreInForm_112 rfl (lv_at hl 1 rfl) ?_
          refine ty_get (ci := 6) (C := "LatticeKeys$Dsa") (TT := T_DA) (N := 17) (kd := (15, 0)) hx hb hts (wg_ft i_DA) hown hK hO k_h0 (nxg hc0 k_h0 rfl) hP (fun _ h9 => h9) rfl 15 (by decide) (hts _ (wg_t kw_180)) (fun _ h9 => h9) (cd := (3, 8, 84)) rfl dDA_hintsAreInForm_113 (fun v24 hv24 => ?_)
          obtain ⟨r21, rfl, kr21⟩ := (show ∃ r : Nat, v24 = .ref r ∧ T r = some (8, 84) from hv24)
          obtain rfl : hints = r21 := hU _ _ _ (by decide) k_hints kr21
          refine lv_iload_n hx hb dDA_hintsAreInForm_116 rfl (lv_at hl 0 rfl) ?_
          refine ma_bald hx hb hK hP 0 1 rfl rfl (vp_in_nI (by omega) (by decide)) dDA_hintsAreInForm_117 (fun z21 => ?_)
          refine lv_if_eq (tgt := 123) hx hb dDA_hintsAreInForm_118 (by decide) (fun h24 => ?_) (fun h24 => ?_)
          · refine mi_iinc (k := 0) (x := i22) (d := 1) (y := i22 + 1) (lv' := [(3, .int (nI (i22 + 1))), (0, .ref h0), (1, .ref st)]) hx hb dDA_hintsAreInForm_123 hl rfl (by decide) rfl (by decide) rfl (fun ls hl => ?_)
            refine lv_goto (tgt := 104) hx hb dDA_hintsAreInForm_126 (by decide) ?_
            exact ih22 (i22 + 1) pl ls H locs (by omega) (by omega) (lv_sub hl [0, 1, 2] rfl) hO hP hD hS
          · refine lv_iconst (v := nI 0) hx hb dDA_hintsAreInForm_121 (by decide) ?_
            exact mp_zret hx hb hr hlk rfl hP hD hS pl ⟨(Or.inl rfl), hO⟩ [0] rfl rfl rfl (by omega) (by omega) dDA_hintsAreInForm_122
      exact lp22 (55 - fs21) fs21 pl ls _ _ (by omega) (by omega) (lv_sub hl [0, 2, 3] rfl) hO hP hD hS
    | succ n21 ih21 =>
      intro i21 fs21 pl ls H locs hm21 hi21 hgd hl hO hP hD hS
      refine lv_iload_n hx hb dDA_hintsAreInForm_4 rfl (lv_at hl 0 rfl) ?_
      refine lv_aload_n hx hb dDA_hintsAreInForm_5 rfl (lv_at hl 3 rfl) ?_
      refine ty_get (ci := 2) (C := "LatticeKeys$DsaSet") (TT := T_DS) (N := 17) (kd := (44, 0)) hx hb hts (wg_ft i_DS) hown hK hO k_st (nxg hc0 k_st rfl) hP (fun _ h9 => h9) rfl 0 (by decide) (hts _ (wg_t kw_302)) (fun _ h9 => h9) (cd := (1, 0, 6)) rfl dDA_hintsAreInForm_6 (fun v25 hv25 => ?_)
      obtain rfl := (show v25 = .int (nI 6) from hv25)
      refine mi_ge (tgt := 102) hx hb dDA_hintsAreInForm_9 (by decide) (by omega) (by omega) (fun h25 => absurd h25 (by omega)) (fun h25 => ?_)
      refine lv_aload_n hx hb dDA_hintsAreInForm_12 rfl (lv_at hl 2 rfl) ?_
      refine ty_get (ci := 6) (C := "LatticeKeys$Dsa") (TT := T_DA) (N := 17) (kd := (15, 0)) hx hb hts (wg_ft i_DA) hown hK hO k_h0 (nxg hc0 k_h0 rfl) hP (fun _ h9 => h9) rfl 15 (by decide) (hts _ (wg_t kw_180)) (fun _ h9 => h9) (cd := (3, 8, 84)) rfl dDA_hintsAreInForm_13 (fun v26 hv26 => ?_)
      obtain ⟨r22, rfl, kr22⟩ := (show ∃ r : Nat, v26 = .ref r ∧ T r = some (8, 84) from hv26)
      obtain rfl : hints = r22 := hU _ _ _ (by decide) k_hints kr22
      refine lv_aload_n hx hb dDA_hintsAreInForm_16 rfl (lv_at hl 3 rfl) ?_
      refine ty_get (ci := 2) (C := "LatticeKeys$DsaSet") (TT := T_DS) (N := 17) (kd := (44, 0)) hx hb hts (wg_ft i_DS) hown hK hO k_st (nxg hc0 k_st rfl) hP (fun _ h9 => h9) rfl 11 (by decide) (hts _ (wg_t kw_327)) (fun _ h9 => h9) (cd := (1, 0, 55)) rfl dDA_hintsAreInForm_17 (fun v27 hv27 => ?_)
      obtain rfl := (show v27 = .int (nI 55) from hv27)
      refine lv_iload_n hx hb dDA_hintsAreInForm_20 rfl (lv_at hl 0 rfl) ?_
      refine mi_iadd hx hb dDA_hintsAreInForm_21 ?_
      refine va_bald hx hb hK hP 0 1 rfl rfl (vp_in_nI (by omega) (by decide)) dDA_hintsAreInForm_22 ?_
      rw [nI_clamp (show 55 + i21 < 2 ^ 31 by omega)]
      refine lv_sipush (v := nI 255) hx hb dDA_hintsAreInForm_23 (by decide) ?_
      refine mi_iandE hx hb 8 dDA_hintsAreInForm_26 (by decide) (fun z22 hz21 ez21 => ?_)
      have hz21 : z22 < 256 := hz21
      refine lv_istore (lv' := [(4, .int (nI z22)), (3, .int (nI i21)), (2, .int (nI fs21)), (0, .ref h0), (1, .ref st)]) hx hb dDA_hintsAreInForm_27 hl (by decide) rfl (fun ls hl => ?_)
      refine lv_iload hx hb dDA_hintsAreInForm_29 (lv_at hl 0 rfl) ?_
      refine lv_iload_n hx hb dDA_hintsAreInForm_31 rfl (lv_at hl 2 rfl) ?_
      refine mi_lt (tgt := 44) hx hb dDA_hintsAreInForm_32 (by decide) (by omega) (by omega) (fun h26 => ?_) (fun h26 => ?_)
      · refine lv_iconst (v := nI 0) hx hb dDA_hintsAreInForm_44 (by decide) ?_
        exact mp_zret hx hb hr hlk rfl hP hD hS pl ⟨(Or.inl rfl), hO⟩ [0] rfl rfl rfl (by omega) (by omega) dDA_hintsAreInForm_45
      · refine lv_iload hx hb dDA_hintsAreInForm_35 (lv_at hl 0 rfl) ?_
        refine lv_aload_n hx hb dDA_hintsAreInForm_37 rfl (lv_at hl 4 rfl) ?_
        refine ty_get (ci := 2) (C := "LatticeKeys$DsaSet") (TT := T_DS) (N := 17) (kd := (44, 0)) hx hb hts (wg_ft i_DS) hown hK hO k_st (nxg hc0 k_st rfl) hP (fun _ h9 => h9) rfl 11 (by decide) (hts _ (wg_t kw_327)) (fun _ h9 => h9) (cd := (1, 0, 55)) rfl dDA_hintsAreInForm_38 (fun v28 hv28 => ?_)
        obtain rfl := (show v28 = .int (nI 55) from hv28)
        refine mi_le (tgt := 46) hx hb dDA_hintsAreInForm_41 (by decide) (by omega) (by omega) (fun h27 => ?_) (fun h27 => ?_)
        · refine lv_iload_n hx hb dDA_hintsAreInForm_46 rfl (lv_at hl 2 rfl) ?_
          refine lv_iconst (v := nI 1) hx hb dDA_hintsAreInForm_47 (by decide) ?_
          refine mi_iadd hx hb dDA_hintsAreInForm_48 ?_
          refine lv_istore (lv' := [(5, .int (nI (fs21 + 1))), (4, .int (nI z22)), (3, .int (nI i21)), (2, .int (nI fs21)), (0, .ref h0), (1, .ref st)]) hx hb dDA_hintsAreInForm_49 hl (by decide) rfl (fun ls hl => ?_)
          have lp23 : ∀ (n23 : Nat) (kk21 : Nat) (pl : va_W) (ls : Array Slot) (H : Heap) (locs : List Loc), n23 = z22 - kk21 → (1 ≤ kk21) → (kk21 ≤ 85) → lv_has ls 6 [(5, .int (nI kk21)), (4, .int (nI z22)), (3, .int (nI i21)), (0, .ref h0), (1, .ref st)] → okx g T xs pl → va_P g.1 vcl ([(hints, .inl (g.2.1 1, 84, .inl fh))] ++ pl) H → va_D A ([(hints, .inl (g.2.1 1, 84, .inl fh))] ++ pl) → va_S A s.heap H locs → W p l e ({ frames := 0, cells := 0, slots := 0, locals := 0 } : Room) s m args below meth c H locs 0 0 (MQ below (va_Qi (fun (r : Int32) (u : va_W) => (r = nI 0 ∨ hgood 55 6 fh) ∧ okx g T xs u) (po g.1 vcl A (fun (u : va_W) => [(hints, .inl (g.2.1 1, 84, .inl fh))] ++ u)) A) args s 0 0 A) (F0 m 51 ls []) := by
            intro n23
            induction n23 with
            | zero =>
              intro kk21 pl ls H locs hm23 hi24 hi25 hl hO hP hD hS
              refine lv_iload hx hb dDA_hintsAreInForm_51 (lv_at hl 0 rfl) ?_
              refine lv_iload hx hb dDA_hintsAreInForm_53 (lv_at hl 1 rfl) ?_
              refine mi_ge (tgt := 93) hx hb dDA_hintsAreInForm_55 (by decide) (by omega) (by omega) (fun h28 => ?_) (fun h28 => absurd h28 (by omega))
              refine lv_iload hx hb dDA_hintsAreInForm_93 (lv_at hl 1 rfl) ?_
              refine lv_istore_n (lv' := [(2, .int (nI z22)), (5, .int (nI kk21)), (4, .int (nI z22)), (3, .int (nI i21)), (0, .ref h0), (1, .ref st)]) hx hb dDA_hintsAreInForm_95 rfl hl (by decide) rfl (fun ls hl => ?_)
              refine mi_iinc (k := 3) (x := i21) (d := 1) (y := i21 + 1) (lv' := [(3, .int (nI (i21 + 1))), (2, .int (nI z22)), (5, .int (nI kk21)), (4, .int (nI z22)), (0, .ref h0), (1, .ref st)]) hx hb dDA_hintsAreInForm_96 hl rfl (by decide) rfl (by decide) rfl (fun ls hl => ?_)
              refine lv_goto (tgt := 4) hx hb dDA_hintsAreInForm_99 (by decide) ?_
              exact ih21 (i21 + 1) z22 pl ls H locs (by omega) (by omega) (hg_step hgd (by omega) ez21) (lv_sub hl [0, 1, 4, 5] rfl) hO hP hD hS
            | succ n23 ih23 =>
              intro kk21 pl ls H locs hm23 hi24 hi25 hl hO hP hD hS
              refine lv_iload hx hb dDA_hintsAreInForm_51 (lv_at hl 0 rfl) ?_
              refine lv_iload hx hb dDA_hintsAreInForm_53 (lv_at hl 1 rfl) ?_
              refine mi_ge (tgt := 93) hx hb dDA_hintsAreInForm_55 (by decide) (by omega) (by omega) (fun h29 => absurd h29 (by omega)) (fun h29 => ?_)
              refine lv_aload_n hx hb dDA_hintsAreInForm_58 rfl (lv_at hl 3 rfl) ?_
              refine ty_get (ci := 6) (C := "LatticeKeys$Dsa") (TT := T_DA) (N := 17) (kd := (15, 0)) hx hb hts (wg_ft i_DA) hown hK hO k_h0 (nxg hc0 k_h0 rfl) hP (fun _ h9 => h9) rfl 15 (by decide) (hts _ (wg_t kw_180)) (fun _ h9 => h9) (cd := (3, 8, 84)) rfl dDA_hintsAreInForm_59 (fun v29 hv29 => ?_)
              obtain ⟨r23, rfl, kr23⟩ := (show ∃ r : Nat, v29 = .ref r ∧ T r = some (8, 84) from hv29)
              obtain rfl : hints = r23 := hU _ _ _ (by decide) k_hints kr23
              refine lv_iload hx hb dDA_hintsAreInForm_62 (lv_at hl 0 rfl) ?_
              refine lv_iconst (v := nI 1) hx hb dDA_hintsAreInForm_64 (by decide) ?_
              refine mi_isub hx hb dDA_hintsAreInForm_65 (by omega) ?_
              refine ma_bald hx hb hK hP 0 1 rfl rfl (vp_in_nI (by omega) (by decide)) dDA_hintsAreInForm_66 (fun z23 => ?_)
              refine lv_sipush (v := nI 255) hx hb dDA_hintsAreInForm_67 (by decide) ?_
              refine mi_iand hx hb 8 dDA_hintsAreInForm_70 (by decide) (fun z24 hz22 => ?_)
              have hz22 : z24 < 256 := hz22
              refine lv_aload_n hx hb dDA_hintsAreInForm_71 rfl (lv_at hl 3 rfl) ?_
              refine ty_get (ci := 6) (C := "LatticeKeys$Dsa") (TT := T_DA) (N := 17) (kd := (15, 0)) hx hb hts (wg_ft i_DA) hown hK hO k_h0 (nxg hc0 k_h0 rfl) hP (fun _ h9 => h9) rfl 15 (by decide) (hts _ (wg_t kw_180)) (fun _ h9 => h9) (cd := (3, 8, 84)) rfl dDA_hintsAreInForm_72 (fun v30 hv30 => ?_)
              obtain ⟨r24, rfl, kr24⟩ := (show ∃ r : Nat, v30 = .ref r ∧ T r = some (8, 84) from hv30)
              obtain rfl : hints = r24 := hU _ _ _ (by decide) k_hints kr24
              refine lv_iload hx hb dDA_hintsAreInForm_75 (lv_at hl 0 rfl) ?_
              refine ma_bald hx hb hK hP 0 1 rfl rfl (vp_in_nI (by omega) (by decide)) dDA_hintsAreInForm_77 (fun z25 => ?_)
              refine lv_sipush (v := nI 255) hx hb dDA_hintsAreInForm_78 (by decide) ?_
              refine mi_iand hx hb 8 dDA_hintsAreInForm_81 (by decide) (fun z26 hz23 => ?_)
              have hz23 : z26 < 256 := hz23
              refine mi_lt (tgt := 87) hx hb dDA_hintsAreInForm_82 (by decide) (by omega) (by omega) (fun h30 => ?_) (fun h30 => ?_)
              · refine mi_iinc (k := 0) (x := kk21) (d := 1) (y := kk21 + 1) (lv' := [(5, .int (nI (kk21 + 1))), (4, .int (nI z22)), (3, .int (nI i21)), (0, .ref h0), (1, .ref st)]) hx hb dDA_hintsAreInForm_87 hl rfl (by decide) rfl (by decide) rfl (fun ls hl => ?_)
                refine lv_goto (tgt := 51) hx hb dDA_hintsAreInForm_90 (by decide) ?_
                exact ih23 (kk21 + 1) pl ls H locs (by omega) (by omega) (by omega) (lv_sub hl [0, 1, 2, 3, 4] rfl) hO hP hD hS
              · refine lv_iconst (v := nI 0) hx hb dDA_hintsAreInForm_85 (by decide) ?_
                exact mp_zret hx hb hr hlk rfl hP hD hS pl ⟨(Or.inl rfl), hO⟩ [0] rfl rfl rfl (by omega) (by omega) dDA_hintsAreInForm_86
          exact lp23 (z22 - (fs21 + 1)) (fs21 + 1) pl ls _ _ (by omega) (by omega) (by omega) (lv_sub hl [0, 1, 2, 4, 5] rfl) hO hP hD hS
        · refine lv_iconst (v := nI 0) hx hb dDA_hintsAreInForm_44 (by decide) ?_
          exact mp_zret hx hb hr hlk rfl hP hD hS pl ⟨(Or.inl rfl), hO⟩ [0] rfl rfl rfl (by omega) (by omega) dDA_hintsAreInForm_45
  exact lp21 6 0 0 pl ls _ _ (by omega) (by omega) (fun _ h9 => absurd h9 (Nat.not_lt_zero _)) (lv_sub hl [0, 1, 2, 3] rfl) hO hP hD hS
set_option maxHeartbeats 400000 in
set_option maxRecDepth 100000 in
theorem t_DA_hintsAreInForm_2 (l : Launch) (g : Gd) (sz : Nat) (T : Ty) (xs : List Nat) (pl : va_W) (hO : okx g T xs pl) (hU : uni T) (hc0 : clo T xs 0) (hints : Nat) (h0 st : Nat) (fh : Nat → Int32) (k_hints : T hints = some (8, 84)) (k_h0 : T h0 = some (15, 0)) (k_st : T st = some (45, 0))  : Met l y_DA_hintsAreInForm w_DA_hintsAreInForm ({ frames := 0, cells := 0, slots := 0, locals := 0 } : Room) (va_Pc [.ref h0, .ref st] (pr (en g) g.1 vcl sz ([(hints, .inl (g.2.1 1, 84, .inl fh))] ++ pl))) (va_Qi (fun (r : Int32) (u : va_W) => (r = nI 0 ∨ hgood 75 8 fh) ∧ okx g T xs u) (po g.1 vcl (va_A ([(hints, .inl (g.2.1 1, 84, .inl fh))] ++ pl) sz) (fun (u : va_W) => [(hints, .inl (g.2.1 1, 84, .inl fh))] ++ u)) (va_A ([(hints, .inl (g.2.1 1, 84, .inl fh))] ++ pl) sz)) 0 0 (va_A ([(hints, .inl (g.2.1 1, 84, .inl fh))] ++ pl) sz) := by
  refine mc_entry (cc := c_DA_hintsAreInForm) (maxL := 6) (ret := (some .boolean)) (by decide) rfl (Nat.le_of_ble_eq_true rfl) ?_
  intro p e s m args below meth c ls F hr hlk hnm hsz hP hD hE hA hl
  obtain ⟨hx, hb, hml, hown, hts⟩ := id F
  have hK := hE.1
  generalize va_A ([(hints, .inl (g.2.1 1, 84, .inl fh))] ++ pl) sz = A at hD hE hA ⊢
  have hS : va_S A s.heap s.heap [] := va_S.rf
  have hl : lv_has ls 6 [(0, .ref h0), (1, .ref st)] := hl
  refine lv_iconst (v := nI 0) hx hb dDA_hintsAreInForm_0 (by decide) ?_
  refine lv_istore_n (lv' := [(2, .int (nI 0)), (0, .ref h0), (1, .ref st)]) hx hb dDA_hintsAreInForm_1 rfl hl (by decide) rfl (fun ls hl => ?_)
  refine lv_iconst (v := nI 0) hx hb dDA_hintsAreInForm_2 (by decide) ?_
  refine lv_istore_n (lv' := [(3, .int (nI 0)), (2, .int (nI 0)), (0, .ref h0), (1, .ref st)]) hx hb dDA_hintsAreInForm_3 rfl hl (by decide) rfl (fun ls hl => ?_)
  have lp21 : ∀ (n21 : Nat) (i21 : Nat) (fs21 : Nat) (pl : va_W) (ls : Array Slot) (H : Heap) (locs : List Loc), n21 + i21 = 8 → (fs21 ≤ 75) → (hgood 75 i21 fh) → lv_has ls 6 [(3, .int (nI i21)), (2, .int (nI fs21)), (0, .ref h0), (1, .ref st)] → okx g T xs pl → va_P g.1 vcl ([(hints, .inl (g.2.1 1, 84, .inl fh))] ++ pl) H → va_D A ([(hints, .inl (g.2.1 1, 84, .inl fh))] ++ pl) → va_S A s.heap H locs → W p l e ({ frames := 0, cells := 0, slots := 0, locals := 0 } : Room) s m args below meth c H locs 0 0 (MQ below (va_Qi (fun (r : Int32) (u : va_W) => (r = nI 0 ∨ hgood 75 8 fh) ∧ okx g T xs u) (po g.1 vcl A (fun (u : va_W) => [(hints, .inl (g.2.1 1, 84, .inl fh))] ++ u)) A) args s 0 0 A) (F0 m 4 ls []) := by
    intro n21
    induction n21 with
    | zero =>
      intro i21 fs21 pl ls H locs hm21 hi21 hgd hl hO hP hD hS
      refine lv_iload_n hx hb dDA_hintsAreInForm_4 rfl (lv_at hl 0 rfl) ?_
      refine lv_aload_n hx hb dDA_hintsAreInForm_5 rfl (lv_at hl 3 rfl) ?_
      refine ty_get (ci := 2) (C := "LatticeKeys$DsaSet") (TT := T_DS) (N := 17) (kd := (45, 0)) hx hb hts (wg_ft i_DS) hown hK hO k_st (nxg hc0 k_st rfl) hP (fun _ h9 => h9) rfl 0 (by decide) (hts _ (wg_t kw_302)) (fun _ h9 => h9) (cd := (1, 0, 8)) rfl dDA_hintsAreInForm_6 (fun v21 hv21 => ?_)
      obtain rfl := (show v21 = .int (nI 8) from hv21)
      refine mi_ge (tgt := 102) hx hb dDA_hintsAreInForm_9 (by decide) (by omega) (by omega) (fun h21 => ?_) (fun h21 => absurd h21 (by omega))
      refine lv_iload_n hx hb dDA_hintsAreInForm_102 rfl (lv_at hl 1 rfl) ?_
      refine lv_istore_n (lv' := [(3, .int (nI fs21)), (2, .int (nI fs21)), (0, .ref h0), (1, .ref st)]) hx hb dDA_hintsAreInForm_103 rfl hl (by decide) rfl (fun ls hl => ?_)
      have lp22 : ∀ (n22 : Nat) (i22 : Nat) (pl : va_W) (ls : Array Slot) (H : Heap) (locs : List Loc), n22 + i22 = 75 → (fs21 ≤ i22) → lv_has ls 6 [(3, .int (nI i22)), (0, .ref h0), (1, .ref st)] → okx g T xs pl → va_P g.1 vcl ([(hints, .inl (g.2.1 1, 84, .inl fh))] ++ pl) H → va_D A ([(hints, .inl (g.2.1 1, 84, .inl fh))] ++ pl) → va_S A s.heap H locs → W p l e ({ frames := 0, cells := 0, slots := 0, locals := 0 } : Room) s m args below meth c H locs 0 0 (MQ below (va_Qi (fun (r : Int32) (u : va_W) => (r = nI 0 ∨ hgood 75 8 fh) ∧ okx g T xs u) (po g.1 vcl A (fun (u : va_W) => [(hints, .inl (g.2.1 1, 84, .inl fh))] ++ u)) A) args s 0 0 A) (F0 m 104 ls []) := by
        intro n22
        induction n22 with
        | zero =>
          intro i22 pl ls H locs hm22 hi23 hl hO hP hD hS
          refine lv_iload_n hx hb dDA_hintsAreInForm_104 rfl (lv_at hl 0 rfl) ?_
          refine lv_aload_n hx hb dDA_hintsAreInForm_105 rfl (lv_at hl 2 rfl) ?_
          refine ty_get (ci := 2) (C := "LatticeKeys$DsaSet") (TT := T_DS) (N := 17) (kd := (45, 0)) hx hb hts (wg_ft i_DS) hown hK hO k_st (nxg hc0 k_st rfl) hP (fun _ h9 => h9) rfl 11 (by decide) (hts _ (wg_t kw_327)) (fun _ h9 => h9) (cd := (1, 0, 75)) rfl dDA_hintsAreInForm_106 (fun v22 hv22 => ?_)
          obtain rfl := (show v22 = .int (nI 75) from hv22)
          refine mi_ge (tgt := 129) hx hb dDA_hintsAreInForm_109 (by decide) (by omega) (by omega) (fun h22 => ?_) (fun h22 => absurd h22 (by omega))
          refine lv_iconst (v := nI 1) hx hb dDA_hintsAreInForm_129 (by decide) ?_
          exact mp_zret hx hb hr hlk rfl hP hD hS pl ⟨(Or.inr (hg_at hgd (by omega))), hO⟩ [0] rfl rfl rfl (by omega) (by omega) dDA_hintsAreInForm_130
        | succ n22 ih22 =>
          intro i22 pl ls H locs hm22 hi23 hl hO hP hD hS
          refine lv_iload_n hx hb dDA_hintsAreInForm_104 rfl (lv_at hl 0 rfl) ?_
          refine lv_aload_n hx hb dDA_hintsAreInForm_105 rfl (lv_at hl 2 rfl) ?_
          refine ty_get (ci := 2) (C := "LatticeKeys$DsaSet") (TT := T_DS) (N := 17) (kd := (45, 0)) hx hb hts (wg_ft i_DS) hown hK hO k_st (nxg hc0 k_st rfl) hP (fun _ h9 => h9) rfl 11 (by decide) (hts _ (wg_t kw_327)) (fun _ h9 => h9) (cd := (1, 0, 75)) rfl dDA_hintsAreInForm_106 (fun v23 hv23 => ?_)
          obtain rfl := (show v23 = .int (nI 75) from hv23)
          refine mi_ge (tgt := 129) hx hb dDA_hintsAreInForm_109 (by decide) (by omega) (by omega) (fun h23 => absurd h23 (by omega)) (fun h23 => ?_)
          refine lv_aload_n hx hb dDA_hintsAreInForm_112 rfl (lv_at hl 1 rfl) ?_
          refine ty_get (ci := 6) (C := "LatticeKeys$Dsa") (TT := T_DA) (N := 17) (kd := (15, 0)) hx hb hts (wg_ft i_DA) hown hK hO k_h0 (nxg hc0 k_h0 rfl) hP (fun _ h9 => h9) rfl 15 (by decide) (hts _ (wg_t kw_180)) (fun _ h9 => h9) (cd := (3, 8, 84)) rfl dDA_hintsAreInForm_113 (fun v24 hv24 => ?_)
          obtain ⟨r21, rfl, kr21⟩ := (show ∃ r : Nat, v24 = .ref r ∧ T r = some (8, 84) from hv24)
          obtain rfl : hints = r21 := hU _ _ _ (by decide) k_hints kr21
          refine lv_iload_n hx hb dDA_hintsAreInForm_116 rfl (lv_at hl 0 rfl) ?_
          refine ma_bald hx hb hK hP 0 1 rfl rfl (vp_in_nI (by omega) (by decide)) dDA_hintsAreInForm_117 (fun z21 => ?_)
          refine lv_if_eq (tgt := 123) hx hb dDA_hintsAreInForm_118 (by decide) (fun h24 => ?_) (fun h24 => ?_)
          · refine mi_iinc (k := 0) (x := i22) (d := 1) (y := i22 + 1) (lv' := [(3, .int (nI (i22 + 1))), (0, .ref h0), (1, .ref st)]) hx hb dDA_hintsAreInForm_123 hl rfl (by decide) rfl (by decide) rfl (fun ls hl => ?_)
            refine lv_goto (tgt := 104) hx hb dDA_hintsAreInForm_126 (by decide) ?_
            exact ih22 (i22 + 1) pl ls H locs (by omega) (by omega) (lv_sub hl [0, 1, 2] rfl) hO hP hD hS
          · refine lv_iconst (v := nI 0) hx hb dDA_hintsAreInForm_121 (by decide) ?_
            exact mp_zret hx hb hr hlk rfl hP hD hS pl ⟨(Or.inl rfl), hO⟩ [0] rfl rfl rfl (by omega) (by omega) dDA_hintsAreInForm_122
      exact lp22 (75 - fs21) fs21 pl ls _ _ (by omega) (by omega) (lv_sub hl [0, 2, 3] rfl) hO hP hD hS
    | succ n21 ih21 =>
      intro i21 fs21 pl ls H locs hm21 hi21 hgd hl hO hP hD hS
      refine lv_iload_n hx hb dDA_hintsAreInForm_4 rfl (lv_at hl 0 rfl) ?_
      refine lv_aload_n hx hb dDA_hintsAreInForm_5 rfl (lv_at hl 3 rfl) ?_
      refine ty_get (ci := 2) (C := "LatticeKeys$DsaSet") (TT := T_DS) (N := 17) (kd := (45, 0)) hx hb hts (wg_ft i_DS) hown hK hO k_st (nxg hc0 k_st rfl) hP (fun _ h9 => h9) rfl 0 (by decide) (hts _ (wg_t kw_302)) (fun _ h9 => h9) (cd := (1, 0, 8)) rfl dDA_hintsAreInForm_6 (fun v25 hv25 => ?_)
      obtain rfl := (show v25 = .int (nI 8) from hv25)
      refine mi_ge (tgt := 102) hx hb dDA_hintsAreInForm_9 (by decide) (by omega) (by omega) (fun h25 => absurd h25 (by omega)) (fun h25 => ?_)
      refine lv_aload_n hx hb dDA_hintsAreInForm_12 rfl (lv_at hl 2 rfl) ?_
      refine ty_get (ci := 6) (C := "LatticeKeys$Dsa") (TT := T_DA) (N := 17) (kd := (15, 0)) hx hb hts (wg_ft i_DA) hown hK hO k_h0 (nxg hc0 k_h0 rfl) hP (fun _ h9 => h9) rfl 15 (by decide) (hts _ (wg_t kw_180)) (fun _ h9 => h9) (cd := (3, 8, 84)) rfl dDA_hintsAreInForm_13 (fun v26 hv26 => ?_)
      obtain ⟨r22, rfl, kr22⟩ := (show ∃ r : Nat, v26 = .ref r ∧ T r = some (8, 84) from hv26)
      obtain rfl : hints = r22 := hU _ _ _ (by decide) k_hints kr22
      refine lv_aload_n hx hb dDA_hintsAreInForm_16 rfl (lv_at hl 3 rfl) ?_
      refine ty_get (ci := 2) (C := "LatticeKeys$DsaSet") (TT := T_DS) (N := 17) (kd := (45, 0)) hx hb hts (wg_ft i_DS) hown hK hO k_st (nxg hc0 k_st rfl) hP (fun _ h9 => h9) rfl 11 (by decide) (hts _ (wg_t kw_327)) (fun _ h9 => h9) (cd := (1, 0, 75)) rfl dDA_hintsAreInForm_17 (fun v27 hv27 => ?_)
      obtain rfl := (show v27 = .int (nI 75) from hv27)
      refine lv_iload_n hx hb dDA_hintsAreInForm_20 rfl (lv_at hl 0 rfl) ?_
      refine mi_iadd hx hb dDA_hintsAreInForm_21 ?_
      refine va_bald hx hb hK hP 0 1 rfl rfl (vp_in_nI (by omega) (by decide)) dDA_hintsAreInForm_22 ?_
      rw [nI_clamp (show 75 + i21 < 2 ^ 31 by omega)]
      refine lv_sipush (v := nI 255) hx hb dDA_hintsAreInForm_23 (by decide) ?_
      refine mi_iandE hx hb 8 dDA_hintsAreInForm_26 (by decide) (fun z22 hz21 ez21 => ?_)
      have hz21 : z22 < 256 := hz21
      refine lv_istore (lv' := [(4, .int (nI z22)), (3, .int (nI i21)), (2, .int (nI fs21)), (0, .ref h0), (1, .ref st)]) hx hb dDA_hintsAreInForm_27 hl (by decide) rfl (fun ls hl => ?_)
      refine lv_iload hx hb dDA_hintsAreInForm_29 (lv_at hl 0 rfl) ?_
      refine lv_iload_n hx hb dDA_hintsAreInForm_31 rfl (lv_at hl 2 rfl) ?_
      refine mi_lt (tgt := 44) hx hb dDA_hintsAreInForm_32 (by decide) (by omega) (by omega) (fun h26 => ?_) (fun h26 => ?_)
      · refine lv_iconst (v := nI 0) hx hb dDA_hintsAreInForm_44 (by decide) ?_
        exact mp_zret hx hb hr hlk rfl hP hD hS pl ⟨(Or.inl rfl), hO⟩ [0] rfl rfl rfl (by omega) (by omega) dDA_hintsAreInForm_45
      · refine lv_iload hx hb dDA_hintsAreInForm_35 (lv_at hl 0 rfl) ?_
        refine lv_aload_n hx hb dDA_hintsAreInForm_37 rfl (lv_at hl 4 rfl) ?_
        refine ty_get (ci := 2) (C := "LatticeKeys$DsaSet") (TT := T_DS) (N := 17) (kd := (45, 0)) hx hb hts (wg_ft i_DS) hown hK hO k_st (nxg hc0 k_st rfl) hP (fun _ h9 => h9) rfl 11 (by decide) (hts _ (wg_t kw_327)) (fun _ h9 => h9) (cd := (1, 0, 75)) rfl dDA_hintsAreInForm_38 (fun v28 hv28 => ?_)
        obtain rfl := (show v28 = .int (nI 75) from hv28)
        refine mi_le (tgt := 46) hx hb dDA_hintsAreInForm_41 (by decide) (by omega) (by omega) (fun h27 => ?_) (fun h27 => ?_)
        · refine lv_iload_n hx hb dDA_hintsAreInForm_46 rfl (lv_at hl 2 rfl) ?_
          refine lv_iconst (v := nI 1) hx hb dDA_hintsAreInForm_47 (by decide) ?_
          refine mi_iadd hx hb dDA_hintsAreInForm_48 ?_
          refine lv_istore (lv' := [(5, .int (nI (fs21 + 1))), (4, .int (nI z22)), (3, .int (nI i21)), (2, .int (nI fs21)), (0, .ref h0), (1, .ref st)]) hx hb dDA_hintsAreInForm_49 hl (by decide) rfl (fun ls hl => ?_)
          have lp23 : ∀ (n23 : Nat) (kk21 : Nat) (pl : va_W) (ls : Array Slot) (H : Heap) (locs : List Loc), n23 = z22 - kk21 → (1 ≤ kk21) → (kk21 ≤ 85) → lv_has ls 6 [(5, .int (nI kk21)), (4, .int (nI z22)), (3, .int (nI i21)), (0, .ref h0), (1, .ref st)] → okx g T xs pl → va_P g.1 vcl ([(hints, .inl (g.2.1 1, 84, .inl fh))] ++ pl) H → va_D A ([(hints, .inl (g.2.1 1, 84, .inl fh))] ++ pl) → va_S A s.heap H locs → W p l e ({ frames := 0, cells := 0, slots := 0, locals := 0 } : Room) s m args below meth c H locs 0 0 (MQ below (va_Qi (fun (r : Int32) (u : va_W) => (r = nI 0 ∨ hgood 75 8 fh) ∧ okx g T xs u) (po g.1 vcl A (fun (u : va_W) => [(hints, .inl (g.2.1 1, 84, .inl fh))] ++ u)) A) args s 0 0 A) (F0 m 51 ls []) := by
            intro n23
            induction n23 with
            | zero =>
              intro kk21 pl ls H locs hm23 hi24 hi25 hl hO hP hD hS
              refine lv_iload hx hb dDA_hintsAreInForm_51 (lv_at hl 0 rfl) ?_
              refine lv_iload hx hb dDA_hintsAreInForm_53 (lv_at hl 1 rfl) ?_
              refine mi_ge (tgt := 93) hx hb dDA_hintsAreInForm_55 (by decide) (by omega) (by omega) (fun h28 => ?_) (fun h28 => absurd h28 (by omega))
              refine lv_iload hx hb dDA_hintsAreInForm_93 (lv_at hl 1 rfl) ?_
              refine lv_istore_n (lv' := [(2, .int (nI z22)), (5, .int (nI kk21)), (4, .int (nI z22)), (3, .int (nI i21)), (0, .ref h0), (1, .ref st)]) hx hb dDA_hintsAreInForm_95 rfl hl (by decide) rfl (fun ls hl => ?_)
              refine mi_iinc (k := 3) (x := i21) (d := 1) (y := i21 + 1) (lv' := [(3, .int (nI (i21 + 1))), (2, .int (nI z22)), (5, .int (nI kk21)), (4, .int (nI z22)), (0, .ref h0), (1, .ref st)]) hx hb dDA_hintsAreInForm_96 hl rfl (by decide) rfl (by decide) rfl (fun ls hl => ?_)
              refine lv_goto (tgt := 4) hx hb dDA_hintsAreInForm_99 (by decide) ?_
              exact ih21 (i21 + 1) z22 pl ls H locs (by omega) (by omega) (hg_step hgd (by omega) ez21) (lv_sub hl [0, 1, 4, 5] rfl) hO hP hD hS
            | succ n23 ih23 =>
              intro kk21 pl ls H locs hm23 hi24 hi25 hl hO hP hD hS
              refine lv_iload hx hb dDA_hintsAreInForm_51 (lv_at hl 0 rfl) ?_
              refine lv_iload hx hb dDA_hintsAreInForm_53 (lv_at hl 1 rfl) ?_
              refine mi_ge (tgt := 93) hx hb dDA_hintsAreInForm_55 (by decide) (by omega) (by omega) (fun h29 => absurd h29 (by omega)) (fun h29 => ?_)
              refine lv_aload_n hx hb dDA_hintsAreInForm_58 rfl (lv_at hl 3 rfl) ?_
              refine ty_get (ci := 6) (C := "LatticeKeys$Dsa") (TT := T_DA) (N := 17) (kd := (15, 0)) hx hb hts (wg_ft i_DA) hown hK hO k_h0 (nxg hc0 k_h0 rfl) hP (fun _ h9 => h9) rfl 15 (by decide) (hts _ (wg_t kw_180)) (fun _ h9 => h9) (cd := (3, 8, 84)) rfl dDA_hintsAreInForm_59 (fun v29 hv29 => ?_)
              obtain ⟨r23, rfl, kr23⟩ := (show ∃ r : Nat, v29 = .ref r ∧ T r = some (8, 84) from hv29)
              obtain rfl : hints = r23 := hU _ _ _ (by decide) k_hints kr23
              refine lv_iload hx hb dDA_hintsAreInForm_62 (lv_at hl 0 rfl) ?_
              refine lv_iconst (v := nI 1) hx hb dDA_hintsAreInForm_64 (by decide) ?_
              refine mi_isub hx hb dDA_hintsAreInForm_65 (by omega) ?_
              refine ma_bald hx hb hK hP 0 1 rfl rfl (vp_in_nI (by omega) (by decide)) dDA_hintsAreInForm_66 (fun z23 => ?_)
              refine lv_sipush (v := nI 255) hx hb dDA_hintsAreInForm_67 (by decide) ?_
              refine mi_iand hx hb 8 dDA_hintsAreInForm_70 (by decide) (fun z24 hz22 => ?_)
              have hz22 : z24 < 256 := hz22
              refine lv_aload_n hx hb dDA_hintsAreInForm_71 rfl (lv_at hl 3 rfl) ?_
              refine ty_get (ci := 6) (C := "LatticeKeys$Dsa") (TT := T_DA) (N := 17) (kd := (15, 0)) hx hb hts (wg_ft i_DA) hown hK hO k_h0 (nxg hc0 k_h0 rfl) hP (fun _ h9 => h9) rfl 15 (by decide) (hts _ (wg_t kw_180)) (fun _ h9 => h9) (cd := (3, 8, 84)) rfl dDA_hintsAreInForm_72 (fun v30 hv30 => ?_)
              obtain ⟨r24, rfl, kr24⟩ := (show ∃ r : Nat, v30 = .ref r ∧ T r = some (8, 84) from hv30)
              obtain rfl : hints = r24 := hU _ _ _ (by decide) k_hints kr24
              refine lv_iload hx hb dDA_hintsAreInForm_75 (lv_at hl 0 rfl) ?_
              refine ma_bald hx hb hK hP 0 1 rfl rfl (vp_in_nI (by omega) (by decide)) dDA_hintsAreInForm_77 (fun z25 => ?_)
              refine lv_sipush (v := nI 255) hx hb dDA_hintsAreInForm_78 (by decide) ?_
              refine mi_iand hx hb 8 dDA_hintsAreInForm_81 (by decide) (fun z26 hz23 => ?_)
              have hz23 : z26 < 256 := hz23
              refine mi_lt (tgt := 87) hx hb dDA_hintsAreInForm_82 (by decide) (by omega) (by omega) (fun h30 => ?_) (fun h30 => ?_)
              · refine mi_iinc (k := 0) (x := kk21) (d := 1) (y := kk21 + 1) (lv' := [(5, .int (nI (kk21 + 1))), (4, .int (nI z22)), (3, .int (nI i21)), (0, .ref h0), (1, .ref st)]) hx hb dDA_hintsAreInForm_87 hl rfl (by decide) rfl (by decide) rfl (fun ls hl => ?_)
                refine lv_goto (tgt := 51) hx hb dDA_hintsAreInForm_90 (by decide) ?_
                exact ih23 (kk21 + 1) pl ls H locs (by omega) (by omega) (by omega) (lv_sub hl [0, 1, 2, 3, 4] rfl) hO hP hD hS
              · refine lv_iconst (v := nI 0) hx hb dDA_hintsAreInForm_85 (by decide) ?_
                exact mp_zret hx hb hr hlk rfl hP hD hS pl ⟨(Or.inl rfl), hO⟩ [0] rfl rfl rfl (by omega) (by omega) dDA_hintsAreInForm_86
          exact lp23 (z22 - (fs21 + 1)) (fs21 + 1) pl ls _ _ (by omega) (by omega) (by omega) (lv_sub hl [0, 1, 2, 4, 5] rfl) hO hP hD hS
        · refine lv_iconst (v := nI 0) hx hb dDA_hintsAreInForm_44 (by decide) ?_
          exact mp_zret hx hb hr hlk rfl hP hD hS pl ⟨(Or.inl rfl), hO⟩ [0] rfl rfl rfl (by omega) (by omega) dDA_hintsAreInForm_45
  exact lp21 8 0 0 pl ls _ _ (by omega) (by omega) (fun _ h9 => absurd h9 (Nat.not_lt_zero _)) (lv_sub hl [0, 1, 2, 3] rfl) hO hP hD hS
set_option maxHeartbeats 400000 in
set_option maxRecDepth 100000 in
theorem t_DA_readSignature_0 (l : Launch) (g : Gd) (sz : Nat) (T : Ty) (xs : List Nat) (pl : va_W) (hO : okx g T xs pl) (hU : uni T) (hc0 : clo T xs 0) (hints : Nat) (h0 st tp n : Nat) (fh : Nat → Int32) (k_hints : T hints = some (8, 84)) (k_h0 : T h0 = some (15, 0)) (k_st : T st = some (43, 0)) (k_tp : T tp = some (1, n)) (hby : byt fh) (h1 : 2420 ≤ n) (h2 : n < 65536)  : Met l y_DA_readSignature w_DA_readSignature ({ frames := 2, cells := 0, slots := 0, locals := 60 } : Room) (va_Pc [.ref h0, .ref st, .ref tp] (pr (en g) g.1 vcl sz ([(hints, .inl (g.2.1 1, 84, .inl fh))] ++ pl))) (va_Qi (fun (r : Int32) (u : (Nat → Int32) × va_W) => ((r = nI 0 ∨ hgood 80 4 u.1) ∧ byt u.1) ∧ okx g T xs u.2) (po g.1 vcl (va_A ([(hints, .inl (g.2.1 1, 84, .inl fh))] ++ pl) sz) (fun (u : (Nat → Int32) × va_W) => [(hints, .inl (g.2.1 1, 84, .inl (u.1)))] ++ u.2)) (va_A ([(hints, .inl (g.2.1 1, 84, .inl fh))] ++ pl) sz)) 0 0 (va_A ([(hints, .inl (g.2.1 1, 84, .inl fh))] ++ pl) sz) := by
  refine mc_entry (cc := c_DA_readSignature) (maxL := 4) (ret := (some .boolean)) (by decide) rfl (Nat.le_of_ble_eq_true rfl) ?_
  intro p e s m args below meth c ls F hr hlk hnm hsz hP hD hE hA hl
  obtain ⟨hx, hb, hml, hown, hts⟩ := id F
  have hK := hE.1
  generalize va_A ([(hints, .inl (g.2.1 1, 84, .inl fh))] ++ pl) sz = A at hD hE hA ⊢
  have hS : va_S A s.heap s.heap [] := va_S.rf
  have hl : lv_has ls 4 [(0, .ref h0), (1, .ref st), (2, .ref tp)] := hl
  refine lv_aload_n hx hb dDA_readSignature_0 rfl (lv_at hl 2 rfl) ?_
  refine lv_iconst (v := nI 0) hx hb dDA_readSignature_1 (by decide) ?_
  refine lv_aload_n hx hb dDA_readSignature_2 rfl (lv_at hl 0 rfl) ?_
  refine ty_get (ci := 6) (C := "LatticeKeys$Dsa") (TT := T_DA) (N := 17) (kd := (15, 0)) hx hb hts (wg_ft i_DA) hown hK hO k_h0 (nxg hc0 k_h0 rfl) hP (fun _ h9 => h9) rfl 13 (by decide) (hts _ (wg_t kw_178)) (fun _ h9 => h9) (cd := (3, 1, 64)) rfl dDA_readSignature_3 (fun v21 hv21 => ?_)
  obtain ⟨r21, rfl, kr21⟩ := (show ∃ r : Nat, v21 = .ref r ∧ T r = some (1, 64) from hv21)
  refine lv_iconst (v := nI 0) hx hb dDA_readSignature_6 (by decide) ?_
  refine lv_aload_n hx hb dDA_readSignature_7 rfl (lv_at hl 1 rfl) ?_
  refine ty_get (ci := 2) (C := "LatticeKeys$DsaSet") (TT := T_DS) (N := 17) (kd := (43, 0)) hx hb hts (wg_ft i_DS) hown hK hO k_st (nxg hc0 k_st rfl) hP (fun _ h9 => h9) rfl 5 (by decide) (hts _ (wg_t kw_315)) (fun _ h9 => h9) (cd := (1, 0, 32)) rfl dDA_readSignature_8 (fun v22 hv22 => ?_)
  obtain rfl := (show v22 = .int (nI 32) from hv22)
  refine ty_copyb11 hx hb (hml.trans hl.1.symm) hown (hts _ (wg_t kw_674)) (hts _ (wg_t kw_526)) (hts _ (wg_t kw_525)) (hts _ (wg_t kw_19)) hK hO k_tp (nxg hc0 k_tp rfl) kr21 (nxg hc0 kr21 rfl) hP hD hS (sp := 0) (dp := 0) (n := 32) (by omega) (by omega) (by omega) (by decide) (Nat.le_of_ble_eq_true rfl) dDA_readSignature_11 (fun pl H locs hO hP hD hS => ?_)
  refine lv_aload_n hx hb dDA_readSignature_14 rfl (lv_at hl 2 rfl) ?_
  refine lv_aload_n hx hb dDA_readSignature_15 rfl (lv_at hl 1 rfl) ?_
  refine ty_get (ci := 2) (C := "LatticeKeys$DsaSet") (TT := T_DS) (N := 17) (kd := (43, 0)) hx hb hts (wg_ft i_DS) hown hK hO k_st (nxg hc0 k_st rfl) hP (fun _ h9 => h9) rfl 15 (by decide) (hts _ (wg_t kw_335)) (fun _ h9 => h9) (cd := (1, 0, 2336)) rfl dDA_readSignature_16 (fun v23 hv23 => ?_)
  obtain rfl := (show v23 = .int (nI 2336) from hv23)
  refine lv_aload_n hx hb dDA_readSignature_19 rfl (lv_at hl 0 rfl) ?_
  refine ty_get (ci := 6) (C := "LatticeKeys$Dsa") (TT := T_DA) (N := 17) (kd := (15, 0)) hx hb hts (wg_ft i_DA) hown hK hO k_h0 (nxg hc0 k_h0 rfl) hP (fun _ h9 => h9) rfl 15 (by decide) (hts _ (wg_t kw_180)) (fun _ h9 => h9) (cd := (3, 8, 84)) rfl dDA_readSignature_20 (fun v24 hv24 => ?_)
  obtain ⟨r22, rfl, kr22⟩ := (show ∃ r : Nat, v24 = .ref r ∧ T r = some (8, 84) from hv24)
  obtain rfl : hints = r22 := hU _ _ _ (by decide) k_hints kr22
  refine lv_iconst (v := nI 0) hx hb dDA_readSignature_23 (by decide) ?_
  refine lv_aload_n hx hb dDA_readSignature_24 rfl (lv_at hl 1 rfl) ?_
  refine ty_get (ci := 2) (C := "LatticeKeys$DsaSet") (TT := T_DS) (N := 17) (kd := (43, 0)) hx hb hts (wg_ft i_DS) hown hK hO k_st (nxg hc0 k_st rfl) hP (fun _ h9 => h9) rfl 11 (by decide) (hts _ (wg_t kw_327)) (fun _ h9 => h9) (cd := (1, 0, 80)) rfl dDA_readSignature_25 (fun v25 hv25 => ?_)
  obtain rfl := (show v25 = .int (nI 80) from hv25)
  refine lv_aload_n hx hb dDA_readSignature_28 rfl (lv_at hl 1 rfl) ?_
  refine ty_get (ci := 2) (C := "LatticeKeys$DsaSet") (TT := T_DS) (N := 17) (kd := (43, 0)) hx hb hts (wg_ft i_DS) hown hK hO k_st (nxg hc0 k_st rfl) hP (fun _ h9 => h9) rfl 0 (by decide) (hts _ (wg_t kw_302)) (fun _ h9 => h9) (cd := (1, 0, 4)) rfl dDA_readSignature_29 (fun v26 hv26 => ?_)
  obtain rfl := (show v26 = .int (nI 4) from hv26)
  refine mi_iadd hx hb dDA_readSignature_32 ?_
  refine mi_as (show nI (80 + 4) = nI 84 from rfl) ?_
  refine ty_copyx hx hb (hml.trans hl.1.symm) hown (hts _ (wg_t kw_674)) (hts _ (wg_t kw_526)) (hts _ (wg_t kw_525)) (hts _ (wg_t kw_19)) hK hO k_tp (nxg hc0 k_tp rfl) hP hD hS (q1 := 0) (g1 := fh) rfl (sp := 2336) (dp := 0) (n := 84) (by omega) (by omega) (by omega) hby (by decide) (Nat.le_of_ble_eq_true rfl) dDA_readSignature_33 (fun fh21 H locs hby21 hP hD hS => ?_)
  have hP : va_P g.1 vcl ([(hints, .inl (g.2.1 1, 84, .inl fh21))] ++ pl) _ := hP
  have hD : va_D _ ([(hints, .inl (g.2.1 1, 84, .inl fh21))] ++ pl) := hD
  refine lv_aload_n hx hb dDA_readSignature_36 rfl (lv_at hl 0 rfl) ?_
  refine lv_aload_n hx hb dDA_readSignature_37 rfl (lv_at hl 1 rfl) ?_
  refine mp_i (cx := [(hints, .inl (g.2.1 1, 84, .inl fh21))]) (wr := []) hP hD hS hA [0] [] rfl rfl rfl (by decide) (va_runV (As := [.ref st]) (rest := []) F (t_DA_hintsAreInForm_0 l g _ T xs pl hO hU hc0 hints h0 st fh21 k_hints k_h0 k_st) (cwV 1 hts (wg_app (wg_c kw_1269 (wg_c kw_1271 (wg_c ks_46 (wg_c kw_5 wg_n)))) kw_1272) rfl rfl rfl (by decide +kernel) ⟨by decide, by decide⟩) (pp_VT (en_ok g) (ci := 6) (kd := (15, 0)) hK hO k_h0 (nxg hc0 k_h0 rfl) (fun _ h9 => ko1 h9) hP hD hS hA hE [0] rfl rfl rfl) rfl rfl hl.1 rfl (lv_room (Nat.le_of_ble_eq_true rfl)) dDA_readSignature_38 ⟨by omega, by omega⟩) (fun r23 pl H locs hu21 hP hD hS => ?_)
  obtain ⟨hq21, hO⟩ := hu21
  have hP : va_P g.1 vcl ([(hints, .inl (g.2.1 1, 84, .inl fh21))] ++ pl) _ := hP
  have hD : va_D _ ([(hints, .inl (g.2.1 1, 84, .inl fh21))] ++ pl) := hD
  refine W.widen (k := 0) (n := 0) (by omega) (by omega) ?_
  refine lv_if_ne (tgt := 46) hx hb dDA_readSignature_41 (by decide) (fun h21 => ?_) (fun h21 => ?_)
  · have hgd := hq21.resolve_left h21
    refine lv_iconst (v := nI 0) hx hb dDA_readSignature_46 (by decide) ?_
    refine lv_istore_n (lv' := [(3, .int (nI 0)), (0, .ref h0), (1, .ref st), (2, .ref tp)]) hx hb dDA_readSignature_47 rfl hl (by decide) rfl (fun ls hl => ?_)
    have lp21 : ∀ (n21 : Nat) (i21 : Nat) (pl : va_W) (ls : Array Slot) (H : Heap) (locs : List Loc), n21 + i21 = 4 → lv_has ls 4 [(3, .int (nI i21)), (0, .ref h0), (1, .ref st), (2, .ref tp)] → okx g T xs pl → va_P g.1 vcl ([(hints, .inl (g.2.1 1, 84, .inl fh21))] ++ pl) H → va_D A ([(hints, .inl (g.2.1 1, 84, .inl fh21))] ++ pl) → va_S A s.heap H locs → W p l e ({ frames := 2, cells := 0, slots := 0, locals := 60 } : Room) s m args below meth c H locs 0 0 (MQ below (va_Qi (fun (r : Int32) (u : (Nat → Int32) × va_W) => ((r = nI 0 ∨ hgood 80 4 u.1) ∧ byt u.1) ∧ okx g T xs u.2) (po g.1 vcl A (fun (u : (Nat → Int32) × va_W) => [(hints, .inl (g.2.1 1, 84, .inl (u.1)))] ++ u.2)) A) args s 0 0 A) (F0 m 48 ls []) := by
      intro n21
      induction n21 with
      | zero =>
        intro i21 pl ls H locs hm21  hl hO hP hD hS
        refine lv_iload_n hx hb dDA_readSignature_48 rfl (lv_at hl 0 rfl) ?_
        refine lv_aload_n hx hb dDA_readSignature_49 rfl (lv_at hl 2 rfl) ?_
        refine ty_get (ci := 2) (C := "LatticeKeys$DsaSet") (TT := T_DS) (N := 17) (kd := (43, 0)) hx hb hts (wg_ft i_DS) hown hK hO k_st (nxg hc0 k_st rfl) hP (fun _ h9 => h9) rfl 1 (by decide) (hts _ (wg_t kw_305)) (fun _ h9 => h9) (cd := (1, 0, 4)) rfl dDA_readSignature_50 (fun v27 hv27 => ?_)
        obtain rfl := (show v27 = .int (nI 4) from hv27)
        refine mi_ge (tgt := 122) hx hb dDA_readSignature_53 (by decide) (by omega) (by omega) (fun h22 => ?_) (fun h22 => absurd h22 (by omega))
        refine lv_iconst (v := nI 1) hx hb dDA_readSignature_122 (by decide) ?_
        exact mp_zret hx hb hr hlk rfl hP hD hS (fh21, pl) ⟨⟨Or.inr hgd, hby21⟩, hO⟩ [0] rfl rfl rfl (by omega) (by omega) dDA_readSignature_123
      | succ n21 ih21 =>
        intro i21 pl ls H locs hm21  hl hO hP hD hS
        refine lv_iload_n hx hb dDA_readSignature_48 rfl (lv_at hl 0 rfl) ?_
        refine lv_aload_n hx hb dDA_readSignature_49 rfl (lv_at hl 2 rfl) ?_
        refine ty_get (ci := 2) (C := "LatticeKeys$DsaSet") (TT := T_DS) (N := 17) (kd := (43, 0)) hx hb hts (wg_ft i_DS) hown hK hO k_st (nxg hc0 k_st rfl) hP (fun _ h9 => h9) rfl 1 (by decide) (hts _ (wg_t kw_305)) (fun _ h9 => h9) (cd := (1, 0, 4)) rfl dDA_readSignature_50 (fun v28 hv28 => ?_)
        obtain rfl := (show v28 = .int (nI 4) from hv28)
        refine mi_ge (tgt := 122) hx hb dDA_readSignature_53 (by decide) (by omega) (by omega) (fun h23 => absurd h23 (by omega)) (fun h23 => ?_)
        refine lv_aload_n hx hb dDA_readSignature_56 rfl (lv_at hl 1 rfl) ?_
        refine lv_aload_n hx hb dDA_readSignature_57 rfl (lv_at hl 1 rfl) ?_
        refine ty_get (ci := 6) (C := "LatticeKeys$Dsa") (TT := T_DA) (N := 17) (kd := (15, 0)) hx hb hts (wg_ft i_DA) hown hK hO k_h0 (nxg hc0 k_h0 rfl) hP (fun _ h9 => h9) rfl 7 (by decide) (hts _ (wg_t kw_172)) (fun _ h9 => h9) (cd := (3, 3, 7)) rfl dDA_readSignature_58 (fun v29 hv29 => ?_)
        obtain ⟨r24, rfl, kr23⟩ := (show ∃ r : Nat, v29 = .ref r ∧ T r = some (3, 7) from hv29)
        refine lv_iload_n hx hb dDA_readSignature_61 rfl (lv_at hl 0 rfl) ?_
        refine ty_aald3 hx hb hK hO kr23 (nxg hc0 kr23 rfl) hP (by omega) (by decide) dDA_readSignature_62 (fun r25 kr24 => ?_)
        refine lv_aload_n hx hb dDA_readSignature_63 rfl (lv_at hl 2 rfl) ?_
        refine ty_get (ci := 2) (C := "LatticeKeys$DsaSet") (TT := T_DS) (N := 17) (kd := (43, 0)) hx hb hts (wg_ft i_DS) hown hK hO k_st (nxg hc0 k_st rfl) hP (fun _ h9 => h9) rfl 6 (by decide) (hts _ (wg_t kw_318)) (fun _ h9 => h9) (cd := (1, 0, 18)) rfl dDA_readSignature_64 (fun v30 hv30 => ?_)
        obtain rfl := (show v30 = .int (nI 18) from hv30)
        refine lv_aload_n hx hb dDA_readSignature_67 rfl (lv_at hl 2 rfl) ?_
        refine ty_get (ci := 2) (C := "LatticeKeys$DsaSet") (TT := T_DS) (N := 17) (kd := (43, 0)) hx hb hts (wg_ft i_DS) hown hK hO k_st (nxg hc0 k_st rfl) hP (fun _ h9 => h9) rfl 7 (by decide) (hts _ (wg_t kw_320)) (fun _ h9 => h9) (cd := (1, 0, 131072)) rfl dDA_readSignature_68 (fun v31 hv31 => ?_)
        obtain rfl := (show v31 = .int (nI 131072) from hv31)
        refine lv_aload_n hx hb dDA_readSignature_71 rfl (lv_at hl 3 rfl) ?_
        refine lv_aload_n hx hb dDA_readSignature_72 rfl (lv_at hl 2 rfl) ?_
        refine ty_get (ci := 2) (C := "LatticeKeys$DsaSet") (TT := T_DS) (N := 17) (kd := (43, 0)) hx hb hts (wg_ft i_DS) hown hK hO k_st (nxg hc0 k_st rfl) hP (fun _ h9 => h9) rfl 5 (by decide) (hts _ (wg_t kw_315)) (fun _ h9 => h9) (cd := (1, 0, 32)) rfl dDA_readSignature_73 (fun v32 hv32 => ?_)
        obtain rfl := (show v32 = .int (nI 32) from hv32)
        refine lv_bipush (v := nI 32) hx hb dDA_readSignature_76 (by decide) ?_
        refine lv_aload_n hx hb dDA_readSignature_78 rfl (lv_at hl 2 rfl) ?_
        refine ty_get (ci := 2) (C := "LatticeKeys$DsaSet") (TT := T_DS) (N := 17) (kd := (43, 0)) hx hb hts (wg_ft i_DS) hown hK hO k_st (nxg hc0 k_st rfl) hP (fun _ h9 => h9) rfl 6 (by decide) (hts _ (wg_t kw_318)) (fun _ h9 => h9) (cd := (1, 0, 18)) rfl dDA_readSignature_79 (fun v33 hv33 => ?_)
        obtain rfl := (show v33 = .int (nI 18) from hv33)
        refine mi_imul hx hb dDA_readSignature_82 ?_
        refine mi_as (show nI (32 * 18) = nI 576 from rfl) ?_
        refine lv_iload_n hx hb dDA_readSignature_83 rfl (lv_at hl 0 rfl) ?_
        refine mi_imul hx hb dDA_readSignature_84 ?_
        refine mi_iadd hx hb dDA_readSignature_85 ?_
        refine mp_v (cx := []) (wr := [(hints, .inl (g.2.1 1, 84, .inl fh21))]) hP hD hS hA [] [0] rfl rfl rfl (by decide) (va_runV (As := [.ref r25, .int (nI 18), .int (nI 131072), .ref tp, .int (nI (32 + (576 * i21)))]) (rest := []) F (t_DA_readFlipped l g _ T xs pl hO hU hc0 h0 r25 tp n 18 (32 + (576 * i21)) (nI 131072) k_h0 kr24 k_tp (by omega) (by omega) (by omega)) (cwV 5 hts (wg_app (wg_c kw_1183 (wg_c kw_1185 (wg_c ks_35 (wg_c kw_5 wg_n)))) kw_1186) rfl rfl rfl (by decide +kernel) ⟨by decide, by decide⟩) (pp_VT (en_ok g) (ci := 6) (kd := (15, 0)) hK hO k_h0 (nxg hc0 k_h0 rfl) (fun _ h9 => ko1 h9) hP hD hS hA hE [] rfl rfl rfl) rfl rfl hl.1 rfl (lv_room (Nat.le_of_ble_eq_true rfl)) dDA_readSignature_86 ⟨by omega, by omega⟩) (fun  pl H locs hu22 hP hD hS => ?_)
        obtain ⟨hq22, hO⟩ := hu22
        have hP : va_P g.1 vcl ([(hints, .inl (g.2.1 1, 84, .inl fh21))] ++ pl) _ := hP
        have hD : va_D _ ([(hints, .inl (g.2.1 1, 84, .inl fh21))] ++ pl) := hD
        refine W.widen (k := 0) (n := 0) (by omega) (by omega) ?_
        refine lv_aload_n hx hb dDA_readSignature_89 rfl (lv_at hl 1 rfl) ?_
        refine ty_get (ci := 6) (C := "LatticeKeys$Dsa") (TT := T_DA) (N := 17) (kd := (15, 0)) hx hb hts (wg_ft i_DA) hown hK hO k_h0 (nxg hc0 k_h0 rfl) hP (fun _ h9 => h9) rfl 1 (by decide) (hts _ (wg_t kw_166)) (fun _ h9 => h9) (cd := (3, 12, 0)) rfl dDA_readSignature_90 (fun v34 hv34 => ?_)
        obtain ⟨r26, rfl, kr25⟩ := (show ∃ r : Nat, v34 = .ref r ∧ T r = some (12, 0) from hv34)
        refine lv_aload_n hx hb dDA_readSignature_93 rfl (lv_at hl 1 rfl) ?_
        refine ty_get (ci := 6) (C := "LatticeKeys$Dsa") (TT := T_DA) (N := 17) (kd := (15, 0)) hx hb hts (wg_ft i_DA) hown hK hO k_h0 (nxg hc0 k_h0 rfl) hP (fun _ h9 => h9) rfl 7 (by decide) (hts _ (wg_t kw_172)) (fun _ h9 => h9) (cd := (3, 3, 7)) rfl dDA_readSignature_94 (fun v35 hv35 => ?_)
        obtain ⟨r27, rfl, kr26⟩ := (show ∃ r : Nat, v35 = .ref r ∧ T r = some (3, 7) from hv35)
        refine lv_iload_n hx hb dDA_readSignature_97 rfl (lv_at hl 0 rfl) ?_
        refine ty_aald3 hx hb hK hO kr26 (nxg hc0 kr26 rfl) hP (by omega) (by decide) dDA_readSignature_98 (fun r28 kr27 => ?_)
        refine lv_aload_n hx hb dDA_readSignature_99 rfl (lv_at hl 2 rfl) ?_
        refine ty_get (ci := 2) (C := "LatticeKeys$DsaSet") (TT := T_DS) (N := 17) (kd := (43, 0)) hx hb hts (wg_ft i_DS) hown hK hO k_st (nxg hc0 k_st rfl) hP (fun _ h9 => h9) rfl 7 (by decide) (hts _ (wg_t kw_320)) (fun _ h9 => h9) (cd := (1, 0, 131072)) rfl dDA_readSignature_100 (fun v36 hv36 => ?_)
        obtain rfl := (show v36 = .int (nI 131072) from hv36)
        refine lv_aload_n hx hb dDA_readSignature_103 rfl (lv_at hl 2 rfl) ?_
        refine ty_get (ci := 2) (C := "LatticeKeys$DsaSet") (TT := T_DS) (N := 17) (kd := (43, 0)) hx hb hts (wg_ft i_DS) hown hK hO k_st (nxg hc0 k_st rfl) hP (fun _ h9 => h9) rfl 12 (by decide) (hts _ (wg_t kw_329)) (fun _ h9 => h9) (cd := (1, 0, 78)) rfl dDA_readSignature_104 (fun v37 hv37 => ?_)
        obtain rfl := (show v37 = .int (nI 78) from hv37)
        refine mi_isub hx hb dDA_readSignature_107 (by omega) ?_
        refine mi_as (show nI (131072 - 78) = nI 130994 from rfl) ?_
        refine mp_i (cx := []) (wr := [(hints, .inl (g.2.1 1, 84, .inl fh21))]) hP hD hS hA [] [0] rfl rfl rfl (by decide) (va_runV (As := [.ref r28, .int (nI 130994)]) (rest := []) F (t_RG_isShort_12 l g _ T xs pl hO hU hc0 r26 r28 (nI 130994) kr25 kr27) (cwV 2 hts (wg_app (wg_c kw_1228 (wg_c kw_1229 (wg_c kw_1230 (wg_c kw_4 wg_n)))) kw_1231) rfl rfl rfl (by decide +kernel) ⟨by decide, by decide⟩) (pp_VT (en_ok g) (ci := 4) (kd := (12, 0)) hK hO kr25 (nxg hc0 kr25 rfl) (fun _ h9 => ko1 h9) hP hD hS hA hE [] rfl rfl rfl) rfl rfl hl.1 rfl (lv_room (Nat.le_of_ble_eq_true rfl)) dDA_readSignature_108 ⟨by omega, by omega⟩) (fun r29 pl H locs hu23 hP hD hS => ?_)
        obtain ⟨hq23, hO⟩ := hu23
        have hP : va_P g.1 vcl ([(hints, .inl (g.2.1 1, 84, .inl fh21))] ++ pl) _ := hP
        have hD : va_D _ ([(hints, .inl (g.2.1 1, 84, .inl fh21))] ++ pl) := hD
        refine W.widen (k := 0) (n := 0) (by omega) (by omega) ?_
        refine lv_if_ne (tgt := 116) hx hb dDA_readSignature_111 (by decide) (fun h24 => ?_) (fun h24 => ?_)
        · refine mi_iinc (k := 0) (x := i21) (d := 1) (y := i21 + 1) (lv' := [(3, .int (nI (i21 + 1))), (0, .ref h0), (1, .ref st), (2, .ref tp)]) hx hb dDA_readSignature_116 hl rfl (by decide) rfl (by decide) rfl (fun ls hl => ?_)
          refine lv_goto (tgt := 48) hx hb dDA_readSignature_119 (by decide) ?_
          exact ih21 (i21 + 1) pl ls H locs (by omega) (lv_sub hl [0, 1, 2, 3] rfl) hO hP hD hS
        · refine lv_iconst (v := nI 0) hx hb dDA_readSignature_114 (by decide) ?_
          exact mp_zret hx hb hr hlk rfl hP hD hS (fh21, pl) ⟨⟨Or.inl rfl, hby21⟩, hO⟩ [0] rfl rfl rfl (by omega) (by omega) dDA_readSignature_115
    exact lp21 4 0 pl ls _ _ (by omega) (lv_sub hl [0, 1, 2, 3] rfl) hO hP hD hS
  · refine lv_iconst (v := nI 0) hx hb dDA_readSignature_44 (by decide) ?_
    exact mp_zret hx hb hr hlk rfl hP hD hS (fh21, pl) ⟨⟨Or.inl rfl, hby21⟩, hO⟩ [0] rfl rfl rfl (by omega) (by omega) dDA_readSignature_45
set_option maxHeartbeats 400000 in
set_option maxRecDepth 100000 in
theorem t_DA_readSignature_1 (l : Launch) (g : Gd) (sz : Nat) (T : Ty) (xs : List Nat) (pl : va_W) (hO : okx g T xs pl) (hU : uni T) (hc0 : clo T xs 0) (hints : Nat) (h0 st tp n : Nat) (fh : Nat → Int32) (k_hints : T hints = some (8, 84)) (k_h0 : T h0 = some (15, 0)) (k_st : T st = some (44, 0)) (k_tp : T tp = some (1, n)) (hby : byt fh) (h1 : 3309 ≤ n) (h2 : n < 65536)  : Met l y_DA_readSignature w_DA_readSignature ({ frames := 2, cells := 0, slots := 0, locals := 60 } : Room) (va_Pc [.ref h0, .ref st, .ref tp] (pr (en g) g.1 vcl sz ([(hints, .inl (g.2.1 1, 84, .inl fh))] ++ pl))) (va_Qi (fun (r : Int32) (u : (Nat → Int32) × va_W) => ((r = nI 0 ∨ hgood 55 6 u.1) ∧ byt u.1) ∧ okx g T xs u.2) (po g.1 vcl (va_A ([(hints, .inl (g.2.1 1, 84, .inl fh))] ++ pl) sz) (fun (u : (Nat → Int32) × va_W) => [(hints, .inl (g.2.1 1, 84, .inl (u.1)))] ++ u.2)) (va_A ([(hints, .inl (g.2.1 1, 84, .inl fh))] ++ pl) sz)) 0 0 (va_A ([(hints, .inl (g.2.1 1, 84, .inl fh))] ++ pl) sz) := by
  refine mc_entry (cc := c_DA_readSignature) (maxL := 4) (ret := (some .boolean)) (by decide) rfl (Nat.le_of_ble_eq_true rfl) ?_
  intro p e s m args below meth c ls F hr hlk hnm hsz hP hD hE hA hl
  obtain ⟨hx, hb, hml, hown, hts⟩ := id F
  have hK := hE.1
  generalize va_A ([(hints, .inl (g.2.1 1, 84, .inl fh))] ++ pl) sz = A at hD hE hA ⊢
  have hS : va_S A s.heap s.heap [] := va_S.rf
  have hl : lv_has ls 4 [(0, .ref h0), (1, .ref st), (2, .ref tp)] := hl
  refine lv_aload_n hx hb dDA_readSignature_0 rfl (lv_at hl 2 rfl) ?_
  refine lv_iconst (v := nI 0) hx hb dDA_readSignature_1 (by decide) ?_
  refine lv_aload_n hx hb dDA_readSignature_2 rfl (lv_at hl 0 rfl) ?_
  refine ty_get (ci := 6) (C := "LatticeKeys$Dsa") (TT := T_DA) (N := 17) (kd := (15, 0)) hx hb hts (wg_ft i_DA) hown hK hO k_h0 (nxg hc0 k_h0 rfl) hP (fun _ h9 => h9) rfl 13 (by decide) (hts _ (wg_t kw_178)) (fun _ h9 => h9) (cd := (3, 1, 64)) rfl dDA_readSignature_3 (fun v21 hv21 => ?_)
  obtain ⟨r21, rfl, kr21⟩ := (show ∃ r : Nat, v21 = .ref r ∧ T r = some (1, 64) from hv21)
  refine lv_iconst (v := nI 0) hx hb dDA_readSignature_6 (by decide) ?_
  refine lv_aload_n hx hb dDA_readSignature_7 rfl (lv_at hl 1 rfl) ?_
  refine ty_get (ci := 2) (C := "LatticeKeys$DsaSet") (TT := T_DS) (N := 17) (kd := (44, 0)) hx hb hts (wg_ft i_DS) hown hK hO k_st (nxg hc0 k_st rfl) hP (fun _ h9 => h9) rfl 5 (by decide) (hts _ (wg_t kw_315)) (fun _ h9 => h9) (cd := (1, 0, 48)) rfl dDA_readSignature_8 (fun v22 hv22 => ?_)
  obtain rfl := (show v22 = .int (nI 48) from hv22)
  refine ty_copyb11 hx hb (hml.trans hl.1.symm) hown (hts _ (wg_t kw_674)) (hts _ (wg_t kw_526)) (hts _ (wg_t kw_525)) (hts _ (wg_t kw_19)) hK hO k_tp (nxg hc0 k_tp rfl) kr21 (nxg hc0 kr21 rfl) hP hD hS (sp := 0) (dp := 0) (n := 48) (by omega) (by omega) (by omega) (by decide) (Nat.le_of_ble_eq_true rfl) dDA_readSignature_11 (fun pl H locs hO hP hD hS => ?_)
  refine lv_aload_n hx hb dDA_readSignature_14 rfl (lv_at hl 2 rfl) ?_
  refine lv_aload_n hx hb dDA_readSignature_15 rfl (lv_at hl 1 rfl) ?_
  refine ty_get (ci := 2) (C := "LatticeKeys$DsaSet") (TT := T_DS) (N := 17) (kd := (44, 0)) hx hb hts (wg_ft i_DS) hown hK hO k_st (nxg hc0 k_st rfl) hP (fun _ h9 => h9) rfl 15 (by decide) (hts _ (wg_t kw_335)) (fun _ h9 => h9) (cd := (1, 0, 3248)) rfl dDA_readSignature_16 (fun v23 hv23 => ?_)
  obtain rfl := (show v23 = .int (nI 3248) from hv23)
  refine lv_aload_n hx hb dDA_readSignature_19 rfl (lv_at hl 0 rfl) ?_
  refine ty_get (ci := 6) (C := "LatticeKeys$Dsa") (TT := T_DA) (N := 17) (kd := (15, 0)) hx hb hts (wg_ft i_DA) hown hK hO k_h0 (nxg hc0 k_h0 rfl) hP (fun _ h9 => h9) rfl 15 (by decide) (hts _ (wg_t kw_180)) (fun _ h9 => h9) (cd := (3, 8, 84)) rfl dDA_readSignature_20 (fun v24 hv24 => ?_)
  obtain ⟨r22, rfl, kr22⟩ := (show ∃ r : Nat, v24 = .ref r ∧ T r = some (8, 84) from hv24)
  obtain rfl : hints = r22 := hU _ _ _ (by decide) k_hints kr22
  refine lv_iconst (v := nI 0) hx hb dDA_readSignature_23 (by decide) ?_
  refine lv_aload_n hx hb dDA_readSignature_24 rfl (lv_at hl 1 rfl) ?_
  refine ty_get (ci := 2) (C := "LatticeKeys$DsaSet") (TT := T_DS) (N := 17) (kd := (44, 0)) hx hb hts (wg_ft i_DS) hown hK hO k_st (nxg hc0 k_st rfl) hP (fun _ h9 => h9) rfl 11 (by decide) (hts _ (wg_t kw_327)) (fun _ h9 => h9) (cd := (1, 0, 55)) rfl dDA_readSignature_25 (fun v25 hv25 => ?_)
  obtain rfl := (show v25 = .int (nI 55) from hv25)
  refine lv_aload_n hx hb dDA_readSignature_28 rfl (lv_at hl 1 rfl) ?_
  refine ty_get (ci := 2) (C := "LatticeKeys$DsaSet") (TT := T_DS) (N := 17) (kd := (44, 0)) hx hb hts (wg_ft i_DS) hown hK hO k_st (nxg hc0 k_st rfl) hP (fun _ h9 => h9) rfl 0 (by decide) (hts _ (wg_t kw_302)) (fun _ h9 => h9) (cd := (1, 0, 6)) rfl dDA_readSignature_29 (fun v26 hv26 => ?_)
  obtain rfl := (show v26 = .int (nI 6) from hv26)
  refine mi_iadd hx hb dDA_readSignature_32 ?_
  refine mi_as (show nI (55 + 6) = nI 61 from rfl) ?_
  refine ty_copyx hx hb (hml.trans hl.1.symm) hown (hts _ (wg_t kw_674)) (hts _ (wg_t kw_526)) (hts _ (wg_t kw_525)) (hts _ (wg_t kw_19)) hK hO k_tp (nxg hc0 k_tp rfl) hP hD hS (q1 := 0) (g1 := fh) rfl (sp := 3248) (dp := 0) (n := 61) (by omega) (by omega) (by omega) hby (by decide) (Nat.le_of_ble_eq_true rfl) dDA_readSignature_33 (fun fh21 H locs hby21 hP hD hS => ?_)
  have hP : va_P g.1 vcl ([(hints, .inl (g.2.1 1, 84, .inl fh21))] ++ pl) _ := hP
  have hD : va_D _ ([(hints, .inl (g.2.1 1, 84, .inl fh21))] ++ pl) := hD
  refine lv_aload_n hx hb dDA_readSignature_36 rfl (lv_at hl 0 rfl) ?_
  refine lv_aload_n hx hb dDA_readSignature_37 rfl (lv_at hl 1 rfl) ?_
  refine mp_i (cx := [(hints, .inl (g.2.1 1, 84, .inl fh21))]) (wr := []) hP hD hS hA [0] [] rfl rfl rfl (by decide) (va_runV (As := [.ref st]) (rest := []) F (t_DA_hintsAreInForm_1 l g _ T xs pl hO hU hc0 hints h0 st fh21 k_hints k_h0 k_st) (cwV 1 hts (wg_app (wg_c kw_1269 (wg_c kw_1271 (wg_c ks_46 (wg_c kw_5 wg_n)))) kw_1272) rfl rfl rfl (by decide +kernel) ⟨by decide, by decide⟩) (pp_VT (en_ok g) (ci := 6) (kd := (15, 0)) hK hO k_h0 (nxg hc0 k_h0 rfl) (fun _ h9 => ko1 h9) hP hD hS hA hE [0] rfl rfl rfl) rfl rfl hl.1 rfl (lv_room (Nat.le_of_ble_eq_true rfl)) dDA_readSignature_38 ⟨by omega, by omega⟩) (fun r23 pl H locs hu21 hP hD hS => ?_)
  obtain ⟨hq21, hO⟩ := hu21
  have hP : va_P g.1 vcl ([(hints, .inl (g.2.1 1, 84, .inl fh21))] ++ pl) _ := hP
  have hD : va_D _ ([(hints, .inl (g.2.1 1, 84, .inl fh21))] ++ pl) := hD
  refine W.widen (k := 0) (n := 0) (by omega) (by omega) ?_
  refine lv_if_ne (tgt := 46) hx hb dDA_readSignature_41 (by decide) (fun h21 => ?_) (fun h21 => ?_)
  · have hgd := hq21.resolve_left h21
    refine lv_iconst (v := nI 0) hx hb dDA_readSignature_46 (by decide) ?_
    refine lv_istore_n (lv' := [(3, .int (nI 0)), (0, .ref h0), (1, .ref st), (2, .ref tp)]) hx hb dDA_readSignature_47 rfl hl (by decide) rfl (fun ls hl => ?_)
    have lp21 : ∀ (n21 : Nat) (i21 : Nat) (pl : va_W) (ls : Array Slot) (H : Heap) (locs : List Loc), n21 + i21 = 5 → lv_has ls 4 [(3, .int (nI i21)), (0, .ref h0), (1, .ref st), (2, .ref tp)] → okx g T xs pl → va_P g.1 vcl ([(hints, .inl (g.2.1 1, 84, .inl fh21))] ++ pl) H → va_D A ([(hints, .inl (g.2.1 1, 84, .inl fh21))] ++ pl) → va_S A s.heap H locs → W p l e ({ frames := 2, cells := 0, slots := 0, locals := 60 } : Room) s m args below meth c H locs 0 0 (MQ below (va_Qi (fun (r : Int32) (u : (Nat → Int32) × va_W) => ((r = nI 0 ∨ hgood 55 6 u.1) ∧ byt u.1) ∧ okx g T xs u.2) (po g.1 vcl A (fun (u : (Nat → Int32) × va_W) => [(hints, .inl (g.2.1 1, 84, .inl (u.1)))] ++ u.2)) A) args s 0 0 A) (F0 m 48 ls []) := by
      intro n21
      induction n21 with
      | zero =>
        intro i21 pl ls H locs hm21  hl hO hP hD hS
        refine lv_iload_n hx hb dDA_readSignature_48 rfl (lv_at hl 0 rfl) ?_
        refine lv_aload_n hx hb dDA_readSignature_49 rfl (lv_at hl 2 rfl) ?_
        refine ty_get (ci := 2) (C := "LatticeKeys$DsaSet") (TT := T_DS) (N := 17) (kd := (44, 0)) hx hb hts (wg_ft i_DS) hown hK hO k_st (nxg hc0 k_st rfl) hP (fun _ h9 => h9) rfl 1 (by decide) (hts _ (wg_t kw_305)) (fun _ h9 => h9) (cd := (1, 0, 5)) rfl dDA_readSignature_50 (fun v27 hv27 => ?_)
        obtain rfl := (show v27 = .int (nI 5) from hv27)
        refine mi_ge (tgt := 122) hx hb dDA_readSignature_53 (by decide) (by omega) (by omega) (fun h22 => ?_) (fun h22 => absurd h22 (by omega))
        refine lv_iconst (v := nI 1) hx hb dDA_readSignature_122 (by decide) ?_
        exact mp_zret hx hb hr hlk rfl hP hD hS (fh21, pl) ⟨⟨Or.inr hgd, hby21⟩, hO⟩ [0] rfl rfl rfl (by omega) (by omega) dDA_readSignature_123
      | succ n21 ih21 =>
        intro i21 pl ls H locs hm21  hl hO hP hD hS
        refine lv_iload_n hx hb dDA_readSignature_48 rfl (lv_at hl 0 rfl) ?_
        refine lv_aload_n hx hb dDA_readSignature_49 rfl (lv_at hl 2 rfl) ?_
        refine ty_get (ci := 2) (C := "LatticeKeys$DsaSet") (TT := T_DS) (N := 17) (kd := (44, 0)) hx hb hts (wg_ft i_DS) hown hK hO k_st (nxg hc0 k_st rfl) hP (fun _ h9 => h9) rfl 1 (by decide) (hts _ (wg_t kw_305)) (fun _ h9 => h9) (cd := (1, 0, 5)) rfl dDA_readSignature_50 (fun v28 hv28 => ?_)
        obtain rfl := (show v28 = .int (nI 5) from hv28)
        refine mi_ge (tgt := 122) hx hb dDA_readSignature_53 (by decide) (by omega) (by omega) (fun h23 => absurd h23 (by omega)) (fun h23 => ?_)
        refine lv_aload_n hx hb dDA_readSignature_56 rfl (lv_at hl 1 rfl) ?_
        refine lv_aload_n hx hb dDA_readSignature_57 rfl (lv_at hl 1 rfl) ?_
        refine ty_get (ci := 6) (C := "LatticeKeys$Dsa") (TT := T_DA) (N := 17) (kd := (15, 0)) hx hb hts (wg_ft i_DA) hown hK hO k_h0 (nxg hc0 k_h0 rfl) hP (fun _ h9 => h9) rfl 7 (by decide) (hts _ (wg_t kw_172)) (fun _ h9 => h9) (cd := (3, 3, 7)) rfl dDA_readSignature_58 (fun v29 hv29 => ?_)
        obtain ⟨r24, rfl, kr23⟩ := (show ∃ r : Nat, v29 = .ref r ∧ T r = some (3, 7) from hv29)
        refine lv_iload_n hx hb dDA_readSignature_61 rfl (lv_at hl 0 rfl) ?_
        refine ty_aald3 hx hb hK hO kr23 (nxg hc0 kr23 rfl) hP (by omega) (by decide) dDA_readSignature_62 (fun r25 kr24 => ?_)
        refine lv_aload_n hx hb dDA_readSignature_63 rfl (lv_at hl 2 rfl) ?_
        refine ty_get (ci := 2) (C := "LatticeKeys$DsaSet") (TT := T_DS) (N := 17) (kd := (44, 0)) hx hb hts (wg_ft i_DS) hown hK hO k_st (nxg hc0 k_st rfl) hP (fun _ h9 => h9) rfl 6 (by decide) (hts _ (wg_t kw_318)) (fun _ h9 => h9) (cd := (1, 0, 20)) rfl dDA_readSignature_64 (fun v30 hv30 => ?_)
        obtain rfl := (show v30 = .int (nI 20) from hv30)
        refine lv_aload_n hx hb dDA_readSignature_67 rfl (lv_at hl 2 rfl) ?_
        refine ty_get (ci := 2) (C := "LatticeKeys$DsaSet") (TT := T_DS) (N := 17) (kd := (44, 0)) hx hb hts (wg_ft i_DS) hown hK hO k_st (nxg hc0 k_st rfl) hP (fun _ h9 => h9) rfl 7 (by decide) (hts _ (wg_t kw_320)) (fun _ h9 => h9) (cd := (1, 0, 524288)) rfl dDA_readSignature_68 (fun v31 hv31 => ?_)
        obtain rfl := (show v31 = .int (nI 524288) from hv31)
        refine lv_aload_n hx hb dDA_readSignature_71 rfl (lv_at hl 3 rfl) ?_
        refine lv_aload_n hx hb dDA_readSignature_72 rfl (lv_at hl 2 rfl) ?_
        refine ty_get (ci := 2) (C := "LatticeKeys$DsaSet") (TT := T_DS) (N := 17) (kd := (44, 0)) hx hb hts (wg_ft i_DS) hown hK hO k_st (nxg hc0 k_st rfl) hP (fun _ h9 => h9) rfl 5 (by decide) (hts _ (wg_t kw_315)) (fun _ h9 => h9) (cd := (1, 0, 48)) rfl dDA_readSignature_73 (fun v32 hv32 => ?_)
        obtain rfl := (show v32 = .int (nI 48) from hv32)
        refine lv_bipush (v := nI 32) hx hb dDA_readSignature_76 (by decide) ?_
        refine lv_aload_n hx hb dDA_readSignature_78 rfl (lv_at hl 2 rfl) ?_
        refine ty_get (ci := 2) (C := "LatticeKeys$DsaSet") (TT := T_DS) (N := 17) (kd := (44, 0)) hx hb hts (wg_ft i_DS) hown hK hO k_st (nxg hc0 k_st rfl) hP (fun _ h9 => h9) rfl 6 (by decide) (hts _ (wg_t kw_318)) (fun _ h9 => h9) (cd := (1, 0, 20)) rfl dDA_readSignature_79 (fun v33 hv33 => ?_)
        obtain rfl := (show v33 = .int (nI 20) from hv33)
        refine mi_imul hx hb dDA_readSignature_82 ?_
        refine mi_as (show nI (32 * 20) = nI 640 from rfl) ?_
        refine lv_iload_n hx hb dDA_readSignature_83 rfl (lv_at hl 0 rfl) ?_
        refine mi_imul hx hb dDA_readSignature_84 ?_
        refine mi_iadd hx hb dDA_readSignature_85 ?_
        refine mp_v (cx := []) (wr := [(hints, .inl (g.2.1 1, 84, .inl fh21))]) hP hD hS hA [] [0] rfl rfl rfl (by decide) (va_runV (As := [.ref r25, .int (nI 20), .int (nI 524288), .ref tp, .int (nI (48 + (640 * i21)))]) (rest := []) F (t_DA_readFlipped l g _ T xs pl hO hU hc0 h0 r25 tp n 20 (48 + (640 * i21)) (nI 524288) k_h0 kr24 k_tp (by omega) (by omega) (by omega)) (cwV 5 hts (wg_app (wg_c kw_1183 (wg_c kw_1185 (wg_c ks_35 (wg_c kw_5 wg_n)))) kw_1186) rfl rfl rfl (by decide +kernel) ⟨by decide, by decide⟩) (pp_VT (en_ok g) (ci := 6) (kd := (15, 0)) hK hO k_h0 (nxg hc0 k_h0 rfl) (fun _ h9 => ko1 h9) hP hD hS hA hE [] rfl rfl rfl) rfl rfl hl.1 rfl (lv_room (Nat.le_of_ble_eq_true rfl)) dDA_readSignature_86 ⟨by omega, by omega⟩) (fun  pl H locs hu22 hP hD hS => ?_)
        obtain ⟨hq22, hO⟩ := hu22
        have hP : va_P g.1 vcl ([(hints, .inl (g.2.1 1, 84, .inl fh21))] ++ pl) _ := hP
        have hD : va_D _ ([(hints, .inl (g.2.1 1, 84, .inl fh21))] ++ pl) := hD
        refine W.widen (k := 0) (n := 0) (by omega) (by omega) ?_
        refine lv_aload_n hx hb dDA_readSignature_89 rfl (lv_at hl 1 rfl) ?_
        refine ty_get (ci := 6) (C := "LatticeKeys$Dsa") (TT := T_DA) (N := 17) (kd := (15, 0)) hx hb hts (wg_ft i_DA) hown hK hO k_h0 (nxg hc0 k_h0 rfl) hP (fun _ h9 => h9) rfl 1 (by decide) (hts _ (wg_t kw_166)) (fun _ h9 => h9) (cd := (3, 12, 0)) rfl dDA_readSignature_90 (fun v34 hv34 => ?_)
        obtain ⟨r26, rfl, kr25⟩ := (show ∃ r : Nat, v34 = .ref r ∧ T r = some (12, 0) from hv34)
        refine lv_aload_n hx hb dDA_readSignature_93 rfl (lv_at hl 1 rfl) ?_
        refine ty_get (ci := 6) (C := "LatticeKeys$Dsa") (TT := T_DA) (N := 17) (kd := (15, 0)) hx hb hts (wg_ft i_DA) hown hK hO k_h0 (nxg hc0 k_h0 rfl) hP (fun _ h9 => h9) rfl 7 (by decide) (hts _ (wg_t kw_172)) (fun _ h9 => h9) (cd := (3, 3, 7)) rfl dDA_readSignature_94 (fun v35 hv35 => ?_)
        obtain ⟨r27, rfl, kr26⟩ := (show ∃ r : Nat, v35 = .ref r ∧ T r = some (3, 7) from hv35)
        refine lv_iload_n hx hb dDA_readSignature_97 rfl (lv_at hl 0 rfl) ?_
        refine ty_aald3 hx hb hK hO kr26 (nxg hc0 kr26 rfl) hP (by omega) (by decide) dDA_readSignature_98 (fun r28 kr27 => ?_)
        refine lv_aload_n hx hb dDA_readSignature_99 rfl (lv_at hl 2 rfl) ?_
        refine ty_get (ci := 2) (C := "LatticeKeys$DsaSet") (TT := T_DS) (N := 17) (kd := (44, 0)) hx hb hts (wg_ft i_DS) hown hK hO k_st (nxg hc0 k_st rfl) hP (fun _ h9 => h9) rfl 7 (by decide) (hts _ (wg_t kw_320)) (fun _ h9 => h9) (cd := (1, 0, 524288)) rfl dDA_readSignature_100 (fun v36 hv36 => ?_)
        obtain rfl := (show v36 = .int (nI 524288) from hv36)
        refine lv_aload_n hx hb dDA_readSignature_103 rfl (lv_at hl 2 rfl) ?_
        refine ty_get (ci := 2) (C := "LatticeKeys$DsaSet") (TT := T_DS) (N := 17) (kd := (44, 0)) hx hb hts (wg_ft i_DS) hown hK hO k_st (nxg hc0 k_st rfl) hP (fun _ h9 => h9) rfl 12 (by decide) (hts _ (wg_t kw_329)) (fun _ h9 => h9) (cd := (1, 0, 196)) rfl dDA_readSignature_104 (fun v37 hv37 => ?_)
        obtain rfl := (show v37 = .int (nI 196) from hv37)
        refine mi_isub hx hb dDA_readSignature_107 (by omega) ?_
        refine mi_as (show nI (524288 - 196) = nI 524092 from rfl) ?_
        refine mp_i (cx := []) (wr := [(hints, .inl (g.2.1 1, 84, .inl fh21))]) hP hD hS hA [] [0] rfl rfl rfl (by decide) (va_runV (As := [.ref r28, .int (nI 524092)]) (rest := []) F (t_RG_isShort_12 l g _ T xs pl hO hU hc0 r26 r28 (nI 524092) kr25 kr27) (cwV 2 hts (wg_app (wg_c kw_1228 (wg_c kw_1229 (wg_c kw_1230 (wg_c kw_4 wg_n)))) kw_1231) rfl rfl rfl (by decide +kernel) ⟨by decide, by decide⟩) (pp_VT (en_ok g) (ci := 4) (kd := (12, 0)) hK hO kr25 (nxg hc0 kr25 rfl) (fun _ h9 => ko1 h9) hP hD hS hA hE [] rfl rfl rfl) rfl rfl hl.1 rfl (lv_room (Nat.le_of_ble_eq_true rfl)) dDA_readSignature_108 ⟨by omega, by omega⟩) (fun r29 pl H locs hu23 hP hD hS => ?_)
        obtain ⟨hq23, hO⟩ := hu23
        have hP : va_P g.1 vcl ([(hints, .inl (g.2.1 1, 84, .inl fh21))] ++ pl) _ := hP
        have hD : va_D _ ([(hints, .inl (g.2.1 1, 84, .inl fh21))] ++ pl) := hD
        refine W.widen (k := 0) (n := 0) (by omega) (by omega) ?_
        refine lv_if_ne (tgt := 116) hx hb dDA_readSignature_111 (by decide) (fun h24 => ?_) (fun h24 => ?_)
        · refine mi_iinc (k := 0) (x := i21) (d := 1) (y := i21 + 1) (lv' := [(3, .int (nI (i21 + 1))), (0, .ref h0), (1, .ref st), (2, .ref tp)]) hx hb dDA_readSignature_116 hl rfl (by decide) rfl (by decide) rfl (fun ls hl => ?_)
          refine lv_goto (tgt := 48) hx hb dDA_readSignature_119 (by decide) ?_
          exact ih21 (i21 + 1) pl ls H locs (by omega) (lv_sub hl [0, 1, 2, 3] rfl) hO hP hD hS
        · refine lv_iconst (v := nI 0) hx hb dDA_readSignature_114 (by decide) ?_
          exact mp_zret hx hb hr hlk rfl hP hD hS (fh21, pl) ⟨⟨Or.inl rfl, hby21⟩, hO⟩ [0] rfl rfl rfl (by omega) (by omega) dDA_readSignature_115
    exact lp21 5 0 pl ls _ _ (by omega) (lv_sub hl [0, 1, 2, 3] rfl) hO hP hD hS
  · refine lv_iconst (v := nI 0) hx hb dDA_readSignature_44 (by decide) ?_
    exact mp_zret hx hb hr hlk rfl hP hD hS (fh21, pl) ⟨⟨Or.inl rfl, hby21⟩, hO⟩ [0] rfl rfl rfl (by omega) (by omega) dDA_readSignature_45
set_option maxHeartbeats 400000 in
set_option maxRecDepth 100000 in
theorem t_DA_readSignature_2 (l : Launch) (g : Gd) (sz : Nat) (T : Ty) (xs : List Nat) (pl : va_W) (hO : okx g T xs pl) (hU : uni T) (hc0 : clo T xs 0) (hints : Nat) (h0 st tp n : Nat) (fh : Nat → Int32) (k_hints : T hints = some (8, 84)) (k_h0 : T h0 = some (15, 0)) (k_st : T st = some (45, 0)) (k_tp : T tp = some (1, n)) (hby : byt fh) (h1 : 4627 ≤ n) (h2 : n < 65536)  : Met l y_DA_readSignature w_DA_readSignature ({ frames := 2, cells := 0, slots := 0, locals := 60 } : Room) (va_Pc [.ref h0, .ref st, .ref tp] (pr (en g) g.1 vcl sz ([(hints, .inl (g.2.1 1, 84, .inl fh))] ++ pl))) (va_Qi (fun (r : Int32) (u : (Nat → Int32) × va_W) => ((r = nI 0 ∨ hgood 75 8 u.1) ∧ byt u.1) ∧ okx g T xs u.2) (po g.1 vcl (va_A ([(hints, .inl (g.2.1 1, 84, .inl fh))] ++ pl) sz) (fun (u : (Nat → Int32) × va_W) => [(hints, .inl (g.2.1 1, 84, .inl (u.1)))] ++ u.2)) (va_A ([(hints, .inl (g.2.1 1, 84, .inl fh))] ++ pl) sz)) 0 0 (va_A ([(hints, .inl (g.2.1 1, 84, .inl fh))] ++ pl) sz) := by
  refine mc_entry (cc := c_DA_readSignature) (maxL := 4) (ret := (some .boolean)) (by decide) rfl (Nat.le_of_ble_eq_true rfl) ?_
  intro p e s m args below meth c ls F hr hlk hnm hsz hP hD hE hA hl
  obtain ⟨hx, hb, hml, hown, hts⟩ := id F
  have hK := hE.1
  generalize va_A ([(hints, .inl (g.2.1 1, 84, .inl fh))] ++ pl) sz = A at hD hE hA ⊢
  have hS : va_S A s.heap s.heap [] := va_S.rf
  have hl : lv_has ls 4 [(0, .ref h0), (1, .ref st), (2, .ref tp)] := hl
  refine lv_aload_n hx hb dDA_readSignature_0 rfl (lv_at hl 2 rfl) ?_
  refine lv_iconst (v := nI 0) hx hb dDA_readSignature_1 (by decide) ?_
  refine lv_aload_n hx hb dDA_readSignature_2 rfl (lv_at hl 0 rfl) ?_
  refine ty_get (ci := 6) (C := "LatticeKeys$Dsa") (TT := T_DA) (N := 17) (kd := (15, 0)) hx hb hts (wg_ft i_DA) hown hK hO k_h0 (nxg hc0 k_h0 rfl) hP (fun _ h9 => h9) rfl 13 (by decide) (hts _ (wg_t kw_178)) (fun _ h9 => h9) (cd := (3, 1, 64)) rfl dDA_readSignature_3 (fun v21 hv21 => ?_)
  obtain ⟨r21, rfl, kr21⟩ := (show ∃ r : Nat, v21 = .ref r ∧ T r = some (1, 64) from hv21)
  refine lv_iconst (v := nI 0) hx hb dDA_readSignature_6 (by decide) ?_
  refine lv_aload_n hx hb dDA_readSignature_7 rfl (lv_at hl 1 rfl) ?_
  refine ty_get (ci := 2) (C := "LatticeKeys$DsaSet") (TT := T_DS) (N := 17) (kd := (45, 0)) hx hb hts (wg_ft i_DS) hown hK hO k_st (nxg hc0 k_st rfl) hP (fun _ h9 => h9) rfl 5 (by decide) (hts _ (wg_t kw_315)) (fun _ h9 => h9) (cd := (1, 0, 64)) rfl dDA_readSignature_8 (fun v22 hv22 => ?_)
  obtain rfl := (show v22 = .int (nI 64) from hv22)
  refine ty_copyb11 hx hb (hml.trans hl.1.symm) hown (hts _ (wg_t kw_674)) (hts _ (wg_t kw_526)) (hts _ (wg_t kw_525)) (hts _ (wg_t kw_19)) hK hO k_tp (nxg hc0 k_tp rfl) kr21 (nxg hc0 kr21 rfl) hP hD hS (sp := 0) (dp := 0) (n := 64) (by omega) (by omega) (by omega) (by decide) (Nat.le_of_ble_eq_true rfl) dDA_readSignature_11 (fun pl H locs hO hP hD hS => ?_)
  refine lv_aload_n hx hb dDA_readSignature_14 rfl (lv_at hl 2 rfl) ?_
  refine lv_aload_n hx hb dDA_readSignature_15 rfl (lv_at hl 1 rfl) ?_
  refine ty_get (ci := 2) (C := "LatticeKeys$DsaSet") (TT := T_DS) (N := 17) (kd := (45, 0)) hx hb hts (wg_ft i_DS) hown hK hO k_st (nxg hc0 k_st rfl) hP (fun _ h9 => h9) rfl 15 (by decide) (hts _ (wg_t kw_335)) (fun _ h9 => h9) (cd := (1, 0, 4544)) rfl dDA_readSignature_16 (fun v23 hv23 => ?_)
  obtain rfl := (show v23 = .int (nI 4544) from hv23)
  refine lv_aload_n hx hb dDA_readSignature_19 rfl (lv_at hl 0 rfl) ?_
  refine ty_get (ci := 6) (C := "LatticeKeys$Dsa") (TT := T_DA) (N := 17) (kd := (15, 0)) hx hb hts (wg_ft i_DA) hown hK hO k_h0 (nxg hc0 k_h0 rfl) hP (fun _ h9 => h9) rfl 15 (by decide) (hts _ (wg_t kw_180)) (fun _ h9 => h9) (cd := (3, 8, 84)) rfl dDA_readSignature_20 (fun v24 hv24 => ?_)
  obtain ⟨r22, rfl, kr22⟩ := (show ∃ r : Nat, v24 = .ref r ∧ T r = some (8, 84) from hv24)
  obtain rfl : hints = r22 := hU _ _ _ (by decide) k_hints kr22
  refine lv_iconst (v := nI 0) hx hb dDA_readSignature_23 (by decide) ?_
  refine lv_aload_n hx hb dDA_readSignature_24 rfl (lv_at hl 1 rfl) ?_
  refine ty_get (ci := 2) (C := "LatticeKeys$DsaSet") (TT := T_DS) (N := 17) (kd := (45, 0)) hx hb hts (wg_ft i_DS) hown hK hO k_st (nxg hc0 k_st rfl) hP (fun _ h9 => h9) rfl 11 (by decide) (hts _ (wg_t kw_327)) (fun _ h9 => h9) (cd := (1, 0, 75)) rfl dDA_readSignature_25 (fun v25 hv25 => ?_)
  obtain rfl := (show v25 = .int (nI 75) from hv25)
  refine lv_aload_n hx hb dDA_readSignature_28 rfl (lv_at hl 1 rfl) ?_
  refine ty_get (ci := 2) (C := "LatticeKeys$DsaSet") (TT := T_DS) (N := 17) (kd := (45, 0)) hx hb hts (wg_ft i_DS) hown hK hO k_st (nxg hc0 k_st rfl) hP (fun _ h9 => h9) rfl 0 (by decide) (hts _ (wg_t kw_302)) (fun _ h9 => h9) (cd := (1, 0, 8)) rfl dDA_readSignature_29 (fun v26 hv26 => ?_)
  obtain rfl := (show v26 = .int (nI 8) from hv26)
  refine mi_iadd hx hb dDA_readSignature_32 ?_
  refine mi_as (show nI (75 + 8) = nI 83 from rfl) ?_
  refine ty_copyx hx hb (hml.trans hl.1.symm) hown (hts _ (wg_t kw_674)) (hts _ (wg_t kw_526)) (hts _ (wg_t kw_525)) (hts _ (wg_t kw_19)) hK hO k_tp (nxg hc0 k_tp rfl) hP hD hS (q1 := 0) (g1 := fh) rfl (sp := 4544) (dp := 0) (n := 83) (by omega) (by omega) (by omega) hby (by decide) (Nat.le_of_ble_eq_true rfl) dDA_readSignature_33 (fun fh21 H locs hby21 hP hD hS => ?_)
  have hP : va_P g.1 vcl ([(hints, .inl (g.2.1 1, 84, .inl fh21))] ++ pl) _ := hP
  have hD : va_D _ ([(hints, .inl (g.2.1 1, 84, .inl fh21))] ++ pl) := hD
  refine lv_aload_n hx hb dDA_readSignature_36 rfl (lv_at hl 0 rfl) ?_
  refine lv_aload_n hx hb dDA_readSignature_37 rfl (lv_at hl 1 rfl) ?_
  refine mp_i (cx := [(hints, .inl (g.2.1 1, 84, .inl fh21))]) (wr := []) hP hD hS hA [0] [] rfl rfl rfl (by decide) (va_runV (As := [.ref st]) (rest := []) F (t_DA_hintsAreInForm_2 l g _ T xs pl hO hU hc0 hints h0 st fh21 k_hints k_h0 k_st) (cwV 1 hts (wg_app (wg_c kw_1269 (wg_c kw_1271 (wg_c ks_46 (wg_c kw_5 wg_n)))) kw_1272) rfl rfl rfl (by decide +kernel) ⟨by decide, by decide⟩) (pp_VT (en_ok g) (ci := 6) (kd := (15, 0)) hK hO k_h0 (nxg hc0 k_h0 rfl) (fun _ h9 => ko1 h9) hP hD hS hA hE [0] rfl rfl rfl) rfl rfl hl.1 rfl (lv_room (Nat.le_of_ble_eq_true rfl)) dDA_readSignature_38 ⟨by omega, by omega⟩) (fun r23 pl H locs hu21 hP hD hS => ?_)
  obtain ⟨hq21, hO⟩ := hu21
  have hP : va_P g.1 vcl ([(hints, .inl (g.2.1 1, 84, .inl fh21))] ++ pl) _ := hP
  have hD : va_D _ ([(hints, .inl (g.2.1 1, 84, .inl fh21))] ++ pl) := hD
  refine W.widen (k := 0) (n := 0) (by omega) (by omega) ?_
  refine lv_if_ne (tgt := 46) hx hb dDA_readSignature_41 (by decide) (fun h21 => ?_) (fun h21 => ?_)
  · have hgd := hq21.resolve_left h21
    refine lv_iconst (v := nI 0) hx hb dDA_readSignature_46 (by decide) ?_
    refine lv_istore_n (lv' := [(3, .int (nI 0)), (0, .ref h0), (1, .ref st), (2, .ref tp)]) hx hb dDA_readSignature_47 rfl hl (by decide) rfl (fun ls hl => ?_)
    have lp21 : ∀ (n21 : Nat) (i21 : Nat) (pl : va_W) (ls : Array Slot) (H : Heap) (locs : List Loc), n21 + i21 = 7 → lv_has ls 4 [(3, .int (nI i21)), (0, .ref h0), (1, .ref st), (2, .ref tp)] → okx g T xs pl → va_P g.1 vcl ([(hints, .inl (g.2.1 1, 84, .inl fh21))] ++ pl) H → va_D A ([(hints, .inl (g.2.1 1, 84, .inl fh21))] ++ pl) → va_S A s.heap H locs → W p l e ({ frames := 2, cells := 0, slots := 0, locals := 60 } : Room) s m args below meth c H locs 0 0 (MQ below (va_Qi (fun (r : Int32) (u : (Nat → Int32) × va_W) => ((r = nI 0 ∨ hgood 75 8 u.1) ∧ byt u.1) ∧ okx g T xs u.2) (po g.1 vcl A (fun (u : (Nat → Int32) × va_W) => [(hints, .inl (g.2.1 1, 84, .inl (u.1)))] ++ u.2)) A) args s 0 0 A) (F0 m 48 ls []) := by
      intro n21
      induction n21 with
      | zero =>
        intro i21 pl ls H locs hm21  hl hO hP hD hS
        refine lv_iload_n hx hb dDA_readSignature_48 rfl (lv_at hl 0 rfl) ?_
        refine lv_aload_n hx hb dDA_readSignature_49 rfl (lv_at hl 2 rfl) ?_
        refine ty_get (ci := 2) (C := "LatticeKeys$DsaSet") (TT := T_DS) (N := 17) (kd := (45, 0)) hx hb hts (wg_ft i_DS) hown hK hO k_st (nxg hc0 k_st rfl) hP (fun _ h9 => h9) rfl 1 (by decide) (hts _ (wg_t kw_305)) (fun _ h9 => h9) (cd := (1, 0, 7)) rfl dDA_readSignature_50 (fun v27 hv27 => ?_)
        obtain rfl := (show v27 = .int (nI 7) from hv27)
        refine mi_ge (tgt := 122) hx hb dDA_readSignature_53 (by decide) (by omega) (by omega) (fun h22 => ?_) (fun h22 => absurd h22 (by omega))
        refine lv_iconst (v := nI 1) hx hb dDA_readSignature_122 (by decide) ?_
        exact mp_zret hx hb hr hlk rfl hP hD hS (fh21, pl) ⟨⟨Or.inr hgd, hby21⟩, hO⟩ [0] rfl rfl rfl (by omega) (by omega) dDA_readSignature_123
      | succ n21 ih21 =>
        intro i21 pl ls H locs hm21  hl hO hP hD hS
        refine lv_iload_n hx hb dDA_readSignature_48 rfl (lv_at hl 0 rfl) ?_
        refine lv_aload_n hx hb dDA_readSignature_49 rfl (lv_at hl 2 rfl) ?_
        refine ty_get (ci := 2) (C := "LatticeKeys$DsaSet") (TT := T_DS) (N := 17) (kd := (45, 0)) hx hb hts (wg_ft i_DS) hown hK hO k_st (nxg hc0 k_st rfl) hP (fun _ h9 => h9) rfl 1 (by decide) (hts _ (wg_t kw_305)) (fun _ h9 => h9) (cd := (1, 0, 7)) rfl dDA_readSignature_50 (fun v28 hv28 => ?_)
        obtain rfl := (show v28 = .int (nI 7) from hv28)
        refine mi_ge (tgt := 122) hx hb dDA_readSignature_53 (by decide) (by omega) (by omega) (fun h23 => absurd h23 (by omega)) (fun h23 => ?_)
        refine lv_aload_n hx hb dDA_readSignature_56 rfl (lv_at hl 1 rfl) ?_
        refine lv_aload_n hx hb dDA_readSignature_57 rfl (lv_at hl 1 rfl) ?_
        refine ty_get (ci := 6) (C := "LatticeKeys$Dsa") (TT := T_DA) (N := 17) (kd := (15, 0)) hx hb hts (wg_ft i_DA) hown hK hO k_h0 (nxg hc0 k_h0 rfl) hP (fun _ h9 => h9) rfl 7 (by decide) (hts _ (wg_t kw_172)) (fun _ h9 => h9) (cd := (3, 3, 7)) rfl dDA_readSignature_58 (fun v29 hv29 => ?_)
        obtain ⟨r24, rfl, kr23⟩ := (show ∃ r : Nat, v29 = .ref r ∧ T r = some (3, 7) from hv29)
        refine lv_iload_n hx hb dDA_readSignature_61 rfl (lv_at hl 0 rfl) ?_
        refine ty_aald3 hx hb hK hO kr23 (nxg hc0 kr23 rfl) hP (by omega) (by decide) dDA_readSignature_62 (fun r25 kr24 => ?_)
        refine lv_aload_n hx hb dDA_readSignature_63 rfl (lv_at hl 2 rfl) ?_
        refine ty_get (ci := 2) (C := "LatticeKeys$DsaSet") (TT := T_DS) (N := 17) (kd := (45, 0)) hx hb hts (wg_ft i_DS) hown hK hO k_st (nxg hc0 k_st rfl) hP (fun _ h9 => h9) rfl 6 (by decide) (hts _ (wg_t kw_318)) (fun _ h9 => h9) (cd := (1, 0, 20)) rfl dDA_readSignature_64 (fun v30 hv30 => ?_)
        obtain rfl := (show v30 = .int (nI 20) from hv30)
        refine lv_aload_n hx hb dDA_readSignature_67 rfl (lv_at hl 2 rfl) ?_
        refine ty_get (ci := 2) (C := "LatticeKeys$DsaSet") (TT := T_DS) (N := 17) (kd := (45, 0)) hx hb hts (wg_ft i_DS) hown hK hO k_st (nxg hc0 k_st rfl) hP (fun _ h9 => h9) rfl 7 (by decide) (hts _ (wg_t kw_320)) (fun _ h9 => h9) (cd := (1, 0, 524288)) rfl dDA_readSignature_68 (fun v31 hv31 => ?_)
        obtain rfl := (show v31 = .int (nI 524288) from hv31)
        refine lv_aload_n hx hb dDA_readSignature_71 rfl (lv_at hl 3 rfl) ?_
        refine lv_aload_n hx hb dDA_readSignature_72 rfl (lv_at hl 2 rfl) ?_
        refine ty_get (ci := 2) (C := "LatticeKeys$DsaSet") (TT := T_DS) (N := 17) (kd := (45, 0)) hx hb hts (wg_ft i_DS) hown hK hO k_st (nxg hc0 k_st rfl) hP (fun _ h9 => h9) rfl 5 (by decide) (hts _ (wg_t kw_315)) (fun _ h9 => h9) (cd := (1, 0, 64)) rfl dDA_readSignature_73 (fun v32 hv32 => ?_)
        obtain rfl := (show v32 = .int (nI 64) from hv32)
        refine lv_bipush (v := nI 32) hx hb dDA_readSignature_76 (by decide) ?_
        refine lv_aload_n hx hb dDA_readSignature_78 rfl (lv_at hl 2 rfl) ?_
        refine ty_get (ci := 2) (C := "LatticeKeys$DsaSet") (TT := T_DS) (N := 17) (kd := (45, 0)) hx hb hts (wg_ft i_DS) hown hK hO k_st (nxg hc0 k_st rfl) hP (fun _ h9 => h9) rfl 6 (by decide) (hts _ (wg_t kw_318)) (fun _ h9 => h9) (cd := (1, 0, 20)) rfl dDA_readSignature_79 (fun v33 hv33 => ?_)
        obtain rfl := (show v33 = .int (nI 20) from hv33)
        refine mi_imul hx hb dDA_readSignature_82 ?_
        refine mi_as (show nI (32 * 20) = nI 640 from rfl) ?_
        refine lv_iload_n hx hb dDA_readSignature_83 rfl (lv_at hl 0 rfl) ?_
        refine mi_imul hx hb dDA_readSignature_84 ?_
        refine mi_iadd hx hb dDA_readSignature_85 ?_
        refine mp_v (cx := []) (wr := [(hints, .inl (g.2.1 1, 84, .inl fh21))]) hP hD hS hA [] [0] rfl rfl rfl (by decide) (va_runV (As := [.ref r25, .int (nI 20), .int (nI 524288), .ref tp, .int (nI (64 + (640 * i21)))]) (rest := []) F (t_DA_readFlipped l g _ T xs pl hO hU hc0 h0 r25 tp n 20 (64 + (640 * i21)) (nI 524288) k_h0 kr24 k_tp (by omega) (by omega) (by omega)) (cwV 5 hts (wg_app (wg_c kw_1183 (wg_c kw_1185 (wg_c ks_35 (wg_c kw_5 wg_n)))) kw_1186) rfl rfl rfl (by decide +kernel) ⟨by decide, by decide⟩) (pp_VT (en_ok g) (ci := 6) (kd := (15, 0)) hK hO k_h0 (nxg hc0 k_h0 rfl) (fun _ h9 => ko1 h9) hP hD hS hA hE [] rfl rfl rfl) rfl rfl hl.1 rfl (lv_room (Nat.le_of_ble_eq_true rfl)) dDA_readSignature_86 ⟨by omega, by omega⟩) (fun  pl H locs hu22 hP hD hS => ?_)
        obtain ⟨hq22, hO⟩ := hu22
        have hP : va_P g.1 vcl ([(hints, .inl (g.2.1 1, 84, .inl fh21))] ++ pl) _ := hP
        have hD : va_D _ ([(hints, .inl (g.2.1 1, 84, .inl fh21))] ++ pl) := hD
        refine W.widen (k := 0) (n := 0) (by omega) (by omega) ?_
        refine lv_aload_n hx hb dDA_readSignature_89 rfl (lv_at hl 1 rfl) ?_
        refine ty_get (ci := 6) (C := "LatticeKeys$Dsa") (TT := T_DA) (N := 17) (kd := (15, 0)) hx hb hts (wg_ft i_DA) hown hK hO k_h0 (nxg hc0 k_h0 rfl) hP (fun _ h9 => h9) rfl 1 (by decide) (hts _ (wg_t kw_166)) (fun _ h9 => h9) (cd := (3, 12, 0)) rfl dDA_readSignature_90 (fun v34 hv34 => ?_)
        obtain ⟨r26, rfl, kr25⟩ := (show ∃ r : Nat, v34 = .ref r ∧ T r = some (12, 0) from hv34)
        refine lv_aload_n hx hb dDA_readSignature_93 rfl (lv_at hl 1 rfl) ?_
        refine ty_get (ci := 6) (C := "LatticeKeys$Dsa") (TT := T_DA) (N := 17) (kd := (15, 0)) hx hb hts (wg_ft i_DA) hown hK hO k_h0 (nxg hc0 k_h0 rfl) hP (fun _ h9 => h9) rfl 7 (by decide) (hts _ (wg_t kw_172)) (fun _ h9 => h9) (cd := (3, 3, 7)) rfl dDA_readSignature_94 (fun v35 hv35 => ?_)
        obtain ⟨r27, rfl, kr26⟩ := (show ∃ r : Nat, v35 = .ref r ∧ T r = some (3, 7) from hv35)
        refine lv_iload_n hx hb dDA_readSignature_97 rfl (lv_at hl 0 rfl) ?_
        refine ty_aald3 hx hb hK hO kr26 (nxg hc0 kr26 rfl) hP (by omega) (by decide) dDA_readSignature_98 (fun r28 kr27 => ?_)
        refine lv_aload_n hx hb dDA_readSignature_99 rfl (lv_at hl 2 rfl) ?_
        refine ty_get (ci := 2) (C := "LatticeKeys$DsaSet") (TT := T_DS) (N := 17) (kd := (45, 0)) hx hb hts (wg_ft i_DS) hown hK hO k_st (nxg hc0 k_st rfl) hP (fun _ h9 => h9) rfl 7 (by decide) (hts _ (wg_t kw_320)) (fun _ h9 => h9) (cd := (1, 0, 524288)) rfl dDA_readSignature_100 (fun v36 hv36 => ?_)
        obtain rfl := (show v36 = .int (nI 524288) from hv36)
        refine lv_aload_n hx hb dDA_readSignature_103 rfl (lv_at hl 2 rfl) ?_
        refine ty_get (ci := 2) (C := "LatticeKeys$DsaSet") (TT := T_DS) (N := 17) (kd := (45, 0)) hx hb hts (wg_ft i_DS) hown hK hO k_st (nxg hc0 k_st rfl) hP (fun _ h9 => h9) rfl 12 (by decide) (hts _ (wg_t kw_329)) (fun _ h9 => h9) (cd := (1, 0, 120)) rfl dDA_readSignature_104 (fun v37 hv37 => ?_)
        obtain rfl := (show v37 = .int (nI 120) from hv37)
        refine mi_isub hx hb dDA_readSignature_107 (by omega) ?_
        refine mi_as (show nI (524288 - 120) = nI 524168 from rfl) ?_
        refine mp_i (cx := []) (wr := [(hints, .inl (g.2.1 1, 84, .inl fh21))]) hP hD hS hA [] [0] rfl rfl rfl (by decide) (va_runV (As := [.ref r28, .int (nI 524168)]) (rest := []) F (t_RG_isShort_12 l g _ T xs pl hO hU hc0 r26 r28 (nI 524168) kr25 kr27) (cwV 2 hts (wg_app (wg_c kw_1228 (wg_c kw_1229 (wg_c kw_1230 (wg_c kw_4 wg_n)))) kw_1231) rfl rfl rfl (by decide +kernel) ⟨by decide, by decide⟩) (pp_VT (en_ok g) (ci := 4) (kd := (12, 0)) hK hO kr25 (nxg hc0 kr25 rfl) (fun _ h9 => ko1 h9) hP hD hS hA hE [] rfl rfl rfl) rfl rfl hl.1 rfl (lv_room (Nat.le_of_ble_eq_true rfl)) dDA_readSignature_108 ⟨by omega, by omega⟩) (fun r29 pl H locs hu23 hP hD hS => ?_)
        obtain ⟨hq23, hO⟩ := hu23
        have hP : va_P g.1 vcl ([(hints, .inl (g.2.1 1, 84, .inl fh21))] ++ pl) _ := hP
        have hD : va_D _ ([(hints, .inl (g.2.1 1, 84, .inl fh21))] ++ pl) := hD
        refine W.widen (k := 0) (n := 0) (by omega) (by omega) ?_
        refine lv_if_ne (tgt := 116) hx hb dDA_readSignature_111 (by decide) (fun h24 => ?_) (fun h24 => ?_)
        · refine mi_iinc (k := 0) (x := i21) (d := 1) (y := i21 + 1) (lv' := [(3, .int (nI (i21 + 1))), (0, .ref h0), (1, .ref st), (2, .ref tp)]) hx hb dDA_readSignature_116 hl rfl (by decide) rfl (by decide) rfl (fun ls hl => ?_)
          refine lv_goto (tgt := 48) hx hb dDA_readSignature_119 (by decide) ?_
          exact ih21 (i21 + 1) pl ls H locs (by omega) (lv_sub hl [0, 1, 2, 3] rfl) hO hP hD hS
        · refine lv_iconst (v := nI 0) hx hb dDA_readSignature_114 (by decide) ?_
          exact mp_zret hx hb hr hlk rfl hP hD hS (fh21, pl) ⟨⟨Or.inl rfl, hby21⟩, hO⟩ [0] rfl rfl rfl (by omega) (by omega) dDA_readSignature_115
    exact lp21 7 0 pl ls _ _ (by omega) (lv_sub hl [0, 1, 2, 3] rfl) hO hP hD hS
  · refine lv_iconst (v := nI 0) hx hb dDA_readSignature_44 (by decide) ?_
    exact mp_zret hx hb hr hlk rfl hP hD hS (fh21, pl) ⟨⟨Or.inl rfl, hby21⟩, hO⟩ [0] rfl rfl rfl (by omega) (by omega) dDA_readSignature_45
set_option maxHeartbeats 400000 in
set_option maxRecDepth 100000 in
theorem t_DA_useHints_0 (l : Launch) (g : Gd) (sz : Nat) (T : Ty) (xs : List Nat) (pl : va_W) (hO : okx g T xs pl) (hU : uni T) (hc0 : clo T xs 0) (hints : Nat) (h0 st f fi en_ : Nat) (fh : Nat → Int32) (k_hints : T hints = some (8, 84)) (k_h0 : T h0 = some (15, 0)) (k_st : T st = some (43, 0)) (k_f : T f = some (0, 256)) (h1 : en_ ≤ 80) (h2 : fi ≤ 255)  : Met l y_DA_useHints w_DA_useHints ({ frames := 2, cells := 0, slots := 0, locals := 45 } : Room) (va_Pc [.ref h0, .ref st, .ref f, .int (nI fi), .int (nI en_)] (pr (en g) g.1 vcl sz ([(hints, .inl (g.2.1 1, 84, .inl fh))] ++ pl))) (va_Qv (fun (u : va_W) => (True) ∧ okx g T xs u) (po g.1 vcl (va_A ([(hints, .inl (g.2.1 1, 84, .inl fh))] ++ pl) sz) (fun (u : va_W) => [(hints, .inl (g.2.1 1, 84, .inl fh))] ++ u)) (va_A ([(hints, .inl (g.2.1 1, 84, .inl fh))] ++ pl) sz)) 0 0 (va_A ([(hints, .inl (g.2.1 1, 84, .inl fh))] ++ pl) sz) := by
  refine mc_entry (cc := c_DA_useHints) (maxL := 7) (ret := none) (by decide) rfl (Nat.le_of_ble_eq_true rfl) ?_
  intro p e s m args below meth c ls F hr hlk hnm hsz hP hD hE hA hl
  obtain ⟨hx, hb, hml, hown, hts⟩ := id F
  have hK := hE.1
  generalize va_A ([(hints, .inl (g.2.1 1, 84, .inl fh))] ++ pl) sz = A at hD hE hA ⊢
  have hS : va_S A s.heap s.heap [] := va_S.rf
  have hl : lv_has ls 7 [(0, .ref h0), (1, .ref st), (2, .ref f), (3, .int (nI fi)), (4, .int (nI en_))] := hl
  refine lv_iconst (v := nI 0) hx hb dDA_useHints_0 (by decide) ?_
  refine lv_istore (lv' := [(5, .int (nI 0)), (0, .ref h0), (1, .ref st), (2, .ref f), (3, .int (nI fi)), (4, .int (nI en_))]) hx hb dDA_useHints_1 hl (by decide) rfl (fun ls hl => ?_)
  have lp21 : ∀ (n21 : Nat) (i21 : Nat) (pl : va_W) (ls : Array Slot) (H : Heap) (locs : List Loc), n21 + i21 = 256 → lv_has ls 7 [(5, .int (nI i21)), (0, .ref h0), (1, .ref st), (2, .ref f), (3, .int (nI fi)), (4, .int (nI en_))] → okx g T xs pl → va_P g.1 vcl ([(hints, .inl (g.2.1 1, 84, .inl fh))] ++ pl) H → va_D A ([(hints, .inl (g.2.1 1, 84, .inl fh))] ++ pl) → va_S A s.heap H locs → W p l e ({ frames := 2, cells := 0, slots := 0, locals := 45 } : Room) s m args below meth c H locs 0 0 (MQ below (va_Qv (fun (u : va_W) => (True) ∧ okx g T xs u) (po g.1 vcl A (fun (u : va_W) => [(hints, .inl (g.2.1 1, 84, .inl fh))] ++ u)) A) args s 0 0 A) (F0 m 3 ls []) := by
    intro n21
    induction n21 with
    | zero =>
      intro i21 pl ls H locs hm21  hl hO hP hD hS
      refine lv_iload hx hb dDA_useHints_3 (lv_at hl 0 rfl) ?_
      refine lv_sipush (v := nI 256) hx hb dDA_useHints_5 (by decide) ?_
      refine mi_ge (tgt := 32) hx hb dDA_useHints_8 (by decide) (by omega) (by omega) (fun h21 => ?_) (fun h21 => absurd h21 (by omega))
      refine lv_iload_n hx hb dDA_useHints_32 rfl (lv_at hl 4 rfl) ?_
      refine lv_istore (lv' := [(5, .int (nI fi)), (0, .ref h0), (1, .ref st), (2, .ref f), (3, .int (nI fi)), (4, .int (nI en_))]) hx hb dDA_useHints_33 hl (by decide) rfl (fun ls hl => ?_)
      have lp22 : ∀ (n22 : Nat) (kk21 : Nat) (pl : va_W) (ls : Array Slot) (H : Heap) (locs : List Loc), n22 = en_ - kk21 → (kk21 ≤ 255) → lv_has ls 7 [(5, .int (nI kk21)), (0, .ref h0), (1, .ref st), (2, .ref f), (4, .int (nI en_))] → okx g T xs pl → va_P g.1 vcl ([(hints, .inl (g.2.1 1, 84, .inl fh))] ++ pl) H → va_D A ([(hints, .inl (g.2.1 1, 84, .inl fh))] ++ pl) → va_S A s.heap H locs → W p l e ({ frames := 2, cells := 0, slots := 0, locals := 45 } : Room) s m args below meth c H locs 0 0 (MQ below (va_Qv (fun (u : va_W) => (True) ∧ okx g T xs u) (po g.1 vcl A (fun (u : va_W) => [(hints, .inl (g.2.1 1, 84, .inl fh))] ++ u)) A) args s 0 0 A) (F0 m 35 ls []) := by
        intro n22
        induction n22 with
        | zero =>
          intro kk21 pl ls H locs hm22 hi21 hl hO hP hD hS
          refine lv_iload hx hb dDA_useHints_35 (lv_at hl 0 rfl) ?_
          refine lv_iload hx hb dDA_useHints_37 (lv_at hl 4 rfl) ?_
          refine mi_ge (tgt := 76) hx hb dDA_useHints_39 (by decide) (by omega) (by omega) (fun h22 => ?_) (fun h22 => absurd h22 (by omega))
          exact mp_vret hx hb hr hlk hP hD hS pl ⟨trivial, hO⟩ [0] rfl rfl rfl (by omega) (by omega) dDA_useHints_76
        | succ n22 ih22 =>
          intro kk21 pl ls H locs hm22 hi21 hl hO hP hD hS
          refine lv_iload hx hb dDA_useHints_35 (lv_at hl 0 rfl) ?_
          refine lv_iload hx hb dDA_useHints_37 (lv_at hl 4 rfl) ?_
          refine mi_ge (tgt := 76) hx hb dDA_useHints_39 (by decide) (by omega) (by omega) (fun h23 => absurd h23 (by omega)) (fun h23 => ?_)
          refine lv_aload_n hx hb dDA_useHints_42 rfl (lv_at hl 1 rfl) ?_
          refine ty_get (ci := 6) (C := "LatticeKeys$Dsa") (TT := T_DA) (N := 17) (kd := (15, 0)) hx hb hts (wg_ft i_DA) hown hK hO k_h0 (nxg hc0 k_h0 rfl) hP (fun _ h9 => h9) rfl 15 (by decide) (hts _ (wg_t kw_180)) (fun _ h9 => h9) (cd := (3, 8, 84)) rfl dDA_useHints_43 (fun v21 hv21 => ?_)
          obtain ⟨r21, rfl, kr21⟩ := (show ∃ r : Nat, v21 = .ref r ∧ T r = some (8, 84) from hv21)
          obtain rfl : hints = r21 := hU _ _ _ (by decide) k_hints kr21
          refine lv_iload hx hb dDA_useHints_46 (lv_at hl 0 rfl) ?_
          refine ma_bald hx hb hK hP 0 1 rfl rfl (vp_in_nI (by omega) (by decide)) dDA_useHints_48 (fun z21 => ?_)
          refine lv_sipush (v := nI 255) hx hb dDA_useHints_49 (by decide) ?_
          refine mi_iand hx hb 8 dDA_useHints_52 (by decide) (fun z22 hz21 => ?_)
          have hz21 : z22 < 256 := hz21
          refine lv_istore (lv' := [(6, .int (nI z22)), (5, .int (nI kk21)), (0, .ref h0), (1, .ref st), (2, .ref f), (4, .int (nI en_))]) hx hb dDA_useHints_53 hl (by decide) rfl (fun ls hl => ?_)
          refine lv_aload_n hx hb dDA_useHints_55 rfl (lv_at hl 2 rfl) ?_
          refine ty_get (ci := 6) (C := "LatticeKeys$Dsa") (TT := T_DA) (N := 17) (kd := (15, 0)) hx hb hts (wg_ft i_DA) hown hK hO k_h0 (nxg hc0 k_h0 rfl) hP (fun _ h9 => h9) rfl 10 (by decide) (hts _ (wg_t kw_175)) (fun _ h9 => h9) (cd := (3, 0, 256)) rfl dDA_useHints_56 (fun v22 hv22 => ?_)
          obtain ⟨r22, rfl, kr22⟩ := (show ∃ r : Nat, v22 = .ref r ∧ T r = some (0, 256) from hv22)
          refine lv_iload hx hb dDA_useHints_59 (lv_at hl 0 rfl) ?_
          refine lv_aload_n hx hb dDA_useHints_61 rfl (lv_at hl 3 rfl) ?_
          refine lv_aload_n hx hb dDA_useHints_62 rfl (lv_at hl 4 rfl) ?_
          refine lv_iload hx hb dDA_useHints_63 (lv_at hl 0 rfl) ?_
          refine ty_iald hx hb hK hO k_f (nxg hc0 k_f rfl) hP (vp_in_nI (by omega) (by decide)) dDA_useHints_65 (fun z23 => ?_)
          refine mp_i (cx := []) (wr := [(hints, .inl (g.2.1 1, 84, .inl fh))]) hP hD hS hA [] [0] rfl rfl rfl (by decide) (va_runV (As := [.int z23]) (rest := [.int (nI z22), .ref r22]) F (t_DS_hintedHigh_0 l g _ T xs pl hO hU hc0 st z23 k_st) (cwV 1 hts (wg_app (wg_c kw_1281 (wg_c kw_1282 (wg_c kw_1283 (wg_c kw_8 wg_n)))) kw_1284) rfl rfl rfl (by decide +kernel) ⟨by decide, by decide⟩) (pp_VT (en_ok g) (ci := 2) (kd := (43, 0)) hK hO k_st (nxg hc0 k_st rfl) (fun _ h9 => ko1 h9) hP hD hS hA hE [] rfl rfl rfl) rfl rfl hl.1 rfl (lv_room (Nat.le_of_ble_eq_true rfl)) dDA_useHints_66 ⟨by omega, by omega⟩) (fun r23 pl H locs hu21 hP hD hS => ?_)
          obtain ⟨hq21, hO⟩ := hu21
          have hP : va_P g.1 vcl ([(hints, .inl (g.2.1 1, 84, .inl fh))] ++ pl) _ := hP
          have hD : va_D _ ([(hints, .inl (g.2.1 1, 84, .inl fh))] ++ pl) := hD
          refine W.widen (k := 0) (n := 0) (by omega) (by omega) ?_
          refine ty_iast hx hb hK hO kr22 (nxg hc0 kr22 rfl) hP hD hS (vp_in_nI (by omega) (by decide)) dDA_useHints_69 (fun pl H locs hO hP hD hS => ?_)
          refine mi_iinc (k := 1) (x := kk21) (d := 1) (y := kk21 + 1) (lv' := [(5, .int (nI (kk21 + 1))), (6, .int (nI z22)), (0, .ref h0), (1, .ref st), (2, .ref f), (4, .int (nI en_))]) hx hb dDA_useHints_70 hl rfl (by decide) rfl (by decide) rfl (fun ls hl => ?_)
          refine lv_goto (tgt := 35) hx hb dDA_useHints_73 (by decide) ?_
          exact ih22 (kk21 + 1) pl ls H locs (by omega) (by omega) (lv_sub hl [0, 2, 3, 4, 5] rfl) hO hP hD hS
      exact lp22 (en_ - fi) fi pl ls _ _ (by omega) (by omega) (lv_sub hl [0, 1, 2, 3, 5] rfl) hO hP hD hS
    | succ n21 ih21 =>
      intro i21 pl ls H locs hm21  hl hO hP hD hS
      refine lv_iload hx hb dDA_useHints_3 (lv_at hl 0 rfl) ?_
      refine lv_sipush (v := nI 256) hx hb dDA_useHints_5 (by decide) ?_
      refine mi_ge (tgt := 32) hx hb dDA_useHints_8 (by decide) (by omega) (by omega) (fun h24 => absurd h24 (by omega)) (fun h24 => ?_)
      refine lv_aload_n hx hb dDA_useHints_11 rfl (lv_at hl 1 rfl) ?_
      refine ty_get (ci := 6) (C := "LatticeKeys$Dsa") (TT := T_DA) (N := 17) (kd := (15, 0)) hx hb hts (wg_ft i_DA) hown hK hO k_h0 (nxg hc0 k_h0 rfl) hP (fun _ h9 => h9) rfl 10 (by decide) (hts _ (wg_t kw_175)) (fun _ h9 => h9) (cd := (3, 0, 256)) rfl dDA_useHints_12 (fun v23 hv23 => ?_)
      obtain ⟨r24, rfl, kr23⟩ := (show ∃ r : Nat, v23 = .ref r ∧ T r = some (0, 256) from hv23)
      refine lv_iload hx hb dDA_useHints_15 (lv_at hl 0 rfl) ?_
      refine lv_aload_n hx hb dDA_useHints_17 rfl (lv_at hl 2 rfl) ?_
      refine lv_aload_n hx hb dDA_useHints_18 rfl (lv_at hl 3 rfl) ?_
      refine lv_iload hx hb dDA_useHints_19 (lv_at hl 0 rfl) ?_
      refine ty_iald hx hb hK hO k_f (nxg hc0 k_f rfl) hP (vp_in_nI (by omega) (by decide)) dDA_useHints_21 (fun z24 => ?_)
      refine mp_i (cx := []) (wr := [(hints, .inl (g.2.1 1, 84, .inl fh))]) hP hD hS hA [] [0] rfl rfl rfl (by decide) (va_runV (As := [.int z24]) (rest := [.int (nI i21), .ref r24]) F (t_DS_high_0 l g _ T xs pl hO hU hc0 st z24 k_st) (cwV 1 hts (wg_app (wg_c kw_1206 (wg_c kw_1207 (wg_c kw_1208 (wg_c kw_8 wg_n)))) kw_1209) rfl rfl rfl (by decide +kernel) ⟨by decide, by decide⟩) (pp_VT (en_ok g) (ci := 2) (kd := (43, 0)) hK hO k_st (nxg hc0 k_st rfl) (fun _ h9 => ko1 h9) hP hD hS hA hE [] rfl rfl rfl) rfl rfl hl.1 rfl (lv_room (Nat.le_of_ble_eq_true rfl)) dDA_useHints_22 ⟨by omega, by omega⟩) (fun r25 pl H locs hu22 hP hD hS => ?_)
      obtain ⟨hq22, hO⟩ := hu22
      have hP : va_P g.1 vcl ([(hints, .inl (g.2.1 1, 84, .inl fh))] ++ pl) _ := hP
      have hD : va_D _ ([(hints, .inl (g.2.1 1, 84, .inl fh))] ++ pl) := hD
      refine W.widen (k := 0) (n := 0) (by omega) (by omega) ?_
      refine ty_iast hx hb hK hO kr23 (nxg hc0 kr23 rfl) hP hD hS (vp_in_nI (by omega) (by decide)) dDA_useHints_25 (fun pl H locs hO hP hD hS => ?_)
      refine mi_iinc (k := 0) (x := i21) (d := 1) (y := i21 + 1) (lv' := [(5, .int (nI (i21 + 1))), (0, .ref h0), (1, .ref st), (2, .ref f), (3, .int (nI fi)), (4, .int (nI en_))]) hx hb dDA_useHints_26 hl rfl (by decide) rfl (by decide) rfl (fun ls hl => ?_)
      refine lv_goto (tgt := 3) hx hb dDA_useHints_29 (by decide) ?_
      exact ih21 (i21 + 1) pl ls H locs (by omega) (lv_sub hl [0, 1, 2, 3, 4, 5] rfl) hO hP hD hS
  exact lp21 256 0 pl ls _ _ (by omega) (lv_sub hl [0, 1, 2, 3, 4, 5] rfl) hO hP hD hS
set_option maxHeartbeats 400000 in
set_option maxRecDepth 100000 in
theorem t_DA_useHints_1 (l : Launch) (g : Gd) (sz : Nat) (T : Ty) (xs : List Nat) (pl : va_W) (hO : okx g T xs pl) (hU : uni T) (hc0 : clo T xs 0) (hints : Nat) (h0 st f fi en_ : Nat) (fh : Nat → Int32) (k_hints : T hints = some (8, 84)) (k_h0 : T h0 = some (15, 0)) (k_st : T st = some (44, 0)) (k_f : T f = some (0, 256)) (h1 : en_ ≤ 55) (h2 : fi ≤ 255)  : Met l y_DA_useHints w_DA_useHints ({ frames := 2, cells := 0, slots := 0, locals := 45 } : Room) (va_Pc [.ref h0, .ref st, .ref f, .int (nI fi), .int (nI en_)] (pr (en g) g.1 vcl sz ([(hints, .inl (g.2.1 1, 84, .inl fh))] ++ pl))) (va_Qv (fun (u : va_W) => (True) ∧ okx g T xs u) (po g.1 vcl (va_A ([(hints, .inl (g.2.1 1, 84, .inl fh))] ++ pl) sz) (fun (u : va_W) => [(hints, .inl (g.2.1 1, 84, .inl fh))] ++ u)) (va_A ([(hints, .inl (g.2.1 1, 84, .inl fh))] ++ pl) sz)) 0 0 (va_A ([(hints, .inl (g.2.1 1, 84, .inl fh))] ++ pl) sz) := by
  refine mc_entry (cc := c_DA_useHints) (maxL := 7) (ret := none) (by decide) rfl (Nat.le_of_ble_eq_true rfl) ?_
  intro p e s m args below meth c ls F hr hlk hnm hsz hP hD hE hA hl
  obtain ⟨hx, hb, hml, hown, hts⟩ := id F
  have hK := hE.1
  generalize va_A ([(hints, .inl (g.2.1 1, 84, .inl fh))] ++ pl) sz = A at hD hE hA ⊢
  have hS : va_S A s.heap s.heap [] := va_S.rf
  have hl : lv_has ls 7 [(0, .ref h0), (1, .ref st), (2, .ref f), (3, .int (nI fi)), (4, .int (nI en_))] := hl
  refine lv_iconst (v := nI 0) hx hb dDA_useHints_0 (by decide) ?_
  refine lv_istore (lv' := [(5, .int (nI 0)), (0, .ref h0), (1, .ref st), (2, .ref f), (3, .int (nI fi)), (4, .int (nI en_))]) hx hb dDA_useHints_1 hl (by decide) rfl (fun ls hl => ?_)
  have lp21 : ∀ (n21 : Nat) (i21 : Nat) (pl : va_W) (ls : Array Slot) (H : Heap) (locs : List Loc), n21 + i21 = 256 → lv_has ls 7 [(5, .int (nI i21)), (0, .ref h0), (1, .ref st), (2, .ref f), (3, .int (nI fi)), (4, .int (nI en_))] → okx g T xs pl → va_P g.1 vcl ([(hints, .inl (g.2.1 1, 84, .inl fh))] ++ pl) H → va_D A ([(hints, .inl (g.2.1 1, 84, .inl fh))] ++ pl) → va_S A s.heap H locs → W p l e ({ frames := 2, cells := 0, slots := 0, locals := 45 } : Room) s m args below meth c H locs 0 0 (MQ below (va_Qv (fun (u : va_W) => (True) ∧ okx g T xs u) (po g.1 vcl A (fun (u : va_W) => [(hints, .inl (g.2.1 1, 84, .inl fh))] ++ u)) A) args s 0 0 A) (F0 m 3 ls []) := by
    intro n21
    induction n21 with
    | zero =>
      intro i21 pl ls H locs hm21  hl hO hP hD hS
      refine lv_iload hx hb dDA_useHints_3 (lv_at hl 0 rfl) ?_
      refine lv_sipush (v := nI 256) hx hb dDA_useHints_5 (by decide) ?_
      refine mi_ge (tgt := 32) hx hb dDA_useHints_8 (by decide) (by omega) (by omega) (fun h21 => ?_) (fun h21 => absurd h21 (by omega))
      refine lv_iload_n hx hb dDA_useHints_32 rfl (lv_at hl 4 rfl) ?_
      refine lv_istore (lv' := [(5, .int (nI fi)), (0, .ref h0), (1, .ref st), (2, .ref f), (3, .int (nI fi)), (4, .int (nI en_))]) hx hb dDA_useHints_33 hl (by decide) rfl (fun ls hl => ?_)
      have lp22 : ∀ (n22 : Nat) (kk21 : Nat) (pl : va_W) (ls : Array Slot) (H : Heap) (locs : List Loc), n22 = en_ - kk21 → (kk21 ≤ 255) → lv_has ls 7 [(5, .int (nI kk21)), (0, .ref h0), (1, .ref st), (2, .ref f), (4, .int (nI en_))] → okx g T xs pl → va_P g.1 vcl ([(hints, .inl (g.2.1 1, 84, .inl fh))] ++ pl) H → va_D A ([(hints, .inl (g.2.1 1, 84, .inl fh))] ++ pl) → va_S A s.heap H locs → W p l e ({ frames := 2, cells := 0, slots := 0, locals := 45 } : Room) s m args below meth c H locs 0 0 (MQ below (va_Qv (fun (u : va_W) => (True) ∧ okx g T xs u) (po g.1 vcl A (fun (u : va_W) => [(hints, .inl (g.2.1 1, 84, .inl fh))] ++ u)) A) args s 0 0 A) (F0 m 35 ls []) := by
        intro n22
        induction n22 with
        | zero =>
          intro kk21 pl ls H locs hm22 hi21 hl hO hP hD hS
          refine lv_iload hx hb dDA_useHints_35 (lv_at hl 0 rfl) ?_
          refine lv_iload hx hb dDA_useHints_37 (lv_at hl 4 rfl) ?_
          refine mi_ge (tgt := 76) hx hb dDA_useHints_39 (by decide) (by omega) (by omega) (fun h22 => ?_) (fun h22 => absurd h22 (by omega))
          exact mp_vret hx hb hr hlk hP hD hS pl ⟨trivial, hO⟩ [0] rfl rfl rfl (by omega) (by omega) dDA_useHints_76
        | succ n22 ih22 =>
          intro kk21 pl ls H locs hm22 hi21 hl hO hP hD hS
          refine lv_iload hx hb dDA_useHints_35 (lv_at hl 0 rfl) ?_
          refine lv_iload hx hb dDA_useHints_37 (lv_at hl 4 rfl) ?_
          refine mi_ge (tgt := 76) hx hb dDA_useHints_39 (by decide) (by omega) (by omega) (fun h23 => absurd h23 (by omega)) (fun h23 => ?_)
          refine lv_aload_n hx hb dDA_useHints_42 rfl (lv_at hl 1 rfl) ?_
          refine ty_get (ci := 6) (C := "LatticeKeys$Dsa") (TT := T_DA) (N := 17) (kd := (15, 0)) hx hb hts (wg_ft i_DA) hown hK hO k_h0 (nxg hc0 k_h0 rfl) hP (fun _ h9 => h9) rfl 15 (by decide) (hts _ (wg_t kw_180)) (fun _ h9 => h9) (cd := (3, 8, 84)) rfl dDA_useHints_43 (fun v21 hv21 => ?_)
          obtain ⟨r21, rfl, kr21⟩ := (show ∃ r : Nat, v21 = .ref r ∧ T r = some (8, 84) from hv21)
          obtain rfl : hints = r21 := hU _ _ _ (by decide) k_hints kr21
          refine lv_iload hx hb dDA_useHints_46 (lv_at hl 0 rfl) ?_
          refine ma_bald hx hb hK hP 0 1 rfl rfl (vp_in_nI (by omega) (by decide)) dDA_useHints_48 (fun z21 => ?_)
          refine lv_sipush (v := nI 255) hx hb dDA_useHints_49 (by decide) ?_
          refine mi_iand hx hb 8 dDA_useHints_52 (by decide) (fun z22 hz21 => ?_)
          have hz21 : z22 < 256 := hz21
          refine lv_istore (lv' := [(6, .int (nI z22)), (5, .int (nI kk21)), (0, .ref h0), (1, .ref st), (2, .ref f), (4, .int (nI en_))]) hx hb dDA_useHints_53 hl (by decide) rfl (fun ls hl => ?_)
          refine lv_aload_n hx hb dDA_useHints_55 rfl (lv_at hl 2 rfl) ?_
          refine ty_get (ci := 6) (C := "LatticeKeys$Dsa") (TT := T_DA) (N := 17) (kd := (15, 0)) hx hb hts (wg_ft i_DA) hown hK hO k_h0 (nxg hc0 k_h0 rfl) hP (fun _ h9 => h9) rfl 10 (by decide) (hts _ (wg_t kw_175)) (fun _ h9 => h9) (cd := (3, 0, 256)) rfl dDA_useHints_56 (fun v22 hv22 => ?_)
          obtain ⟨r22, rfl, kr22⟩ := (show ∃ r : Nat, v22 = .ref r ∧ T r = some (0, 256) from hv22)
          refine lv_iload hx hb dDA_useHints_59 (lv_at hl 0 rfl) ?_
          refine lv_aload_n hx hb dDA_useHints_61 rfl (lv_at hl 3 rfl) ?_
          refine lv_aload_n hx hb dDA_useHints_62 rfl (lv_at hl 4 rfl) ?_
          refine lv_iload hx hb dDA_useHints_63 (lv_at hl 0 rfl) ?_
          refine ty_iald hx hb hK hO k_f (nxg hc0 k_f rfl) hP (vp_in_nI (by omega) (by decide)) dDA_useHints_65 (fun z23 => ?_)
          refine mp_i (cx := []) (wr := [(hints, .inl (g.2.1 1, 84, .inl fh))]) hP hD hS hA [] [0] rfl rfl rfl (by decide) (va_runV (As := [.int z23]) (rest := [.int (nI z22), .ref r22]) F (t_DS_hintedHigh_1 l g _ T xs pl hO hU hc0 st z23 k_st) (cwV 1 hts (wg_app (wg_c kw_1281 (wg_c kw_1282 (wg_c kw_1283 (wg_c kw_8 wg_n)))) kw_1284) rfl rfl rfl (by decide +kernel) ⟨by decide, by decide⟩) (pp_VT (en_ok g) (ci := 2) (kd := (44, 0)) hK hO k_st (nxg hc0 k_st rfl) (fun _ h9 => ko1 h9) hP hD hS hA hE [] rfl rfl rfl) rfl rfl hl.1 rfl (lv_room (Nat.le_of_ble_eq_true rfl)) dDA_useHints_66 ⟨by omega, by omega⟩) (fun r23 pl H locs hu21 hP hD hS => ?_)
          obtain ⟨hq21, hO⟩ := hu21
          have hP : va_P g.1 vcl ([(hints, .inl (g.2.1 1, 84, .inl fh))] ++ pl) _ := hP
          have hD : va_D _ ([(hints, .inl (g.2.1 1, 84, .inl fh))] ++ pl) := hD
          refine W.widen (k := 0) (n := 0) (by omega) (by omega) ?_
          refine ty_iast hx hb hK hO kr22 (nxg hc0 kr22 rfl) hP hD hS (vp_in_nI (by omega) (by decide)) dDA_useHints_69 (fun pl H locs hO hP hD hS => ?_)
          refine mi_iinc (k := 1) (x := kk21) (d := 1) (y := kk21 + 1) (lv' := [(5, .int (nI (kk21 + 1))), (6, .int (nI z22)), (0, .ref h0), (1, .ref st), (2, .ref f), (4, .int (nI en_))]) hx hb dDA_useHints_70 hl rfl (by decide) rfl (by decide) rfl (fun ls hl => ?_)
          refine lv_goto (tgt := 35) hx hb dDA_useHints_73 (by decide) ?_
          exact ih22 (kk21 + 1) pl ls H locs (by omega) (by omega) (lv_sub hl [0, 2, 3, 4, 5] rfl) hO hP hD hS
      exact lp22 (en_ - fi) fi pl ls _ _ (by omega) (by omega) (lv_sub hl [0, 1, 2, 3, 5] rfl) hO hP hD hS
    | succ n21 ih21 =>
      intro i21 pl ls H locs hm21  hl hO hP hD hS
      refine lv_iload hx hb dDA_useHints_3 (lv_at hl 0 rfl) ?_
      refine lv_sipush (v := nI 256) hx hb dDA_useHints_5 (by decide) ?_
      refine mi_ge (tgt := 32) hx hb dDA_useHints_8 (by decide) (by omega) (by omega) (fun h24 => absurd h24 (by omega)) (fun h24 => ?_)
      refine lv_aload_n hx hb dDA_useHints_11 rfl (lv_at hl 1 rfl) ?_
      refine ty_get (ci := 6) (C := "LatticeKeys$Dsa") (TT := T_DA) (N := 17) (kd := (15, 0)) hx hb hts (wg_ft i_DA) hown hK hO k_h0 (nxg hc0 k_h0 rfl) hP (fun _ h9 => h9) rfl 10 (by decide) (hts _ (wg_t kw_175)) (fun _ h9 => h9) (cd := (3, 0, 256)) rfl dDA_useHints_12 (fun v23 hv23 => ?_)
      obtain ⟨r24, rfl, kr23⟩ := (show ∃ r : Nat, v23 = .ref r ∧ T r = some (0, 256) from hv23)
      refine lv_iload hx hb dDA_useHints_15 (lv_at hl 0 rfl) ?_
      refine lv_aload_n hx hb dDA_useHints_17 rfl (lv_at hl 2 rfl) ?_
      refine lv_aload_n hx hb dDA_useHints_18 rfl (lv_at hl 3 rfl) ?_
      refine lv_iload hx hb dDA_useHints_19 (lv_at hl 0 rfl) ?_
      refine ty_iald hx hb hK hO k_f (nxg hc0 k_f rfl) hP (vp_in_nI (by omega) (by decide)) dDA_useHints_21 (fun z24 => ?_)
      refine mp_i (cx := []) (wr := [(hints, .inl (g.2.1 1, 84, .inl fh))]) hP hD hS hA [] [0] rfl rfl rfl (by decide) (va_runV (As := [.int z24]) (rest := [.int (nI i21), .ref r24]) F (t_DS_high_1 l g _ T xs pl hO hU hc0 st z24 k_st) (cwV 1 hts (wg_app (wg_c kw_1206 (wg_c kw_1207 (wg_c kw_1208 (wg_c kw_8 wg_n)))) kw_1209) rfl rfl rfl (by decide +kernel) ⟨by decide, by decide⟩) (pp_VT (en_ok g) (ci := 2) (kd := (44, 0)) hK hO k_st (nxg hc0 k_st rfl) (fun _ h9 => ko1 h9) hP hD hS hA hE [] rfl rfl rfl) rfl rfl hl.1 rfl (lv_room (Nat.le_of_ble_eq_true rfl)) dDA_useHints_22 ⟨by omega, by omega⟩) (fun r25 pl H locs hu22 hP hD hS => ?_)
      obtain ⟨hq22, hO⟩ := hu22
      have hP : va_P g.1 vcl ([(hints, .inl (g.2.1 1, 84, .inl fh))] ++ pl) _ := hP
      have hD : va_D _ ([(hints, .inl (g.2.1 1, 84, .inl fh))] ++ pl) := hD
      refine W.widen (k := 0) (n := 0) (by omega) (by omega) ?_
      refine ty_iast hx hb hK hO kr23 (nxg hc0 kr23 rfl) hP hD hS (vp_in_nI (by omega) (by decide)) dDA_useHints_25 (fun pl H locs hO hP hD hS => ?_)
      refine mi_iinc (k := 0) (x := i21) (d := 1) (y := i21 + 1) (lv' := [(5, .int (nI (i21 + 1))), (0, .ref h0), (1, .ref st), (2, .ref f), (3, .int (nI fi)), (4, .int (nI en_))]) hx hb dDA_useHints_26 hl rfl (by decide) rfl (by decide) rfl (fun ls hl => ?_)
      refine lv_goto (tgt := 3) hx hb dDA_useHints_29 (by decide) ?_
      exact ih21 (i21 + 1) pl ls H locs (by omega) (lv_sub hl [0, 1, 2, 3, 4, 5] rfl) hO hP hD hS
  exact lp21 256 0 pl ls _ _ (by omega) (lv_sub hl [0, 1, 2, 3, 4, 5] rfl) hO hP hD hS
set_option maxHeartbeats 400000 in
set_option maxRecDepth 100000 in
theorem t_DA_useHints_2 (l : Launch) (g : Gd) (sz : Nat) (T : Ty) (xs : List Nat) (pl : va_W) (hO : okx g T xs pl) (hU : uni T) (hc0 : clo T xs 0) (hints : Nat) (h0 st f fi en_ : Nat) (fh : Nat → Int32) (k_hints : T hints = some (8, 84)) (k_h0 : T h0 = some (15, 0)) (k_st : T st = some (45, 0)) (k_f : T f = some (0, 256)) (h1 : en_ ≤ 75) (h2 : fi ≤ 255)  : Met l y_DA_useHints w_DA_useHints ({ frames := 2, cells := 0, slots := 0, locals := 45 } : Room) (va_Pc [.ref h0, .ref st, .ref f, .int (nI fi), .int (nI en_)] (pr (en g) g.1 vcl sz ([(hints, .inl (g.2.1 1, 84, .inl fh))] ++ pl))) (va_Qv (fun (u : va_W) => (True) ∧ okx g T xs u) (po g.1 vcl (va_A ([(hints, .inl (g.2.1 1, 84, .inl fh))] ++ pl) sz) (fun (u : va_W) => [(hints, .inl (g.2.1 1, 84, .inl fh))] ++ u)) (va_A ([(hints, .inl (g.2.1 1, 84, .inl fh))] ++ pl) sz)) 0 0 (va_A ([(hints, .inl (g.2.1 1, 84, .inl fh))] ++ pl) sz) := by
  refine mc_entry (cc := c_DA_useHints) (maxL := 7) (ret := none) (by decide) rfl (Nat.le_of_ble_eq_true rfl) ?_
  intro p e s m args below meth c ls F hr hlk hnm hsz hP hD hE hA hl
  obtain ⟨hx, hb, hml, hown, hts⟩ := id F
  have hK := hE.1
  generalize va_A ([(hints, .inl (g.2.1 1, 84, .inl fh))] ++ pl) sz = A at hD hE hA ⊢
  have hS : va_S A s.heap s.heap [] := va_S.rf
  have hl : lv_has ls 7 [(0, .ref h0), (1, .ref st), (2, .ref f), (3, .int (nI fi)), (4, .int (nI en_))] := hl
  refine lv_iconst (v := nI 0) hx hb dDA_useHints_0 (by decide) ?_
  refine lv_istore (lv' := [(5, .int (nI 0)), (0, .ref h0), (1, .ref st), (2, .ref f), (3, .int (nI fi)), (4, .int (nI en_))]) hx hb dDA_useHints_1 hl (by decide) rfl (fun ls hl => ?_)
  have lp21 : ∀ (n21 : Nat) (i21 : Nat) (pl : va_W) (ls : Array Slot) (H : Heap) (locs : List Loc), n21 + i21 = 256 → lv_has ls 7 [(5, .int (nI i21)), (0, .ref h0), (1, .ref st), (2, .ref f), (3, .int (nI fi)), (4, .int (nI en_))] → okx g T xs pl → va_P g.1 vcl ([(hints, .inl (g.2.1 1, 84, .inl fh))] ++ pl) H → va_D A ([(hints, .inl (g.2.1 1, 84, .inl fh))] ++ pl) → va_S A s.heap H locs → W p l e ({ frames := 2, cells := 0, slots := 0, locals := 45 } : Room) s m args below meth c H locs 0 0 (MQ below (va_Qv (fun (u : va_W) => (True) ∧ okx g T xs u) (po g.1 vcl A (fun (u : va_W) => [(hints, .inl (g.2.1 1, 84, .inl fh))] ++ u)) A) args s 0 0 A) (F0 m 3 ls []) := by
    intro n21
    induction n21 with
    | zero =>
      intro i21 pl ls H locs hm21  hl hO hP hD hS
      refine lv_iload hx hb dDA_useHints_3 (lv_at hl 0 rfl) ?_
      refine lv_sipush (v := nI 256) hx hb dDA_useHints_5 (by decide) ?_
      refine mi_ge (tgt := 32) hx hb dDA_useHints_8 (by decide) (by omega) (by omega) (fun h21 => ?_) (fun h21 => absurd h21 (by omega))
      refine lv_iload_n hx hb dDA_useHints_32 rfl (lv_at hl 4 rfl) ?_
      refine lv_istore (lv' := [(5, .int (nI fi)), (0, .ref h0), (1, .ref st), (2, .ref f), (3, .int (nI fi)), (4, .int (nI en_))]) hx hb dDA_useHints_33 hl (by decide) rfl (fun ls hl => ?_)
      have lp22 : ∀ (n22 : Nat) (kk21 : Nat) (pl : va_W) (ls : Array Slot) (H : Heap) (locs : List Loc), n22 = en_ - kk21 → (kk21 ≤ 255) → lv_has ls 7 [(5, .int (nI kk21)), (0, .ref h0), (1, .ref st), (2, .ref f), (4, .int (nI en_))] → okx g T xs pl → va_P g.1 vcl ([(hints, .inl (g.2.1 1, 84, .inl fh))] ++ pl) H → va_D A ([(hints, .inl (g.2.1 1, 84, .inl fh))] ++ pl) → va_S A s.heap H locs → W p l e ({ frames := 2, cells := 0, slots := 0, locals := 45 } : Room) s m args below meth c H locs 0 0 (MQ below (va_Qv (fun (u : va_W) => (True) ∧ okx g T xs u) (po g.1 vcl A (fun (u : va_W) => [(hints, .inl (g.2.1 1, 84, .inl fh))] ++ u)) A) args s 0 0 A) (F0 m 35 ls []) := by
        intro n22
        induction n22 with
        | zero =>
          intro kk21 pl ls H locs hm22 hi21 hl hO hP hD hS
          refine lv_iload hx hb dDA_useHints_35 (lv_at hl 0 rfl) ?_
          refine lv_iload hx hb dDA_useHints_37 (lv_at hl 4 rfl) ?_
          refine mi_ge (tgt := 76) hx hb dDA_useHints_39 (by decide) (by omega) (by omega) (fun h22 => ?_) (fun h22 => absurd h22 (by omega))
          exact mp_vret hx hb hr hlk hP hD hS pl ⟨trivial, hO⟩ [0] rfl rfl rfl (by omega) (by omega) dDA_useHints_76
        | succ n22 ih22 =>
          intro kk21 pl ls H locs hm22 hi21 hl hO hP hD hS
          refine lv_iload hx hb dDA_useHints_35 (lv_at hl 0 rfl) ?_
          refine lv_iload hx hb dDA_useHints_37 (lv_at hl 4 rfl) ?_
          refine mi_ge (tgt := 76) hx hb dDA_useHints_39 (by decide) (by omega) (by omega) (fun h23 => absurd h23 (by omega)) (fun h23 => ?_)
          refine lv_aload_n hx hb dDA_useHints_42 rfl (lv_at hl 1 rfl) ?_
          refine ty_get (ci := 6) (C := "LatticeKeys$Dsa") (TT := T_DA) (N := 17) (kd := (15, 0)) hx hb hts (wg_ft i_DA) hown hK hO k_h0 (nxg hc0 k_h0 rfl) hP (fun _ h9 => h9) rfl 15 (by decide) (hts _ (wg_t kw_180)) (fun _ h9 => h9) (cd := (3, 8, 84)) rfl dDA_useHints_43 (fun v21 hv21 => ?_)
          obtain ⟨r21, rfl, kr21⟩ := (show ∃ r : Nat, v21 = .ref r ∧ T r = some (8, 84) from hv21)
          obtain rfl : hints = r21 := hU _ _ _ (by decide) k_hints kr21
          refine lv_iload hx hb dDA_useHints_46 (lv_at hl 0 rfl) ?_
          refine ma_bald hx hb hK hP 0 1 rfl rfl (vp_in_nI (by omega) (by decide)) dDA_useHints_48 (fun z21 => ?_)
          refine lv_sipush (v := nI 255) hx hb dDA_useHints_49 (by decide) ?_
          refine mi_iand hx hb 8 dDA_useHints_52 (by decide) (fun z22 hz21 => ?_)
          have hz21 : z22 < 256 := hz21
          refine lv_istore (lv' := [(6, .int (nI z22)), (5, .int (nI kk21)), (0, .ref h0), (1, .ref st), (2, .ref f), (4, .int (nI en_))]) hx hb dDA_useHints_53 hl (by decide) rfl (fun ls hl => ?_)
          refine lv_aload_n hx hb dDA_useHints_55 rfl (lv_at hl 2 rfl) ?_
          refine ty_get (ci := 6) (C := "LatticeKeys$Dsa") (TT := T_DA) (N := 17) (kd := (15, 0)) hx hb hts (wg_ft i_DA) hown hK hO k_h0 (nxg hc0 k_h0 rfl) hP (fun _ h9 => h9) rfl 10 (by decide) (hts _ (wg_t kw_175)) (fun _ h9 => h9) (cd := (3, 0, 256)) rfl dDA_useHints_56 (fun v22 hv22 => ?_)
          obtain ⟨r22, rfl, kr22⟩ := (show ∃ r : Nat, v22 = .ref r ∧ T r = some (0, 256) from hv22)
          refine lv_iload hx hb dDA_useHints_59 (lv_at hl 0 rfl) ?_
          refine lv_aload_n hx hb dDA_useHints_61 rfl (lv_at hl 3 rfl) ?_
          refine lv_aload_n hx hb dDA_useHints_62 rfl (lv_at hl 4 rfl) ?_
          refine lv_iload hx hb dDA_useHints_63 (lv_at hl 0 rfl) ?_
          refine ty_iald hx hb hK hO k_f (nxg hc0 k_f rfl) hP (vp_in_nI (by omega) (by decide)) dDA_useHints_65 (fun z23 => ?_)
          refine mp_i (cx := []) (wr := [(hints, .inl (g.2.1 1, 84, .inl fh))]) hP hD hS hA [] [0] rfl rfl rfl (by decide) (va_runV (As := [.int z23]) (rest := [.int (nI z22), .ref r22]) F (t_DS_hintedHigh_2 l g _ T xs pl hO hU hc0 st z23 k_st) (cwV 1 hts (wg_app (wg_c kw_1281 (wg_c kw_1282 (wg_c kw_1283 (wg_c kw_8 wg_n)))) kw_1284) rfl rfl rfl (by decide +kernel) ⟨by decide, by decide⟩) (pp_VT (en_ok g) (ci := 2) (kd := (45, 0)) hK hO k_st (nxg hc0 k_st rfl) (fun _ h9 => ko1 h9) hP hD hS hA hE [] rfl rfl rfl) rfl rfl hl.1 rfl (lv_room (Nat.le_of_ble_eq_true rfl)) dDA_useHints_66 ⟨by omega, by omega⟩) (fun r23 pl H locs hu21 hP hD hS => ?_)
          obtain ⟨hq21, hO⟩ := hu21
          have hP : va_P g.1 vcl ([(hints, .inl (g.2.1 1, 84, .inl fh))] ++ pl) _ := hP
          have hD : va_D _ ([(hints, .inl (g.2.1 1, 84, .inl fh))] ++ pl) := hD
          refine W.widen (k := 0) (n := 0) (by omega) (by omega) ?_
          refine ty_iast hx hb hK hO kr22 (nxg hc0 kr22 rfl) hP hD hS (vp_in_nI (by omega) (by decide)) dDA_useHints_69 (fun pl H locs hO hP hD hS => ?_)
          refine mi_iinc (k := 1) (x := kk21) (d := 1) (y := kk21 + 1) (lv' := [(5, .int (nI (kk21 + 1))), (6, .int (nI z22)), (0, .ref h0), (1, .ref st), (2, .ref f), (4, .int (nI en_))]) hx hb dDA_useHints_70 hl rfl (by decide) rfl (by decide) rfl (fun ls hl => ?_)
          refine lv_goto (tgt := 35) hx hb dDA_useHints_73 (by decide) ?_
          exact ih22 (kk21 + 1) pl ls H locs (by omega) (by omega) (lv_sub hl [0, 2, 3, 4, 5] rfl) hO hP hD hS
      exact lp22 (en_ - fi) fi pl ls _ _ (by omega) (by omega) (lv_sub hl [0, 1, 2, 3, 5] rfl) hO hP hD hS
    | succ n21 ih21 =>
      intro i21 pl ls H locs hm21  hl hO hP hD hS
      refine lv_iload hx hb dDA_useHints_3 (lv_at hl 0 rfl) ?_
      refine lv_sipush (v := nI 256) hx hb dDA_useHints_5 (by decide) ?_
      refine mi_ge (tgt := 32) hx hb dDA_useHints_8 (by decide) (by omega) (by omega) (fun h24 => absurd h24 (by omega)) (fun h24 => ?_)
      refine lv_aload_n hx hb dDA_useHints_11 rfl (lv_at hl 1 rfl) ?_
      refine ty_get (ci := 6) (C := "LatticeKeys$Dsa") (TT := T_DA) (N := 17) (kd := (15, 0)) hx hb hts (wg_ft i_DA) hown hK hO k_h0 (nxg hc0 k_h0 rfl) hP (fun _ h9 => h9) rfl 10 (by decide) (hts _ (wg_t kw_175)) (fun _ h9 => h9) (cd := (3, 0, 256)) rfl dDA_useHints_12 (fun v23 hv23 => ?_)
      obtain ⟨r24, rfl, kr23⟩ := (show ∃ r : Nat, v23 = .ref r ∧ T r = some (0, 256) from hv23)
      refine lv_iload hx hb dDA_useHints_15 (lv_at hl 0 rfl) ?_
      refine lv_aload_n hx hb dDA_useHints_17 rfl (lv_at hl 2 rfl) ?_
      refine lv_aload_n hx hb dDA_useHints_18 rfl (lv_at hl 3 rfl) ?_
      refine lv_iload hx hb dDA_useHints_19 (lv_at hl 0 rfl) ?_
      refine ty_iald hx hb hK hO k_f (nxg hc0 k_f rfl) hP (vp_in_nI (by omega) (by decide)) dDA_useHints_21 (fun z24 => ?_)
      refine mp_i (cx := []) (wr := [(hints, .inl (g.2.1 1, 84, .inl fh))]) hP hD hS hA [] [0] rfl rfl rfl (by decide) (va_runV (As := [.int z24]) (rest := [.int (nI i21), .ref r24]) F (t_DS_high_2 l g _ T xs pl hO hU hc0 st z24 k_st) (cwV 1 hts (wg_app (wg_c kw_1206 (wg_c kw_1207 (wg_c kw_1208 (wg_c kw_8 wg_n)))) kw_1209) rfl rfl rfl (by decide +kernel) ⟨by decide, by decide⟩) (pp_VT (en_ok g) (ci := 2) (kd := (45, 0)) hK hO k_st (nxg hc0 k_st rfl) (fun _ h9 => ko1 h9) hP hD hS hA hE [] rfl rfl rfl) rfl rfl hl.1 rfl (lv_room (Nat.le_of_ble_eq_true rfl)) dDA_useHints_22 ⟨by omega, by omega⟩) (fun r25 pl H locs hu22 hP hD hS => ?_)
      obtain ⟨hq22, hO⟩ := hu22
      have hP : va_P g.1 vcl ([(hints, .inl (g.2.1 1, 84, .inl fh))] ++ pl) _ := hP
      have hD : va_D _ ([(hints, .inl (g.2.1 1, 84, .inl fh))] ++ pl) := hD
      refine W.widen (k := 0) (n := 0) (by omega) (by omega) ?_
      refine ty_iast hx hb hK hO kr23 (nxg hc0 kr23 rfl) hP hD hS (vp_in_nI (by omega) (by decide)) dDA_useHints_25 (fun pl H locs hO hP hD hS => ?_)
      refine mi_iinc (k := 0) (x := i21) (d := 1) (y := i21 + 1) (lv' := [(5, .int (nI (i21 + 1))), (0, .ref h0), (1, .ref st), (2, .ref f), (3, .int (nI fi)), (4, .int (nI en_))]) hx hb dDA_useHints_26 hl rfl (by decide) rfl (by decide) rfl (fun ls hl => ?_)
      refine lv_goto (tgt := 3) hx hb dDA_useHints_29 (by decide) ?_
      exact ih21 (i21 + 1) pl ls H locs (by omega) (lv_sub hl [0, 1, 2, 3, 4, 5] rfl) hO hP hD hS
  exact lp21 256 0 pl ls _ _ (by omega) (lv_sub hl [0, 1, 2, 3, 4, 5] rfl) hO hP hD hS
set_option maxHeartbeats 400000 in
set_option maxRecDepth 100000 in
theorem t_DA_rebuildRow_0 (l : Launch) (g : Gd) (sz : Nat) (T : Ty) (xs : List Nat) (pl : va_W) (hO : okx g T xs pl) (hU : uni T) (hc0 : clo T xs 0) (h0 st pk rw : Nat) (k_h0 : T h0 = some (15, 0)) (k_st : T st = some (43, 0)) (k_pk : T pk = some (1, 1312)) (h1 : rw < 4)  : Met l y_DA_rebuildRow w_DA_rebuildRow ({ frames := 2, cells := 0, slots := 0, locals := 54 } : Room) (va_Pc [.ref h0, .ref st, .ref pk, .int (nI rw)] (pr (en g) g.1 vcl sz ([] ++ pl))) (va_Qv (fun (u : va_W) => (True) ∧ okx g T xs u) (po g.1 vcl (va_A ([] ++ pl) sz) (fun (u : va_W) => [] ++ u)) (va_A ([] ++ pl) sz)) 0 0 (va_A ([] ++ pl) sz) := by
  refine mc_entry (cc := c_DA_rebuildRow) (maxL := 5) (ret := none) (by decide) rfl (Nat.le_of_ble_eq_true rfl) ?_
  intro p e s m args below meth c ls F hr hlk hnm hsz hP hD hE hA hl
  obtain ⟨hx, hb, hml, hown, hts⟩ := id F
  have hK := hE.1
  generalize va_A ([] ++ pl) sz = A at hD hE hA ⊢
  have hS : va_S A s.heap s.heap [] := va_S.rf
  have hl : lv_has ls 5 [(0, .ref h0), (1, .ref st), (2, .ref pk), (3, .int (nI rw))] := hl
  refine lv_aload_n hx hb dDA_rebuildRow_0 rfl (lv_at hl 0 rfl) ?_
  refine lv_aload_n hx hb dDA_rebuildRow_1 rfl (lv_at hl 1 rfl) ?_
  refine lv_iload_n hx hb dDA_rebuildRow_2 rfl (lv_at hl 3 rfl) ?_
  refine lv_aload_n hx hb dDA_rebuildRow_3 rfl (lv_at hl 0 rfl) ?_
  refine ty_get (ci := 6) (C := "LatticeKeys$Dsa") (TT := T_DA) (N := 17) (kd := (15, 0)) hx hb hts (wg_ft i_DA) hown hK hO k_h0 (nxg hc0 k_h0 rfl) hP (fun _ h9 => h9) rfl 7 (by decide) (hts _ (wg_t kw_172)) (fun _ h9 => h9) (cd := (3, 3, 7)) rfl dDA_rebuildRow_4 (fun v21 hv21 => ?_)
  obtain ⟨r21, rfl, kr21⟩ := (show ∃ r : Nat, v21 = .ref r ∧ T r = some (3, 7) from hv21)
  refine mp_v (cx := []) (wr := []) hP hD hS hA [] [] rfl rfl rfl (by decide) (va_runV (As := [.ref st, .int (nI rw), .ref r21]) (rest := []) F (t_DA_multiplyRow_0 l g _ T xs pl hO hU hc0 h0 st r21 rw k_h0 k_st kr21 (by omega)) (cwV 3 hts (wg_app (wg_c kw_712 (wg_c kw_714 (wg_c ks_15 (wg_c kw_5 wg_n)))) kw_715) rfl rfl rfl (by decide +kernel) ⟨by decide, by decide⟩) (pp_VT (en_ok g) (ci := 6) (kd := (15, 0)) hK hO k_h0 (nxg hc0 k_h0 rfl) (fun _ h9 => ko1 h9) hP hD hS hA hE [] rfl rfl rfl) rfl rfl hl.1 rfl (lv_room (Nat.le_of_ble_eq_true rfl)) dDA_rebuildRow_7 ⟨by omega, by omega⟩) (fun  pl H locs hu21 hP hD hS => ?_)
  obtain ⟨hq21, hO⟩ := hu21
  have hP : va_P g.1 vcl ([] ++ pl) _ := hP
  have hD : va_D _ ([] ++ pl) := hD
  refine W.widen (k := 0) (n := 0) (by omega) (by omega) ?_
  refine lv_aload_n hx hb dDA_rebuildRow_10 rfl (lv_at hl 0 rfl) ?_
  refine ty_get (ci := 6) (C := "LatticeKeys$Dsa") (TT := T_DA) (N := 17) (kd := (15, 0)) hx hb hts (wg_ft i_DA) hown hK hO k_h0 (nxg hc0 k_h0 rfl) hP (fun _ h9 => h9) rfl 10 (by decide) (hts _ (wg_t kw_175)) (fun _ h9 => h9) (cd := (3, 0, 256)) rfl dDA_rebuildRow_11 (fun v22 hv22 => ?_)
  obtain ⟨r22, rfl, kr22⟩ := (show ∃ r : Nat, v22 = .ref r ∧ T r = some (0, 256) from hv22)
  refine lv_bipush (v := nI 10) hx hb dDA_rebuildRow_14 (by decide) ?_
  refine lv_aload_n hx hb dDA_rebuildRow_16 rfl (lv_at hl 2 rfl) ?_
  refine lv_bipush (v := nI 32) hx hb dDA_rebuildRow_17 (by decide) ?_
  refine lv_sipush (v := nI 320) hx hb dDA_rebuildRow_19 (by decide) ?_
  refine lv_iload_n hx hb dDA_rebuildRow_22 rfl (lv_at hl 3 rfl) ?_
  refine mi_imul hx hb dDA_rebuildRow_23 ?_
  refine mi_iadd hx hb dDA_rebuildRow_24 ?_
  refine mp_v (cx := []) (wr := []) hP hD hS hA [] [] rfl rfl rfl (by decide) (va_runS (As := [.ref r22, .int (nI 10), .ref pk, .int (nI (32 + (320 * rw)))]) (rest := []) F (t_BT_unpack l g _ T xs pl hO hU hc0 r22 pk 1312 10 (32 + (320 * rw)) kr22 k_pk (by omega) (by omega) (by omega)) (va_cwS 4 hts (wg_app (wg_c kw_1187 (wg_c kw_628 (wg_c kw_22 wg_n))) kw_629) rfl rfl rfl (by decide +kernel) ⟨by decide, by decide⟩) (pp_S (en_ok g) hP hD hS hA hE [] rfl rfl) rfl rfl hl.1 rfl (lv_room (Nat.le_of_ble_eq_true rfl)) dDA_rebuildRow_25 ⟨by omega, by omega⟩) (fun  pl H locs hu22 hP hD hS => ?_)
  obtain ⟨hq22, hO⟩ := hu22
  have hP : va_P g.1 vcl ([] ++ pl) _ := hP
  have hD : va_D _ ([] ++ pl) := hD
  refine W.widen (k := 0) (n := 0) (by omega) (by omega) ?_
  refine lv_iconst (v := nI 0) hx hb dDA_rebuildRow_28 (by decide) ?_
  refine lv_istore (lv' := [(4, .int (nI 0)), (0, .ref h0), (1, .ref st), (2, .ref pk), (3, .int (nI rw))]) hx hb dDA_rebuildRow_29 hl (by decide) rfl (fun ls hl => ?_)
  have lp21 : ∀ (n21 : Nat) (i21 : Nat) (pl : va_W) (ls : Array Slot) (H : Heap) (locs : List Loc), n21 + i21 = 256 → lv_has ls 5 [(4, .int (nI i21)), (0, .ref h0), (3, .int (nI rw))] → okx g T xs pl → va_P g.1 vcl ([] ++ pl) H → va_D A ([] ++ pl) → va_S A s.heap H locs → W p l e ({ frames := 2, cells := 0, slots := 0, locals := 54 } : Room) s m args below meth c H locs 0 0 (MQ below (va_Qv (fun (u : va_W) => (True) ∧ okx g T xs u) (po g.1 vcl A (fun (u : va_W) => [] ++ u)) A) args s 0 0 A) (F0 m 31 ls []) := by
    intro n21
    induction n21 with
    | zero =>
      intro i21 pl ls H locs hm21  hl hO hP hD hS
      refine lv_iload hx hb dDA_rebuildRow_31 (lv_at hl 0 rfl) ?_
      refine lv_sipush (v := nI 256) hx hb dDA_rebuildRow_33 (by decide) ?_
      refine mi_ge (tgt := 57) hx hb dDA_rebuildRow_36 (by decide) (by omega) (by omega) (fun h21 => ?_) (fun h21 => absurd h21 (by omega))
      refine lv_aload_n hx hb dDA_rebuildRow_57 rfl (lv_at hl 1 rfl) ?_
      refine ty_get (ci := 6) (C := "LatticeKeys$Dsa") (TT := T_DA) (N := 17) (kd := (15, 0)) hx hb hts (wg_ft i_DA) hown hK hO k_h0 (nxg hc0 k_h0 rfl) hP (fun _ h9 => h9) rfl 1 (by decide) (hts _ (wg_t kw_166)) (fun _ h9 => h9) (cd := (3, 12, 0)) rfl dDA_rebuildRow_58 (fun v23 hv23 => ?_)
      obtain ⟨r23, rfl, kr23⟩ := (show ∃ r : Nat, v23 = .ref r ∧ T r = some (12, 0) from hv23)
      refine lv_aload_n hx hb dDA_rebuildRow_61 rfl (lv_at hl 1 rfl) ?_
      refine ty_get (ci := 6) (C := "LatticeKeys$Dsa") (TT := T_DA) (N := 17) (kd := (15, 0)) hx hb hts (wg_ft i_DA) hown hK hO k_h0 (nxg hc0 k_h0 rfl) hP (fun _ h9 => h9) rfl 10 (by decide) (hts _ (wg_t kw_175)) (fun _ h9 => h9) (cd := (3, 0, 256)) rfl dDA_rebuildRow_62 (fun v24 hv24 => ?_)
      obtain ⟨r24, rfl, kr24⟩ := (show ∃ r : Nat, v24 = .ref r ∧ T r = some (0, 256) from hv24)
      refine mp_v (cx := []) (wr := []) hP hD hS hA [] [] rfl rfl rfl (by decide) (va_runV (As := [.ref r24]) (rest := []) F (t_RG_transform_12 l g _ T xs pl hO hU hc0 r23 r24 kr23 kr24) (cwV 1 hts (wg_app (wg_c kw_711 (wg_c kw_637 (wg_c kw_638 (wg_c kw_4 wg_n)))) kw_639) rfl rfl rfl (by decide +kernel) ⟨by decide, by decide⟩) (pp_VT (en_ok g) (ci := 4) (kd := (12, 0)) hK hO kr23 (nxg hc0 kr23 rfl) (fun _ h9 => ko1 h9) hP hD hS hA hE [] rfl rfl rfl) rfl rfl hl.1 rfl (lv_room (Nat.le_of_ble_eq_true rfl)) dDA_rebuildRow_65 ⟨by omega, by omega⟩) (fun  pl H locs hu23 hP hD hS => ?_)
      obtain ⟨hq23, hO⟩ := hu23
      have hP : va_P g.1 vcl ([] ++ pl) _ := hP
      have hD : va_D _ ([] ++ pl) := hD
      refine W.widen (k := 0) (n := 0) (by omega) (by omega) ?_
      refine lv_aload_n hx hb dDA_rebuildRow_68 rfl (lv_at hl 1 rfl) ?_
      refine ty_get (ci := 6) (C := "LatticeKeys$Dsa") (TT := T_DA) (N := 17) (kd := (15, 0)) hx hb hts (wg_ft i_DA) hown hK hO k_h0 (nxg hc0 k_h0 rfl) hP (fun _ h9 => h9) rfl 6 (by decide) (hts _ (wg_t kw_171)) (fun _ h9 => h9) (cd := (3, 3, 8)) rfl dDA_rebuildRow_69 (fun v25 hv25 => ?_)
      obtain ⟨r25, rfl, kr25⟩ := (show ∃ r : Nat, v25 = .ref r ∧ T r = some (3, 8) from hv25)
      refine lv_iload_n hx hb dDA_rebuildRow_72 rfl (lv_at hl 2 rfl) ?_
      refine ty_aald3 hx hb hK hO kr25 (nxg hc0 kr25 rfl) hP (by omega) (by decide) dDA_rebuildRow_73 (fun r26 kr26 => ?_)
      refine lv_iconst (v := nI 0) hx hb dDA_rebuildRow_74 (by decide) ?_
      refine mp_v (cx := []) (wr := []) hP hD hS hA [] [] rfl rfl rfl (by decide) (va_runS (As := [.ref r26, .int (nI 0)]) (rest := []) F (t_fillI l g _ T xs pl hO hU hc0 r26 256 (nI 0) kr26 (by omega)) (va_cwS 2 hts (wg_app (wg_c kw_716 (wg_c kw_717 (wg_c kw_21 wg_n))) kw_718) rfl rfl rfl (by decide +kernel) ⟨by decide, by decide⟩) (pp_S (en_ok g) hP hD hS hA hE [] rfl rfl) rfl rfl hl.1 rfl (lv_room (Nat.le_of_ble_eq_true rfl)) dDA_rebuildRow_75 ⟨by omega, by omega⟩) (fun  pl H locs hu24 hP hD hS => ?_)
      obtain ⟨hq24, hO⟩ := hu24
      have hP : va_P g.1 vcl ([] ++ pl) _ := hP
      have hD : va_D _ ([] ++ pl) := hD
      refine W.widen (k := 0) (n := 0) (by omega) (by omega) ?_
      refine lv_aload_n hx hb dDA_rebuildRow_78 rfl (lv_at hl 1 rfl) ?_
      refine ty_get (ci := 6) (C := "LatticeKeys$Dsa") (TT := T_DA) (N := 17) (kd := (15, 0)) hx hb hts (wg_ft i_DA) hown hK hO k_h0 (nxg hc0 k_h0 rfl) hP (fun _ h9 => h9) rfl 1 (by decide) (hts _ (wg_t kw_166)) (fun _ h9 => h9) (cd := (3, 12, 0)) rfl dDA_rebuildRow_79 (fun v26 hv26 => ?_)
      obtain ⟨r27, rfl, kr27⟩ := (show ∃ r : Nat, v26 = .ref r ∧ T r = some (12, 0) from hv26)
      refine lv_aload_n hx hb dDA_rebuildRow_82 rfl (lv_at hl 1 rfl) ?_
      refine ty_get (ci := 6) (C := "LatticeKeys$Dsa") (TT := T_DA) (N := 17) (kd := (15, 0)) hx hb hts (wg_ft i_DA) hown hK hO k_h0 (nxg hc0 k_h0 rfl) hP (fun _ h9 => h9) rfl 6 (by decide) (hts _ (wg_t kw_171)) (fun _ h9 => h9) (cd := (3, 3, 8)) rfl dDA_rebuildRow_83 (fun v27 hv27 => ?_)
      obtain ⟨r28, rfl, kr28⟩ := (show ∃ r : Nat, v27 = .ref r ∧ T r = some (3, 8) from hv27)
      refine lv_iload_n hx hb dDA_rebuildRow_86 rfl (lv_at hl 2 rfl) ?_
      refine ty_aald3 hx hb hK hO kr28 (nxg hc0 kr28 rfl) hP (by omega) (by decide) dDA_rebuildRow_87 (fun r29 kr29 => ?_)
      refine lv_aload_n hx hb dDA_rebuildRow_88 rfl (lv_at hl 1 rfl) ?_
      refine ty_get (ci := 6) (C := "LatticeKeys$Dsa") (TT := T_DA) (N := 17) (kd := (15, 0)) hx hb hts (wg_ft i_DA) hown hK hO k_h0 (nxg hc0 k_h0 rfl) hP (fun _ h9 => h9) rfl 9 (by decide) (hts _ (wg_t kw_174)) (fun _ h9 => h9) (cd := (3, 0, 256)) rfl dDA_rebuildRow_89 (fun v28 hv28 => ?_)
      obtain ⟨r30, rfl, kr30⟩ := (show ∃ r : Nat, v28 = .ref r ∧ T r = some (0, 256) from hv28)
      refine lv_aload_n hx hb dDA_rebuildRow_92 rfl (lv_at hl 1 rfl) ?_
      refine ty_get (ci := 6) (C := "LatticeKeys$Dsa") (TT := T_DA) (N := 17) (kd := (15, 0)) hx hb hts (wg_ft i_DA) hown hK hO k_h0 (nxg hc0 k_h0 rfl) hP (fun _ h9 => h9) rfl 10 (by decide) (hts _ (wg_t kw_175)) (fun _ h9 => h9) (cd := (3, 0, 256)) rfl dDA_rebuildRow_93 (fun v29 hv29 => ?_)
      obtain ⟨r31, rfl, kr31⟩ := (show ∃ r : Nat, v29 = .ref r ∧ T r = some (0, 256) from hv29)
      refine mp_v (cx := []) (wr := []) hP hD hS hA [] [] rfl rfl rfl (by decide) (va_runV (As := [.ref r29, .ref r30, .ref r31]) (rest := []) F (t_RG_addProduct_12 l g _ T xs pl hO hU hc0 r27 r29 r30 r31 kr27 kr29 kr30 kr31) (cwV 3 hts (wg_app (wg_c kw_719 (wg_c kw_654 (wg_c kw_655 (wg_c kw_4 wg_n)))) kw_656) rfl rfl rfl (by decide +kernel) ⟨by decide, by decide⟩) (pp_VT (en_ok g) (ci := 4) (kd := (12, 0)) hK hO kr27 (nxg hc0 kr27 rfl) (fun _ h9 => ko1 h9) hP hD hS hA hE [] rfl rfl rfl) rfl rfl hl.1 rfl (lv_room (Nat.le_of_ble_eq_true rfl)) dDA_rebuildRow_96 ⟨by omega, by omega⟩) (fun  pl H locs hu25 hP hD hS => ?_)
      obtain ⟨hq25, hO⟩ := hu25
      have hP : va_P g.1 vcl ([] ++ pl) _ := hP
      have hD : va_D _ ([] ++ pl) := hD
      refine W.widen (k := 0) (n := 0) (by omega) (by omega) ?_
      refine lv_aload_n hx hb dDA_rebuildRow_99 rfl (lv_at hl 1 rfl) ?_
      refine ty_get (ci := 6) (C := "LatticeKeys$Dsa") (TT := T_DA) (N := 17) (kd := (15, 0)) hx hb hts (wg_ft i_DA) hown hK hO k_h0 (nxg hc0 k_h0 rfl) hP (fun _ h9 => h9) rfl 1 (by decide) (hts _ (wg_t kw_166)) (fun _ h9 => h9) (cd := (3, 12, 0)) rfl dDA_rebuildRow_100 (fun v30 hv30 => ?_)
      obtain ⟨r32, rfl, kr32⟩ := (show ∃ r : Nat, v30 = .ref r ∧ T r = some (12, 0) from hv30)
      refine lv_aload_n hx hb dDA_rebuildRow_103 rfl (lv_at hl 1 rfl) ?_
      refine ty_get (ci := 6) (C := "LatticeKeys$Dsa") (TT := T_DA) (N := 17) (kd := (15, 0)) hx hb hts (wg_ft i_DA) hown hK hO k_h0 (nxg hc0 k_h0 rfl) hP (fun _ h9 => h9) rfl 8 (by decide) (hts _ (wg_t kw_173)) (fun _ h9 => h9) (cd := (3, 3, 8)) rfl dDA_rebuildRow_104 (fun v31 hv31 => ?_)
      obtain ⟨r33, rfl, kr33⟩ := (show ∃ r : Nat, v31 = .ref r ∧ T r = some (3, 8) from hv31)
      refine lv_iload_n hx hb dDA_rebuildRow_107 rfl (lv_at hl 2 rfl) ?_
      refine ty_aald3 hx hb hK hO kr33 (nxg hc0 kr33 rfl) hP (by omega) (by decide) dDA_rebuildRow_108 (fun r34 kr34 => ?_)
      refine lv_aload_n hx hb dDA_rebuildRow_109 rfl (lv_at hl 1 rfl) ?_
      refine ty_get (ci := 6) (C := "LatticeKeys$Dsa") (TT := T_DA) (N := 17) (kd := (15, 0)) hx hb hts (wg_ft i_DA) hown hK hO k_h0 (nxg hc0 k_h0 rfl) hP (fun _ h9 => h9) rfl 6 (by decide) (hts _ (wg_t kw_171)) (fun _ h9 => h9) (cd := (3, 3, 8)) rfl dDA_rebuildRow_110 (fun v32 hv32 => ?_)
      obtain ⟨r35, rfl, kr35⟩ := (show ∃ r : Nat, v32 = .ref r ∧ T r = some (3, 8) from hv32)
      refine lv_iload_n hx hb dDA_rebuildRow_113 rfl (lv_at hl 2 rfl) ?_
      refine ty_aald3 hx hb hK hO kr35 (nxg hc0 kr35 rfl) hP (by omega) (by decide) dDA_rebuildRow_114 (fun r36 kr36 => ?_)
      refine mp_v (cx := []) (wr := []) hP hD hS hA [] [] rfl rfl rfl (by decide) (va_runV (As := [.ref r34, .ref r36]) (rest := []) F (t_RG_subtract_12 l g _ T xs pl hO hU hc0 r32 r34 r36 kr32 kr34 kr36) (cwV 2 hts (wg_app (wg_c kw_1236 (wg_c kw_1155 (wg_c kw_1156 (wg_c kw_4 wg_n)))) kw_1157) rfl rfl rfl (by decide +kernel) ⟨by decide, by decide⟩) (pp_VT (en_ok g) (ci := 4) (kd := (12, 0)) hK hO kr32 (nxg hc0 kr32 rfl) (fun _ h9 => ko1 h9) hP hD hS hA hE [] rfl rfl rfl) rfl rfl hl.1 rfl (lv_room (Nat.le_of_ble_eq_true rfl)) dDA_rebuildRow_115 ⟨by omega, by omega⟩) (fun  pl H locs hu26 hP hD hS => ?_)
      obtain ⟨hq26, hO⟩ := hu26
      have hP : va_P g.1 vcl ([] ++ pl) _ := hP
      have hD : va_D _ ([] ++ pl) := hD
      refine W.widen (k := 0) (n := 0) (by omega) (by omega) ?_
      refine lv_aload_n hx hb dDA_rebuildRow_118 rfl (lv_at hl 1 rfl) ?_
      refine ty_get (ci := 6) (C := "LatticeKeys$Dsa") (TT := T_DA) (N := 17) (kd := (15, 0)) hx hb hts (wg_ft i_DA) hown hK hO k_h0 (nxg hc0 k_h0 rfl) hP (fun _ h9 => h9) rfl 1 (by decide) (hts _ (wg_t kw_166)) (fun _ h9 => h9) (cd := (3, 12, 0)) rfl dDA_rebuildRow_119 (fun v33 hv33 => ?_)
      obtain ⟨r37, rfl, kr37⟩ := (show ∃ r : Nat, v33 = .ref r ∧ T r = some (12, 0) from hv33)
      refine lv_aload_n hx hb dDA_rebuildRow_122 rfl (lv_at hl 1 rfl) ?_
      refine ty_get (ci := 6) (C := "LatticeKeys$Dsa") (TT := T_DA) (N := 17) (kd := (15, 0)) hx hb hts (wg_ft i_DA) hown hK hO k_h0 (nxg hc0 k_h0 rfl) hP (fun _ h9 => h9) rfl 8 (by decide) (hts _ (wg_t kw_173)) (fun _ h9 => h9) (cd := (3, 3, 8)) rfl dDA_rebuildRow_123 (fun v34 hv34 => ?_)
      obtain ⟨r38, rfl, kr38⟩ := (show ∃ r : Nat, v34 = .ref r ∧ T r = some (3, 8) from hv34)
      refine lv_iload_n hx hb dDA_rebuildRow_126 rfl (lv_at hl 2 rfl) ?_
      refine ty_aald3 hx hb hK hO kr38 (nxg hc0 kr38 rfl) hP (by omega) (by decide) dDA_rebuildRow_127 (fun r39 kr39 => ?_)
      refine mp_v (cx := []) (wr := []) hP hD hS hA [] [] rfl rfl rfl (by decide) (va_runV (As := [.ref r39]) (rest := []) F (t_RG_restore_12 l g _ T xs pl hO hU hc0 r37 r39 kr37 kr39) (cwV 1 hts (wg_app (wg_c kw_720 (wg_c kw_721 (wg_c kw_722 (wg_c kw_4 wg_n)))) kw_723) rfl rfl rfl (by decide +kernel) ⟨by decide, by decide⟩) (pp_VT (en_ok g) (ci := 4) (kd := (12, 0)) hK hO kr37 (nxg hc0 kr37 rfl) (fun _ h9 => ko1 h9) hP hD hS hA hE [] rfl rfl rfl) rfl rfl hl.1 rfl (lv_room (Nat.le_of_ble_eq_true rfl)) dDA_rebuildRow_128 ⟨by omega, by omega⟩) (fun  pl H locs hu27 hP hD hS => ?_)
      obtain ⟨hq27, hO⟩ := hu27
      have hP : va_P g.1 vcl ([] ++ pl) _ := hP
      have hD : va_D _ ([] ++ pl) := hD
      refine W.widen (k := 0) (n := 0) (by omega) (by omega) ?_
      exact mp_vret hx hb hr hlk hP hD hS pl ⟨trivial, hO⟩ [] rfl rfl rfl (by omega) (by omega) dDA_rebuildRow_131
    | succ n21 ih21 =>
      intro i21 pl ls H locs hm21  hl hO hP hD hS
      refine lv_iload hx hb dDA_rebuildRow_31 (lv_at hl 0 rfl) ?_
      refine lv_sipush (v := nI 256) hx hb dDA_rebuildRow_33 (by decide) ?_
      refine mi_ge (tgt := 57) hx hb dDA_rebuildRow_36 (by decide) (by omega) (by omega) (fun h22 => absurd h22 (by omega)) (fun h22 => ?_)
      refine lv_aload_n hx hb dDA_rebuildRow_39 rfl (lv_at hl 1 rfl) ?_
      refine ty_get (ci := 6) (C := "LatticeKeys$Dsa") (TT := T_DA) (N := 17) (kd := (15, 0)) hx hb hts (wg_ft i_DA) hown hK hO k_h0 (nxg hc0 k_h0 rfl) hP (fun _ h9 => h9) rfl 10 (by decide) (hts _ (wg_t kw_175)) (fun _ h9 => h9) (cd := (3, 0, 256)) rfl dDA_rebuildRow_40 (fun v35 hv35 => ?_)
      obtain ⟨r40, rfl, kr40⟩ := (show ∃ r : Nat, v35 = .ref r ∧ T r = some (0, 256) from hv35)
      refine lv_iload hx hb dDA_rebuildRow_43 (lv_at hl 0 rfl) ?_
      refine lv_dup2_11 hx hb dDA_rebuildRow_45 rfl rfl ?_
      refine ty_iald hx hb hK hO kr40 (nxg hc0 kr40 rfl) hP (vp_in_nI (by omega) (by decide)) dDA_rebuildRow_46 (fun z21 => ?_)
      refine lv_bipush (v := nI 13) hx hb dDA_rebuildRow_47 (by decide) ?_
      refine lv_ishl hx hb dDA_rebuildRow_49 ?_
      refine mi_any (fun z22 => ?_)
      refine ty_iast hx hb hK hO kr40 (nxg hc0 kr40 rfl) hP hD hS (vp_in_nI (by omega) (by decide)) dDA_rebuildRow_50 (fun pl H locs hO hP hD hS => ?_)
      refine mi_iinc (k := 0) (x := i21) (d := 1) (y := i21 + 1) (lv' := [(4, .int (nI (i21 + 1))), (0, .ref h0), (3, .int (nI rw))]) hx hb dDA_rebuildRow_51 hl rfl (by decide) rfl (by decide) rfl (fun ls hl => ?_)
      refine lv_goto (tgt := 31) hx hb dDA_rebuildRow_54 (by decide) ?_
      exact ih21 (i21 + 1) pl ls H locs (by omega) (lv_sub hl [0, 1, 2] rfl) hO hP hD hS
  exact lp21 256 0 pl ls _ _ (by omega) (lv_sub hl [0, 1, 4] rfl) hO hP hD hS
set_option maxHeartbeats 400000 in
set_option maxRecDepth 100000 in
theorem t_DA_rebuildRow_1 (l : Launch) (g : Gd) (sz : Nat) (T : Ty) (xs : List Nat) (pl : va_W) (hO : okx g T xs pl) (hU : uni T) (hc0 : clo T xs 0) (h0 st pk rw : Nat) (k_h0 : T h0 = some (15, 0)) (k_st : T st = some (44, 0)) (k_pk : T pk = some (1, 1952)) (h1 : rw < 6)  : Met l y_DA_rebuildRow w_DA_rebuildRow ({ frames := 2, cells := 0, slots := 0, locals := 54 } : Room) (va_Pc [.ref h0, .ref st, .ref pk, .int (nI rw)] (pr (en g) g.1 vcl sz ([] ++ pl))) (va_Qv (fun (u : va_W) => (True) ∧ okx g T xs u) (po g.1 vcl (va_A ([] ++ pl) sz) (fun (u : va_W) => [] ++ u)) (va_A ([] ++ pl) sz)) 0 0 (va_A ([] ++ pl) sz) := by
  refine mc_entry (cc := c_DA_rebuildRow) (maxL := 5) (ret := none) (by decide) rfl (Nat.le_of_ble_eq_true rfl) ?_
  intro p e s m args below meth c ls F hr hlk hnm hsz hP hD hE hA hl
  obtain ⟨hx, hb, hml, hown, hts⟩ := id F
  have hK := hE.1
  generalize va_A ([] ++ pl) sz = A at hD hE hA ⊢
  have hS : va_S A s.heap s.heap [] := va_S.rf
  have hl : lv_has ls 5 [(0, .ref h0), (1, .ref st), (2, .ref pk), (3, .int (nI rw))] := hl
  refine lv_aload_n hx hb dDA_rebuildRow_0 rfl (lv_at hl 0 rfl) ?_
  refine lv_aload_n hx hb dDA_rebuildRow_1 rfl (lv_at hl 1 rfl) ?_
  refine lv_iload_n hx hb dDA_rebuildRow_2 rfl (lv_at hl 3 rfl) ?_
  refine lv_aload_n hx hb dDA_rebuildRow_3 rfl (lv_at hl 0 rfl) ?_
  refine ty_get (ci := 6) (C := "LatticeKeys$Dsa") (TT := T_DA) (N := 17) (kd := (15, 0)) hx hb hts (wg_ft i_DA) hown hK hO k_h0 (nxg hc0 k_h0 rfl) hP (fun _ h9 => h9) rfl 7 (by decide) (hts _ (wg_t kw_172)) (fun _ h9 => h9) (cd := (3, 3, 7)) rfl dDA_rebuildRow_4 (fun v21 hv21 => ?_)
  obtain ⟨r21, rfl, kr21⟩ := (show ∃ r : Nat, v21 = .ref r ∧ T r = some (3, 7) from hv21)
  refine mp_v (cx := []) (wr := []) hP hD hS hA [] [] rfl rfl rfl (by decide) (va_runV (As := [.ref st, .int (nI rw), .ref r21]) (rest := []) F (t_DA_multiplyRow_1 l g _ T xs pl hO hU hc0 h0 st r21 rw k_h0 k_st kr21 (by omega)) (cwV 3 hts (wg_app (wg_c kw_712 (wg_c kw_714 (wg_c ks_15 (wg_c kw_5 wg_n)))) kw_715) rfl rfl rfl (by decide +kernel) ⟨by decide, by decide⟩) (pp_VT (en_ok g) (ci := 6) (kd := (15, 0)) hK hO k_h0 (nxg hc0 k_h0 rfl) (fun _ h9 => ko1 h9) hP hD hS hA hE [] rfl rfl rfl) rfl rfl hl.1 rfl (lv_room (Nat.le_of_ble_eq_true rfl)) dDA_rebuildRow_7 ⟨by omega, by omega⟩) (fun  pl H locs hu21 hP hD hS => ?_)
  obtain ⟨hq21, hO⟩ := hu21
  have hP : va_P g.1 vcl ([] ++ pl) _ := hP
  have hD : va_D _ ([] ++ pl) := hD
  refine W.widen (k := 0) (n := 0) (by omega) (by omega) ?_
  refine lv_aload_n hx hb dDA_rebuildRow_10 rfl (lv_at hl 0 rfl) ?_
  refine ty_get (ci := 6) (C := "LatticeKeys$Dsa") (TT := T_DA) (N := 17) (kd := (15, 0)) hx hb hts (wg_ft i_DA) hown hK hO k_h0 (nxg hc0 k_h0 rfl) hP (fun _ h9 => h9) rfl 10 (by decide) (hts _ (wg_t kw_175)) (fun _ h9 => h9) (cd := (3, 0, 256)) rfl dDA_rebuildRow_11 (fun v22 hv22 => ?_)
  obtain ⟨r22, rfl, kr22⟩ := (show ∃ r : Nat, v22 = .ref r ∧ T r = some (0, 256) from hv22)
  refine lv_bipush (v := nI 10) hx hb dDA_rebuildRow_14 (by decide) ?_
  refine lv_aload_n hx hb dDA_rebuildRow_16 rfl (lv_at hl 2 rfl) ?_
  refine lv_bipush (v := nI 32) hx hb dDA_rebuildRow_17 (by decide) ?_
  refine lv_sipush (v := nI 320) hx hb dDA_rebuildRow_19 (by decide) ?_
  refine lv_iload_n hx hb dDA_rebuildRow_22 rfl (lv_at hl 3 rfl) ?_
  refine mi_imul hx hb dDA_rebuildRow_23 ?_
  refine mi_iadd hx hb dDA_rebuildRow_24 ?_
  refine mp_v (cx := []) (wr := []) hP hD hS hA [] [] rfl rfl rfl (by decide) (va_runS (As := [.ref r22, .int (nI 10), .ref pk, .int (nI (32 + (320 * rw)))]) (rest := []) F (t_BT_unpack l g _ T xs pl hO hU hc0 r22 pk 1952 10 (32 + (320 * rw)) kr22 k_pk (by omega) (by omega) (by omega)) (va_cwS 4 hts (wg_app (wg_c kw_1187 (wg_c kw_628 (wg_c kw_22 wg_n))) kw_629) rfl rfl rfl (by decide +kernel) ⟨by decide, by decide⟩) (pp_S (en_ok g) hP hD hS hA hE [] rfl rfl) rfl rfl hl.1 rfl (lv_room (Nat.le_of_ble_eq_true rfl)) dDA_rebuildRow_25 ⟨by omega, by omega⟩) (fun  pl H locs hu22 hP hD hS => ?_)
  obtain ⟨hq22, hO⟩ := hu22
  have hP : va_P g.1 vcl ([] ++ pl) _ := hP
  have hD : va_D _ ([] ++ pl) := hD
  refine W.widen (k := 0) (n := 0) (by omega) (by omega) ?_
  refine lv_iconst (v := nI 0) hx hb dDA_rebuildRow_28 (by decide) ?_
  refine lv_istore (lv' := [(4, .int (nI 0)), (0, .ref h0), (1, .ref st), (2, .ref pk), (3, .int (nI rw))]) hx hb dDA_rebuildRow_29 hl (by decide) rfl (fun ls hl => ?_)
  have lp21 : ∀ (n21 : Nat) (i21 : Nat) (pl : va_W) (ls : Array Slot) (H : Heap) (locs : List Loc), n21 + i21 = 256 → lv_has ls 5 [(4, .int (nI i21)), (0, .ref h0), (3, .int (nI rw))] → okx g T xs pl → va_P g.1 vcl ([] ++ pl) H → va_D A ([] ++ pl) → va_S A s.heap H locs → W p l e ({ frames := 2, cells := 0, slots := 0, locals := 54 } : Room) s m args below meth c H locs 0 0 (MQ below (va_Qv (fun (u : va_W) => (True) ∧ okx g T xs u) (po g.1 vcl A (fun (u : va_W) => [] ++ u)) A) args s 0 0 A) (F0 m 31 ls []) := by
    intro n21
    induction n21 with
    | zero =>
      intro i21 pl ls H locs hm21  hl hO hP hD hS
      refine lv_iload hx hb dDA_rebuildRow_31 (lv_at hl 0 rfl) ?_
      refine lv_sipush (v := nI 256) hx hb dDA_rebuildRow_33 (by decide) ?_
      refine mi_ge (tgt := 57) hx hb dDA_rebuildRow_36 (by decide) (by omega) (by omega) (fun h21 => ?_) (fun h21 => absurd h21 (by omega))
      refine lv_aload_n hx hb dDA_rebuildRow_57 rfl (lv_at hl 1 rfl) ?_
      refine ty_get (ci := 6) (C := "LatticeKeys$Dsa") (TT := T_DA) (N := 17) (kd := (15, 0)) hx hb hts (wg_ft i_DA) hown hK hO k_h0 (nxg hc0 k_h0 rfl) hP (fun _ h9 => h9) rfl 1 (by decide) (hts _ (wg_t kw_166)) (fun _ h9 => h9) (cd := (3, 12, 0)) rfl dDA_rebuildRow_58 (fun v23 hv23 => ?_)
      obtain ⟨r23, rfl, kr23⟩ := (show ∃ r : Nat, v23 = .ref r ∧ T r = some (12, 0) from hv23)
      refine lv_aload_n hx hb dDA_rebuildRow_61 rfl (lv_at hl 1 rfl) ?_
      refine ty_get (ci := 6) (C := "LatticeKeys$Dsa") (TT := T_DA) (N := 17) (kd := (15, 0)) hx hb hts (wg_ft i_DA) hown hK hO k_h0 (nxg hc0 k_h0 rfl) hP (fun _ h9 => h9) rfl 10 (by decide) (hts _ (wg_t kw_175)) (fun _ h9 => h9) (cd := (3, 0, 256)) rfl dDA_rebuildRow_62 (fun v24 hv24 => ?_)
      obtain ⟨r24, rfl, kr24⟩ := (show ∃ r : Nat, v24 = .ref r ∧ T r = some (0, 256) from hv24)
      refine mp_v (cx := []) (wr := []) hP hD hS hA [] [] rfl rfl rfl (by decide) (va_runV (As := [.ref r24]) (rest := []) F (t_RG_transform_12 l g _ T xs pl hO hU hc0 r23 r24 kr23 kr24) (cwV 1 hts (wg_app (wg_c kw_711 (wg_c kw_637 (wg_c kw_638 (wg_c kw_4 wg_n)))) kw_639) rfl rfl rfl (by decide +kernel) ⟨by decide, by decide⟩) (pp_VT (en_ok g) (ci := 4) (kd := (12, 0)) hK hO kr23 (nxg hc0 kr23 rfl) (fun _ h9 => ko1 h9) hP hD hS hA hE [] rfl rfl rfl) rfl rfl hl.1 rfl (lv_room (Nat.le_of_ble_eq_true rfl)) dDA_rebuildRow_65 ⟨by omega, by omega⟩) (fun  pl H locs hu23 hP hD hS => ?_)
      obtain ⟨hq23, hO⟩ := hu23
      have hP : va_P g.1 vcl ([] ++ pl) _ := hP
      have hD : va_D _ ([] ++ pl) := hD
      refine W.widen (k := 0) (n := 0) (by omega) (by omega) ?_
      refine lv_aload_n hx hb dDA_rebuildRow_68 rfl (lv_at hl 1 rfl) ?_
      refine ty_get (ci := 6) (C := "LatticeKeys$Dsa") (TT := T_DA) (N := 17) (kd := (15, 0)) hx hb hts (wg_ft i_DA) hown hK hO k_h0 (nxg hc0 k_h0 rfl) hP (fun _ h9 => h9) rfl 6 (by decide) (hts _ (wg_t kw_171)) (fun _ h9 => h9) (cd := (3, 3, 8)) rfl dDA_rebuildRow_69 (fun v25 hv25 => ?_)
      obtain ⟨r25, rfl, kr25⟩ := (show ∃ r : Nat, v25 = .ref r ∧ T r = some (3, 8) from hv25)
      refine lv_iload_n hx hb dDA_rebuildRow_72 rfl (lv_at hl 2 rfl) ?_
      refine ty_aald3 hx hb hK hO kr25 (nxg hc0 kr25 rfl) hP (by omega) (by decide) dDA_rebuildRow_73 (fun r26 kr26 => ?_)
      refine lv_iconst (v := nI 0) hx hb dDA_rebuildRow_74 (by decide) ?_
      refine mp_v (cx := []) (wr := []) hP hD hS hA [] [] rfl rfl rfl (by decide) (va_runS (As := [.ref r26, .int (nI 0)]) (rest := []) F (t_fillI l g _ T xs pl hO hU hc0 r26 256 (nI 0) kr26 (by omega)) (va_cwS 2 hts (wg_app (wg_c kw_716 (wg_c kw_717 (wg_c kw_21 wg_n))) kw_718) rfl rfl rfl (by decide +kernel) ⟨by decide, by decide⟩) (pp_S (en_ok g) hP hD hS hA hE [] rfl rfl) rfl rfl hl.1 rfl (lv_room (Nat.le_of_ble_eq_true rfl)) dDA_rebuildRow_75 ⟨by omega, by omega⟩) (fun  pl H locs hu24 hP hD hS => ?_)
      obtain ⟨hq24, hO⟩ := hu24
      have hP : va_P g.1 vcl ([] ++ pl) _ := hP
      have hD : va_D _ ([] ++ pl) := hD
      refine W.widen (k := 0) (n := 0) (by omega) (by omega) ?_
      refine lv_aload_n hx hb dDA_rebuildRow_78 rfl (lv_at hl 1 rfl) ?_
      refine ty_get (ci := 6) (C := "LatticeKeys$Dsa") (TT := T_DA) (N := 17) (kd := (15, 0)) hx hb hts (wg_ft i_DA) hown hK hO k_h0 (nxg hc0 k_h0 rfl) hP (fun _ h9 => h9) rfl 1 (by decide) (hts _ (wg_t kw_166)) (fun _ h9 => h9) (cd := (3, 12, 0)) rfl dDA_rebuildRow_79 (fun v26 hv26 => ?_)
      obtain ⟨r27, rfl, kr27⟩ := (show ∃ r : Nat, v26 = .ref r ∧ T r = some (12, 0) from hv26)
      refine lv_aload_n hx hb dDA_rebuildRow_82 rfl (lv_at hl 1 rfl) ?_
      refine ty_get (ci := 6) (C := "LatticeKeys$Dsa") (TT := T_DA) (N := 17) (kd := (15, 0)) hx hb hts (wg_ft i_DA) hown hK hO k_h0 (nxg hc0 k_h0 rfl) hP (fun _ h9 => h9) rfl 6 (by decide) (hts _ (wg_t kw_171)) (fun _ h9 => h9) (cd := (3, 3, 8)) rfl dDA_rebuildRow_83 (fun v27 hv27 => ?_)
      obtain ⟨r28, rfl, kr28⟩ := (show ∃ r : Nat, v27 = .ref r ∧ T r = some (3, 8) from hv27)
      refine lv_iload_n hx hb dDA_rebuildRow_86 rfl (lv_at hl 2 rfl) ?_
      refine ty_aald3 hx hb hK hO kr28 (nxg hc0 kr28 rfl) hP (by omega) (by decide) dDA_rebuildRow_87 (fun r29 kr29 => ?_)
      refine lv_aload_n hx hb dDA_rebuildRow_88 rfl (lv_at hl 1 rfl) ?_
      refine ty_get (ci := 6) (C := "LatticeKeys$Dsa") (TT := T_DA) (N := 17) (kd := (15, 0)) hx hb hts (wg_ft i_DA) hown hK hO k_h0 (nxg hc0 k_h0 rfl) hP (fun _ h9 => h9) rfl 9 (by decide) (hts _ (wg_t kw_174)) (fun _ h9 => h9) (cd := (3, 0, 256)) rfl dDA_rebuildRow_89 (fun v28 hv28 => ?_)
      obtain ⟨r30, rfl, kr30⟩ := (show ∃ r : Nat, v28 = .ref r ∧ T r = some (0, 256) from hv28)
      refine lv_aload_n hx hb dDA_rebuildRow_92 rfl (lv_at hl 1 rfl) ?_
      refine ty_get (ci := 6) (C := "LatticeKeys$Dsa") (TT := T_DA) (N := 17) (kd := (15, 0)) hx hb hts (wg_ft i_DA) hown hK hO k_h0 (nxg hc0 k_h0 rfl) hP (fun _ h9 => h9) rfl 10 (by decide) (hts _ (wg_t kw_175)) (fun _ h9 => h9) (cd := (3, 0, 256)) rfl dDA_rebuildRow_93 (fun v29 hv29 => ?_)
      obtain ⟨r31, rfl, kr31⟩ := (show ∃ r : Nat, v29 = .ref r ∧ T r = some (0, 256) from hv29)
      refine mp_v (cx := []) (wr := []) hP hD hS hA [] [] rfl rfl rfl (by decide) (va_runV (As := [.ref r29, .ref r30, .ref r31]) (rest := []) F (t_RG_addProduct_12 l g _ T xs pl hO hU hc0 r27 r29 r30 r31 kr27 kr29 kr30 kr31) (cwV 3 hts (wg_app (wg_c kw_719 (wg_c kw_654 (wg_c kw_655 (wg_c kw_4 wg_n)))) kw_656) rfl rfl rfl (by decide +kernel) ⟨by decide, by decide⟩) (pp_VT (en_ok g) (ci := 4) (kd := (12, 0)) hK hO kr27 (nxg hc0 kr27 rfl) (fun _ h9 => ko1 h9) hP hD hS hA hE [] rfl rfl rfl) rfl rfl hl.1 rfl (lv_room (Nat.le_of_ble_eq_true rfl)) dDA_rebuildRow_96 ⟨by omega, by omega⟩) (fun  pl H locs hu25 hP hD hS => ?_)
      obtain ⟨hq25, hO⟩ := hu25
      have hP : va_P g.1 vcl ([] ++ pl) _ := hP
      have hD : va_D _ ([] ++ pl) := hD
      refine W.widen (k := 0) (n := 0) (by omega) (by omega) ?_
      refine lv_aload_n hx hb dDA_rebuildRow_99 rfl (lv_at hl 1 rfl) ?_
      refine ty_get (ci := 6) (C := "LatticeKeys$Dsa") (TT := T_DA) (N := 17) (kd := (15, 0)) hx hb hts (wg_ft i_DA) hown hK hO k_h0 (nxg hc0 k_h0 rfl) hP (fun _ h9 => h9) rfl 1 (by decide) (hts _ (wg_t kw_166)) (fun _ h9 => h9) (cd := (3, 12, 0)) rfl dDA_rebuildRow_100 (fun v30 hv30 => ?_)
      obtain ⟨r32, rfl, kr32⟩ := (show ∃ r : Nat, v30 = .ref r ∧ T r = some (12, 0) from hv30)
      refine lv_aload_n hx hb dDA_rebuildRow_103 rfl (lv_at hl 1 rfl) ?_
      refine ty_get (ci := 6) (C := "LatticeKeys$Dsa") (TT := T_DA) (N := 17) (kd := (15, 0)) hx hb hts (wg_ft i_DA) hown hK hO k_h0 (nxg hc0 k_h0 rfl) hP (fun _ h9 => h9) rfl 8 (by decide) (hts _ (wg_t kw_173)) (fun _ h9 => h9) (cd := (3, 3, 8)) rfl dDA_rebuildRow_104 (fun v31 hv31 => ?_)
      obtain ⟨r33, rfl, kr33⟩ := (show ∃ r : Nat, v31 = .ref r ∧ T r = some (3, 8) from hv31)
      refine lv_iload_n hx hb dDA_rebuildRow_107 rfl (lv_at hl 2 rfl) ?_
      refine ty_aald3 hx hb hK hO kr33 (nxg hc0 kr33 rfl) hP (by omega) (by decide) dDA_rebuildRow_108 (fun r34 kr34 => ?_)
      refine lv_aload_n hx hb dDA_rebuildRow_109 rfl (lv_at hl 1 rfl) ?_
      refine ty_get (ci := 6) (C := "LatticeKeys$Dsa") (TT := T_DA) (N := 17) (kd := (15, 0)) hx hb hts (wg_ft i_DA) hown hK hO k_h0 (nxg hc0 k_h0 rfl) hP (fun _ h9 => h9) rfl 6 (by decide) (hts _ (wg_t kw_171)) (fun _ h9 => h9) (cd := (3, 3, 8)) rfl dDA_rebuildRow_110 (fun v32 hv32 => ?_)
      obtain ⟨r35, rfl, kr35⟩ := (show ∃ r : Nat, v32 = .ref r ∧ T r = some (3, 8) from hv32)
      refine lv_iload_n hx hb dDA_rebuildRow_113 rfl (lv_at hl 2 rfl) ?_
      refine ty_aald3 hx hb hK hO kr35 (nxg hc0 kr35 rfl) hP (by omega) (by decide) dDA_rebuildRow_114 (fun r36 kr36 => ?_)
      refine mp_v (cx := []) (wr := []) hP hD hS hA [] [] rfl rfl rfl (by decide) (va_runV (As := [.ref r34, .ref r36]) (rest := []) F (t_RG_subtract_12 l g _ T xs pl hO hU hc0 r32 r34 r36 kr32 kr34 kr36) (cwV 2 hts (wg_app (wg_c kw_1236 (wg_c kw_1155 (wg_c kw_1156 (wg_c kw_4 wg_n)))) kw_1157) rfl rfl rfl (by decide +kernel) ⟨by decide, by decide⟩) (pp_VT (en_ok g) (ci := 4) (kd := (12, 0)) hK hO kr32 (nxg hc0 kr32 rfl) (fun _ h9 => ko1 h9) hP hD hS hA hE [] rfl rfl rfl) rfl rfl hl.1 rfl (lv_room (Nat.le_of_ble_eq_true rfl)) dDA_rebuildRow_115 ⟨by omega, by omega⟩) (fun  pl H locs hu26 hP hD hS => ?_)
      obtain ⟨hq26, hO⟩ := hu26
      have hP : va_P g.1 vcl ([] ++ pl) _ := hP
      have hD : va_D _ ([] ++ pl) := hD
      refine W.widen (k := 0) (n := 0) (by omega) (by omega) ?_
      refine lv_aload_n hx hb dDA_rebuildRow_118 rfl (lv_at hl 1 rfl) ?_
      refine ty_get (ci := 6) (C := "LatticeKeys$Dsa") (TT := T_DA) (N := 17) (kd := (15, 0)) hx hb hts (wg_ft i_DA) hown hK hO k_h0 (nxg hc0 k_h0 rfl) hP (fun _ h9 => h9) rfl 1 (by decide) (hts _ (wg_t kw_166)) (fun _ h9 => h9) (cd := (3, 12, 0)) rfl dDA_rebuildRow_119 (fun v33 hv33 => ?_)
      obtain ⟨r37, rfl, kr37⟩ := (show ∃ r : Nat, v33 = .ref r ∧ T r = some (12, 0) from hv33)
      refine lv_aload_n hx hb dDA_rebuildRow_122 rfl (lv_at hl 1 rfl) ?_
      refine ty_get (ci := 6) (C := "LatticeKeys$Dsa") (TT := T_DA) (N := 17) (kd := (15, 0)) hx hb hts (wg_ft i_DA) hown hK hO k_h0 (nxg hc0 k_h0 rfl) hP (fun _ h9 => h9) rfl 8 (by decide) (hts _ (wg_t kw_173)) (fun _ h9 => h9) (cd := (3, 3, 8)) rfl dDA_rebuildRow_123 (fun v34 hv34 => ?_)
      obtain ⟨r38, rfl, kr38⟩ := (show ∃ r : Nat, v34 = .ref r ∧ T r = some (3, 8) from hv34)
      refine lv_iload_n hx hb dDA_rebuildRow_126 rfl (lv_at hl 2 rfl) ?_
      refine ty_aald3 hx hb hK hO kr38 (nxg hc0 kr38 rfl) hP (by omega) (by decide) dDA_rebuildRow_127 (fun r39 kr39 => ?_)
      refine mp_v (cx := []) (wr := []) hP hD hS hA [] [] rfl rfl rfl (by decide) (va_runV (As := [.ref r39]) (rest := []) F (t_RG_restore_12 l g _ T xs pl hO hU hc0 r37 r39 kr37 kr39) (cwV 1 hts (wg_app (wg_c kw_720 (wg_c kw_721 (wg_c kw_722 (wg_c kw_4 wg_n)))) kw_723) rfl rfl rfl (by decide +kernel) ⟨by decide, by decide⟩) (pp_VT (en_ok g) (ci := 4) (kd := (12, 0)) hK hO kr37 (nxg hc0 kr37 rfl) (fun _ h9 => ko1 h9) hP hD hS hA hE [] rfl rfl rfl) rfl rfl hl.1 rfl (lv_room (Nat.le_of_ble_eq_true rfl)) dDA_rebuildRow_128 ⟨by omega, by omega⟩) (fun  pl H locs hu27 hP hD hS => ?_)
      obtain ⟨hq27, hO⟩ := hu27
      have hP : va_P g.1 vcl ([] ++ pl) _ := hP
      have hD : va_D _ ([] ++ pl) := hD
      refine W.widen (k := 0) (n := 0) (by omega) (by omega) ?_
      exact mp_vret hx hb hr hlk hP hD hS pl ⟨trivial, hO⟩ [] rfl rfl rfl (by omega) (by omega) dDA_rebuildRow_131
    | succ n21 ih21 =>
      intro i21 pl ls H locs hm21  hl hO hP hD hS
      refine lv_iload hx hb dDA_rebuildRow_31 (lv_at hl 0 rfl) ?_
      refine lv_sipush (v := nI 256) hx hb dDA_rebuildRow_33 (by decide) ?_
      refine mi_ge (tgt := 57) hx hb dDA_rebuildRow_36 (by decide) (by omega) (by omega) (fun h22 => absurd h22 (by omega)) (fun h22 => ?_)
      refine lv_aload_n hx hb dDA_rebuildRow_39 rfl (lv_at hl 1 rfl) ?_
      refine ty_get (ci := 6) (C := "LatticeKeys$Dsa") (TT := T_DA) (N := 17) (kd := (15, 0)) hx hb hts (wg_ft i_DA) hown hK hO k_h0 (nxg hc0 k_h0 rfl) hP (fun _ h9 => h9) rfl 10 (by decide) (hts _ (wg_t kw_175)) (fun _ h9 => h9) (cd := (3, 0, 256)) rfl dDA_rebuildRow_40 (fun v35 hv35 => ?_)
      obtain ⟨r40, rfl, kr40⟩ := (show ∃ r : Nat, v35 = .ref r ∧ T r = some (0, 256) from hv35)
      refine lv_iload hx hb dDA_rebuildRow_43 (lv_at hl 0 rfl) ?_
      refine lv_dup2_11 hx hb dDA_rebuildRow_45 rfl rfl ?_
      refine ty_iald hx hb hK hO kr40 (nxg hc0 kr40 rfl) hP (vp_in_nI (by omega) (by decide)) dDA_rebuildRow_46 (fun z21 => ?_)
      refine lv_bipush (v := nI 13) hx hb dDA_rebuildRow_47 (by decide) ?_
      refine lv_ishl hx hb dDA_rebuildRow_49 ?_
      refine mi_any (fun z22 => ?_)
      refine ty_iast hx hb hK hO kr40 (nxg hc0 kr40 rfl) hP hD hS (vp_in_nI (by omega) (by decide)) dDA_rebuildRow_50 (fun pl H locs hO hP hD hS => ?_)
      refine mi_iinc (k := 0) (x := i21) (d := 1) (y := i21 + 1) (lv' := [(4, .int (nI (i21 + 1))), (0, .ref h0), (3, .int (nI rw))]) hx hb dDA_rebuildRow_51 hl rfl (by decide) rfl (by decide) rfl (fun ls hl => ?_)
      refine lv_goto (tgt := 31) hx hb dDA_rebuildRow_54 (by decide) ?_
      exact ih21 (i21 + 1) pl ls H locs (by omega) (lv_sub hl [0, 1, 2] rfl) hO hP hD hS
  exact lp21 256 0 pl ls _ _ (by omega) (lv_sub hl [0, 1, 4] rfl) hO hP hD hS
set_option maxHeartbeats 400000 in
set_option maxRecDepth 100000 in
theorem t_DA_rebuildRow_2 (l : Launch) (g : Gd) (sz : Nat) (T : Ty) (xs : List Nat) (pl : va_W) (hO : okx g T xs pl) (hU : uni T) (hc0 : clo T xs 0) (h0 st pk rw : Nat) (k_h0 : T h0 = some (15, 0)) (k_st : T st = some (45, 0)) (k_pk : T pk = some (1, 2592)) (h1 : rw < 8)  : Met l y_DA_rebuildRow w_DA_rebuildRow ({ frames := 2, cells := 0, slots := 0, locals := 54 } : Room) (va_Pc [.ref h0, .ref st, .ref pk, .int (nI rw)] (pr (en g) g.1 vcl sz ([] ++ pl))) (va_Qv (fun (u : va_W) => (True) ∧ okx g T xs u) (po g.1 vcl (va_A ([] ++ pl) sz) (fun (u : va_W) => [] ++ u)) (va_A ([] ++ pl) sz)) 0 0 (va_A ([] ++ pl) sz) := by
  refine mc_entry (cc := c_DA_rebuildRow) (maxL := 5) (ret := none) (by decide) rfl (Nat.le_of_ble_eq_true rfl) ?_
  intro p e s m args below meth c ls F hr hlk hnm hsz hP hD hE hA hl
  obtain ⟨hx, hb, hml, hown, hts⟩ := id F
  have hK := hE.1
  generalize va_A ([] ++ pl) sz = A at hD hE hA ⊢
  have hS : va_S A s.heap s.heap [] := va_S.rf
  have hl : lv_has ls 5 [(0, .ref h0), (1, .ref st), (2, .ref pk), (3, .int (nI rw))] := hl
  refine lv_aload_n hx hb dDA_rebuildRow_0 rfl (lv_at hl 0 rfl) ?_
  refine lv_aload_n hx hb dDA_rebuildRow_1 rfl (lv_at hl 1 rfl) ?_
  refine lv_iload_n hx hb dDA_rebuildRow_2 rfl (lv_at hl 3 rfl) ?_
  refine lv_aload_n hx hb dDA_rebuildRow_3 rfl (lv_at hl 0 rfl) ?_
  refine ty_get (ci := 6) (C := "LatticeKeys$Dsa") (TT := T_DA) (N := 17) (kd := (15, 0)) hx hb hts (wg_ft i_DA) hown hK hO k_h0 (nxg hc0 k_h0 rfl) hP (fun _ h9 => h9) rfl 7 (by decide) (hts _ (wg_t kw_172)) (fun _ h9 => h9) (cd := (3, 3, 7)) rfl dDA_rebuildRow_4 (fun v21 hv21 => ?_)
  obtain ⟨r21, rfl, kr21⟩ := (show ∃ r : Nat, v21 = .ref r ∧ T r = some (3, 7) from hv21)
  refine mp_v (cx := []) (wr := []) hP hD hS hA [] [] rfl rfl rfl (by decide) (va_runV (As := [.ref st, .int (nI rw), .ref r21]) (rest := []) F (t_DA_multiplyRow_2 l g _ T xs pl hO hU hc0 h0 st r21 rw k_h0 k_st kr21 (by omega)) (cwV 3 hts (wg_app (wg_c kw_712 (wg_c kw_714 (wg_c ks_15 (wg_c kw_5 wg_n)))) kw_715) rfl rfl rfl (by decide +kernel) ⟨by decide, by decide⟩) (pp_VT (en_ok g) (ci := 6) (kd := (15, 0)) hK hO k_h0 (nxg hc0 k_h0 rfl) (fun _ h9 => ko1 h9) hP hD hS hA hE [] rfl rfl rfl) rfl rfl hl.1 rfl (lv_room (Nat.le_of_ble_eq_true rfl)) dDA_rebuildRow_7 ⟨by omega, by omega⟩) (fun  pl H locs hu21 hP hD hS => ?_)
  obtain ⟨hq21, hO⟩ := hu21
  have hP : va_P g.1 vcl ([] ++ pl) _ := hP
  have hD : va_D _ ([] ++ pl) := hD
  refine W.widen (k := 0) (n := 0) (by omega) (by omega) ?_
  refine lv_aload_n hx hb dDA_rebuildRow_10 rfl (lv_at hl 0 rfl) ?_
  refine ty_get (ci := 6) (C := "LatticeKeys$Dsa") (TT := T_DA) (N := 17) (kd := (15, 0)) hx hb hts (wg_ft i_DA) hown hK hO k_h0 (nxg hc0 k_h0 rfl) hP (fun _ h9 => h9) rfl 10 (by decide) (hts _ (wg_t kw_175)) (fun _ h9 => h9) (cd := (3, 0, 256)) rfl dDA_rebuildRow_11 (fun v22 hv22 => ?_)
  obtain ⟨r22, rfl, kr22⟩ := (show ∃ r : Nat, v22 = .ref r ∧ T r = some (0, 256) from hv22)
  refine lv_bipush (v := nI 10) hx hb dDA_rebuildRow_14 (by decide) ?_
  refine lv_aload_n hx hb dDA_rebuildRow_16 rfl (lv_at hl 2 rfl) ?_
  refine lv_bipush (v := nI 32) hx hb dDA_rebuildRow_17 (by decide) ?_
  refine lv_sipush (v := nI 320) hx hb dDA_rebuildRow_19 (by decide) ?_
  refine lv_iload_n hx hb dDA_rebuildRow_22 rfl (lv_at hl 3 rfl) ?_
  refine mi_imul hx hb dDA_rebuildRow_23 ?_
  refine mi_iadd hx hb dDA_rebuildRow_24 ?_
  refine mp_v (cx := []) (wr := []) hP hD hS hA [] [] rfl rfl rfl (by decide) (va_runS (As := [.ref r22, .int (nI 10), .ref pk, .int (nI (32 + (320 * rw)))]) (rest := []) F (t_BT_unpack l g _ T xs pl hO hU hc0 r22 pk 2592 10 (32 + (320 * rw)) kr22 k_pk (by omega) (by omega) (by omega)) (va_cwS 4 hts (wg_app (wg_c kw_1187 (wg_c kw_628 (wg_c kw_22 wg_n))) kw_629) rfl rfl rfl (by decide +kernel) ⟨by decide, by decide⟩) (pp_S (en_ok g) hP hD hS hA hE [] rfl rfl) rfl rfl hl.1 rfl (lv_room (Nat.le_of_ble_eq_true rfl)) dDA_rebuildRow_25 ⟨by omega, by omega⟩) (fun  pl H locs hu22 hP hD hS => ?_)
  obtain ⟨hq22, hO⟩ := hu22
  have hP : va_P g.1 vcl ([] ++ pl) _ := hP
  have hD : va_D _ ([] ++ pl) := hD
  refine W.widen (k := 0) (n := 0) (by omega) (by omega) ?_
  refine lv_iconst (v := nI 0) hx hb dDA_rebuildRow_28 (by decide) ?_
  refine lv_istore (lv' := [(4, .int (nI 0)), (0, .ref h0), (1, .ref st), (2, .ref pk), (3, .int (nI rw))]) hx hb dDA_rebuildRow_29 hl (by decide) rfl (fun ls hl => ?_)
  have lp21 : ∀ (n21 : Nat) (i21 : Nat) (pl : va_W) (ls : Array Slot) (H : Heap) (locs : List Loc), n21 + i21 = 256 → lv_has ls 5 [(4, .int (nI i21)), (0, .ref h0), (3, .int (nI rw))] → okx g T xs pl → va_P g.1 vcl ([] ++ pl) H → va_D A ([] ++ pl) → va_S A s.heap H locs → W p l e ({ frames := 2, cells := 0, slots := 0, locals := 54 } : Room) s m args below meth c H locs 0 0 (MQ below (va_Qv (fun (u : va_W) => (True) ∧ okx g T xs u) (po g.1 vcl A (fun (u : va_W) => [] ++ u)) A) args s 0 0 A) (F0 m 31 ls []) := by
    intro n21
    induction n21 with
    | zero =>
      intro i21 pl ls H locs hm21  hl hO hP hD hS
      refine lv_iload hx hb dDA_rebuildRow_31 (lv_at hl 0 rfl) ?_
      refine lv_sipush (v := nI 256) hx hb dDA_rebuildRow_33 (by decide) ?_
      refine mi_ge (tgt := 57) hx hb dDA_rebuildRow_36 (by decide) (by omega) (by omega) (fun h21 => ?_) (fun h21 => absurd h21 (by omega))
      refine lv_aload_n hx hb dDA_rebuildRow_57 rfl (lv_at hl 1 rfl) ?_
      refine ty_get (ci := 6) (C := "LatticeKeys$Dsa") (TT := T_DA) (N := 17) (kd := (15, 0)) hx hb hts (wg_ft i_DA) hown hK hO k_h0 (nxg hc0 k_h0 rfl) hP (fun _ h9 => h9) rfl 1 (by decide) (hts _ (wg_t kw_166)) (fun _ h9 => h9) (cd := (3, 12, 0)) rfl dDA_rebuildRow_58 (fun v23 hv23 => ?_)
      obtain ⟨r23, rfl, kr23⟩ := (show ∃ r : Nat, v23 = .ref r ∧ T r = some (12, 0) from hv23)
      refine lv_aload_n hx hb dDA_rebuildRow_61 rfl (lv_at hl 1 rfl) ?_
      refine ty_get (ci := 6) (C := "LatticeKeys$Dsa") (TT := T_DA) (N := 17) (kd := (15, 0)) hx hb hts (wg_ft i_DA) hown hK hO k_h0 (nxg hc0 k_h0 rfl) hP (fun _ h9 => h9) rfl 10 (by decide) (hts _ (wg_t kw_175)) (fun _ h9 => h9) (cd := (3, 0, 256)) rfl dDA_rebuildRow_62 (fun v24 hv24 => ?_)
      obtain ⟨r24, rfl, kr24⟩ := (show ∃ r : Nat, v24 = .ref r ∧ T r = some (0, 256) from hv24)
      refine mp_v (cx := []) (wr := []) hP hD hS hA [] [] rfl rfl rfl (by decide) (va_runV (As := [.ref r24]) (rest := []) F (t_RG_transform_12 l g _ T xs pl hO hU hc0 r23 r24 kr23 kr24) (cwV 1 hts (wg_app (wg_c kw_711 (wg_c kw_637 (wg_c kw_638 (wg_c kw_4 wg_n)))) kw_639) rfl rfl rfl (by decide +kernel) ⟨by decide, by decide⟩) (pp_VT (en_ok g) (ci := 4) (kd := (12, 0)) hK hO kr23 (nxg hc0 kr23 rfl) (fun _ h9 => ko1 h9) hP hD hS hA hE [] rfl rfl rfl) rfl rfl hl.1 rfl (lv_room (Nat.le_of_ble_eq_true rfl)) dDA_rebuildRow_65 ⟨by omega, by omega⟩) (fun  pl H locs hu23 hP hD hS => ?_)
      obtain ⟨hq23, hO⟩ := hu23
      have hP : va_P g.1 vcl ([] ++ pl) _ := hP
      have hD : va_D _ ([] ++ pl) := hD
      refine W.widen (k := 0) (n := 0) (by omega) (by omega) ?_
      refine lv_aload_n hx hb dDA_rebuildRow_68 rfl (lv_at hl 1 rfl) ?_
      refine ty_get (ci := 6) (C := "LatticeKeys$Dsa") (TT := T_DA) (N := 17) (kd := (15, 0)) hx hb hts (wg_ft i_DA) hown hK hO k_h0 (nxg hc0 k_h0 rfl) hP (fun _ h9 => h9) rfl 6 (by decide) (hts _ (wg_t kw_171)) (fun _ h9 => h9) (cd := (3, 3, 8)) rfl dDA_rebuildRow_69 (fun v25 hv25 => ?_)
      obtain ⟨r25, rfl, kr25⟩ := (show ∃ r : Nat, v25 = .ref r ∧ T r = some (3, 8) from hv25)
      refine lv_iload_n hx hb dDA_rebuildRow_72 rfl (lv_at hl 2 rfl) ?_
      refine ty_aald3 hx hb hK hO kr25 (nxg hc0 kr25 rfl) hP (by omega) (by decide) dDA_rebuildRow_73 (fun r26 kr26 => ?_)
      refine lv_iconst (v := nI 0) hx hb dDA_rebuildRow_74 (by decide) ?_
      refine mp_v (cx := []) (wr := []) hP hD hS hA [] [] rfl rfl rfl (by decide) (va_runS (As := [.ref r26, .int (nI 0)]) (rest := []) F (t_fillI l g _ T xs pl hO hU hc0 r26 256 (nI 0) kr26 (by omega)) (va_cwS 2 hts (wg_app (wg_c kw_716 (wg_c kw_717 (wg_c kw_21 wg_n))) kw_718) rfl rfl rfl (by decide +kernel) ⟨by decide, by decide⟩) (pp_S (en_ok g) hP hD hS hA hE [] rfl rfl) rfl rfl hl.1 rfl (lv_room (Nat.le_of_ble_eq_true rfl)) dDA_rebuildRow_75 ⟨by omega, by omega⟩) (fun  pl H locs hu24 hP hD hS => ?_)
      obtain ⟨hq24, hO⟩ := hu24
      have hP : va_P g.1 vcl ([] ++ pl) _ := hP
      have hD : va_D _ ([] ++ pl) := hD
      refine W.widen (k := 0) (n := 0) (by omega) (by omega) ?_
      refine lv_aload_n hx hb dDA_rebuildRow_78 rfl (lv_at hl 1 rfl) ?_
      refine ty_get (ci := 6) (C := "LatticeKeys$Dsa") (TT := T_DA) (N := 17) (kd := (15, 0)) hx hb hts (wg_ft i_DA) hown hK hO k_h0 (nxg hc0 k_h0 rfl) hP (fun _ h9 => h9) rfl 1 (by decide) (hts _ (wg_t kw_166)) (fun _ h9 => h9) (cd := (3, 12, 0)) rfl dDA_rebuildRow_79 (fun v26 hv26 => ?_)
      obtain ⟨r27, rfl, kr27⟩ := (show ∃ r : Nat, v26 = .ref r ∧ T r = some (12, 0) from hv26)
      refine lv_aload_n hx hb dDA_rebuildRow_82 rfl (lv_at hl 1 rfl) ?_
      refine ty_get (ci := 6) (C := "LatticeKeys$Dsa") (TT := T_DA) (N := 17) (kd := (15, 0)) hx hb hts (wg_ft i_DA) hown hK hO k_h0 (nxg hc0 k_h0 rfl) hP (fun _ h9 => h9) rfl 6 (by decide) (hts _ (wg_t kw_171)) (fun _ h9 => h9) (cd := (3, 3, 8)) rfl dDA_rebuildRow_83 (fun v27 hv27 => ?_)
      obtain ⟨r28, rfl, kr28⟩ := (show ∃ r : Nat, v27 = .ref r ∧ T r = some (3, 8) from hv27)
      refine lv_iload_n hx hb dDA_rebuildRow_86 rfl (lv_at hl 2 rfl) ?_
      refine ty_aald3 hx hb hK hO kr28 (nxg hc0 kr28 rfl) hP (by omega) (by decide) dDA_rebuildRow_87 (fun r29 kr29 => ?_)
      refine lv_aload_n hx hb dDA_rebuildRow_88 rfl (lv_at hl 1 rfl) ?_
      refine ty_get (ci := 6) (C := "LatticeKeys$Dsa") (TT := T_DA) (N := 17) (kd := (15, 0)) hx hb hts (wg_ft i_DA) hown hK hO k_h0 (nxg hc0 k_h0 rfl) hP (fun _ h9 => h9) rfl 9 (by decide) (hts _ (wg_t kw_174)) (fun _ h9 => h9) (cd := (3, 0, 256)) rfl dDA_rebuildRow_89 (fun v28 hv28 => ?_)
      obtain ⟨r30, rfl, kr30⟩ := (show ∃ r : Nat, v28 = .ref r ∧ T r = some (0, 256) from hv28)
      refine lv_aload_n hx hb dDA_rebuildRow_92 rfl (lv_at hl 1 rfl) ?_
      refine ty_get (ci := 6) (C := "LatticeKeys$Dsa") (TT := T_DA) (N := 17) (kd := (15, 0)) hx hb hts (wg_ft i_DA) hown hK hO k_h0 (nxg hc0 k_h0 rfl) hP (fun _ h9 => h9) rfl 10 (by decide) (hts _ (wg_t kw_175)) (fun _ h9 => h9) (cd := (3, 0, 256)) rfl dDA_rebuildRow_93 (fun v29 hv29 => ?_)
      obtain ⟨r31, rfl, kr31⟩ := (show ∃ r : Nat, v29 = .ref r ∧ T r = some (0, 256) from hv29)
      refine mp_v (cx := []) (wr := []) hP hD hS hA [] [] rfl rfl rfl (by decide) (va_runV (As := [.ref r29, .ref r30, .ref r31]) (rest := []) F (t_RG_addProduct_12 l g _ T xs pl hO hU hc0 r27 r29 r30 r31 kr27 kr29 kr30 kr31) (cwV 3 hts (wg_app (wg_c kw_719 (wg_c kw_654 (wg_c kw_655 (wg_c kw_4 wg_n)))) kw_656) rfl rfl rfl (by decide +kernel) ⟨by decide, by decide⟩) (pp_VT (en_ok g) (ci := 4) (kd := (12, 0)) hK hO kr27 (nxg hc0 kr27 rfl) (fun _ h9 => ko1 h9) hP hD hS hA hE [] rfl rfl rfl) rfl rfl hl.1 rfl (lv_room (Nat.le_of_ble_eq_true rfl)) dDA_rebuildRow_96 ⟨by omega, by omega⟩) (fun  pl H locs hu25 hP hD hS => ?_)
      obtain ⟨hq25, hO⟩ := hu25
      have hP : va_P g.1 vcl ([] ++ pl) _ := hP
      have hD : va_D _ ([] ++ pl) := hD
      refine W.widen (k := 0) (n := 0) (by omega) (by omega) ?_
      refine lv_aload_n hx hb dDA_rebuildRow_99 rfl (lv_at hl 1 rfl) ?_
      refine ty_get (ci := 6) (C := "LatticeKeys$Dsa") (TT := T_DA) (N := 17) (kd := (15, 0)) hx hb hts (wg_ft i_DA) hown hK hO k_h0 (nxg hc0 k_h0 rfl) hP (fun _ h9 => h9) rfl 1 (by decide) (hts _ (wg_t kw_166)) (fun _ h9 => h9) (cd := (3, 12, 0)) rfl dDA_rebuildRow_100 (fun v30 hv30 => ?_)
      obtain ⟨r32, rfl, kr32⟩ := (show ∃ r : Nat, v30 = .ref r ∧ T r = some (12, 0) from hv30)
      refine lv_aload_n hx hb dDA_rebuildRow_103 rfl (lv_at hl 1 rfl) ?_
      refine ty_get (ci := 6) (C := "LatticeKeys$Dsa") (TT := T_DA) (N := 17) (kd := (15, 0)) hx hb hts (wg_ft i_DA) hown hK hO k_h0 (nxg hc0 k_h0 rfl) hP (fun _ h9 => h9) rfl 8 (by decide) (hts _ (wg_t kw_173)) (fun _ h9 => h9) (cd := (3, 3, 8)) rfl dDA_rebuildRow_104 (fun v31 hv31 => ?_)
      obtain ⟨r33, rfl, kr33⟩ := (show ∃ r : Nat, v31 = .ref r ∧ T r = some (3, 8) from hv31)
      refine lv_iload_n hx hb dDA_rebuildRow_107 rfl (lv_at hl 2 rfl) ?_
      refine ty_aald3 hx hb hK hO kr33 (nxg hc0 kr33 rfl) hP (by omega) (by decide) dDA_rebuildRow_108 (fun r34 kr34 => ?_)
      refine lv_aload_n hx hb dDA_rebuildRow_109 rfl (lv_at hl 1 rfl) ?_
      refine ty_get (ci := 6) (C := "LatticeKeys$Dsa") (TT := T_DA) (N := 17) (kd := (15, 0)) hx hb hts (wg_ft i_DA) hown hK hO k_h0 (nxg hc0 k_h0 rfl) hP (fun _ h9 => h9) rfl 6 (by decide) (hts _ (wg_t kw_171)) (fun _ h9 => h9) (cd := (3, 3, 8)) rfl dDA_rebuildRow_110 (fun v32 hv32 => ?_)
      obtain ⟨r35, rfl, kr35⟩ := (show ∃ r : Nat, v32 = .ref r ∧ T r = some (3, 8) from hv32)
      refine lv_iload_n hx hb dDA_rebuildRow_113 rfl (lv_at hl 2 rfl) ?_
      refine ty_aald3 hx hb hK hO kr35 (nxg hc0 kr35 rfl) hP (by omega) (by decide) dDA_rebuildRow_114 (fun r36 kr36 => ?_)
      refine mp_v (cx := []) (wr := []) hP hD hS hA [] [] rfl rfl rfl (by decide) (va_runV (As := [.ref r34, .ref r36]) (rest := []) F (t_RG_subtract_12 l g _ T xs pl hO hU hc0 r32 r34 r36 kr32 kr34 kr36) (cwV 2 hts (wg_app (wg_c kw_1236 (wg_c kw_1155 (wg_c kw_1156 (wg_c kw_4 wg_n)))) kw_1157) rfl rfl rfl (by decide +kernel) ⟨by decide, by decide⟩) (pp_VT (en_ok g) (ci := 4) (kd := (12, 0)) hK hO kr32 (nxg hc0 kr32 rfl) (fun _ h9 => ko1 h9) hP hD hS hA hE [] rfl rfl rfl) rfl rfl hl.1 rfl (lv_room (Nat.le_of_ble_eq_true rfl)) dDA_rebuildRow_115 ⟨by omega, by omega⟩) (fun  pl H locs hu26 hP hD hS => ?_)
      obtain ⟨hq26, hO⟩ := hu26
      have hP : va_P g.1 vcl ([] ++ pl) _ := hP
      have hD : va_D _ ([] ++ pl) := hD
      refine W.widen (k := 0) (n := 0) (by omega) (by omega) ?_
      refine lv_aload_n hx hb dDA_rebuildRow_118 rfl (lv_at hl 1 rfl) ?_
      refine ty_get (ci := 6) (C := "LatticeKeys$Dsa") (TT := T_DA) (N := 17) (kd := (15, 0)) hx hb hts (wg_ft i_DA) hown hK hO k_h0 (nxg hc0 k_h0 rfl) hP (fun _ h9 => h9) rfl 1 (by decide) (hts _ (wg_t kw_166)) (fun _ h9 => h9) (cd := (3, 12, 0)) rfl dDA_rebuildRow_119 (fun v33 hv33 => ?_)
      obtain ⟨r37, rfl, kr37⟩ := (show ∃ r : Nat, v33 = .ref r ∧ T r = some (12, 0) from hv33)
      refine lv_aload_n hx hb dDA_rebuildRow_122 rfl (lv_at hl 1 rfl) ?_
      refine ty_get (ci := 6) (C := "LatticeKeys$Dsa") (TT := T_DA) (N := 17) (kd := (15, 0)) hx hb hts (wg_ft i_DA) hown hK hO k_h0 (nxg hc0 k_h0 rfl) hP (fun _ h9 => h9) rfl 8 (by decide) (hts _ (wg_t kw_173)) (fun _ h9 => h9) (cd := (3, 3, 8)) rfl dDA_rebuildRow_123 (fun v34 hv34 => ?_)
      obtain ⟨r38, rfl, kr38⟩ := (show ∃ r : Nat, v34 = .ref r ∧ T r = some (3, 8) from hv34)
      refine lv_iload_n hx hb dDA_rebuildRow_126 rfl (lv_at hl 2 rfl) ?_
      refine ty_aald3 hx hb hK hO kr38 (nxg hc0 kr38 rfl) hP (by omega) (by decide) dDA_rebuildRow_127 (fun r39 kr39 => ?_)
      refine mp_v (cx := []) (wr := []) hP hD hS hA [] [] rfl rfl rfl (by decide) (va_runV (As := [.ref r39]) (rest := []) F (t_RG_restore_12 l g _ T xs pl hO hU hc0 r37 r39 kr37 kr39) (cwV 1 hts (wg_app (wg_c kw_720 (wg_c kw_721 (wg_c kw_722 (wg_c kw_4 wg_n)))) kw_723) rfl rfl rfl (by decide +kernel) ⟨by decide, by decide⟩) (pp_VT (en_ok g) (ci := 4) (kd := (12, 0)) hK hO kr37 (nxg hc0 kr37 rfl) (fun _ h9 => ko1 h9) hP hD hS hA hE [] rfl rfl rfl) rfl rfl hl.1 rfl (lv_room (Nat.le_of_ble_eq_true rfl)) dDA_rebuildRow_128 ⟨by omega, by omega⟩) (fun  pl H locs hu27 hP hD hS => ?_)
      obtain ⟨hq27, hO⟩ := hu27
      have hP : va_P g.1 vcl ([] ++ pl) _ := hP
      have hD : va_D _ ([] ++ pl) := hD
      refine W.widen (k := 0) (n := 0) (by omega) (by omega) ?_
      exact mp_vret hx hb hr hlk hP hD hS pl ⟨trivial, hO⟩ [] rfl rfl rfl (by omega) (by omega) dDA_rebuildRow_131
    | succ n21 ih21 =>
      intro i21 pl ls H locs hm21  hl hO hP hD hS
      refine lv_iload hx hb dDA_rebuildRow_31 (lv_at hl 0 rfl) ?_
      refine lv_sipush (v := nI 256) hx hb dDA_rebuildRow_33 (by decide) ?_
      refine mi_ge (tgt := 57) hx hb dDA_rebuildRow_36 (by decide) (by omega) (by omega) (fun h22 => absurd h22 (by omega)) (fun h22 => ?_)
      refine lv_aload_n hx hb dDA_rebuildRow_39 rfl (lv_at hl 1 rfl) ?_
      refine ty_get (ci := 6) (C := "LatticeKeys$Dsa") (TT := T_DA) (N := 17) (kd := (15, 0)) hx hb hts (wg_ft i_DA) hown hK hO k_h0 (nxg hc0 k_h0 rfl) hP (fun _ h9 => h9) rfl 10 (by decide) (hts _ (wg_t kw_175)) (fun _ h9 => h9) (cd := (3, 0, 256)) rfl dDA_rebuildRow_40 (fun v35 hv35 => ?_)
      obtain ⟨r40, rfl, kr40⟩ := (show ∃ r : Nat, v35 = .ref r ∧ T r = some (0, 256) from hv35)
      refine lv_iload hx hb dDA_rebuildRow_43 (lv_at hl 0 rfl) ?_
      refine lv_dup2_11 hx hb dDA_rebuildRow_45 rfl rfl ?_
      refine ty_iald hx hb hK hO kr40 (nxg hc0 kr40 rfl) hP (vp_in_nI (by omega) (by decide)) dDA_rebuildRow_46 (fun z21 => ?_)
      refine lv_bipush (v := nI 13) hx hb dDA_rebuildRow_47 (by decide) ?_
      refine lv_ishl hx hb dDA_rebuildRow_49 ?_
      refine mi_any (fun z22 => ?_)
      refine ty_iast hx hb hK hO kr40 (nxg hc0 kr40 rfl) hP hD hS (vp_in_nI (by omega) (by decide)) dDA_rebuildRow_50 (fun pl H locs hO hP hD hS => ?_)
      refine mi_iinc (k := 0) (x := i21) (d := 1) (y := i21 + 1) (lv' := [(4, .int (nI (i21 + 1))), (0, .ref h0), (3, .int (nI rw))]) hx hb dDA_rebuildRow_51 hl rfl (by decide) rfl (by decide) rfl (fun ls hl => ?_)
      refine lv_goto (tgt := 31) hx hb dDA_rebuildRow_54 (by decide) ?_
      exact ih21 (i21 + 1) pl ls H locs (by omega) (lv_sub hl [0, 1, 2] rfl) hO hP hD hS
  exact lp21 256 0 pl ls _ _ (by omega) (lv_sub hl [0, 1, 4] rfl) hO hP hD hS
set_option maxHeartbeats 400000 in
set_option maxRecDepth 100000 in
theorem t_DA_challengesAgree_0 (l : Launch) (g : Gd) (sz : Nat) (T : Ty) (xs : List Nat) (pl : va_W) (hO : okx g T xs pl) (hU : uni T) (hc0 : clo T xs 0) (h0 st : Nat) (k_h0 : T h0 = some (15, 0)) (k_st : T st = some (43, 0))  : Met l y_DA_challengesAgree w_DA_challengesAgree ({ frames := 0, cells := 0, slots := 0, locals := 0 } : Room) (va_Pc [.ref h0, .ref st] (pr (en g) g.1 vcl sz ([] ++ pl))) (va_Qi (fun (r : Int32) (u : va_W) => (r = nI 0 ∨ r = nI 1) ∧ okx g T xs u) (po g.1 vcl (va_A ([] ++ pl) sz) (fun (u : va_W) => [] ++ u)) (va_A ([] ++ pl) sz)) 0 0 (va_A ([] ++ pl) sz) := by
  refine mc_entry (cc := c_DA_challengesAgree) (maxL := 3) (ret := (some .boolean)) (by decide) rfl (Nat.le_of_ble_eq_true rfl) ?_
  intro p e s m args below meth c ls F hr hlk hnm hsz hP hD hE hA hl
  obtain ⟨hx, hb, hml, hown, hts⟩ := id F
  have hK := hE.1
  generalize va_A ([] ++ pl) sz = A at hD hE hA ⊢
  have hS : va_S A s.heap s.heap [] := va_S.rf
  have hl : lv_has ls 3 [(0, .ref h0), (1, .ref st)] := hl
  refine lv_iconst (v := nI 0) hx hb dDA_challengesAgree_0 (by decide) ?_
  refine lv_istore_n (lv' := [(2, .int (nI 0)), (0, .ref h0), (1, .ref st)]) hx hb dDA_challengesAgree_1 rfl hl (by decide) rfl (fun ls hl => ?_)
  have lp21 : ∀ (n21 : Nat) (i21 : Nat) (pl : va_W) (ls : Array Slot) (H : Heap) (locs : List Loc), n21 + i21 = 32 → lv_has ls 3 [(2, .int (nI i21)), (0, .ref h0), (1, .ref st)] → okx g T xs pl → va_P g.1 vcl ([] ++ pl) H → va_D A ([] ++ pl) → va_S A s.heap H locs → W p l e ({ frames := 0, cells := 0, slots := 0, locals := 0 } : Room) s m args below meth c H locs 0 0 (MQ below (va_Qi (fun (r : Int32) (u : va_W) => (r = nI 0 ∨ r = nI 1) ∧ okx g T xs u) (po g.1 vcl A (fun (u : va_W) => [] ++ u)) A) args s 0 0 A) (F0 m 2 ls []) := by
    intro n21
    induction n21 with
    | zero =>
      intro i21 pl ls H locs hm21  hl hO hP hD hS
      refine lv_iload_n hx hb dDA_challengesAgree_2 rfl (lv_at hl 0 rfl) ?_
      refine lv_aload_n hx hb dDA_challengesAgree_3 rfl (lv_at hl 2 rfl) ?_
      refine ty_get (ci := 2) (C := "LatticeKeys$DsaSet") (TT := T_DS) (N := 17) (kd := (43, 0)) hx hb hts (wg_ft i_DS) hown hK hO k_st (nxg hc0 k_st rfl) hP (fun _ h9 => h9) rfl 5 (by decide) (hts _ (wg_t kw_315)) (fun _ h9 => h9) (cd := (1, 0, 32)) rfl dDA_challengesAgree_4 (fun v21 hv21 => ?_)
      obtain rfl := (show v21 = .int (nI 32) from hv21)
      refine mi_ge (tgt := 33) hx hb dDA_challengesAgree_7 (by decide) (by omega) (by omega) (fun h21 => ?_) (fun h21 => absurd h21 (by omega))
      refine lv_iconst (v := nI 1) hx hb dDA_challengesAgree_33 (by decide) ?_
      exact mp_zret hx hb hr hlk rfl hP hD hS pl ⟨(Or.inr rfl), hO⟩ [] rfl rfl rfl (by omega) (by omega) dDA_challengesAgree_34
    | succ n21 ih21 =>
      intro i21 pl ls H locs hm21  hl hO hP hD hS
      refine lv_iload_n hx hb dDA_challengesAgree_2 rfl (lv_at hl 0 rfl) ?_
      refine lv_aload_n hx hb dDA_challengesAgree_3 rfl (lv_at hl 2 rfl) ?_
      refine ty_get (ci := 2) (C := "LatticeKeys$DsaSet") (TT := T_DS) (N := 17) (kd := (43, 0)) hx hb hts (wg_ft i_DS) hown hK hO k_st (nxg hc0 k_st rfl) hP (fun _ h9 => h9) rfl 5 (by decide) (hts _ (wg_t kw_315)) (fun _ h9 => h9) (cd := (1, 0, 32)) rfl dDA_challengesAgree_4 (fun v22 hv22 => ?_)
      obtain rfl := (show v22 = .int (nI 32) from hv22)
      refine mi_ge (tgt := 33) hx hb dDA_challengesAgree_7 (by decide) (by omega) (by omega) (fun h22 => absurd h22 (by omega)) (fun h22 => ?_)
      refine lv_aload_n hx hb dDA_challengesAgree_10 rfl (lv_at hl 1 rfl) ?_
      refine ty_get (ci := 6) (C := "LatticeKeys$Dsa") (TT := T_DA) (N := 17) (kd := (15, 0)) hx hb hts (wg_ft i_DA) hown hK hO k_h0 (nxg hc0 k_h0 rfl) hP (fun _ h9 => h9) rfl 13 (by decide) (hts _ (wg_t kw_178)) (fun _ h9 => h9) (cd := (3, 1, 64)) rfl dDA_challengesAgree_11 (fun v23 hv23 => ?_)
      obtain ⟨r21, rfl, kr21⟩ := (show ∃ r : Nat, v23 = .ref r ∧ T r = some (1, 64) from hv23)
      refine lv_iload_n hx hb dDA_challengesAgree_14 rfl (lv_at hl 0 rfl) ?_
      refine ty_bald hx hb hK hO kr21 (nxg hc0 kr21 rfl) hP (vp_in_nI (by omega) (by decide)) dDA_challengesAgree_15 (fun z21 => ?_)
      refine lv_aload_n hx hb dDA_challengesAgree_16 rfl (lv_at hl 1 rfl) ?_
      refine ty_get (ci := 6) (C := "LatticeKeys$Dsa") (TT := T_DA) (N := 17) (kd := (15, 0)) hx hb hts (wg_ft i_DA) hown hK hO k_h0 (nxg hc0 k_h0 rfl) hP (fun _ h9 => h9) rfl 14 (by decide) (hts _ (wg_t kw_179)) (fun _ h9 => h9) (cd := (3, 1, 64)) rfl dDA_challengesAgree_17 (fun v24 hv24 => ?_)
      obtain ⟨r22, rfl, kr22⟩ := (show ∃ r : Nat, v24 = .ref r ∧ T r = some (1, 64) from hv24)
      refine lv_iload_n hx hb dDA_challengesAgree_20 rfl (lv_at hl 0 rfl) ?_
      refine ty_bald hx hb hK hO kr22 (nxg hc0 kr22 rfl) hP (vp_in_nI (by omega) (by decide)) dDA_challengesAgree_21 (fun z22 => ?_)
      refine lv_icmp_eq (tgt := 27) hx hb dDA_challengesAgree_22 (by decide) (fun h23 => ?_) (fun h23 => ?_)
      · refine mi_iinc (k := 0) (x := i21) (d := 1) (y := i21 + 1) (lv' := [(2, .int (nI (i21 + 1))), (0, .ref h0), (1, .ref st)]) hx hb dDA_challengesAgree_27 hl rfl (by decide) rfl (by decide) rfl (fun ls hl => ?_)
        refine lv_goto (tgt := 2) hx hb dDA_challengesAgree_30 (by decide) ?_
        exact ih21 (i21 + 1) pl ls H locs (by omega) (lv_sub hl [0, 1, 2] rfl) hO hP hD hS
      · refine lv_iconst (v := nI 0) hx hb dDA_challengesAgree_25 (by decide) ?_
        exact mp_zret hx hb hr hlk rfl hP hD hS pl ⟨(Or.inl rfl), hO⟩ [] rfl rfl rfl (by omega) (by omega) dDA_challengesAgree_26
  exact lp21 32 0 pl ls _ _ (by omega) (lv_sub hl [0, 1, 2] rfl) hO hP hD hS
set_option maxHeartbeats 400000 in
set_option maxRecDepth 100000 in
theorem t_DA_challengesAgree_1 (l : Launch) (g : Gd) (sz : Nat) (T : Ty) (xs : List Nat) (pl : va_W) (hO : okx g T xs pl) (hU : uni T) (hc0 : clo T xs 0) (h0 st : Nat) (k_h0 : T h0 = some (15, 0)) (k_st : T st = some (44, 0))  : Met l y_DA_challengesAgree w_DA_challengesAgree ({ frames := 0, cells := 0, slots := 0, locals := 0 } : Room) (va_Pc [.ref h0, .ref st] (pr (en g) g.1 vcl sz ([] ++ pl))) (va_Qi (fun (r : Int32) (u : va_W) => (r = nI 0 ∨ r = nI 1) ∧ okx g T xs u) (po g.1 vcl (va_A ([] ++ pl) sz) (fun (u : va_W) => [] ++ u)) (va_A ([] ++ pl) sz)) 0 0 (va_A ([] ++ pl) sz) := by
  refine mc_entry (cc := c_DA_challengesAgree) (maxL := 3) (ret := (some .boolean)) (by decide) rfl (Nat.le_of_ble_eq_true rfl) ?_
  intro p e s m args below meth c ls F hr hlk hnm hsz hP hD hE hA hl
  obtain ⟨hx, hb, hml, hown, hts⟩ := id F
  have hK := hE.1
  generalize va_A ([] ++ pl) sz = A at hD hE hA ⊢
  have hS : va_S A s.heap s.heap [] := va_S.rf
  have hl : lv_has ls 3 [(0, .ref h0), (1, .ref st)] := hl
  refine lv_iconst (v := nI 0) hx hb dDA_challengesAgree_0 (by decide) ?_
  refine lv_istore_n (lv' := [(2, .int (nI 0)), (0, .ref h0), (1, .ref st)]) hx hb dDA_challengesAgree_1 rfl hl (by decide) rfl (fun ls hl => ?_)
  have lp21 : ∀ (n21 : Nat) (i21 : Nat) (pl : va_W) (ls : Array Slot) (H : Heap) (locs : List Loc), n21 + i21 = 48 → lv_has ls 3 [(2, .int (nI i21)), (0, .ref h0), (1, .ref st)] → okx g T xs pl → va_P g.1 vcl ([] ++ pl) H → va_D A ([] ++ pl) → va_S A s.heap H locs → W p l e ({ frames := 0, cells := 0, slots := 0, locals := 0 } : Room) s m args below meth c H locs 0 0 (MQ below (va_Qi (fun (r : Int32) (u : va_W) => (r = nI 0 ∨ r = nI 1) ∧ okx g T xs u) (po g.1 vcl A (fun (u : va_W) => [] ++ u)) A) args s 0 0 A) (F0 m 2 ls []) := by
    intro n21
    induction n21 with
    | zero =>
      intro i21 pl ls H locs hm21  hl hO hP hD hS
      refine lv_iload_n hx hb dDA_challengesAgree_2 rfl (lv_at hl 0 rfl) ?_
      refine lv_aload_n hx hb dDA_challengesAgree_3 rfl (lv_at hl 2 rfl) ?_
      refine ty_get (ci := 2) (C := "LatticeKeys$DsaSet") (TT := T_DS) (N := 17) (kd := (44, 0)) hx hb hts (wg_ft i_DS) hown hK hO k_st (nxg hc0 k_st rfl) hP (fun _ h9 => h9) rfl 5 (by decide) (hts _ (wg_t kw_315)) (fun _ h9 => h9) (cd := (1, 0, 48)) rfl dDA_challengesAgree_4 (fun v21 hv21 => ?_)
      obtain rfl := (show v21 = .int (nI 48) from hv21)
      refine mi_ge (tgt := 33) hx hb dDA_challengesAgree_7 (by decide) (by omega) (by omega) (fun h21 => ?_) (fun h21 => absurd h21 (by omega))
      refine lv_iconst (v := nI 1) hx hb dDA_challengesAgree_33 (by decide) ?_
      exact mp_zret hx hb hr hlk rfl hP hD hS pl ⟨(Or.inr rfl), hO⟩ [] rfl rfl rfl (by omega) (by omega) dDA_challengesAgree_34
    | succ n21 ih21 =>
      intro i21 pl ls H locs hm21  hl hO hP hD hS
      refine lv_iload_n hx hb dDA_challengesAgree_2 rfl (lv_at hl 0 rfl) ?_
      refine lv_aload_n hx hb dDA_challengesAgree_3 rfl (lv_at hl 2 rfl) ?_
      refine ty_get (ci := 2) (C := "LatticeKeys$DsaSet") (TT := T_DS) (N := 17) (kd := (44, 0)) hx hb hts (wg_ft i_DS) hown hK hO k_st (nxg hc0 k_st rfl) hP (fun _ h9 => h9) rfl 5 (by decide) (hts _ (wg_t kw_315)) (fun _ h9 => h9) (cd := (1, 0, 48)) rfl dDA_challengesAgree_4 (fun v22 hv22 => ?_)
      obtain rfl := (show v22 = .int (nI 48) from hv22)
      refine mi_ge (tgt := 33) hx hb dDA_challengesAgree_7 (by decide) (by omega) (by omega) (fun h22 => absurd h22 (by omega)) (fun h22 => ?_)
      refine lv_aload_n hx hb dDA_challengesAgree_10 rfl (lv_at hl 1 rfl) ?_
      refine ty_get (ci := 6) (C := "LatticeKeys$Dsa") (TT := T_DA) (N := 17) (kd := (15, 0)) hx hb hts (wg_ft i_DA) hown hK hO k_h0 (nxg hc0 k_h0 rfl) hP (fun _ h9 => h9) rfl 13 (by decide) (hts _ (wg_t kw_178)) (fun _ h9 => h9) (cd := (3, 1, 64)) rfl dDA_challengesAgree_11 (fun v23 hv23 => ?_)
      obtain ⟨r21, rfl, kr21⟩ := (show ∃ r : Nat, v23 = .ref r ∧ T r = some (1, 64) from hv23)
      refine lv_iload_n hx hb dDA_challengesAgree_14 rfl (lv_at hl 0 rfl) ?_
      refine ty_bald hx hb hK hO kr21 (nxg hc0 kr21 rfl) hP (vp_in_nI (by omega) (by decide)) dDA_challengesAgree_15 (fun z21 => ?_)
      refine lv_aload_n hx hb dDA_challengesAgree_16 rfl (lv_at hl 1 rfl) ?_
      refine ty_get (ci := 6) (C := "LatticeKeys$Dsa") (TT := T_DA) (N := 17) (kd := (15, 0)) hx hb hts (wg_ft i_DA) hown hK hO k_h0 (nxg hc0 k_h0 rfl) hP (fun _ h9 => h9) rfl 14 (by decide) (hts _ (wg_t kw_179)) (fun _ h9 => h9) (cd := (3, 1, 64)) rfl dDA_challengesAgree_17 (fun v24 hv24 => ?_)
      obtain ⟨r22, rfl, kr22⟩ := (show ∃ r : Nat, v24 = .ref r ∧ T r = some (1, 64) from hv24)
      refine lv_iload_n hx hb dDA_challengesAgree_20 rfl (lv_at hl 0 rfl) ?_
      refine ty_bald hx hb hK hO kr22 (nxg hc0 kr22 rfl) hP (vp_in_nI (by omega) (by decide)) dDA_challengesAgree_21 (fun z22 => ?_)
      refine lv_icmp_eq (tgt := 27) hx hb dDA_challengesAgree_22 (by decide) (fun h23 => ?_) (fun h23 => ?_)
      · refine mi_iinc (k := 0) (x := i21) (d := 1) (y := i21 + 1) (lv' := [(2, .int (nI (i21 + 1))), (0, .ref h0), (1, .ref st)]) hx hb dDA_challengesAgree_27 hl rfl (by decide) rfl (by decide) rfl (fun ls hl => ?_)
        refine lv_goto (tgt := 2) hx hb dDA_challengesAgree_30 (by decide) ?_
        exact ih21 (i21 + 1) pl ls H locs (by omega) (lv_sub hl [0, 1, 2] rfl) hO hP hD hS
      · refine lv_iconst (v := nI 0) hx hb dDA_challengesAgree_25 (by decide) ?_
        exact mp_zret hx hb hr hlk rfl hP hD hS pl ⟨(Or.inl rfl), hO⟩ [] rfl rfl rfl (by omega) (by omega) dDA_challengesAgree_26
  exact lp21 48 0 pl ls _ _ (by omega) (lv_sub hl [0, 1, 2] rfl) hO hP hD hS
set_option maxHeartbeats 400000 in
set_option maxRecDepth 100000 in
theorem t_DA_challengesAgree_2 (l : Launch) (g : Gd) (sz : Nat) (T : Ty) (xs : List Nat) (pl : va_W) (hO : okx g T xs pl) (hU : uni T) (hc0 : clo T xs 0) (h0 st : Nat) (k_h0 : T h0 = some (15, 0)) (k_st : T st = some (45, 0))  : Met l y_DA_challengesAgree w_DA_challengesAgree ({ frames := 0, cells := 0, slots := 0, locals := 0 } : Room) (va_Pc [.ref h0, .ref st] (pr (en g) g.1 vcl sz ([] ++ pl))) (va_Qi (fun (r : Int32) (u : va_W) => (r = nI 0 ∨ r = nI 1) ∧ okx g T xs u) (po g.1 vcl (va_A ([] ++ pl) sz) (fun (u : va_W) => [] ++ u)) (va_A ([] ++ pl) sz)) 0 0 (va_A ([] ++ pl) sz) := by
  refine mc_entry (cc := c_DA_challengesAgree) (maxL := 3) (ret := (some .boolean)) (by decide) rfl (Nat.le_of_ble_eq_true rfl) ?_
  intro p e s m args below meth c ls F hr hlk hnm hsz hP hD hE hA hl
  obtain ⟨hx, hb, hml, hown, hts⟩ := id F
  have hK := hE.1
  generalize va_A ([] ++ pl) sz = A at hD hE hA ⊢
  have hS : va_S A s.heap s.heap [] := va_S.rf
  have hl : lv_has ls 3 [(0, .ref h0), (1, .ref st)] := hl
  refine lv_iconst (v := nI 0) hx hb dDA_challengesAgree_0 (by decide) ?_
  refine lv_istore_n (lv' := [(2, .int (nI 0)), (0, .ref h0), (1, .ref st)]) hx hb dDA_challengesAgree_1 rfl hl (by decide) rfl (fun ls hl => ?_)
  have lp21 : ∀ (n21 : Nat) (i21 : Nat) (pl : va_W) (ls : Array Slot) (H : Heap) (locs : List Loc), n21 + i21 = 64 → lv_has ls 3 [(2, .int (nI i21)), (0, .ref h0), (1, .ref st)] → okx g T xs pl → va_P g.1 vcl ([] ++ pl) H → va_D A ([] ++ pl) → va_S A s.heap H locs → W p l e ({ frames := 0, cells := 0, slots := 0, locals := 0 } : Room) s m args below meth c H locs 0 0 (MQ below (va_Qi (fun (r : Int32) (u : va_W) => (r = nI 0 ∨ r = nI 1) ∧ okx g T xs u) (po g.1 vcl A (fun (u : va_W) => [] ++ u)) A) args s 0 0 A) (F0 m 2 ls []) := by
    intro n21
    induction n21 with
    | zero =>
      intro i21 pl ls H locs hm21  hl hO hP hD hS
      refine lv_iload_n hx hb dDA_challengesAgree_2 rfl (lv_at hl 0 rfl) ?_
      refine lv_aload_n hx hb dDA_challengesAgree_3 rfl (lv_at hl 2 rfl) ?_
      refine ty_get (ci := 2) (C := "LatticeKeys$DsaSet") (TT := T_DS) (N := 17) (kd := (45, 0)) hx hb hts (wg_ft i_DS) hown hK hO k_st (nxg hc0 k_st rfl) hP (fun _ h9 => h9) rfl 5 (by decide) (hts _ (wg_t kw_315)) (fun _ h9 => h9) (cd := (1, 0, 64)) rfl dDA_challengesAgree_4 (fun v21 hv21 => ?_)
      obtain rfl := (show v21 = .int (nI 64) from hv21)
      refine mi_ge (tgt := 33) hx hb dDA_challengesAgree_7 (by decide) (by omega) (by omega) (fun h21 => ?_) (fun h21 => absurd h21 (by omega))
      refine lv_iconst (v := nI 1) hx hb dDA_challengesAgree_33 (by decide) ?_
      exact mp_zret hx hb hr hlk rfl hP hD hS pl ⟨(Or.inr rfl), hO⟩ [] rfl rfl rfl (by omega) (by omega) dDA_challengesAgree_34
    | succ n21 ih21 =>
      intro i21 pl ls H locs hm21  hl hO hP hD hS
      refine lv_iload_n hx hb dDA_challengesAgree_2 rfl (lv_at hl 0 rfl) ?_
      refine lv_aload_n hx hb dDA_challengesAgree_3 rfl (lv_at hl 2 rfl) ?_
      refine ty_get (ci := 2) (C := "LatticeKeys$DsaSet") (TT := T_DS) (N := 17) (kd := (45, 0)) hx hb hts (wg_ft i_DS) hown hK hO k_st (nxg hc0 k_st rfl) hP (fun _ h9 => h9) rfl 5 (by decide) (hts _ (wg_t kw_315)) (fun _ h9 => h9) (cd := (1, 0, 64)) rfl dDA_challengesAgree_4 (fun v22 hv22 => ?_)
      obtain rfl := (show v22 = .int (nI 64) from hv22)
      refine mi_ge (tgt := 33) hx hb dDA_challengesAgree_7 (by decide) (by omega) (by omega) (fun h22 => absurd h22 (by omega)) (fun h22 => ?_)
      refine lv_aload_n hx hb dDA_challengesAgree_10 rfl (lv_at hl 1 rfl) ?_
      refine ty_get (ci := 6) (C := "LatticeKeys$Dsa") (TT := T_DA) (N := 17) (kd := (15, 0)) hx hb hts (wg_ft i_DA) hown hK hO k_h0 (nxg hc0 k_h0 rfl) hP (fun _ h9 => h9) rfl 13 (by decide) (hts _ (wg_t kw_178)) (fun _ h9 => h9) (cd := (3, 1, 64)) rfl dDA_challengesAgree_11 (fun v23 hv23 => ?_)
      obtain ⟨r21, rfl, kr21⟩ := (show ∃ r : Nat, v23 = .ref r ∧ T r = some (1, 64) from hv23)
      refine lv_iload_n hx hb dDA_challengesAgree_14 rfl (lv_at hl 0 rfl) ?_
      refine ty_bald hx hb hK hO kr21 (nxg hc0 kr21 rfl) hP (vp_in_nI (by omega) (by decide)) dDA_challengesAgree_15 (fun z21 => ?_)
      refine lv_aload_n hx hb dDA_challengesAgree_16 rfl (lv_at hl 1 rfl) ?_
      refine ty_get (ci := 6) (C := "LatticeKeys$Dsa") (TT := T_DA) (N := 17) (kd := (15, 0)) hx hb hts (wg_ft i_DA) hown hK hO k_h0 (nxg hc0 k_h0 rfl) hP (fun _ h9 => h9) rfl 14 (by decide) (hts _ (wg_t kw_179)) (fun _ h9 => h9) (cd := (3, 1, 64)) rfl dDA_challengesAgree_17 (fun v24 hv24 => ?_)
      obtain ⟨r22, rfl, kr22⟩ := (show ∃ r : Nat, v24 = .ref r ∧ T r = some (1, 64) from hv24)
      refine lv_iload_n hx hb dDA_challengesAgree_20 rfl (lv_at hl 0 rfl) ?_
      refine ty_bald hx hb hK hO kr22 (nxg hc0 kr22 rfl) hP (vp_in_nI (by omega) (by decide)) dDA_challengesAgree_21 (fun z22 => ?_)
      refine lv_icmp_eq (tgt := 27) hx hb dDA_challengesAgree_22 (by decide) (fun h23 => ?_) (fun h23 => ?_)
      · refine mi_iinc (k := 0) (x := i21) (d := 1) (y := i21 + 1) (lv' := [(2, .int (nI (i21 + 1))), (0, .ref h0), (1, .ref st)]) hx hb dDA_challengesAgree_27 hl rfl (by decide) rfl (by decide) rfl (fun ls hl => ?_)
        refine lv_goto (tgt := 2) hx hb dDA_challengesAgree_30 (by decide) ?_
        exact ih21 (i21 + 1) pl ls H locs (by omega) (lv_sub hl [0, 1, 2] rfl) hO hP hD hS
      · refine lv_iconst (v := nI 0) hx hb dDA_challengesAgree_25 (by decide) ?_
        exact mp_zret hx hb hr hlk rfl hP hD hS pl ⟨(Or.inl rfl), hO⟩ [] rfl rfl rfl (by omega) (by omega) dDA_challengesAgree_26
  exact lp21 64 0 pl ls _ _ (by omega) (lv_sub hl [0, 1, 2] rfl) hO hP hD hS
set_option maxHeartbeats 400000 in
set_option maxRecDepth 100000 in
theorem t_DA_accepts_0 (l : Launch) (g : Gd) (sz : Nat) (T : Ty) (xs : List Nat) (pl : va_W) (hO : okx g T xs pl) (hU : uni T) (hc0 : clo T xs 0) (hc3 : clo T xs 3) (hc4 : clo T xs 4) (hc20 : clo T xs 20) (h0 st pk tp n len : Nat) (cl : Int32) (k_h0 : T h0 = some (15, 0)) (k_st : T st = some (43, 0)) (k_pk : T pk = some (1, 1312)) (k_tp : T tp = some (1, n)) (h1 : 2420 ≤ len) (h3 : len ≤ n) (h2 : n < 65536)  : Met l y_DA_accepts w_DA_accepts ({ frames := 5, cells := 0, slots := 0, locals := 152 } : Room) (va_Pc [.ref h0, .ref st, .ref pk, .ref tp, .int (nI len), .int cl] (pr (en g) g.1 vcl sz ([] ++ pl))) (va_Qi (fun (r : Int32) (u : va_W) => (r = nI 0 ∨ r = nI 1) ∧ okx g T xs u) (po g.1 vcl (va_A ([] ++ pl) sz) (fun (u : va_W) => [] ++ u)) (va_A ([] ++ pl) sz)) 0 0 (va_A ([] ++ pl) sz) := by
  refine mc_entry (cc := c_DA_accepts) (maxL := 9) (ret := (some .boolean)) (by decide) rfl (Nat.le_of_ble_eq_true rfl) ?_
  intro p e s m args below meth c ls F hr hlk hnm hsz hP hD hE hA hl
  obtain ⟨hx, hb, hml, hown, hts⟩ := id F
  have hK := hE.1
  generalize va_A ([] ++ pl) sz = A at hD hE hA ⊢
  have hS : va_S A s.heap s.heap [] := va_S.rf
  have hl : lv_has ls 9 [(0, .ref h0), (1, .ref st), (2, .ref pk), (3, .ref tp), (4, .int (nI len)), (5, .int cl)] := hl
  refine lv_aload_n hx hb dDA_accepts_0 rfl (lv_at hl 0 rfl) ?_
  refine lv_aload_n hx hb dDA_accepts_1 rfl (lv_at hl 1 rfl) ?_
  refine lv_aload_n hx hb dDA_accepts_2 rfl (lv_at hl 3 rfl) ?_
  obtain ⟨q21, fs21, -, hf21⟩ := ty_obj (X := []) hO k_h0 (nxg hc0 k_h0 rfl) (fun _ h9 => h9)
  obtain ⟨v21, -, hv21⟩ := fall_get hf21 (j := 15) (c := (3, 8, 84)) rfl
  obtain ⟨r21, -, kr21⟩ := (show ∃ r : Nat, v21 = .ref r ∧ T r = some (8, 84) from hv21)
  obtain ⟨e21, pl, hP, hD, hk21, hO⟩ := open1 hP hD hO kr21 (nxg hc20 kr21 rfl)
  obtain ⟨fh21, rfl, hby21⟩ := hk21
  have hP : va_P g.1 vcl ([(r21, .inl (g.2.1 1, 84, .inl fh21))] ++ pl) _ := hP
  have hD : va_D _ ([(r21, .inl (g.2.1 1, 84, .inl fh21))] ++ pl) := hD
  refine mp_i (cx := [(r21, .inl (g.2.1 1, 84, .inl fh21))]) (wr := []) hP hD hS hA [0] [] rfl rfl rfl (by decide) (va_runV (As := [.ref st, .ref tp]) (rest := []) F (t_DA_readSignature_0 l g _ T (r21 :: xs) pl hO hU (clo_cons hc0 kr21 (by decide)) r21 h0 st tp n fh21 kr21 k_h0 k_st k_tp hby21 (by omega) (by omega)) (cwV 2 hts (wg_app (wg_c kw_1265 (wg_c kw_1267 (wg_c ks_45 (wg_c kw_5 wg_n)))) kw_1268) rfl rfl rfl (by decide +kernel) ⟨by decide, by decide⟩) (pp_VT (en_ok g) (ci := 6) (kd := (15, 0)) hK hO k_h0 (nxg (clo_cons hc0 kr21 (by decide)) k_h0 rfl) (fun _ h9 => ko1 h9) hP hD hS hA hE [0] rfl rfl rfl) rfl rfl hl.1 rfl (lv_room (Nat.le_of_ble_eq_true rfl)) dDA_accepts_3 ⟨by omega, by omega⟩) (fun r22 u21 H locs hu21 hP hD hS => ?_)
  obtain ⟨u22, pl⟩ := u21
  obtain ⟨hq21, hO⟩ := hu21
  have hP : va_P g.1 vcl ([(r21, .inl (g.2.1 1, 84, .inl u22))] ++ pl) _ := hP
  have hD : va_D _ ([(r21, .inl (g.2.1 1, 84, .inl u22))] ++ pl) := hD
  obtain ⟨hg21, hby22⟩ := hq21
  refine W.widen (k := 0) (n := 0) (by omega) (by omega) ?_
  refine lv_if_ne (tgt := 11) hx hb dDA_accepts_6 (by decide) (fun h21 => ?_) (fun h21 => ?_)
  · have hgd := hg21.resolve_left h21
    refine lv_aload_n hx hb dDA_accepts_11 rfl (lv_at hl 0 rfl) ?_
    refine lv_aload_n hx hb dDA_accepts_12 rfl (lv_at hl 2 rfl) ?_
    refine mp_v (cx := []) (wr := [(r21, .inl (g.2.1 1, 84, .inl u22))]) hP hD hS hA [] [0] rfl rfl rfl (by decide) (va_runV (As := [.ref pk]) (rest := []) F (t_DA_digestOf l g _ T (r21 :: xs) pl hO hU (clo_cons hc0 kr21 (by decide)) (clo_cons hc3 kr21 (by decide)) h0 pk 1312 k_h0 k_pk (by omega)) (cwV 1 hts (wg_app (wg_c kw_736 (wg_c kw_738 (wg_c ks_18 (wg_c kw_5 wg_n)))) kw_739) rfl rfl rfl (by decide +kernel) ⟨by decide, by decide⟩) (pp_VT (en_ok g) (ci := 6) (kd := (15, 0)) hK hO k_h0 (nxg (clo_cons hc0 kr21 (by decide)) k_h0 rfl) (fun _ h9 => ko1 h9) hP hD hS hA hE [] rfl rfl rfl) rfl rfl hl.1 rfl (lv_room (Nat.le_of_ble_eq_true rfl)) dDA_accepts_13 ⟨by omega, by omega⟩) (fun  pl H locs hu22 hP hD hS => ?_)
    obtain ⟨hq22, hO⟩ := hu22
    have hP : va_P g.1 vcl ([(r21, .inl (g.2.1 1, 84, .inl u22))] ++ pl) _ := hP
    have hD : va_D _ ([(r21, .inl (g.2.1 1, 84, .inl u22))] ++ pl) := hD
    refine W.widen (k := 0) (n := 0) (by omega) (by omega) ?_
    refine lv_aload_n hx hb dDA_accepts_16 rfl (lv_at hl 0 rfl) ?_
    refine lv_aload_n hx hb dDA_accepts_17 rfl (lv_at hl 3 rfl) ?_
    refine lv_aload_n hx hb dDA_accepts_18 rfl (lv_at hl 1 rfl) ?_
    refine ty_get (ci := 2) (C := "LatticeKeys$DsaSet") (TT := T_DS) (N := 17) (kd := (43, 0)) hx hb hts (wg_ft i_DS) hown hK hO k_st (nxg (clo_cons hc0 kr21 (by decide)) k_st rfl) hP (fun _ h9 => h9) rfl 16 (by decide) (hts _ (wg_t kw_338)) (fun _ h9 => h9) (cd := (1, 0, 2420)) rfl dDA_accepts_19 (fun v22 hv22 => ?_)
    obtain rfl := (show v22 = .int (nI 2420) from hv22)
    refine lv_iload hx hb dDA_accepts_22 (lv_at hl 4 rfl) ?_
    refine lv_iload hx hb dDA_accepts_24 (lv_at hl 5 rfl) ?_
    refine mp_v (cx := []) (wr := [(r21, .inl (g.2.1 1, 84, .inl u22))]) hP hD hS hA [] [0] rfl rfl rfl (by decide) (va_runV (As := [.ref tp, .int (nI 2420), .int (nI len), .int cl]) (rest := []) F (t_DA_digestMessage l g _ T (r21 :: xs) pl hO hU (clo_cons hc0 kr21 (by decide)) (clo_cons hc3 kr21 (by decide)) h0 tp n 2420 len cl k_h0 k_tp (by omega) (by omega) (by omega)) (cwV 4 hts (wg_app (wg_c kw_1188 (wg_c kw_1190 (wg_c ks_36 (wg_c kw_5 wg_n)))) kw_1191) rfl rfl rfl (by decide +kernel) ⟨by decide, by decide⟩) (pp_VT (en_ok g) (ci := 6) (kd := (15, 0)) hK hO k_h0 (nxg (clo_cons hc0 kr21 (by decide)) k_h0 rfl) (fun _ h9 => ko1 h9) hP hD hS hA hE [] rfl rfl rfl) rfl rfl hl.1 rfl (lv_room (Nat.le_of_ble_eq_true rfl)) dDA_accepts_26 ⟨by omega, by omega⟩) (fun  pl H locs hu23 hP hD hS => ?_)
    obtain ⟨hq23, hO⟩ := hu23
    have hP : va_P g.1 vcl ([(r21, .inl (g.2.1 1, 84, .inl u22))] ++ pl) _ := hP
    have hD : va_D _ ([(r21, .inl (g.2.1 1, 84, .inl u22))] ++ pl) := hD
    refine W.widen (k := 0) (n := 0) (by omega) (by omega) ?_
    refine lv_aload_n hx hb dDA_accepts_29 rfl (lv_at hl 0 rfl) ?_
    refine ty_get (ci := 6) (C := "LatticeKeys$Dsa") (TT := T_DA) (N := 17) (kd := (15, 0)) hx hb hts (wg_ft i_DA) hown hK hO k_h0 (nxg (clo_cons hc0 kr21 (by decide)) k_h0 rfl) hP (fun _ h9 => h9) rfl 2 (by decide) (hts _ (wg_t kw_167)) (fun _ h9 => h9) (cd := (3, 14, 0)) rfl dDA_accepts_30 (fun v23 hv23 => ?_)
    obtain ⟨r23, rfl, kr22⟩ := (show ∃ r : Nat, v23 = .ref r ∧ T r = some (14, 0) from hv23)
    refine lv_aload_n hx hb dDA_accepts_33 rfl (lv_at hl 1 rfl) ?_
    refine lv_aload_n hx hb dDA_accepts_34 rfl (lv_at hl 2 rfl) ?_
    refine lv_aload_n hx hb dDA_accepts_35 rfl (lv_at hl 0 rfl) ?_
    refine ty_get (ci := 6) (C := "LatticeKeys$Dsa") (TT := T_DA) (N := 17) (kd := (15, 0)) hx hb hts (wg_ft i_DA) hown hK hO k_h0 (nxg (clo_cons hc0 kr21 (by decide)) k_h0 rfl) hP (fun _ h9 => h9) rfl 3 (by decide) (hts _ (wg_t kw_168)) (fun _ h9 => h9) (cd := (3, 3, 56)) rfl dDA_accepts_36 (fun v24 hv24 => ?_)
    obtain ⟨r24, rfl, kr23⟩ := (show ∃ r : Nat, v24 = .ref r ∧ T r = some (3, 56) from hv24)
    refine mp_v (cx := []) (wr := [(r21, .inl (g.2.1 1, 84, .inl u22))]) hP hD hS hA [] [0] rfl rfl rfl (by decide) (va_runV (As := [.ref st, .ref pk, .ref r24]) (rest := []) F (t_SA_expandMatrix_0 l g _ T (r21 :: xs) pl hO hU (clo_cons hc0 kr21 (by decide)) (clo_cons hc4 kr21 (by decide)) r23 st pk r24 1312 kr22 k_st k_pk kr23 (by omega) (by omega)) (cwV 3 hts (wg_app (wg_c kw_703 (wg_c kw_704 (wg_c kw_705 (wg_c kw_6 wg_n)))) kw_706) rfl rfl rfl (by decide +kernel) ⟨by decide, by decide⟩) (pp_VT (en_ok g) (ci := 7) (kd := (14, 0)) hK hO kr22 (nxg (clo_cons hc0 kr21 (by decide)) kr22 rfl) (fun _ h9 => ko1 h9) hP hD hS hA hE [] rfl rfl rfl) rfl rfl hl.1 rfl (lv_room (Nat.le_of_ble_eq_true rfl)) dDA_accepts_39 ⟨by omega, by omega⟩) (fun  pl H locs hu24 hP hD hS => ?_)
    obtain ⟨hq24, hO⟩ := hu24
    have hP : va_P g.1 vcl ([(r21, .inl (g.2.1 1, 84, .inl u22))] ++ pl) _ := hP
    have hD : va_D _ ([(r21, .inl (g.2.1 1, 84, .inl u22))] ++ pl) := hD
    refine W.widen (k := 0) (n := 0) (by omega) (by omega) ?_
    refine lv_aload_n hx hb dDA_accepts_42 rfl (lv_at hl 0 rfl) ?_
    refine ty_get (ci := 6) (C := "LatticeKeys$Dsa") (TT := T_DA) (N := 17) (kd := (15, 0)) hx hb hts (wg_ft i_DA) hown hK hO k_h0 (nxg (clo_cons hc0 kr21 (by decide)) k_h0 rfl) hP (fun _ h9 => h9) rfl 2 (by decide) (hts _ (wg_t kw_167)) (fun _ h9 => h9) (cd := (3, 14, 0)) rfl dDA_accepts_43 (fun v25 hv25 => ?_)
    obtain ⟨r25, rfl, kr24⟩ := (show ∃ r : Nat, v25 = .ref r ∧ T r = some (14, 0) from hv25)
    refine lv_aload_n hx hb dDA_accepts_46 rfl (lv_at hl 1 rfl) ?_
    refine lv_aload_n hx hb dDA_accepts_47 rfl (lv_at hl 0 rfl) ?_
    refine ty_get (ci := 6) (C := "LatticeKeys$Dsa") (TT := T_DA) (N := 17) (kd := (15, 0)) hx hb hts (wg_ft i_DA) hown hK hO k_h0 (nxg (clo_cons hc0 kr21 (by decide)) k_h0 rfl) hP (fun _ h9 => h9) rfl 9 (by decide) (hts _ (wg_t kw_174)) (fun _ h9 => h9) (cd := (3, 0, 256)) rfl dDA_accepts_48 (fun v26 hv26 => ?_)
    obtain ⟨r26, rfl, kr25⟩ := (show ∃ r : Nat, v26 = .ref r ∧ T r = some (0, 256) from hv26)
    refine lv_aload_n hx hb dDA_accepts_51 rfl (lv_at hl 0 rfl) ?_
    refine ty_get (ci := 6) (C := "LatticeKeys$Dsa") (TT := T_DA) (N := 17) (kd := (15, 0)) hx hb hts (wg_ft i_DA) hown hK hO k_h0 (nxg (clo_cons hc0 kr21 (by decide)) k_h0 rfl) hP (fun _ h9 => h9) rfl 13 (by decide) (hts _ (wg_t kw_178)) (fun _ h9 => h9) (cd := (3, 1, 64)) rfl dDA_accepts_52 (fun v27 hv27 => ?_)
    obtain ⟨r27, rfl, kr26⟩ := (show ∃ r : Nat, v27 = .ref r ∧ T r = some (1, 64) from hv27)
    refine mp_v (cx := []) (wr := [(r21, .inl (g.2.1 1, 84, .inl u22))]) hP hD hS hA [] [0] rfl rfl rfl (by decide) (va_runV (As := [.ref st, .ref r26, .ref r27]) (rest := []) F (t_SA_sampleBall_0 l g _ T (r21 :: xs) pl hO hU (clo_cons hc0 kr21 (by decide)) (clo_cons hc4 kr21 (by decide)) r25 st r26 r27 64 kr24 k_st kr25 kr26 (by omega) (by omega)) (cwV 3 hts (wg_app (wg_c kw_1214 (wg_c kw_1215 (wg_c kw_1216 (wg_c kw_6 wg_n)))) kw_1217) rfl rfl rfl (by decide +kernel) ⟨by decide, by decide⟩) (pp_VT (en_ok g) (ci := 7) (kd := (14, 0)) hK hO kr24 (nxg (clo_cons hc0 kr21 (by decide)) kr24 rfl) (fun _ h9 => ko1 h9) hP hD hS hA hE [] rfl rfl rfl) rfl rfl hl.1 rfl (lv_room (Nat.le_of_ble_eq_true rfl)) dDA_accepts_55 ⟨by omega, by omega⟩) (fun  pl H locs hu25 hP hD hS => ?_)
    obtain ⟨hq25, hO⟩ := hu25
    have hP : va_P g.1 vcl ([(r21, .inl (g.2.1 1, 84, .inl u22))] ++ pl) _ := hP
    have hD : va_D _ ([(r21, .inl (g.2.1 1, 84, .inl u22))] ++ pl) := hD
    refine W.widen (k := 0) (n := 0) (by omega) (by omega) ?_
    refine lv_aload_n hx hb dDA_accepts_58 rfl (lv_at hl 0 rfl) ?_
    refine ty_get (ci := 6) (C := "LatticeKeys$Dsa") (TT := T_DA) (N := 17) (kd := (15, 0)) hx hb hts (wg_ft i_DA) hown hK hO k_h0 (nxg (clo_cons hc0 kr21 (by decide)) k_h0 rfl) hP (fun _ h9 => h9) rfl 1 (by decide) (hts _ (wg_t kw_166)) (fun _ h9 => h9) (cd := (3, 12, 0)) rfl dDA_accepts_59 (fun v28 hv28 => ?_)
    obtain ⟨r28, rfl, kr27⟩ := (show ∃ r : Nat, v28 = .ref r ∧ T r = some (12, 0) from hv28)
    refine lv_aload_n hx hb dDA_accepts_62 rfl (lv_at hl 0 rfl) ?_
    refine ty_get (ci := 6) (C := "LatticeKeys$Dsa") (TT := T_DA) (N := 17) (kd := (15, 0)) hx hb hts (wg_ft i_DA) hown hK hO k_h0 (nxg (clo_cons hc0 kr21 (by decide)) k_h0 rfl) hP (fun _ h9 => h9) rfl 9 (by decide) (hts _ (wg_t kw_174)) (fun _ h9 => h9) (cd := (3, 0, 256)) rfl dDA_accepts_63 (fun v29 hv29 => ?_)
    obtain ⟨r29, rfl, kr28⟩ := (show ∃ r : Nat, v29 = .ref r ∧ T r = some (0, 256) from hv29)
    refine mp_v (cx := []) (wr := [(r21, .inl (g.2.1 1, 84, .inl u22))]) hP hD hS hA [] [0] rfl rfl rfl (by decide) (va_runV (As := [.ref r29]) (rest := []) F (t_RG_transform_12 l g _ T (r21 :: xs) pl hO hU (clo_cons hc0 kr21 (by decide)) r28 r29 kr27 kr28) (cwV 1 hts (wg_app (wg_c kw_711 (wg_c kw_637 (wg_c kw_638 (wg_c kw_4 wg_n)))) kw_639) rfl rfl rfl (by decide +kernel) ⟨by decide, by decide⟩) (pp_VT (en_ok g) (ci := 4) (kd := (12, 0)) hK hO kr27 (nxg (clo_cons hc0 kr21 (by decide)) kr27 rfl) (fun _ h9 => ko1 h9) hP hD hS hA hE [] rfl rfl rfl) rfl rfl hl.1 rfl (lv_room (Nat.le_of_ble_eq_true rfl)) dDA_accepts_66 ⟨by omega, by omega⟩) (fun  pl H locs hu26 hP hD hS => ?_)
    obtain ⟨hq26, hO⟩ := hu26
    have hP : va_P g.1 vcl ([(r21, .inl (g.2.1 1, 84, .inl u22))] ++ pl) _ := hP
    have hD : va_D _ ([(r21, .inl (g.2.1 1, 84, .inl u22))] ++ pl) := hD
    refine W.widen (k := 0) (n := 0) (by omega) (by omega) ?_
    refine lv_iconst (v := nI 0) hx hb dDA_accepts_69 (by decide) ?_
    refine lv_istore (lv' := [(6, .int (nI 0)), (0, .ref h0), (1, .ref st), (2, .ref pk), (3, .ref tp), (4, .int (nI len)), (5, .int cl)]) hx hb dDA_accepts_70 hl (by decide) rfl (fun ls hl => ?_)
    have lp21 : ∀ (n21 : Nat) (i21 : Nat) (pl : va_W) (ls : Array Slot) (H : Heap) (locs : List Loc), n21 + i21 = 4 → lv_has ls 9 [(6, .int (nI i21)), (0, .ref h0), (1, .ref st), (2, .ref pk)] → okx g T (r21 :: xs) pl → va_P g.1 vcl ([(r21, .inl (g.2.1 1, 84, .inl u22))] ++ pl) H → va_D A ([(r21, .inl (g.2.1 1, 84, .inl u22))] ++ pl) → va_S A s.heap H locs → W p l e ({ frames := 5, cells := 0, slots := 0, locals := 152 } : Room) s m args below meth c H locs 0 0 (MQ below (va_Qi (fun (r : Int32) (u : va_W) => (r = nI 0 ∨ r = nI 1) ∧ okx g T xs u) (po g.1 vcl A (fun (u : va_W) => [] ++ u)) A) args s 0 0 A) (F0 m 72 ls []) := by
      intro n21
      induction n21 with
      | zero =>
        intro i21 pl ls H locs hm21  hl hO hP hD hS
        refine lv_iload hx hb dDA_accepts_72 (lv_at hl 0 rfl) ?_
        refine lv_aload_n hx hb dDA_accepts_74 rfl (lv_at hl 2 rfl) ?_
        refine ty_get (ci := 2) (C := "LatticeKeys$DsaSet") (TT := T_DS) (N := 17) (kd := (43, 0)) hx hb hts (wg_ft i_DS) hown hK hO k_st (nxg (clo_cons hc0 kr21 (by decide)) k_st rfl) hP (fun _ h9 => h9) rfl 1 (by decide) (hts _ (wg_t kw_305)) (fun _ h9 => h9) (cd := (1, 0, 4)) rfl dDA_accepts_75 (fun v30 hv30 => ?_)
        obtain rfl := (show v30 = .int (nI 4) from hv30)
        refine mi_ge (tgt := 101) hx hb dDA_accepts_78 (by decide) (by omega) (by omega) (fun h22 => ?_) (fun h22 => absurd h22 (by omega))
        refine lv_aload_n hx hb dDA_accepts_101 rfl (lv_at hl 1 rfl) ?_
        obtain ⟨q22, fs22, -, hf22⟩ := ty_obj (X := []) hO k_h0 (nxg (clo_cons hc0 kr21 (by decide)) k_h0 rfl) (fun _ h9 => h9)
        obtain ⟨v31, -, hv31⟩ := fall_get hf22 (j := 0) (c := (3, 10, 2)) rfl
        obtain ⟨r30, -, kr29⟩ := (show ∃ r : Nat, v31 = .ref r ∧ T r = some (10, 2) from hv31)
        obtain ⟨e22, pl, hP, hD, hk22, hO⟩ := open1 hP hD hO kr29 (nxg (clo_cons hc3 kr21 (by decide)) kr29 rfl)
        obtain ⟨ln21, rt21, ps21, x21, rfl, kl21, hr21, hr22, hr23⟩ := hk22
        have kl21 : T ln21 = some (19, 2) := kl21
        obtain ⟨e23, pl, hP, hD, hk23, hO⟩ := open1 hP hD hO kl21 (nmc (knd_ne kl21 kr29 (by decide)) (nxg (clo_cons hc3 kr21 (by decide)) kl21 rfl))
        obtain ⟨f21, rfl⟩ := hk23
        have hP : va_P g.1 vcl ([(r21, .inl (g.2.1 1, 84, .inl u22)), (r30, .inr (3, [.ref ln21, .int (nI rt21), .int x21, .int (nI ps21)])), (ln21, .inl (g.2.1 2, 25, .inr (.inl f21)))] ++ pl) _ := hP
        have hD : va_D _ ([(r21, .inl (g.2.1 1, 84, .inl u22)), (r30, .inr (3, [.ref ln21, .int (nI rt21), .int x21, .int (nI ps21)])), (ln21, .inl (g.2.1 2, 25, .inr (.inl f21)))] ++ pl) := hD
        refine mp_v (cx := [(r30, .inr (3, [.ref ln21, .int (nI rt21), .int x21, .int (nI ps21)])), (ln21, .inl (g.2.1 2, 25, .inr (.inl f21)))]) (wr := [(r21, .inl (g.2.1 1, 84, .inl u22))]) hP hD hS hA [1, 2] [0] rfl rfl rfl (by decide) (va_runV (As := []) (rest := []) F (t_DA_startChallenge l g _ T (ln21 :: (r30 :: (r21 :: xs))) pl hO hU (clo_cons (clo_cons (clo_cons hc0 kr21 (by decide)) kr29 (by decide)) kl21 (by decide)) r30 h0 ln21 rt21 ps21 x21 f21 kr29 k_h0) (cwV 0 hts (wg_app (wg_c kw_1202 (wg_c kw_1204 (wg_c ks_38 (wg_c kw_5 wg_n)))) kw_1205) rfl rfl rfl (by decide +kernel) ⟨by decide, by decide⟩) (pp_VT (en_ok g) (ci := 6) (kd := (15, 0)) hK hO k_h0 (nxg (clo_cons (clo_cons (clo_cons hc0 kr21 (by decide)) kr29 (by decide)) kl21 (by decide)) k_h0 rfl) (fun _ h9 => ko1 h9) hP hD hS hA hE [1, 2] rfl rfl rfl) rfl rfl hl.1 rfl (lv_room (Nat.le_of_ble_eq_true rfl)) dDA_accepts_102 ⟨by omega, by omega⟩) (fun  u23 H locs hu27 hP hD hS => ?_)
        obtain ⟨u24, pl⟩ := u23
        obtain ⟨hq27, hO⟩ := hu27
        obtain ⟨ps22, f22⟩ := u24
        have hP : va_P g.1 vcl ([(r21, .inl (g.2.1 1, 84, .inl u22)), (r30, .inr (3, [.ref ln21, .int (nI 136), .int (nI 31), .int (nI ps22)])), (ln21, .inl (g.2.1 2, 25, .inr (.inl f22)))] ++ pl) _ := hP
        have hD : va_D _ ([(r21, .inl (g.2.1 1, 84, .inl u22)), (r30, .inr (3, [.ref ln21, .int (nI 136), .int (nI 31), .int (nI ps22)])), (ln21, .inl (g.2.1 2, 25, .inr (.inl f22)))] ++ pl) := hD
        have hq27 : ps22 < 136 := hq27
        refine W.widen (k := 0) (n := 0) (by omega) (by omega) ?_
        refine lv_iconst (v := nI 0) hx hb dDA_accepts_105 (by decide) ?_
        refine lv_istore (lv' := [(6, .int (nI 0)), (0, .ref h0), (1, .ref st), (2, .ref pk)]) hx hb dDA_accepts_106 hl (by decide) rfl (fun ls hl => ?_)
        refine lv_iconst (v := nI 0) hx hb dDA_accepts_108 (by decide) ?_
        refine lv_istore (lv' := [(7, .int (nI 0)), (6, .int (nI 0)), (0, .ref h0), (1, .ref st), (2, .ref pk)]) hx hb dDA_accepts_109 hl (by decide) rfl (fun ls hl => ?_)
        have lp22 : ∀ (n22 : Nat) (i22 : Nat) (fs23 : Nat) (ps23 : Nat) (f23 : Nat → Int64) (pl : va_W) (ls : Array Slot) (H : Heap) (locs : List Loc), n22 + i22 = 4 → (fs23 ≤ 255) → (ps23 < 136) → lv_has ls 9 [(7, .int (nI i22)), (6, .int (nI fs23)), (0, .ref h0), (1, .ref st), (2, .ref pk)] → okx g T (ln21 :: (r30 :: (r21 :: xs))) pl → va_P g.1 vcl ([(r21, .inl (g.2.1 1, 84, .inl u22)), (r30, .inr (3, [.ref ln21, .int (nI 136), .int (nI 31), .int (nI ps23)])), (ln21, .inl (g.2.1 2, 25, .inr (.inl f23)))] ++ pl) H → va_D A ([(r21, .inl (g.2.1 1, 84, .inl u22)), (r30, .inr (3, [.ref ln21, .int (nI 136), .int (nI 31), .int (nI ps23)])), (ln21, .inl (g.2.1 2, 25, .inr (.inl f23)))] ++ pl) → va_S A s.heap H locs → W p l e ({ frames := 5, cells := 0, slots := 0, locals := 152 } : Room) s m args below meth c H locs 0 0 (MQ below (va_Qi (fun (r : Int32) (u : va_W) => (r = nI 0 ∨ r = nI 1) ∧ okx g T xs u) (po g.1 vcl A (fun (u : va_W) => [] ++ u)) A) args s 0 0 A) (F0 m 111 ls []) := by
          intro n22
          induction n22 with
          | zero =>
            intro i22 fs23 ps23 f23 pl ls H locs hm22 hi21 hi22 hl hO hP hD hS
            refine lv_iload hx hb dDA_accepts_111 (lv_at hl 0 rfl) ?_
            refine lv_aload_n hx hb dDA_accepts_113 rfl (lv_at hl 3 rfl) ?_
            refine ty_get (ci := 2) (C := "LatticeKeys$DsaSet") (TT := T_DS) (N := 17) (kd := (43, 0)) hx hb hts (wg_ft i_DS) hown hK hO k_st (nxg (clo_cons (clo_cons (clo_cons hc0 kr21 (by decide)) kr29 (by decide)) kl21 (by decide)) k_st rfl) hP (fun _ h9 => h9) rfl 0 (by decide) (hts _ (wg_t kw_302)) (fun _ h9 => h9) (cd := (1, 0, 4)) rfl dDA_accepts_114 (fun v32 hv32 => ?_)
            obtain rfl := (show v32 = .int (nI 4) from hv32)
            refine mi_ge (tgt := 177) hx hb dDA_accepts_117 (by decide) (by omega) (by omega) (fun h23 => ?_) (fun h23 => absurd h23 (by omega))
            refine lv_aload_n hx hb dDA_accepts_177 rfl (lv_at hl 2 rfl) ?_
            refine ty_get (ci := 6) (C := "LatticeKeys$Dsa") (TT := T_DA) (N := 17) (kd := (15, 0)) hx hb hts (wg_ft i_DA) hown hK hO k_h0 (nxg (clo_cons (clo_cons (clo_cons hc0 kr21 (by decide)) kr29 (by decide)) kl21 (by decide)) k_h0 rfl) hP (fun _ h9 => h9) rfl 0 (by decide) (hts _ (wg_t kw_165)) (fun _ h9 => h9) (cd := (3, 10, 2)) rfl dDA_accepts_178 (fun v33 hv33 => ?_)
            obtain ⟨r31, rfl, kr30⟩ := (show ∃ r : Nat, v33 = .ref r ∧ T r = some (10, 2) from hv33)
            obtain rfl : r30 = r31 := hU _ _ _ (by decide) kr29 kr30
            refine mp_v (cx := [(r30, .inr (3, [.ref ln21, .int (nI 136), .int (nI 31), .int (nI ps23)])), (ln21, .inl (g.2.1 2, 25, .inr (.inl f23)))]) (wr := [(r21, .inl (g.2.1 1, 84, .inl u22))]) hP hD hS hA [1, 2] [0] rfl rfl rfl (by decide) (va_runV (As := []) (rest := []) F (t_SP_finish l g _ T (ln21 :: (r30 :: (r21 :: xs))) pl hO hU  r30 ln21 136 ps23 (nI 31) f23 (by omega) (by omega)) (cwV 0 hts (wg_app (wg_c kw_672 (wg_c kw_611 (wg_c kw_612 (wg_c kw_2 wg_n)))) kw_613) rfl rfl rfl (by decide +kernel) ⟨by decide, by decide⟩) (pp_V (en_ok g) (q0 := 1) hK hP hD hS hA hE [1, 2] rfl rfl rfl rfl) rfl rfl hl.1 rfl (lv_room (Nat.le_of_ble_eq_true rfl)) dDA_accepts_181 ⟨by omega, by omega⟩) (fun  u25 H locs hu28 hP hD hS => ?_)
            obtain ⟨u26, pl⟩ := u25
            obtain ⟨hq28, hO⟩ := hu28
            have hP : va_P g.1 vcl ([(r21, .inl (g.2.1 1, 84, .inl u22)), (r30, .inr (3, [.ref ln21, .int (nI 136), .int (nI 31), .int (nI 136)])), (ln21, .inl (g.2.1 2, 25, .inr (.inl u26)))] ++ pl) _ := hP
            have hD : va_D _ ([(r21, .inl (g.2.1 1, 84, .inl u22)), (r30, .inr (3, [.ref ln21, .int (nI 136), .int (nI 31), .int (nI 136)])), (ln21, .inl (g.2.1 2, 25, .inr (.inl u26)))] ++ pl) := hD
            refine W.widen (k := 0) (n := 0) (by omega) (by omega) ?_
            refine lv_aload_n hx hb dDA_accepts_184 rfl (lv_at hl 2 rfl) ?_
            refine ty_get (ci := 6) (C := "LatticeKeys$Dsa") (TT := T_DA) (N := 17) (kd := (15, 0)) hx hb hts (wg_ft i_DA) hown hK hO k_h0 (nxg (clo_cons (clo_cons (clo_cons hc0 kr21 (by decide)) kr29 (by decide)) kl21 (by decide)) k_h0 rfl) hP (fun _ h9 => h9) rfl 0 (by decide) (hts _ (wg_t kw_165)) (fun _ h9 => h9) (cd := (3, 10, 2)) rfl dDA_accepts_185 (fun v34 hv34 => ?_)
            obtain ⟨r32, rfl, kr31⟩ := (show ∃ r : Nat, v34 = .ref r ∧ T r = some (10, 2) from hv34)
            obtain rfl : r30 = r32 := hU _ _ _ (by decide) kr29 kr31
            refine lv_aload_n hx hb dDA_accepts_188 rfl (lv_at hl 2 rfl) ?_
            refine ty_get (ci := 6) (C := "LatticeKeys$Dsa") (TT := T_DA) (N := 17) (kd := (15, 0)) hx hb hts (wg_ft i_DA) hown hK hO k_h0 (nxg (clo_cons (clo_cons (clo_cons hc0 kr21 (by decide)) kr29 (by decide)) kl21 (by decide)) k_h0 rfl) hP (fun _ h9 => h9) rfl 14 (by decide) (hts _ (wg_t kw_179)) (fun _ h9 => h9) (cd := (3, 1, 64)) rfl dDA_accepts_189 (fun v35 hv35 => ?_)
            obtain ⟨r33, rfl, kr32⟩ := (show ∃ r : Nat, v35 = .ref r ∧ T r = some (1, 64) from hv35)
            refine lv_iconst (v := nI 0) hx hb dDA_accepts_192 (by decide) ?_
            refine lv_aload_n hx hb dDA_accepts_193 rfl (lv_at hl 3 rfl) ?_
            refine ty_get (ci := 2) (C := "LatticeKeys$DsaSet") (TT := T_DS) (N := 17) (kd := (43, 0)) hx hb hts (wg_ft i_DS) hown hK hO k_st (nxg (clo_cons (clo_cons (clo_cons hc0 kr21 (by decide)) kr29 (by decide)) kl21 (by decide)) k_st rfl) hP (fun _ h9 => h9) rfl 5 (by decide) (hts _ (wg_t kw_315)) (fun _ h9 => h9) (cd := (1, 0, 32)) rfl dDA_accepts_194 (fun v36 hv36 => ?_)
            obtain rfl := (show v36 = .int (nI 32) from hv36)
            refine mp_v (cx := [(r30, .inr (3, [.ref ln21, .int (nI 136), .int (nI 31), .int (nI 136)])), (ln21, .inl (g.2.1 2, 25, .inr (.inl u26)))]) (wr := [(r21, .inl (g.2.1 1, 84, .inl u22))]) hP hD hS hA [1, 2] [0] rfl rfl rfl (by decide) (va_runV (As := [.ref r33, .int (nI 0), .int (nI 32)]) (rest := []) F (t_SP_squeeze l g _ T (ln21 :: (r30 :: (r21 :: xs))) pl hO hU (clo_cons (clo_cons (clo_cons hc0 kr21 (by decide)) kr29 (by decide)) kl21 (by decide)) r33 64 0 32 r30 ln21 136 136 (nI 31) u26 kr32 (by omega) (by omega) (by omega) (by omega)) (cwV 3 hts (wg_app (wg_c kw_673 (wg_c kw_615 (wg_c kw_616 (wg_c kw_2 wg_n)))) kw_617) rfl rfl rfl (by decide +kernel) ⟨by decide, by decide⟩) (pp_V (en_ok g) (q0 := 1) hK hP hD hS hA hE [1, 2] rfl rfl rfl rfl) rfl rfl hl.1 rfl (lv_room (Nat.le_of_ble_eq_true rfl)) dDA_accepts_197 ⟨by omega, by omega⟩) (fun  u27 H locs hu29 hP hD hS => ?_)
            obtain ⟨u28, pl⟩ := u27
            obtain ⟨hq29, hO⟩ := hu29
            obtain ⟨k21, f24⟩ := u28
            have hP : va_P g.1 vcl ([(r21, .inl (g.2.1 1, 84, .inl u22)), (r30, .inr (3, [.ref ln21, .int (nI 136), .int (nI 31), .int (nI k21)])), (ln21, .inl (g.2.1 2, 25, .inr (.inl f24)))] ++ pl) _ := hP
            have hD : va_D _ ([(r21, .inl (g.2.1 1, 84, .inl u22)), (r30, .inr (3, [.ref ln21, .int (nI 136), .int (nI 31), .int (nI k21)])), (ln21, .inl (g.2.1 2, 25, .inr (.inl f24)))] ++ pl) := hD
            have hq29 : k21 ≤ 136 := hq29
            refine W.widen (k := 0) (n := 0) (by omega) (by omega) ?_
            refine lv_aload_n hx hb dDA_accepts_200 rfl (lv_at hl 2 rfl) ?_
            refine lv_aload_n hx hb dDA_accepts_201 rfl (lv_at hl 3 rfl) ?_
            refine mp_i (cx := []) (wr := [(r21, .inl (g.2.1 1, 84, .inl u22)), (r30, .inr (3, [.ref ln21, .int (nI 136), .int (nI 31), .int (nI k21)])), (ln21, .inl (g.2.1 2, 25, .inr (.inl f24)))]) hP hD hS hA [] [0, 1, 2] rfl rfl rfl (by decide) (va_runV (As := [.ref st]) (rest := []) F (t_DA_challengesAgree_0 l g _ T (ln21 :: (r30 :: (r21 :: xs))) pl hO hU (clo_cons (clo_cons (clo_cons hc0 kr21 (by decide)) kr29 (by decide)) kl21 (by decide)) h0 st k_h0 k_st) (cwV 1 hts (wg_app (wg_c kw_1287 (wg_c kw_1289 (wg_c ks_49 (wg_c kw_5 wg_n)))) kw_1290) rfl rfl rfl (by decide +kernel) ⟨by decide, by decide⟩) (pp_VT (en_ok g) (ci := 6) (kd := (15, 0)) hK hO k_h0 (nxg (clo_cons (clo_cons (clo_cons hc0 kr21 (by decide)) kr29 (by decide)) kl21 (by decide)) k_h0 rfl) (fun _ h9 => ko1 h9) hP hD hS hA hE [] rfl rfl rfl) rfl rfl hl.1 rfl (lv_room (Nat.le_of_ble_eq_true rfl)) dDA_accepts_202 ⟨by omega, by omega⟩) (fun r34 pl H locs hu30 hP hD hS => ?_)
            obtain ⟨hq30, hO⟩ := hu30
            have hP : va_P g.1 vcl ([(r21, .inl (g.2.1 1, 84, .inl u22)), (r30, .inr (3, [.ref ln21, .int (nI 136), .int (nI 31), .int (nI k21)])), (ln21, .inl (g.2.1 2, 25, .inr (.inl f24)))] ++ pl) _ := hP
            have hD : va_D _ ([(r21, .inl (g.2.1 1, 84, .inl u22)), (r30, .inr (3, [.ref ln21, .int (nI 136), .int (nI 31), .int (nI k21)])), (ln21, .inl (g.2.1 2, 25, .inr (.inl f24)))] ++ pl) := hD
            refine W.widen (k := 0) (n := 0) (by omega) (by omega) ?_
            have hO := close1 (e := .inl (g.2.1 2, 25, .inr (.inl f24))) hO kl21 ⟨_, rfl⟩
            have hO := close1 (e := .inr (3, [.ref ln21, .int (nI 136), .int (nI 31), .int (nI k21)])) hO kr29 ⟨_, _, _, _, rfl, kl21, by omega, by omega, by omega⟩
            have hO := close1 (e := .inl (g.2.1 1, 84, .inl u22)) hO kr21 ⟨_, rfl, hby22⟩
            have hO : okx g T xs ((r21, .inl (g.2.1 1, 84, .inl u22)) :: (r30, .inr (3, [.ref ln21, .int (nI 136), .int (nI 31), .int (nI k21)])) :: (ln21, .inl (g.2.1 2, 25, .inr (.inl f24))) :: pl) := hO
            have hP : va_P g.1 vcl ([] ++ ((r21, .inl (g.2.1 1, 84, .inl u22)) :: (r30, .inr (3, [.ref ln21, .int (nI 136), .int (nI 31), .int (nI k21)])) :: (ln21, .inl (g.2.1 2, 25, .inr (.inl f24))) :: pl)) _ := hP
            have hD : va_D _ ([] ++ ((r21, .inl (g.2.1 1, 84, .inl u22)) :: (r30, .inr (3, [.ref ln21, .int (nI 136), .int (nI 31), .int (nI k21)])) :: (ln21, .inl (g.2.1 2, 25, .inr (.inl f24))) :: pl)) := hD
            generalize ((r21, .inl (g.2.1 1, 84, .inl u22)) :: (r30, .inr (3, [.ref ln21, .int (nI 136), .int (nI 31), .int (nI k21)])) :: (ln21, .inl (g.2.1 2, 25, .inr (.inl f24))) :: pl) = pl at hO hP hD
            exact mp_zret hx hb hr hlk (nar_b hq30) hP hD hS pl ⟨hq30, hO⟩ [] rfl rfl rfl (by omega) (by omega) dDA_accepts_205
          | succ n22 ih22 =>
            intro i22 fs23 ps23 f23 pl ls H locs hm22 hi21 hi22 hl hO hP hD hS
            refine lv_iload hx hb dDA_accepts_111 (lv_at hl 0 rfl) ?_
            refine lv_aload_n hx hb dDA_accepts_113 rfl (lv_at hl 3 rfl) ?_
            refine ty_get (ci := 2) (C := "LatticeKeys$DsaSet") (TT := T_DS) (N := 17) (kd := (43, 0)) hx hb hts (wg_ft i_DS) hown hK hO k_st (nxg (clo_cons (clo_cons (clo_cons hc0 kr21 (by decide)) kr29 (by decide)) kl21 (by decide)) k_st rfl) hP (fun _ h9 => h9) rfl 0 (by decide) (hts _ (wg_t kw_302)) (fun _ h9 => h9) (cd := (1, 0, 4)) rfl dDA_accepts_114 (fun v37 hv37 => ?_)
            obtain rfl := (show v37 = .int (nI 4) from hv37)
            refine mi_ge (tgt := 177) hx hb dDA_accepts_117 (by decide) (by omega) (by omega) (fun h24 => absurd h24 (by omega)) (fun h24 => ?_)
            refine lv_aload_n hx hb dDA_accepts_120 rfl (lv_at hl 2 rfl) ?_
            refine ty_get (ci := 6) (C := "LatticeKeys$Dsa") (TT := T_DA) (N := 17) (kd := (15, 0)) hx hb hts (wg_ft i_DA) hown hK hO k_h0 (nxg (clo_cons (clo_cons (clo_cons hc0 kr21 (by decide)) kr29 (by decide)) kl21 (by decide)) k_h0 rfl) hP (fun _ h9 => h9) rfl 15 (by decide) (hts _ (wg_t kw_180)) (fun _ h9 => h9) (cd := (3, 8, 84)) rfl dDA_accepts_121 (fun v38 hv38 => ?_)
            obtain ⟨r35, rfl, kr33⟩ := (show ∃ r : Nat, v38 = .ref r ∧ T r = some (8, 84) from hv38)
            obtain rfl : r21 = r35 := hU _ _ _ (by decide) kr21 kr33
            refine lv_aload_n hx hb dDA_accepts_124 rfl (lv_at hl 3 rfl) ?_
            refine ty_get (ci := 2) (C := "LatticeKeys$DsaSet") (TT := T_DS) (N := 17) (kd := (43, 0)) hx hb hts (wg_ft i_DS) hown hK hO k_st (nxg (clo_cons (clo_cons (clo_cons hc0 kr21 (by decide)) kr29 (by decide)) kl21 (by decide)) k_st rfl) hP (fun _ h9 => h9) rfl 11 (by decide) (hts _ (wg_t kw_327)) (fun _ h9 => h9) (cd := (1, 0, 80)) rfl dDA_accepts_125 (fun v39 hv39 => ?_)
            obtain rfl := (show v39 = .int (nI 80) from hv39)
            refine lv_iload hx hb dDA_accepts_128 (lv_at hl 0 rfl) ?_
            refine mi_iadd hx hb dDA_accepts_130 ?_
            refine va_bald hx hb hK hP 0 1 rfl rfl (vp_in_nI (by omega) (by decide)) dDA_accepts_131 ?_
            rw [nI_clamp (show 80 + i22 < 2 ^ 31 by omega)]
            refine lv_sipush (v := nI 255) hx hb dDA_accepts_132 (by decide) ?_
            refine mi_iandE hx hb 8 dDA_accepts_135 (by decide) (fun z21 hz21 ez21 => ?_)
            have hz21 : z21 < 256 := hz21
            have hzlz21 := hg_le hgd (show i22 < 4 by omega) (by decide) (show z21 < 256 by omega) ez21
            refine lv_istore (lv' := [(8, .int (nI z21)), (7, .int (nI i22)), (6, .int (nI fs23)), (0, .ref h0), (1, .ref st), (2, .ref pk)]) hx hb dDA_accepts_136 hl (by decide) rfl (fun ls hl => ?_)
            refine lv_aload_n hx hb dDA_accepts_138 rfl (lv_at hl 3 rfl) ?_
            refine lv_aload_n hx hb dDA_accepts_139 rfl (lv_at hl 4 rfl) ?_
            refine lv_aload_n hx hb dDA_accepts_140 rfl (lv_at hl 5 rfl) ?_
            refine lv_iload hx hb dDA_accepts_141 (lv_at hl 1 rfl) ?_
            refine mp_v (cx := []) (wr := [(r21, .inl (g.2.1 1, 84, .inl u22)), (r30, .inr (3, [.ref ln21, .int (nI 136), .int (nI 31), .int (nI ps23)])), (ln21, .inl (g.2.1 2, 25, .inr (.inl f23)))]) hP hD hS hA [] [0, 1, 2] rfl rfl rfl (by decide) (va_runV (As := [.ref st, .ref pk, .int (nI i22)]) (rest := []) F (t_DA_rebuildRow_0 l g _ T (ln21 :: (r30 :: (r21 :: xs))) pl hO hU (clo_cons (clo_cons (clo_cons hc0 kr21 (by decide)) kr29 (by decide)) kl21 (by decide)) h0 st pk i22 k_h0 k_st k_pk (by omega)) (cwV 3 hts (wg_app (wg_c kw_1273 (wg_c kw_1275 (wg_c ks_47 (wg_c kw_5 wg_n)))) kw_1276) rfl rfl rfl (by decide +kernel) ⟨by decide, by decide⟩) (pp_VT (en_ok g) (ci := 6) (kd := (15, 0)) hK hO k_h0 (nxg (clo_cons (clo_cons (clo_cons hc0 kr21 (by decide)) kr29 (by decide)) kl21 (by decide)) k_h0 rfl) (fun _ h9 => ko1 h9) hP hD hS hA hE [] rfl rfl rfl) rfl rfl hl.1 rfl (lv_room (Nat.le_of_ble_eq_true rfl)) dDA_accepts_143 ⟨by omega, by omega⟩) (fun  pl H locs hu31 hP hD hS => ?_)
            obtain ⟨hq31, hO⟩ := hu31
            have hP : va_P g.1 vcl ([(r21, .inl (g.2.1 1, 84, .inl u22)), (r30, .inr (3, [.ref ln21, .int (nI 136), .int (nI 31), .int (nI ps23)])), (ln21, .inl (g.2.1 2, 25, .inr (.inl f23)))] ++ pl) _ := hP
            have hD : va_D _ ([(r21, .inl (g.2.1 1, 84, .inl u22)), (r30, .inr (3, [.ref ln21, .int (nI 136), .int (nI 31), .int (nI ps23)])), (ln21, .inl (g.2.1 2, 25, .inr (.inl f23)))] ++ pl) := hD
            refine W.widen (k := 0) (n := 0) (by omega) (by omega) ?_
            refine lv_aload_n hx hb dDA_accepts_146 rfl (lv_at hl 3 rfl) ?_
            refine lv_aload_n hx hb dDA_accepts_147 rfl (lv_at hl 4 rfl) ?_
            refine lv_aload_n hx hb dDA_accepts_148 rfl (lv_at hl 3 rfl) ?_
            refine ty_get (ci := 6) (C := "LatticeKeys$Dsa") (TT := T_DA) (N := 17) (kd := (15, 0)) hx hb hts (wg_ft i_DA) hown hK hO k_h0 (nxg (clo_cons (clo_cons (clo_cons hc0 kr21 (by decide)) kr29 (by decide)) kl21 (by decide)) k_h0 rfl) hP (fun _ h9 => h9) rfl 8 (by decide) (hts _ (wg_t kw_173)) (fun _ h9 => h9) (cd := (3, 3, 8)) rfl dDA_accepts_149 (fun v40 hv40 => ?_)
            obtain ⟨r36, rfl, kr34⟩ := (show ∃ r : Nat, v40 = .ref r ∧ T r = some (3, 8) from hv40)
            refine lv_iload hx hb dDA_accepts_152 (lv_at hl 1 rfl) ?_
            refine ty_aald3 hx hb hK hO kr34 (nxg (clo_cons (clo_cons (clo_cons hc0 kr21 (by decide)) kr29 (by decide)) kl21 (by decide)) kr34 rfl) hP (by omega) (by decide) dDA_accepts_154 (fun r37 kr35 => ?_)
            refine lv_iload hx hb dDA_accepts_155 (lv_at hl 2 rfl) ?_
            refine lv_iload hx hb dDA_accepts_157 (lv_at hl 0 rfl) ?_
            refine mp_v (cx := [(r21, .inl (g.2.1 1, 84, .inl u22))]) (wr := [(r30, .inr (3, [.ref ln21, .int (nI 136), .int (nI 31), .int (nI ps23)])), (ln21, .inl (g.2.1 2, 25, .inr (.inl f23)))]) hP hD hS hA [0] [1, 2] rfl rfl rfl (by decide) (va_runV (As := [.ref st, .ref r37, .int (nI fs23), .int (nI z21)]) (rest := []) F (t_DA_useHints_0 l g _ T (ln21 :: (r30 :: (r21 :: xs))) pl hO hU (clo_cons (clo_cons (clo_cons hc0 kr21 (by decide)) kr29 (by decide)) kl21 (by decide)) r21 h0 st r37 fs23 z21 u22 kr21 k_h0 k_st kr35 (by omega) (by omega)) (cwV 4 hts (wg_app (wg_c kw_1277 (wg_c kw_1279 (wg_c ks_48 (wg_c kw_5 wg_n)))) kw_1280) rfl rfl rfl (by decide +kernel) ⟨by decide, by decide⟩) (pp_VT (en_ok g) (ci := 6) (kd := (15, 0)) hK hO k_h0 (nxg (clo_cons (clo_cons (clo_cons hc0 kr21 (by decide)) kr29 (by decide)) kl21 (by decide)) k_h0 rfl) (fun _ h9 => ko1 h9) hP hD hS hA hE [0] rfl rfl rfl) rfl rfl hl.1 rfl (lv_room (Nat.le_of_ble_eq_true rfl)) dDA_accepts_159 ⟨by omega, by omega⟩) (fun  pl H locs hu32 hP hD hS => ?_)
            obtain ⟨hq32, hO⟩ := hu32
            have hP : va_P g.1 vcl ([(r30, .inr (3, [.ref ln21, .int (nI 136), .int (nI 31), .int (nI ps23)])), (ln21, .inl (g.2.1 2, 25, .inr (.inl f23))), (r21, .inl (g.2.1 1, 84, .inl u22))] ++ pl) _ := hP
            have hD : va_D _ ([(r30, .inr (3, [.ref ln21, .int (nI 136), .int (nI 31), .int (nI ps23)])), (ln21, .inl (g.2.1 2, 25, .inr (.inl f23))), (r21, .inl (g.2.1 1, 84, .inl u22))] ++ pl) := hD
            refine W.widen (k := 0) (n := 0) (by omega) (by omega) ?_
            refine lv_aload_n hx hb dDA_accepts_162 rfl (lv_at hl 3 rfl) ?_
            refine lv_aload_n hx hb dDA_accepts_163 rfl (lv_at hl 4 rfl) ?_
            refine mp_v (cx := [(r30, .inr (3, [.ref ln21, .int (nI 136), .int (nI 31), .int (nI ps23)])), (ln21, .inl (g.2.1 2, 25, .inr (.inl f23)))]) (wr := [(r21, .inl (g.2.1 1, 84, .inl u22))]) hP hD hS hA [0, 1] [2] rfl rfl rfl (by decide) (va_runV (As := [.ref st]) (rest := []) F (t_DA_absorbHigh_0 l g _ T (ln21 :: (r30 :: (r21 :: xs))) pl hO hU (clo_cons (clo_cons (clo_cons hc0 kr21 (by decide)) kr29 (by decide)) kl21 (by decide)) r30 h0 st ln21 136 ps23 (nI 31) f23 kr29 k_h0 k_st (by omega) (by omega)) (cwV 1 hts (wg_app (wg_c kw_1210 (wg_c kw_1212 (wg_c ks_39 (wg_c kw_5 wg_n)))) kw_1213) rfl rfl rfl (by decide +kernel) ⟨by decide, by decide⟩) (pp_VT (en_ok g) (ci := 6) (kd := (15, 0)) hK hO k_h0 (nxg (clo_cons (clo_cons (clo_cons hc0 kr21 (by decide)) kr29 (by decide)) kl21 (by decide)) k_h0 rfl) (fun _ h9 => ko1 h9) hP hD hS hA hE [0, 1] rfl rfl rfl) rfl rfl hl.1 rfl (lv_room (Nat.le_of_ble_eq_true rfl)) dDA_accepts_164 ⟨by omega, by omega⟩) (fun  u29 H locs hu33 hP hD hS => ?_)
            obtain ⟨u30, pl⟩ := u29
            obtain ⟨hq33, hO⟩ := hu33
            obtain ⟨ps24, f25⟩ := u30
            have hP : va_P g.1 vcl ([(r21, .inl (g.2.1 1, 84, .inl u22)), (r30, .inr (3, [.ref ln21, .int (nI 136), .int (nI 31), .int (nI ps24)])), (ln21, .inl (g.2.1 2, 25, .inr (.inl f25)))] ++ pl) _ := hP
            have hD : va_D _ ([(r21, .inl (g.2.1 1, 84, .inl u22)), (r30, .inr (3, [.ref ln21, .int (nI 136), .int (nI 31), .int (nI ps24)])), (ln21, .inl (g.2.1 2, 25, .inr (.inl f25)))] ++ pl) := hD
            have hq33 : ps24 < 136 := hq33
            refine W.widen (k := 0) (n := 0) (by omega) (by omega) ?_
            refine lv_iload hx hb dDA_accepts_167 (lv_at hl 0 rfl) ?_
            refine lv_istore (lv' := [(6, .int (nI z21)), (8, .int (nI z21)), (7, .int (nI i22)), (0, .ref h0), (1, .ref st), (2, .ref pk)]) hx hb dDA_accepts_169 hl (by decide) rfl (fun ls hl => ?_)
            refine mi_iinc (k := 2) (x := i22) (d := 1) (y := i22 + 1) (lv' := [(7, .int (nI (i22 + 1))), (6, .int (nI z21)), (8, .int (nI z21)), (0, .ref h0), (1, .ref st), (2, .ref pk)]) hx hb dDA_accepts_171 hl rfl (by decide) rfl (by decide) rfl (fun ls hl => ?_)
            refine lv_goto (tgt := 111) hx hb dDA_accepts_174 (by decide) ?_
            exact ih22 (i22 + 1) z21 ps24 f25 pl ls H locs (by omega) (by omega) (by omega) (lv_sub hl [0, 1, 3, 4, 5] rfl) hO hP hD hS
        exact lp22 4 0 0 ps22 f22 pl ls _ _ (by omega) (by omega) (by omega) (lv_sub hl [0, 1, 2, 3, 4] rfl) hO hP hD hS
      | succ n21 ih21 =>
        intro i21 pl ls H locs hm21  hl hO hP hD hS
        refine lv_iload hx hb dDA_accepts_72 (lv_at hl 0 rfl) ?_
        refine lv_aload_n hx hb dDA_accepts_74 rfl (lv_at hl 2 rfl) ?_
        refine ty_get (ci := 2) (C := "LatticeKeys$DsaSet") (TT := T_DS) (N := 17) (kd := (43, 0)) hx hb hts (wg_ft i_DS) hown hK hO k_st (nxg (clo_cons hc0 kr21 (by decide)) k_st rfl) hP (fun _ h9 => h9) rfl 1 (by decide) (hts _ (wg_t kw_305)) (fun _ h9 => h9) (cd := (1, 0, 4)) rfl dDA_accepts_75 (fun v41 hv41 => ?_)
        obtain rfl := (show v41 = .int (nI 4) from hv41)
        refine mi_ge (tgt := 101) hx hb dDA_accepts_78 (by decide) (by omega) (by omega) (fun h25 => absurd h25 (by omega)) (fun h25 => ?_)
        refine lv_aload_n hx hb dDA_accepts_81 rfl (lv_at hl 1 rfl) ?_
        refine ty_get (ci := 6) (C := "LatticeKeys$Dsa") (TT := T_DA) (N := 17) (kd := (15, 0)) hx hb hts (wg_ft i_DA) hown hK hO k_h0 (nxg (clo_cons hc0 kr21 (by decide)) k_h0 rfl) hP (fun _ h9 => h9) rfl 1 (by decide) (hts _ (wg_t kw_166)) (fun _ h9 => h9) (cd := (3, 12, 0)) rfl dDA_accepts_82 (fun v42 hv42 => ?_)
        obtain ⟨r38, rfl, kr36⟩ := (show ∃ r : Nat, v42 = .ref r ∧ T r = some (12, 0) from hv42)
        refine lv_aload_n hx hb dDA_accepts_85 rfl (lv_at hl 1 rfl) ?_
        refine ty_get (ci := 6) (C := "LatticeKeys$Dsa") (TT := T_DA) (N := 17) (kd := (15, 0)) hx hb hts (wg_ft i_DA) hown hK hO k_h0 (nxg (clo_cons hc0 kr21 (by decide)) k_h0 rfl) hP (fun _ h9 => h9) rfl 7 (by decide) (hts _ (wg_t kw_172)) (fun _ h9 => h9) (cd := (3, 3, 7)) rfl dDA_accepts_86 (fun v43 hv43 => ?_)
        obtain ⟨r39, rfl, kr37⟩ := (show ∃ r : Nat, v43 = .ref r ∧ T r = some (3, 7) from hv43)
        refine lv_iload hx hb dDA_accepts_89 (lv_at hl 0 rfl) ?_
        refine ty_aald3 hx hb hK hO kr37 (nxg (clo_cons hc0 kr21 (by decide)) kr37 rfl) hP (by omega) (by decide) dDA_accepts_91 (fun r40 kr38 => ?_)
        refine mp_v (cx := []) (wr := [(r21, .inl (g.2.1 1, 84, .inl u22))]) hP hD hS hA [] [0] rfl rfl rfl (by decide) (va_runV (As := [.ref r40]) (rest := []) F (t_RG_transform_12 l g _ T (r21 :: xs) pl hO hU (clo_cons hc0 kr21 (by decide)) r38 r40 kr36 kr38) (cwV 1 hts (wg_app (wg_c kw_711 (wg_c kw_637 (wg_c kw_638 (wg_c kw_4 wg_n)))) kw_639) rfl rfl rfl (by decide +kernel) ⟨by decide, by decide⟩) (pp_VT (en_ok g) (ci := 4) (kd := (12, 0)) hK hO kr36 (nxg (clo_cons hc0 kr21 (by decide)) kr36 rfl) (fun _ h9 => ko1 h9) hP hD hS hA hE [] rfl rfl rfl) rfl rfl hl.1 rfl (lv_room (Nat.le_of_ble_eq_true rfl)) dDA_accepts_92 ⟨by omega, by omega⟩) (fun  pl H locs hu34 hP hD hS => ?_)
        obtain ⟨hq34, hO⟩ := hu34
        have hP : va_P g.1 vcl ([(r21, .inl (g.2.1 1, 84, .inl u22))] ++ pl) _ := hP
        have hD : va_D _ ([(r21, .inl (g.2.1 1, 84, .inl u22))] ++ pl) := hD
        refine W.widen (k := 0) (n := 0) (by omega) (by omega) ?_
        refine mi_iinc (k := 0) (x := i21) (d := 1) (y := i21 + 1) (lv' := [(6, .int (nI (i21 + 1))), (0, .ref h0), (1, .ref st), (2, .ref pk)]) hx hb dDA_accepts_95 hl rfl (by decide) rfl (by decide) rfl (fun ls hl => ?_)
        refine lv_goto (tgt := 72) hx hb dDA_accepts_98 (by decide) ?_
        exact ih21 (i21 + 1) pl ls H locs (by omega) (lv_sub hl [0, 1, 2, 3] rfl) hO hP hD hS
    exact lp21 4 0 pl ls _ _ (by omega) (lv_sub hl [0, 1, 2, 3] rfl) hO hP hD hS
  · refine lv_iconst (v := nI 0) hx hb dDA_accepts_9 (by decide) ?_
    have hO := close1 (e := .inl (g.2.1 1, 84, .inl u22)) hO kr21 ⟨_, rfl, hby22⟩
    have hO : okx g T xs ((r21, .inl (g.2.1 1, 84, .inl u22)) :: pl) := hO
    have hP : va_P g.1 vcl ([] ++ ((r21, .inl (g.2.1 1, 84, .inl u22)) :: pl)) _ := hP
    have hD : va_D _ ([] ++ ((r21, .inl (g.2.1 1, 84, .inl u22)) :: pl)) := hD
    generalize ((r21, .inl (g.2.1 1, 84, .inl u22)) :: pl) = pl at hO hP hD
    exact mp_zret hx hb hr hlk rfl hP hD hS pl ⟨(Or.inl rfl), hO⟩ [] rfl rfl rfl (by omega) (by omega) dDA_accepts_10
set_option maxHeartbeats 400000 in
set_option maxRecDepth 100000 in
theorem t_DA_accepts_1 (l : Launch) (g : Gd) (sz : Nat) (T : Ty) (xs : List Nat) (pl : va_W) (hO : okx g T xs pl) (hU : uni T) (hc0 : clo T xs 0) (hc3 : clo T xs 3) (hc4 : clo T xs 4) (hc20 : clo T xs 20) (h0 st pk tp n len : Nat) (cl : Int32) (k_h0 : T h0 = some (15, 0)) (k_st : T st = some (44, 0)) (k_pk : T pk = some (1, 1952)) (k_tp : T tp = some (1, n)) (h1 : 3309 ≤ len) (h3 : len ≤ n) (h2 : n < 65536)  : Met l y_DA_accepts w_DA_accepts ({ frames := 5, cells := 0, slots := 0, locals := 152 } : Room) (va_Pc [.ref h0, .ref st, .ref pk, .ref tp, .int (nI len), .int cl] (pr (en g) g.1 vcl sz ([] ++ pl))) (va_Qi (fun (r : Int32) (u : va_W) => (r = nI 0 ∨ r = nI 1) ∧ okx g T xs u) (po g.1 vcl (va_A ([] ++ pl) sz) (fun (u : va_W) => [] ++ u)) (va_A ([] ++ pl) sz)) 0 0 (va_A ([] ++ pl) sz) := by
  refine mc_entry (cc := c_DA_accepts) (maxL := 9) (ret := (some .boolean)) (by decide) rfl (Nat.le_of_ble_eq_true rfl) ?_
  intro p e s m args below meth c ls F hr hlk hnm hsz hP hD hE hA hl
  obtain ⟨hx, hb, hml, hown, hts⟩ := id F
  have hK := hE.1
  generalize va_A ([] ++ pl) sz = A at hD hE hA ⊢
  have hS : va_S A s.heap s.heap [] := va_S.rf
  have hl : lv_has ls 9 [(0, .ref h0), (1, .ref st), (2, .ref pk), (3, .ref tp), (4, .int (nI len)), (5, .int cl)] := hl
  refine lv_aload_n hx hb dDA_accepts_0 rfl (lv_at hl 0 rfl) ?_
  refine lv_aload_n hx hb dDA_accepts_1 rfl (lv_at hl 1 rfl) ?_
  refine lv_aload_n hx hb dDA_accepts_2 rfl (lv_at hl 3 rfl) ?_
  obtain ⟨q21, fs21, -, hf21⟩ := ty_obj (X := []) hO k_h0 (nxg hc0 k_h0 rfl) (fun _ h9 => h9)
  obtain ⟨v21, -, hv21⟩ := fall_get hf21 (j := 15) (c := (3, 8, 84)) rfl
  obtain ⟨r21, -, kr21⟩ := (show ∃ r : Nat, v21 = .ref r ∧ T r = some (8, 84) from hv21)
  obtain ⟨e21, pl, hP, hD, hk21, hO⟩ := open1 hP hD hO kr21 (nxg hc20 kr21 rfl)
  obtain ⟨fh21, rfl, hby21⟩ := hk21
  have hP : va_P g.1 vcl ([(r21, .inl (g.2.1 1, 84, .inl fh21))] ++ pl) _ := hP
  have hD : va_D _ ([(r21, .inl (g.2.1 1, 84, .inl fh21))] ++ pl) := hD
  refine mp_i (cx := [(r21, .inl (g.2.1 1, 84, .inl fh21))]) (wr := []) hP hD hS hA [0] [] rfl rfl rfl (by decide) (va_runV (As := [.ref st, .ref tp]) (rest := []) F (t_DA_readSignature_1 l g _ T (r21 :: xs) pl hO hU (clo_cons hc0 kr21 (by decide)) r21 h0 st tp n fh21 kr21 k_h0 k_st k_tp hby21 (by omega) (by omega)) (cwV 2 hts (wg_app (wg_c kw_1265 (wg_c kw_1267 (wg_c ks_45 (wg_c kw_5 wg_n)))) kw_1268) rfl rfl rfl (by decide +kernel) ⟨by decide, by decide⟩) (pp_VT (en_ok g) (ci := 6) (kd := (15, 0)) hK hO k_h0 (nxg (clo_cons hc0 kr21 (by decide)) k_h0 rfl) (fun _ h9 => ko1 h9) hP hD hS hA hE [0] rfl rfl rfl) rfl rfl hl.1 rfl (lv_room (Nat.le_of_ble_eq_true rfl)) dDA_accepts_3 ⟨by omega, by omega⟩) (fun r22 u21 H locs hu21 hP hD hS => ?_)
  obtain ⟨u22, pl⟩ := u21
  obtain ⟨hq21, hO⟩ := hu21
  have hP : va_P g.1 vcl ([(r21, .inl (g.2.1 1, 84, .inl u22))] ++ pl) _ := hP
  have hD : va_D _ ([(r21, .inl (g.2.1 1, 84, .inl u22))] ++ pl) := hD
  obtain ⟨hg21, hby22⟩ := hq21
  refine W.widen (k := 0) (n := 0) (by omega) (by omega) ?_
  refine lv_if_ne (tgt := 11) hx hb dDA_accepts_6 (by decide) (fun h21 => ?_) (fun h21 => ?_)
  · have hgd := hg21.resolve_left h21
    refine lv_aload_n hx hb dDA_accepts_11 rfl (lv_at hl 0 rfl) ?_
    refine lv_aload_n hx hb dDA_accepts_12 rfl (lv_at hl 2 rfl) ?_
    refine mp_v (cx := []) (wr := [(r21, .inl (g.2.1 1, 84, .inl u22))]) hP hD hS hA [] [0] rfl rfl rfl (by decide) (va_runV (As := [.ref pk]) (rest := []) F (t_DA_digestOf l g _ T (r21 :: xs) pl hO hU (clo_cons hc0 kr21 (by decide)) (clo_cons hc3 kr21 (by decide)) h0 pk 1952 k_h0 k_pk (by omega)) (cwV 1 hts (wg_app (wg_c kw_736 (wg_c kw_738 (wg_c ks_18 (wg_c kw_5 wg_n)))) kw_739) rfl rfl rfl (by decide +kernel) ⟨by decide, by decide⟩) (pp_VT (en_ok g) (ci := 6) (kd := (15, 0)) hK hO k_h0 (nxg (clo_cons hc0 kr21 (by decide)) k_h0 rfl) (fun _ h9 => ko1 h9) hP hD hS hA hE [] rfl rfl rfl) rfl rfl hl.1 rfl (lv_room (Nat.le_of_ble_eq_true rfl)) dDA_accepts_13 ⟨by omega, by omega⟩) (fun  pl H locs hu22 hP hD hS => ?_)
    obtain ⟨hq22, hO⟩ := hu22
    have hP : va_P g.1 vcl ([(r21, .inl (g.2.1 1, 84, .inl u22))] ++ pl) _ := hP
    have hD : va_D _ ([(r21, .inl (g.2.1 1, 84, .inl u22))] ++ pl) := hD
    refine W.widen (k := 0) (n := 0) (by omega) (by omega) ?_
    refine lv_aload_n hx hb dDA_accepts_16 rfl (lv_at hl 0 rfl) ?_
    refine lv_aload_n hx hb dDA_accepts_17 rfl (lv_at hl 3 rfl) ?_
    refine lv_aload_n hx hb dDA_accepts_18 rfl (lv_at hl 1 rfl) ?_
    refine ty_get (ci := 2) (C := "LatticeKeys$DsaSet") (TT := T_DS) (N := 17) (kd := (44, 0)) hx hb hts (wg_ft i_DS) hown hK hO k_st (nxg (clo_cons hc0 kr21 (by decide)) k_st rfl) hP (fun _ h9 => h9) rfl 16 (by decide) (hts _ (wg_t kw_338)) (fun _ h9 => h9) (cd := (1, 0, 3309)) rfl dDA_accepts_19 (fun v22 hv22 => ?_)
    obtain rfl := (show v22 = .int (nI 3309) from hv22)
    refine lv_iload hx hb dDA_accepts_22 (lv_at hl 4 rfl) ?_
    refine lv_iload hx hb dDA_accepts_24 (lv_at hl 5 rfl) ?_
    refine mp_v (cx := []) (wr := [(r21, .inl (g.2.1 1, 84, .inl u22))]) hP hD hS hA [] [0] rfl rfl rfl (by decide) (va_runV (As := [.ref tp, .int (nI 3309), .int (nI len), .int cl]) (rest := []) F (t_DA_digestMessage l g _ T (r21 :: xs) pl hO hU (clo_cons hc0 kr21 (by decide)) (clo_cons hc3 kr21 (by decide)) h0 tp n 3309 len cl k_h0 k_tp (by omega) (by omega) (by omega)) (cwV 4 hts (wg_app (wg_c kw_1188 (wg_c kw_1190 (wg_c ks_36 (wg_c kw_5 wg_n)))) kw_1191) rfl rfl rfl (by decide +kernel) ⟨by decide, by decide⟩) (pp_VT (en_ok g) (ci := 6) (kd := (15, 0)) hK hO k_h0 (nxg (clo_cons hc0 kr21 (by decide)) k_h0 rfl) (fun _ h9 => ko1 h9) hP hD hS hA hE [] rfl rfl rfl) rfl rfl hl.1 rfl (lv_room (Nat.le_of_ble_eq_true rfl)) dDA_accepts_26 ⟨by omega, by omega⟩) (fun  pl H locs hu23 hP hD hS => ?_)
    obtain ⟨hq23, hO⟩ := hu23
    have hP : va_P g.1 vcl ([(r21, .inl (g.2.1 1, 84, .inl u22))] ++ pl) _ := hP
    have hD : va_D _ ([(r21, .inl (g.2.1 1, 84, .inl u22))] ++ pl) := hD
    refine W.widen (k := 0) (n := 0) (by omega) (by omega) ?_
    refine lv_aload_n hx hb dDA_accepts_29 rfl (lv_at hl 0 rfl) ?_
    refine ty_get (ci := 6) (C := "LatticeKeys$Dsa") (TT := T_DA) (N := 17) (kd := (15, 0)) hx hb hts (wg_ft i_DA) hown hK hO k_h0 (nxg (clo_cons hc0 kr21 (by decide)) k_h0 rfl) hP (fun _ h9 => h9) rfl 2 (by decide) (hts _ (wg_t kw_167)) (fun _ h9 => h9) (cd := (3, 14, 0)) rfl dDA_accepts_30 (fun v23 hv23 => ?_)
    obtain ⟨r23, rfl, kr22⟩ := (show ∃ r : Nat, v23 = .ref r ∧ T r = some (14, 0) from hv23)
    refine lv_aload_n hx hb dDA_accepts_33 rfl (lv_at hl 1 rfl) ?_
    refine lv_aload_n hx hb dDA_accepts_34 rfl (lv_at hl 2 rfl) ?_
    refine lv_aload_n hx hb dDA_accepts_35 rfl (lv_at hl 0 rfl) ?_
    refine ty_get (ci := 6) (C := "LatticeKeys$Dsa") (TT := T_DA) (N := 17) (kd := (15, 0)) hx hb hts (wg_ft i_DA) hown hK hO k_h0 (nxg (clo_cons hc0 kr21 (by decide)) k_h0 rfl) hP (fun _ h9 => h9) rfl 3 (by decide) (hts _ (wg_t kw_168)) (fun _ h9 => h9) (cd := (3, 3, 56)) rfl dDA_accepts_36 (fun v24 hv24 => ?_)
    obtain ⟨r24, rfl, kr23⟩ := (show ∃ r : Nat, v24 = .ref r ∧ T r = some (3, 56) from hv24)
    refine mp_v (cx := []) (wr := [(r21, .inl (g.2.1 1, 84, .inl u22))]) hP hD hS hA [] [0] rfl rfl rfl (by decide) (va_runV (As := [.ref st, .ref pk, .ref r24]) (rest := []) F (t_SA_expandMatrix_1 l g _ T (r21 :: xs) pl hO hU (clo_cons hc0 kr21 (by decide)) (clo_cons hc4 kr21 (by decide)) r23 st pk r24 1952 kr22 k_st k_pk kr23 (by omega) (by omega)) (cwV 3 hts (wg_app (wg_c kw_703 (wg_c kw_704 (wg_c kw_705 (wg_c kw_6 wg_n)))) kw_706) rfl rfl rfl (by decide +kernel) ⟨by decide, by decide⟩) (pp_VT (en_ok g) (ci := 7) (kd := (14, 0)) hK hO kr22 (nxg (clo_cons hc0 kr21 (by decide)) kr22 rfl) (fun _ h9 => ko1 h9) hP hD hS hA hE [] rfl rfl rfl) rfl rfl hl.1 rfl (lv_room (Nat.le_of_ble_eq_true rfl)) dDA_accepts_39 ⟨by omega, by omega⟩) (fun  pl H locs hu24 hP hD hS => ?_)
    obtain ⟨hq24, hO⟩ := hu24
    have hP : va_P g.1 vcl ([(r21, .inl (g.2.1 1, 84, .inl u22))] ++ pl) _ := hP
    have hD : va_D _ ([(r21, .inl (g.2.1 1, 84, .inl u22))] ++ pl) := hD
    refine W.widen (k := 0) (n := 0) (by omega) (by omega) ?_
    refine lv_aload_n hx hb dDA_accepts_42 rfl (lv_at hl 0 rfl) ?_
    refine ty_get (ci := 6) (C := "LatticeKeys$Dsa") (TT := T_DA) (N := 17) (kd := (15, 0)) hx hb hts (wg_ft i_DA) hown hK hO k_h0 (nxg (clo_cons hc0 kr21 (by decide)) k_h0 rfl) hP (fun _ h9 => h9) rfl 2 (by decide) (hts _ (wg_t kw_167)) (fun _ h9 => h9) (cd := (3, 14, 0)) rfl dDA_accepts_43 (fun v25 hv25 => ?_)
    obtain ⟨r25, rfl, kr24⟩ := (show ∃ r : Nat, v25 = .ref r ∧ T r = some (14, 0) from hv25)
    refine lv_aload_n hx hb dDA_accepts_46 rfl (lv_at hl 1 rfl) ?_
    refine lv_aload_n hx hb dDA_accepts_47 rfl (lv_at hl 0 rfl) ?_
    refine ty_get (ci := 6) (C := "LatticeKeys$Dsa") (TT := T_DA) (N := 17) (kd := (15, 0)) hx hb hts (wg_ft i_DA) hown hK hO k_h0 (nxg (clo_cons hc0 kr21 (by decide)) k_h0 rfl) hP (fun _ h9 => h9) rfl 9 (by decide) (hts _ (wg_t kw_174)) (fun _ h9 => h9) (cd := (3, 0, 256)) rfl dDA_accepts_48 (fun v26 hv26 => ?_)
    obtain ⟨r26, rfl, kr25⟩ := (show ∃ r : Nat, v26 = .ref r ∧ T r = some (0, 256) from hv26)
    refine lv_aload_n hx hb dDA_accepts_51 rfl (lv_at hl 0 rfl) ?_
    refine ty_get (ci := 6) (C := "LatticeKeys$Dsa") (TT := T_DA) (N := 17) (kd := (15, 0)) hx hb hts (wg_ft i_DA) hown hK hO k_h0 (nxg (clo_cons hc0 kr21 (by decide)) k_h0 rfl) hP (fun _ h9 => h9) rfl 13 (by decide) (hts _ (wg_t kw_178)) (fun _ h9 => h9) (cd := (3, 1, 64)) rfl dDA_accepts_52 (fun v27 hv27 => ?_)
    obtain ⟨r27, rfl, kr26⟩ := (show ∃ r : Nat, v27 = .ref r ∧ T r = some (1, 64) from hv27)
    refine mp_v (cx := []) (wr := [(r21, .inl (g.2.1 1, 84, .inl u22))]) hP hD hS hA [] [0] rfl rfl rfl (by decide) (va_runV (As := [.ref st, .ref r26, .ref r27]) (rest := []) F (t_SA_sampleBall_1 l g _ T (r21 :: xs) pl hO hU (clo_cons hc0 kr21 (by decide)) (clo_cons hc4 kr21 (by decide)) r25 st r26 r27 64 kr24 k_st kr25 kr26 (by omega) (by omega)) (cwV 3 hts (wg_app (wg_c kw_1214 (wg_c kw_1215 (wg_c kw_1216 (wg_c kw_6 wg_n)))) kw_1217) rfl rfl rfl (by decide +kernel) ⟨by decide, by decide⟩) (pp_VT (en_ok g) (ci := 7) (kd := (14, 0)) hK hO kr24 (nxg (clo_cons hc0 kr21 (by decide)) kr24 rfl) (fun _ h9 => ko1 h9) hP hD hS hA hE [] rfl rfl rfl) rfl rfl hl.1 rfl (lv_room (Nat.le_of_ble_eq_true rfl)) dDA_accepts_55 ⟨by omega, by omega⟩) (fun  pl H locs hu25 hP hD hS => ?_)
    obtain ⟨hq25, hO⟩ := hu25
    have hP : va_P g.1 vcl ([(r21, .inl (g.2.1 1, 84, .inl u22))] ++ pl) _ := hP
    have hD : va_D _ ([(r21, .inl (g.2.1 1, 84, .inl u22))] ++ pl) := hD
    refine W.widen (k := 0) (n := 0) (by omega) (by omega) ?_
    refine lv_aload_n hx hb dDA_accepts_58 rfl (lv_at hl 0 rfl) ?_
    refine ty_get (ci := 6) (C := "LatticeKeys$Dsa") (TT := T_DA) (N := 17) (kd := (15, 0)) hx hb hts (wg_ft i_DA) hown hK hO k_h0 (nxg (clo_cons hc0 kr21 (by decide)) k_h0 rfl) hP (fun _ h9 => h9) rfl 1 (by decide) (hts _ (wg_t kw_166)) (fun _ h9 => h9) (cd := (3, 12, 0)) rfl dDA_accepts_59 (fun v28 hv28 => ?_)
    obtain ⟨r28, rfl, kr27⟩ := (show ∃ r : Nat, v28 = .ref r ∧ T r = some (12, 0) from hv28)
    refine lv_aload_n hx hb dDA_accepts_62 rfl (lv_at hl 0 rfl) ?_
    refine ty_get (ci := 6) (C := "LatticeKeys$Dsa") (TT := T_DA) (N := 17) (kd := (15, 0)) hx hb hts (wg_ft i_DA) hown hK hO k_h0 (nxg (clo_cons hc0 kr21 (by decide)) k_h0 rfl) hP (fun _ h9 => h9) rfl 9 (by decide) (hts _ (wg_t kw_174)) (fun _ h9 => h9) (cd := (3, 0, 256)) rfl dDA_accepts_63 (fun v29 hv29 => ?_)
    obtain ⟨r29, rfl, kr28⟩ := (show ∃ r : Nat, v29 = .ref r ∧ T r = some (0, 256) from hv29)
    refine mp_v (cx := []) (wr := [(r21, .inl (g.2.1 1, 84, .inl u22))]) hP hD hS hA [] [0] rfl rfl rfl (by decide) (va_runV (As := [.ref r29]) (rest := []) F (t_RG_transform_12 l g _ T (r21 :: xs) pl hO hU (clo_cons hc0 kr21 (by decide)) r28 r29 kr27 kr28) (cwV 1 hts (wg_app (wg_c kw_711 (wg_c kw_637 (wg_c kw_638 (wg_c kw_4 wg_n)))) kw_639) rfl rfl rfl (by decide +kernel) ⟨by decide, by decide⟩) (pp_VT (en_ok g) (ci := 4) (kd := (12, 0)) hK hO kr27 (nxg (clo_cons hc0 kr21 (by decide)) kr27 rfl) (fun _ h9 => ko1 h9) hP hD hS hA hE [] rfl rfl rfl) rfl rfl hl.1 rfl (lv_room (Nat.le_of_ble_eq_true rfl)) dDA_accepts_66 ⟨by omega, by omega⟩) (fun  pl H locs hu26 hP hD hS => ?_)
    obtain ⟨hq26, hO⟩ := hu26
    have hP : va_P g.1 vcl ([(r21, .inl (g.2.1 1, 84, .inl u22))] ++ pl) _ := hP
    have hD : va_D _ ([(r21, .inl (g.2.1 1, 84, .inl u22))] ++ pl) := hD
    refine W.widen (k := 0) (n := 0) (by omega) (by omega) ?_
    refine lv_iconst (v := nI 0) hx hb dDA_accepts_69 (by decide) ?_
    refine lv_istore (lv' := [(6, .int (nI 0)), (0, .ref h0), (1, .ref st), (2, .ref pk), (3, .ref tp), (4, .int (nI len)), (5, .int cl)]) hx hb dDA_accepts_70 hl (by decide) rfl (fun ls hl => ?_)
    have lp21 : ∀ (n21 : Nat) (i21 : Nat) (pl : va_W) (ls : Array Slot) (H : Heap) (locs : List Loc), n21 + i21 = 5 → lv_has ls 9 [(6, .int (nI i21)), (0, .ref h0), (1, .ref st), (2, .ref pk)] → okx g T (r21 :: xs) pl → va_P g.1 vcl ([(r21, .inl (g.2.1 1, 84, .inl u22))] ++ pl) H → va_D A ([(r21, .inl (g.2.1 1, 84, .inl u22))] ++ pl) → va_S A s.heap H locs → W p l e ({ frames := 5, cells := 0, slots := 0, locals := 152 } : Room) s m args below meth c H locs 0 0 (MQ below (va_Qi (fun (r : Int32) (u : va_W) => (r = nI 0 ∨ r = nI 1) ∧ okx g T xs u) (po g.1 vcl A (fun (u : va_W) => [] ++ u)) A) args s 0 0 A) (F0 m 72 ls []) := by
      intro n21
      induction n21 with
      | zero =>
        intro i21 pl ls H locs hm21  hl hO hP hD hS
        refine lv_iload hx hb dDA_accepts_72 (lv_at hl 0 rfl) ?_
        refine lv_aload_n hx hb dDA_accepts_74 rfl (lv_at hl 2 rfl) ?_
        refine ty_get (ci := 2) (C := "LatticeKeys$DsaSet") (TT := T_DS) (N := 17) (kd := (44, 0)) hx hb hts (wg_ft i_DS) hown hK hO k_st (nxg (clo_cons hc0 kr21 (by decide)) k_st rfl) hP (fun _ h9 => h9) rfl 1 (by decide) (hts _ (wg_t kw_305)) (fun _ h9 => h9) (cd := (1, 0, 5)) rfl dDA_accepts_75 (fun v30 hv30 => ?_)
        obtain rfl := (show v30 = .int (nI 5) from hv30)
        refine mi_ge (tgt := 101) hx hb dDA_accepts_78 (by decide) (by omega) (by omega) (fun h22 => ?_) (fun h22 => absurd h22 (by omega))
        refine lv_aload_n hx hb dDA_accepts_101 rfl (lv_at hl 1 rfl) ?_
        obtain ⟨q22, fs22, -, hf22⟩ := ty_obj (X := []) hO k_h0 (nxg (clo_cons hc0 kr21 (by decide)) k_h0 rfl) (fun _ h9 => h9)
        obtain ⟨v31, -, hv31⟩ := fall_get hf22 (j := 0) (c := (3, 10, 2)) rfl
        obtain ⟨r30, -, kr29⟩ := (show ∃ r : Nat, v31 = .ref r ∧ T r = some (10, 2) from hv31)
        obtain ⟨e22, pl, hP, hD, hk22, hO⟩ := open1 hP hD hO kr29 (nxg (clo_cons hc3 kr21 (by decide)) kr29 rfl)
        obtain ⟨ln21, rt21, ps21, x21, rfl, kl21, hr21, hr22, hr23⟩ := hk22
        have kl21 : T ln21 = some (19, 2) := kl21
        obtain ⟨e23, pl, hP, hD, hk23, hO⟩ := open1 hP hD hO kl21 (nmc (knd_ne kl21 kr29 (by decide)) (nxg (clo_cons hc3 kr21 (by decide)) kl21 rfl))
        obtain ⟨f21, rfl⟩ := hk23
        have hP : va_P g.1 vcl ([(r21, .inl (g.2.1 1, 84, .inl u22)), (r30, .inr (3, [.ref ln21, .int (nI rt21), .int x21, .int (nI ps21)])), (ln21, .inl (g.2.1 2, 25, .inr (.inl f21)))] ++ pl) _ := hP
        have hD : va_D _ ([(r21, .inl (g.2.1 1, 84, .inl u22)), (r30, .inr (3, [.ref ln21, .int (nI rt21), .int x21, .int (nI ps21)])), (ln21, .inl (g.2.1 2, 25, .inr (.inl f21)))] ++ pl) := hD
        refine mp_v (cx := [(r30, .inr (3, [.ref ln21, .int (nI rt21), .int x21, .int (nI ps21)])), (ln21, .inl (g.2.1 2, 25, .inr (.inl f21)))]) (wr := [(r21, .inl (g.2.1 1, 84, .inl u22))]) hP hD hS hA [1, 2] [0] rfl rfl rfl (by decide) (va_runV (As := []) (rest := []) F (t_DA_startChallenge l g _ T (ln21 :: (r30 :: (r21 :: xs))) pl hO hU (clo_cons (clo_cons (clo_cons hc0 kr21 (by decide)) kr29 (by decide)) kl21 (by decide)) r30 h0 ln21 rt21 ps21 x21 f21 kr29 k_h0) (cwV 0 hts (wg_app (wg_c kw_1202 (wg_c kw_1204 (wg_c ks_38 (wg_c kw_5 wg_n)))) kw_1205) rfl rfl rfl (by decide +kernel) ⟨by decide, by decide⟩) (pp_VT (en_ok g) (ci := 6) (kd := (15, 0)) hK hO k_h0 (nxg (clo_cons (clo_cons (clo_cons hc0 kr21 (by decide)) kr29 (by decide)) kl21 (by decide)) k_h0 rfl) (fun _ h9 => ko1 h9) hP hD hS hA hE [1, 2] rfl rfl rfl) rfl rfl hl.1 rfl (lv_room (Nat.le_of_ble_eq_true rfl)) dDA_accepts_102 ⟨by omega, by omega⟩) (fun  u23 H locs hu27 hP hD hS => ?_)
        obtain ⟨u24, pl⟩ := u23
        obtain ⟨hq27, hO⟩ := hu27
        obtain ⟨ps22, f22⟩ := u24
        have hP : va_P g.1 vcl ([(r21, .inl (g.2.1 1, 84, .inl u22)), (r30, .inr (3, [.ref ln21, .int (nI 136), .int (nI 31), .int (nI ps22)])), (ln21, .inl (g.2.1 2, 25, .inr (.inl f22)))] ++ pl) _ := hP
        have hD : va_D _ ([(r21, .inl (g.2.1 1, 84, .inl u22)), (r30, .inr (3, [.ref ln21, .int (nI 136), .int (nI 31), .int (nI ps22)])), (ln21, .inl (g.2.1 2, 25, .inr (.inl f22)))] ++ pl) := hD
        have hq27 : ps22 < 136 := hq27
        refine W.widen (k := 0) (n := 0) (by omega) (by omega) ?_
        refine lv_iconst (v := nI 0) hx hb dDA_accepts_105 (by decide) ?_
        refine lv_istore (lv' := [(6, .int (nI 0)), (0, .ref h0), (1, .ref st), (2, .ref pk)]) hx hb dDA_accepts_106 hl (by decide) rfl (fun ls hl => ?_)
        refine lv_iconst (v := nI 0) hx hb dDA_accepts_108 (by decide) ?_
        refine lv_istore (lv' := [(7, .int (nI 0)), (6, .int (nI 0)), (0, .ref h0), (1, .ref st), (2, .ref pk)]) hx hb dDA_accepts_109 hl (by decide) rfl (fun ls hl => ?_)
        have lp22 : ∀ (n22 : Nat) (i22 : Nat) (fs23 : Nat) (ps23 : Nat) (f23 : Nat → Int64) (pl : va_W) (ls : Array Slot) (H : Heap) (locs : List Loc), n22 + i22 = 6 → (fs23 ≤ 255) → (ps23 < 136) → lv_has ls 9 [(7, .int (nI i22)), (6, .int (nI fs23)), (0, .ref h0), (1, .ref st), (2, .ref pk)] → okx g T (ln21 :: (r30 :: (r21 :: xs))) pl → va_P g.1 vcl ([(r21, .inl (g.2.1 1, 84, .inl u22)), (r30, .inr (3, [.ref ln21, .int (nI 136), .int (nI 31), .int (nI ps23)])), (ln21, .inl (g.2.1 2, 25, .inr (.inl f23)))] ++ pl) H → va_D A ([(r21, .inl (g.2.1 1, 84, .inl u22)), (r30, .inr (3, [.ref ln21, .int (nI 136), .int (nI 31), .int (nI ps23)])), (ln21, .inl (g.2.1 2, 25, .inr (.inl f23)))] ++ pl) → va_S A s.heap H locs → W p l e ({ frames := 5, cells := 0, slots := 0, locals := 152 } : Room) s m args below meth c H locs 0 0 (MQ below (va_Qi (fun (r : Int32) (u : va_W) => (r = nI 0 ∨ r = nI 1) ∧ okx g T xs u) (po g.1 vcl A (fun (u : va_W) => [] ++ u)) A) args s 0 0 A) (F0 m 111 ls []) := by
          intro n22
          induction n22 with
          | zero =>
            intro i22 fs23 ps23 f23 pl ls H locs hm22 hi21 hi22 hl hO hP hD hS
            refine lv_iload hx hb dDA_accepts_111 (lv_at hl 0 rfl) ?_
            refine lv_aload_n hx hb dDA_accepts_113 rfl (lv_at hl 3 rfl) ?_
            refine ty_get (ci := 2) (C := "LatticeKeys$DsaSet") (TT := T_DS) (N := 17) (kd := (44, 0)) hx hb hts (wg_ft i_DS) hown hK hO k_st (nxg (clo_cons (clo_cons (clo_cons hc0 kr21 (by decide)) kr29 (by decide)) kl21 (by decide)) k_st rfl) hP (fun _ h9 => h9) rfl 0 (by decide) (hts _ (wg_t kw_302)) (fun _ h9 => h9) (cd := (1, 0, 6)) rfl dDA_accepts_114 (fun v32 hv32 => ?_)
            obtain rfl := (show v32 = .int (nI 6) from hv32)
            refine mi_ge (tgt := 177) hx hb dDA_accepts_117 (by decide) (by omega) (by omega) (fun h23 => ?_) (fun h23 => absurd h23 (by omega))
            refine lv_aload_n hx hb dDA_accepts_177 rfl (lv_at hl 2 rfl) ?_
            refine ty_get (ci := 6) (C := "LatticeKeys$Dsa") (TT := T_DA) (N := 17) (kd := (15, 0)) hx hb hts (wg_ft i_DA) hown hK hO k_h0 (nxg (clo_cons (clo_cons (clo_cons hc0 kr21 (by decide)) kr29 (by decide)) kl21 (by decide)) k_h0 rfl) hP (fun _ h9 => h9) rfl 0 (by decide) (hts _ (wg_t kw_165)) (fun _ h9 => h9) (cd := (3, 10, 2)) rfl dDA_accepts_178 (fun v33 hv33 => ?_)
            obtain ⟨r31, rfl, kr30⟩ := (show ∃ r : Nat, v33 = .ref r ∧ T r = some (10, 2) from hv33)
            obtain rfl : r30 = r31 := hU _ _ _ (by decide) kr29 kr30
            refine mp_v (cx := [(r30, .inr (3, [.ref ln21, .int (nI 136), .int (nI 31), .int (nI ps23)])), (ln21, .inl (g.2.1 2, 25, .inr (.inl f23)))]) (wr := [(r21, .inl (g.2.1 1, 84, .inl u22))]) hP hD hS hA [1, 2] [0] rfl rfl rfl (by decide) (va_runV (As := []) (rest := []) F (t_SP_finish l g _ T (ln21 :: (r30 :: (r21 :: xs))) pl hO hU  r30 ln21 136 ps23 (nI 31) f23 (by omega) (by omega)) (cwV 0 hts (wg_app (wg_c kw_672 (wg_c kw_611 (wg_c kw_612 (wg_c kw_2 wg_n)))) kw_613) rfl rfl rfl (by decide +kernel) ⟨by decide, by decide⟩) (pp_V (en_ok g) (q0 := 1) hK hP hD hS hA hE [1, 2] rfl rfl rfl rfl) rfl rfl hl.1 rfl (lv_room (Nat.le_of_ble_eq_true rfl)) dDA_accepts_181 ⟨by omega, by omega⟩) (fun  u25 H locs hu28 hP hD hS => ?_)
            obtain ⟨u26, pl⟩ := u25
            obtain ⟨hq28, hO⟩ := hu28
            have hP : va_P g.1 vcl ([(r21, .inl (g.2.1 1, 84, .inl u22)), (r30, .inr (3, [.ref ln21, .int (nI 136), .int (nI 31), .int (nI 136)])), (ln21, .inl (g.2.1 2, 25, .inr (.inl u26)))] ++ pl) _ := hP
            have hD : va_D _ ([(r21, .inl (g.2.1 1, 84, .inl u22)), (r30, .inr (3, [.ref ln21, .int (nI 136), .int (nI 31), .int (nI 136)])), (ln21, .inl (g.2.1 2, 25, .inr (.inl u26)))] ++ pl) := hD
            refine W.widen (k := 0) (n := 0) (by omega) (by omega) ?_
            refine lv_aload_n hx hb dDA_accepts_184 rfl (lv_at hl 2 rfl) ?_
            refine ty_get (ci := 6) (C := "LatticeKeys$Dsa") (TT := T_DA) (N := 17) (kd := (15, 0)) hx hb hts (wg_ft i_DA) hown hK hO k_h0 (nxg (clo_cons (clo_cons (clo_cons hc0 kr21 (by decide)) kr29 (by decide)) kl21 (by decide)) k_h0 rfl) hP (fun _ h9 => h9) rfl 0 (by decide) (hts _ (wg_t kw_165)) (fun _ h9 => h9) (cd := (3, 10, 2)) rfl dDA_accepts_185 (fun v34 hv34 => ?_)
            obtain ⟨r32, rfl, kr31⟩ := (show ∃ r : Nat, v34 = .ref r ∧ T r = some (10, 2) from hv34)
            obtain rfl : r30 = r32 := hU _ _ _ (by decide) kr29 kr31
            refine lv_aload_n hx hb dDA_accepts_188 rfl (lv_at hl 2 rfl) ?_
            refine ty_get (ci := 6) (C := "LatticeKeys$Dsa") (TT := T_DA) (N := 17) (kd := (15, 0)) hx hb hts (wg_ft i_DA) hown hK hO k_h0 (nxg (clo_cons (clo_cons (clo_cons hc0 kr21 (by decide)) kr29 (by decide)) kl21 (by decide)) k_h0 rfl) hP (fun _ h9 => h9) rfl 14 (by decide) (hts _ (wg_t kw_179)) (fun _ h9 => h9) (cd := (3, 1, 64)) rfl dDA_accepts_189 (fun v35 hv35 => ?_)
            obtain ⟨r33, rfl, kr32⟩ := (show ∃ r : Nat, v35 = .ref r ∧ T r = some (1, 64) from hv35)
            refine lv_iconst (v := nI 0) hx hb dDA_accepts_192 (by decide) ?_
            refine lv_aload_n hx hb dDA_accepts_193 rfl (lv_at hl 3 rfl) ?_
            refine ty_get (ci := 2) (C := "LatticeKeys$DsaSet") (TT := T_DS) (N := 17) (kd := (44, 0)) hx hb hts (wg_ft i_DS) hown hK hO k_st (nxg (clo_cons (clo_cons (clo_cons hc0 kr21 (by decide)) kr29 (by decide)) kl21 (by decide)) k_st rfl) hP (fun _ h9 => h9) rfl 5 (by decide) (hts _ (wg_t kw_315)) (fun _ h9 => h9) (cd := (1, 0, 48)) rfl dDA_accepts_194 (fun v36 hv36 => ?_)
            obtain rfl := (show v36 = .int (nI 48) from hv36)
            refine mp_v (cx := [(r30, .inr (3, [.ref ln21, .int (nI 136), .int (nI 31), .int (nI 136)])), (ln21, .inl (g.2.1 2, 25, .inr (.inl u26)))]) (wr := [(r21, .inl (g.2.1 1, 84, .inl u22))]) hP hD hS hA [1, 2] [0] rfl rfl rfl (by decide) (va_runV (As := [.ref r33, .int (nI 0), .int (nI 48)]) (rest := []) F (t_SP_squeeze l g _ T (ln21 :: (r30 :: (r21 :: xs))) pl hO hU (clo_cons (clo_cons (clo_cons hc0 kr21 (by decide)) kr29 (by decide)) kl21 (by decide)) r33 64 0 48 r30 ln21 136 136 (nI 31) u26 kr32 (by omega) (by omega) (by omega) (by omega)) (cwV 3 hts (wg_app (wg_c kw_673 (wg_c kw_615 (wg_c kw_616 (wg_c kw_2 wg_n)))) kw_617) rfl rfl rfl (by decide +kernel) ⟨by decide, by decide⟩) (pp_V (en_ok g) (q0 := 1) hK hP hD hS hA hE [1, 2] rfl rfl rfl rfl) rfl rfl hl.1 rfl (lv_room (Nat.le_of_ble_eq_true rfl)) dDA_accepts_197 ⟨by omega, by omega⟩) (fun  u27 H locs hu29 hP hD hS => ?_)
            obtain ⟨u28, pl⟩ := u27
            obtain ⟨hq29, hO⟩ := hu29
            obtain ⟨k21, f24⟩ := u28
            have hP : va_P g.1 vcl ([(r21, .inl (g.2.1 1, 84, .inl u22)), (r30, .inr (3, [.ref ln21, .int (nI 136), .int (nI 31), .int (nI k21)])), (ln21, .inl (g.2.1 2, 25, .inr (.inl f24)))] ++ pl) _ := hP
            have hD : va_D _ ([(r21, .inl (g.2.1 1, 84, .inl u22)), (r30, .inr (3, [.ref ln21, .int (nI 136), .int (nI 31), .int (nI k21)])), (ln21, .inl (g.2.1 2, 25, .inr (.inl f24)))] ++ pl) := hD
            have hq29 : k21 ≤ 136 := hq29
            refine W.widen (k := 0) (n := 0) (by omega) (by omega) ?_
            refine lv_aload_n hx hb dDA_accepts_200 rfl (lv_at hl 2 rfl) ?_
            refine lv_aload_n hx hb dDA_accepts_201 rfl (lv_at hl 3 rfl) ?_
            refine mp_i (cx := []) (wr := [(r21, .inl (g.2.1 1, 84, .inl u22)), (r30, .inr (3, [.ref ln21, .int (nI 136), .int (nI 31), .int (nI k21)])), (ln21, .inl (g.2.1 2, 25, .inr (.inl f24)))]) hP hD hS hA [] [0, 1, 2] rfl rfl rfl (by decide) (va_runV (As := [.ref st]) (rest := []) F (t_DA_challengesAgree_1 l g _ T (ln21 :: (r30 :: (r21 :: xs))) pl hO hU (clo_cons (clo_cons (clo_cons hc0 kr21 (by decide)) kr29 (by decide)) kl21 (by decide)) h0 st k_h0 k_st) (cwV 1 hts (wg_app (wg_c kw_1287 (wg_c kw_1289 (wg_c ks_49 (wg_c kw_5 wg_n)))) kw_1290) rfl rfl rfl (by decide +kernel) ⟨by decide, by decide⟩) (pp_VT (en_ok g) (ci := 6) (kd := (15, 0)) hK hO k_h0 (nxg (clo_cons (clo_cons (clo_cons hc0 kr21 (by decide)) kr29 (by decide)) kl21 (by decide)) k_h0 rfl) (fun _ h9 => ko1 h9) hP hD hS hA hE [] rfl rfl rfl) rfl rfl hl.1 rfl (lv_room (Nat.le_of_ble_eq_true rfl)) dDA_accepts_202 ⟨by omega, by omega⟩) (fun r34 pl H locs hu30 hP hD hS => ?_)
            obtain ⟨hq30, hO⟩ := hu30
            have hP : va_P g.1 vcl ([(r21, .inl (g.2.1 1, 84, .inl u22)), (r30, .inr (3, [.ref ln21, .int (nI 136), .int (nI 31), .int (nI k21)])), (ln21, .inl (g.2.1 2, 25, .inr (.inl f24)))] ++ pl) _ := hP
            have hD : va_D _ ([(r21, .inl (g.2.1 1, 84, .inl u22)), (r30, .inr (3, [.ref ln21, .int (nI 136), .int (nI 31), .int (nI k21)])), (ln21, .inl (g.2.1 2, 25, .inr (.inl f24)))] ++ pl) := hD
            refine W.widen (k := 0) (n := 0) (by omega) (by omega) ?_
            have hO := close1 (e := .inl (g.2.1 2, 25, .inr (.inl f24))) hO kl21 ⟨_, rfl⟩
            have hO := close1 (e := .inr (3, [.ref ln21, .int (nI 136), .int (nI 31), .int (nI k21)])) hO kr29 ⟨_, _, _, _, rfl, kl21, by omega, by omega, by omega⟩
            have hO := close1 (e := .inl (g.2.1 1, 84, .inl u22)) hO kr21 ⟨_, rfl, hby22⟩
            have hO : okx g T xs ((r21, .inl (g.2.1 1, 84, .inl u22)) :: (r30, .inr (3, [.ref ln21, .int (nI 136), .int (nI 31), .int (nI k21)])) :: (ln21, .inl (g.2.1 2, 25, .inr (.inl f24))) :: pl) := hO
            have hP : va_P g.1 vcl ([] ++ ((r21, .inl (g.2.1 1, 84, .inl u22)) :: (r30, .inr (3, [.ref ln21, .int (nI 136), .int (nI 31), .int (nI k21)])) :: (ln21, .inl (g.2.1 2, 25, .inr (.inl f24))) :: pl)) _ := hP
            have hD : va_D _ ([] ++ ((r21, .inl (g.2.1 1, 84, .inl u22)) :: (r30, .inr (3, [.ref ln21, .int (nI 136), .int (nI 31), .int (nI k21)])) :: (ln21, .inl (g.2.1 2, 25, .inr (.inl f24))) :: pl)) := hD
            generalize ((r21, .inl (g.2.1 1, 84, .inl u22)) :: (r30, .inr (3, [.ref ln21, .int (nI 136), .int (nI 31), .int (nI k21)])) :: (ln21, .inl (g.2.1 2, 25, .inr (.inl f24))) :: pl) = pl at hO hP hD
            exact mp_zret hx hb hr hlk (nar_b hq30) hP hD hS pl ⟨hq30, hO⟩ [] rfl rfl rfl (by omega) (by omega) dDA_accepts_205
          | succ n22 ih22 =>
            intro i22 fs23 ps23 f23 pl ls H locs hm22 hi21 hi22 hl hO hP hD hS
            refine lv_iload hx hb dDA_accepts_111 (lv_at hl 0 rfl) ?_
            refine lv_aload_n hx hb dDA_accepts_113 rfl (lv_at hl 3 rfl) ?_
            refine ty_get (ci := 2) (C := "LatticeKeys$DsaSet") (TT := T_DS) (N := 17) (kd := (44, 0)) hx hb hts (wg_ft i_DS) hown hK hO k_st (nxg (clo_cons (clo_cons (clo_cons hc0 kr21 (by decide)) kr29 (by decide)) kl21 (by decide)) k_st rfl) hP (fun _ h9 => h9) rfl 0 (by decide) (hts _ (wg_t kw_302)) (fun _ h9 => h9) (cd := (1, 0, 6)) rfl dDA_accepts_114 (fun v37 hv37 => ?_)
            obtain rfl := (show v37 = .int (nI 6) from hv37)
            refine mi_ge (tgt := 177) hx hb dDA_accepts_117 (by decide) (by omega) (by omega) (fun h24 => absurd h24 (by omega)) (fun h24 => ?_)
            refine lv_aload_n hx hb dDA_accepts_120 rfl (lv_at hl 2 rfl) ?_
            refine ty_get (ci := 6) (C := "LatticeKeys$Dsa") (TT := T_DA) (N := 17) (kd := (15, 0)) hx hb hts (wg_ft i_DA) hown hK hO k_h0 (nxg (clo_cons (clo_cons (clo_cons hc0 kr21 (by decide)) kr29 (by decide)) kl21 (by decide)) k_h0 rfl) hP (fun _ h9 => h9) rfl 15 (by decide) (hts _ (wg_t kw_180)) (fun _ h9 => h9) (cd := (3, 8, 84)) rfl dDA_accepts_121 (fun v38 hv38 => ?_)
            obtain ⟨r35, rfl, kr33⟩ := (show ∃ r : Nat, v38 = .ref r ∧ T r = some (8, 84) from hv38)
            obtain rfl : r21 = r35 := hU _ _ _ (by decide) kr21 kr33
            refine lv_aload_n hx hb dDA_accepts_124 rfl (lv_at hl 3 rfl) ?_
            refine ty_get (ci := 2) (C := "LatticeKeys$DsaSet") (TT := T_DS) (N := 17) (kd := (44, 0)) hx hb hts (wg_ft i_DS) hown hK hO k_st (nxg (clo_cons (clo_cons (clo_cons hc0 kr21 (by decide)) kr29 (by decide)) kl21 (by decide)) k_st rfl) hP (fun _ h9 => h9) rfl 11 (by decide) (hts _ (wg_t kw_327)) (fun _ h9 => h9) (cd := (1, 0, 55)) rfl dDA_accepts_125 (fun v39 hv39 => ?_)
            obtain rfl := (show v39 = .int (nI 55) from hv39)
            refine lv_iload hx hb dDA_accepts_128 (lv_at hl 0 rfl) ?_
            refine mi_iadd hx hb dDA_accepts_130 ?_
            refine va_bald hx hb hK hP 0 1 rfl rfl (vp_in_nI (by omega) (by decide)) dDA_accepts_131 ?_
            rw [nI_clamp (show 55 + i22 < 2 ^ 31 by omega)]
            refine lv_sipush (v := nI 255) hx hb dDA_accepts_132 (by decide) ?_
            refine mi_iandE hx hb 8 dDA_accepts_135 (by decide) (fun z21 hz21 ez21 => ?_)
            have hz21 : z21 < 256 := hz21
            have hzlz21 := hg_le hgd (show i22 < 6 by omega) (by decide) (show z21 < 256 by omega) ez21
            refine lv_istore (lv' := [(8, .int (nI z21)), (7, .int (nI i22)), (6, .int (nI fs23)), (0, .ref h0), (1, .ref st), (2, .ref pk)]) hx hb dDA_accepts_136 hl (by decide) rfl (fun ls hl => ?_)
            refine lv_aload_n hx hb dDA_accepts_138 rfl (lv_at hl 3 rfl) ?_
            refine lv_aload_n hx hb dDA_accepts_139 rfl (lv_at hl 4 rfl) ?_
            refine lv_aload_n hx hb dDA_accepts_140 rfl (lv_at hl 5 rfl) ?_
            refine lv_iload hx hb dDA_accepts_141 (lv_at hl 1 rfl) ?_
            refine mp_v (cx := []) (wr := [(r21, .inl (g.2.1 1, 84, .inl u22)), (r30, .inr (3, [.ref ln21, .int (nI 136), .int (nI 31), .int (nI ps23)])), (ln21, .inl (g.2.1 2, 25, .inr (.inl f23)))]) hP hD hS hA [] [0, 1, 2] rfl rfl rfl (by decide) (va_runV (As := [.ref st, .ref pk, .int (nI i22)]) (rest := []) F (t_DA_rebuildRow_1 l g _ T (ln21 :: (r30 :: (r21 :: xs))) pl hO hU (clo_cons (clo_cons (clo_cons hc0 kr21 (by decide)) kr29 (by decide)) kl21 (by decide)) h0 st pk i22 k_h0 k_st k_pk (by omega)) (cwV 3 hts (wg_app (wg_c kw_1273 (wg_c kw_1275 (wg_c ks_47 (wg_c kw_5 wg_n)))) kw_1276) rfl rfl rfl (by decide +kernel) ⟨by decide, by decide⟩) (pp_VT (en_ok g) (ci := 6) (kd := (15, 0)) hK hO k_h0 (nxg (clo_cons (clo_cons (clo_cons hc0 kr21 (by decide)) kr29 (by decide)) kl21 (by decide)) k_h0 rfl) (fun _ h9 => ko1 h9) hP hD hS hA hE [] rfl rfl rfl) rfl rfl hl.1 rfl (lv_room (Nat.le_of_ble_eq_true rfl)) dDA_accepts_143 ⟨by omega, by omega⟩) (fun  pl H locs hu31 hP hD hS => ?_)
            obtain ⟨hq31, hO⟩ := hu31
            have hP : va_P g.1 vcl ([(r21, .inl (g.2.1 1, 84, .inl u22)), (r30, .inr (3, [.ref ln21, .int (nI 136), .int (nI 31), .int (nI ps23)])), (ln21, .inl (g.2.1 2, 25, .inr (.inl f23)))] ++ pl) _ := hP
            have hD : va_D _ ([(r21, .inl (g.2.1 1, 84, .inl u22)), (r30, .inr (3, [.ref ln21, .int (nI 136), .int (nI 31), .int (nI ps23)])), (ln21, .inl (g.2.1 2, 25, .inr (.inl f23)))] ++ pl) := hD
            refine W.widen (k := 0) (n := 0) (by omega) (by omega) ?_
            refine lv_aload_n hx hb dDA_accepts_146 rfl (lv_at hl 3 rfl) ?_
            refine lv_aload_n hx hb dDA_accepts_147 rfl (lv_at hl 4 rfl) ?_
            refine lv_aload_n hx hb dDA_accepts_148 rfl (lv_at hl 3 rfl) ?_
            refine ty_get (ci := 6) (C := "LatticeKeys$Dsa") (TT := T_DA) (N := 17) (kd := (15, 0)) hx hb hts (wg_ft i_DA) hown hK hO k_h0 (nxg (clo_cons (clo_cons (clo_cons hc0 kr21 (by decide)) kr29 (by decide)) kl21 (by decide)) k_h0 rfl) hP (fun _ h9 => h9) rfl 8 (by decide) (hts _ (wg_t kw_173)) (fun _ h9 => h9) (cd := (3, 3, 8)) rfl dDA_accepts_149 (fun v40 hv40 => ?_)
            obtain ⟨r36, rfl, kr34⟩ := (show ∃ r : Nat, v40 = .ref r ∧ T r = some (3, 8) from hv40)
            refine lv_iload hx hb dDA_accepts_152 (lv_at hl 1 rfl) ?_
            refine ty_aald3 hx hb hK hO kr34 (nxg (clo_cons (clo_cons (clo_cons hc0 kr21 (by decide)) kr29 (by decide)) kl21 (by decide)) kr34 rfl) hP (by omega) (by decide) dDA_accepts_154 (fun r37 kr35 => ?_)
            refine lv_iload hx hb dDA_accepts_155 (lv_at hl 2 rfl) ?_
            refine lv_iload hx hb dDA_accepts_157 (lv_at hl 0 rfl) ?_
            refine mp_v (cx := [(r21, .inl (g.2.1 1, 84, .inl u22))]) (wr := [(r30, .inr (3, [.ref ln21, .int (nI 136), .int (nI 31), .int (nI ps23)])), (ln21, .inl (g.2.1 2, 25, .inr (.inl f23)))]) hP hD hS hA [0] [1, 2] rfl rfl rfl (by decide) (va_runV (As := [.ref st, .ref r37, .int (nI fs23), .int (nI z21)]) (rest := []) F (t_DA_useHints_1 l g _ T (ln21 :: (r30 :: (r21 :: xs))) pl hO hU (clo_cons (clo_cons (clo_cons hc0 kr21 (by decide)) kr29 (by decide)) kl21 (by decide)) r21 h0 st r37 fs23 z21 u22 kr21 k_h0 k_st kr35 (by omega) (by omega)) (cwV 4 hts (wg_app (wg_c kw_1277 (wg_c kw_1279 (wg_c ks_48 (wg_c kw_5 wg_n)))) kw_1280) rfl rfl rfl (by decide +kernel) ⟨by decide, by decide⟩) (pp_VT (en_ok g) (ci := 6) (kd := (15, 0)) hK hO k_h0 (nxg (clo_cons (clo_cons (clo_cons hc0 kr21 (by decide)) kr29 (by decide)) kl21 (by decide)) k_h0 rfl) (fun _ h9 => ko1 h9) hP hD hS hA hE [0] rfl rfl rfl) rfl rfl hl.1 rfl (lv_room (Nat.le_of_ble_eq_true rfl)) dDA_accepts_159 ⟨by omega, by omega⟩) (fun  pl H locs hu32 hP hD hS => ?_)
            obtain ⟨hq32, hO⟩ := hu32
            have hP : va_P g.1 vcl ([(r30, .inr (3, [.ref ln21, .int (nI 136), .int (nI 31), .int (nI ps23)])), (ln21, .inl (g.2.1 2, 25, .inr (.inl f23))), (r21, .inl (g.2.1 1, 84, .inl u22))] ++ pl) _ := hP
            have hD : va_D _ ([(r30, .inr (3, [.ref ln21, .int (nI 136), .int (nI 31), .int (nI ps23)])), (ln21, .inl (g.2.1 2, 25, .inr (.inl f23))), (r21, .inl (g.2.1 1, 84, .inl u22))] ++ pl) := hD
            refine W.widen (k := 0) (n := 0) (by omega) (by omega) ?_
            refine lv_aload_n hx hb dDA_accepts_162 rfl (lv_at hl 3 rfl) ?_
            refine lv_aload_n hx hb dDA_accepts_163 rfl (lv_at hl 4 rfl) ?_
            refine mp_v (cx := [(r30, .inr (3, [.ref ln21, .int (nI 136), .int (nI 31), .int (nI ps23)])), (ln21, .inl (g.2.1 2, 25, .inr (.inl f23)))]) (wr := [(r21, .inl (g.2.1 1, 84, .inl u22))]) hP hD hS hA [0, 1] [2] rfl rfl rfl (by decide) (va_runV (As := [.ref st]) (rest := []) F (t_DA_absorbHigh_1 l g _ T (ln21 :: (r30 :: (r21 :: xs))) pl hO hU (clo_cons (clo_cons (clo_cons hc0 kr21 (by decide)) kr29 (by decide)) kl21 (by decide)) r30 h0 st ln21 136 ps23 (nI 31) f23 kr29 k_h0 k_st (by omega) (by omega)) (cwV 1 hts (wg_app (wg_c kw_1210 (wg_c kw_1212 (wg_c ks_39 (wg_c kw_5 wg_n)))) kw_1213) rfl rfl rfl (by decide +kernel) ⟨by decide, by decide⟩) (pp_VT (en_ok g) (ci := 6) (kd := (15, 0)) hK hO k_h0 (nxg (clo_cons (clo_cons (clo_cons hc0 kr21 (by decide)) kr29 (by decide)) kl21 (by decide)) k_h0 rfl) (fun _ h9 => ko1 h9) hP hD hS hA hE [0, 1] rfl rfl rfl) rfl rfl hl.1 rfl (lv_room (Nat.le_of_ble_eq_true rfl)) dDA_accepts_164 ⟨by omega, by omega⟩) (fun  u29 H locs hu33 hP hD hS => ?_)
            obtain ⟨u30, pl⟩ := u29
            obtain ⟨hq33, hO⟩ := hu33
            obtain ⟨ps24, f25⟩ := u30
            have hP : va_P g.1 vcl ([(r21, .inl (g.2.1 1, 84, .inl u22)), (r30, .inr (3, [.ref ln21, .int (nI 136), .int (nI 31), .int (nI ps24)])), (ln21, .inl (g.2.1 2, 25, .inr (.inl f25)))] ++ pl) _ := hP
            have hD : va_D _ ([(r21, .inl (g.2.1 1, 84, .inl u22)), (r30, .inr (3, [.ref ln21, .int (nI 136), .int (nI 31), .int (nI ps24)])), (ln21, .inl (g.2.1 2, 25, .inr (.inl f25)))] ++ pl) := hD
            have hq33 : ps24 < 136 := hq33
            refine W.widen (k := 0) (n := 0) (by omega) (by omega) ?_
            refine lv_iload hx hb dDA_accepts_167 (lv_at hl 0 rfl) ?_
            refine lv_istore (lv' := [(6, .int (nI z21)), (8, .int (nI z21)), (7, .int (nI i22)), (0, .ref h0), (1, .ref st), (2, .ref pk)]) hx hb dDA_accepts_169 hl (by decide) rfl (fun ls hl => ?_)
            refine mi_iinc (k := 2) (x := i22) (d := 1) (y := i22 + 1) (lv' := [(7, .int (nI (i22 + 1))), (6, .int (nI z21)), (8, .int (nI z21)), (0, .ref h0), (1, .ref st), (2, .ref pk)]) hx hb dDA_accepts_171 hl rfl (by decide) rfl (by decide) rfl (fun ls hl => ?_)
            refine lv_goto (tgt := 111) hx hb dDA_accepts_174 (by decide) ?_
            exact ih22 (i22 + 1) z21 ps24 f25 pl ls H locs (by omega) (by omega) (by omega) (lv_sub hl [0, 1, 3, 4, 5] rfl) hO hP hD hS
        exact lp22 6 0 0 ps22 f22 pl ls _ _ (by omega) (by omega) (by omega) (lv_sub hl [0, 1, 2, 3, 4] rfl) hO hP hD hS
      | succ n21 ih21 =>
        intro i21 pl ls H locs hm21  hl hO hP hD hS
        refine lv_iload hx hb dDA_accepts_72 (lv_at hl 0 rfl) ?_
        refine lv_aload_n hx hb dDA_accepts_74 rfl (lv_at hl 2 rfl) ?_
        refine ty_get (ci := 2) (C := "LatticeKeys$DsaSet") (TT := T_DS) (N := 17) (kd := (44, 0)) hx hb hts (wg_ft i_DS) hown hK hO k_st (nxg (clo_cons hc0 kr21 (by decide)) k_st rfl) hP (fun _ h9 => h9) rfl 1 (by decide) (hts _ (wg_t kw_305)) (fun _ h9 => h9) (cd := (1, 0, 5)) rfl dDA_accepts_75 (fun v41 hv41 => ?_)
        obtain rfl := (show v41 = .int (nI 5) from hv41)
        refine mi_ge (tgt := 101) hx hb dDA_accepts_78 (by decide) (by omega) (by omega) (fun h25 => absurd h25 (by omega)) (fun h25 => ?_)
        refine lv_aload_n hx hb dDA_accepts_81 rfl (lv_at hl 1 rfl) ?_
        refine ty_get (ci := 6) (C := "LatticeKeys$Dsa") (TT := T_DA) (N := 17) (kd := (15, 0)) hx hb hts (wg_ft i_DA) hown hK hO k_h0 (nxg (clo_cons hc0 kr21 (by decide)) k_h0 rfl) hP (fun _ h9 => h9) rfl 1 (by decide) (hts _ (wg_t kw_166)) (fun _ h9 => h9) (cd := (3, 12, 0)) rfl dDA_accepts_82 (fun v42 hv42 => ?_)
        obtain ⟨r38, rfl, kr36⟩ := (show ∃ r : Nat, v42 = .ref r ∧ T r = some (12, 0) from hv42)
        refine lv_aload_n hx hb dDA_accepts_85 rfl (lv_at hl 1 rfl) ?_
        refine ty_get (ci := 6) (C := "LatticeKeys$Dsa") (TT := T_DA) (N := 17) (kd := (15, 0)) hx hb hts (wg_ft i_DA) hown hK hO k_h0 (nxg (clo_cons hc0 kr21 (by decide)) k_h0 rfl) hP (fun _ h9 => h9) rfl 7 (by decide) (hts _ (wg_t kw_172)) (fun _ h9 => h9) (cd := (3, 3, 7)) rfl dDA_accepts_86 (fun v43 hv43 => ?_)
        obtain ⟨r39, rfl, kr37⟩ := (show ∃ r : Nat, v43 = .ref r ∧ T r = some (3, 7) from hv43)
        refine lv_iload hx hb dDA_accepts_89 (lv_at hl 0 rfl) ?_
        refine ty_aald3 hx hb hK hO kr37 (nxg (clo_cons hc0 kr21 (by decide)) kr37 rfl) hP (by omega) (by decide) dDA_accepts_91 (fun r40 kr38 => ?_)
        refine mp_v (cx := []) (wr := [(r21, .inl (g.2.1 1, 84, .inl u22))]) hP hD hS hA [] [0] rfl rfl rfl (by decide) (va_runV (As := [.ref r40]) (rest := []) F (t_RG_transform_12 l g _ T (r21 :: xs) pl hO hU (clo_cons hc0 kr21 (by decide)) r38 r40 kr36 kr38) (cwV 1 hts (wg_app (wg_c kw_711 (wg_c kw_637 (wg_c kw_638 (wg_c kw_4 wg_n)))) kw_639) rfl rfl rfl (by decide +kernel) ⟨by decide, by decide⟩) (pp_VT (en_ok g) (ci := 4) (kd := (12, 0)) hK hO kr36 (nxg (clo_cons hc0 kr21 (by decide)) kr36 rfl) (fun _ h9 => ko1 h9) hP hD hS hA hE [] rfl rfl rfl) rfl rfl hl.1 rfl (lv_room (Nat.le_of_ble_eq_true rfl)) dDA_accepts_92 ⟨by omega, by omega⟩) (fun  pl H locs hu34 hP hD hS => ?_)
        obtain ⟨hq34, hO⟩ := hu34
        have hP : va_P g.1 vcl ([(r21, .inl (g.2.1 1, 84, .inl u22))] ++ pl) _ := hP
        have hD : va_D _ ([(r21, .inl (g.2.1 1, 84, .inl u22))] ++ pl) := hD
        refine W.widen (k := 0) (n := 0) (by omega) (by omega) ?_
        refine mi_iinc (k := 0) (x := i21) (d := 1) (y := i21 + 1) (lv' := [(6, .int (nI (i21 + 1))), (0, .ref h0), (1, .ref st), (2, .ref pk)]) hx hb dDA_accepts_95 hl rfl (by decide) rfl (by decide) rfl (fun ls hl => ?_)
        refine lv_goto (tgt := 72) hx hb dDA_accepts_98 (by decide) ?_
        exact ih21 (i21 + 1) pl ls H locs (by omega) (lv_sub hl [0, 1, 2, 3] rfl) hO hP hD hS
    exact lp21 5 0 pl ls _ _ (by omega) (lv_sub hl [0, 1, 2, 3] rfl) hO hP hD hS
  · refine lv_iconst (v := nI 0) hx hb dDA_accepts_9 (by decide) ?_
    have hO := close1 (e := .inl (g.2.1 1, 84, .inl u22)) hO kr21 ⟨_, rfl, hby22⟩
    have hO : okx g T xs ((r21, .inl (g.2.1 1, 84, .inl u22)) :: pl) := hO
    have hP : va_P g.1 vcl ([] ++ ((r21, .inl (g.2.1 1, 84, .inl u22)) :: pl)) _ := hP
    have hD : va_D _ ([] ++ ((r21, .inl (g.2.1 1, 84, .inl u22)) :: pl)) := hD
    generalize ((r21, .inl (g.2.1 1, 84, .inl u22)) :: pl) = pl at hO hP hD
    exact mp_zret hx hb hr hlk rfl hP hD hS pl ⟨(Or.inl rfl), hO⟩ [] rfl rfl rfl (by omega) (by omega) dDA_accepts_10
set_option maxHeartbeats 400000 in
set_option maxRecDepth 100000 in
theorem t_DA_accepts_2 (l : Launch) (g : Gd) (sz : Nat) (T : Ty) (xs : List Nat) (pl : va_W) (hO : okx g T xs pl) (hU : uni T) (hc0 : clo T xs 0) (hc3 : clo T xs 3) (hc4 : clo T xs 4) (hc20 : clo T xs 20) (h0 st pk tp n len : Nat) (cl : Int32) (k_h0 : T h0 = some (15, 0)) (k_st : T st = some (45, 0)) (k_pk : T pk = some (1, 2592)) (k_tp : T tp = some (1, n)) (h1 : 4627 ≤ len) (h3 : len ≤ n) (h2 : n < 65536)  : Met l y_DA_accepts w_DA_accepts ({ frames := 5, cells := 0, slots := 0, locals := 152 } : Room) (va_Pc [.ref h0, .ref st, .ref pk, .ref tp, .int (nI len), .int cl] (pr (en g) g.1 vcl sz ([] ++ pl))) (va_Qi (fun (r : Int32) (u : va_W) => (r = nI 0 ∨ r = nI 1) ∧ okx g T xs u) (po g.1 vcl (va_A ([] ++ pl) sz) (fun (u : va_W) => [] ++ u)) (va_A ([] ++ pl) sz)) 0 0 (va_A ([] ++ pl) sz) := by
  refine mc_entry (cc := c_DA_accepts) (maxL := 9) (ret := (some .boolean)) (by decide) rfl (Nat.le_of_ble_eq_true rfl) ?_
  intro p e s m args below meth c ls F hr hlk hnm hsz hP hD hE hA hl
  obtain ⟨hx, hb, hml, hown, hts⟩ := id F
  have hK := hE.1
  generalize va_A ([] ++ pl) sz = A at hD hE hA ⊢
  have hS : va_S A s.heap s.heap [] := va_S.rf
  have hl : lv_has ls 9 [(0, .ref h0), (1, .ref st), (2, .ref pk), (3, .ref tp), (4, .int (nI len)), (5, .int cl)] := hl
  refine lv_aload_n hx hb dDA_accepts_0 rfl (lv_at hl 0 rfl) ?_
  refine lv_aload_n hx hb dDA_accepts_1 rfl (lv_at hl 1 rfl) ?_
  refine lv_aload_n hx hb dDA_accepts_2 rfl (lv_at hl 3 rfl) ?_
  obtain ⟨q21, fs21, -, hf21⟩ := ty_obj (X := []) hO k_h0 (nxg hc0 k_h0 rfl) (fun _ h9 => h9)
  obtain ⟨v21, -, hv21⟩ := fall_get hf21 (j := 15) (c := (3, 8, 84)) rfl
  obtain ⟨r21, -, kr21⟩ := (show ∃ r : Nat, v21 = .ref r ∧ T r = some (8, 84) from hv21)
  obtain ⟨e21, pl, hP, hD, hk21, hO⟩ := open1 hP hD hO kr21 (nxg hc20 kr21 rfl)
  obtain ⟨fh21, rfl, hby21⟩ := hk21
  have hP : va_P g.1 vcl ([(r21, .inl (g.2.1 1, 84, .inl fh21))] ++ pl) _ := hP
  have hD : va_D _ ([(r21, .inl (g.2.1 1, 84, .inl fh21))] ++ pl) := hD
  refine mp_i (cx := [(r21, .inl (g.2.1 1, 84, .inl fh21))]) (wr := []) hP hD hS hA [0] [] rfl rfl rfl (by decide) (va_runV (As := [.ref st, .ref tp]) (rest := []) F (t_DA_readSignature_2 l g _ T (r21 :: xs) pl hO hU (clo_cons hc0 kr21 (by decide)) r21 h0 st tp n fh21 kr21 k_h0 k_st k_tp hby21 (by omega) (by omega)) (cwV 2 hts (wg_app (wg_c kw_1265 (wg_c kw_1267 (wg_c ks_45 (wg_c kw_5 wg_n)))) kw_1268) rfl rfl rfl (by decide +kernel) ⟨by decide, by decide⟩) (pp_VT (en_ok g) (ci := 6) (kd := (15, 0)) hK hO k_h0 (nxg (clo_cons hc0 kr21 (by decide)) k_h0 rfl) (fun _ h9 => ko1 h9) hP hD hS hA hE [0] rfl rfl rfl) rfl rfl hl.1 rfl (lv_room (Nat.le_of_ble_eq_true rfl)) dDA_accepts_3 ⟨by omega, by omega⟩) (fun r22 u21 H locs hu21 hP hD hS => ?_)
  obtain ⟨u22, pl⟩ := u21
  obtain ⟨hq21, hO⟩ := hu21
  have hP : va_P g.1 vcl ([(r21, .inl (g.2.1 1, 84, .inl u22))] ++ pl) _ := hP
  have hD : va_D _ ([(r21, .inl (g.2.1 1, 84, .inl u22))] ++ pl) := hD
  obtain ⟨hg21, hby22⟩ := hq21
  refine W.widen (k := 0) (n := 0) (by omega) (by omega) ?_
  refine lv_if_ne (tgt := 11) hx hb dDA_accepts_6 (by decide) (fun h21 => ?_) (fun h21 => ?_)
  · have hgd := hg21.resolve_left h21
    refine lv_aload_n hx hb dDA_accepts_11 rfl (lv_at hl 0 rfl) ?_
    refine lv_aload_n hx hb dDA_accepts_12 rfl (lv_at hl 2 rfl) ?_
    refine mp_v (cx := []) (wr := [(r21, .inl (g.2.1 1, 84, .inl u22))]) hP hD hS hA [] [0] rfl rfl rfl (by decide) (va_runV (As := [.ref pk]) (rest := []) F (t_DA_digestOf l g _ T (r21 :: xs) pl hO hU (clo_cons hc0 kr21 (by decide)) (clo_cons hc3 kr21 (by decide)) h0 pk 2592 k_h0 k_pk (by omega)) (cwV 1 hts (wg_app (wg_c kw_736 (wg_c kw_738 (wg_c ks_18 (wg_c kw_5 wg_n)))) kw_739) rfl rfl rfl (by decide +kernel) ⟨by decide, by decide⟩) (pp_VT (en_ok g) (ci := 6) (kd := (15, 0)) hK hO k_h0 (nxg (clo_cons hc0 kr21 (by decide)) k_h0 rfl) (fun _ h9 => ko1 h9) hP hD hS hA hE [] rfl rfl rfl) rfl rfl hl.1 rfl (lv_room (Nat.le_of_ble_eq_true rfl)) dDA_accepts_13 ⟨by omega, by omega⟩) (fun  pl H locs hu22 hP hD hS => ?_)
    obtain ⟨hq22, hO⟩ := hu22
    have hP : va_P g.1 vcl ([(r21, .inl (g.2.1 1, 84, .inl u22))] ++ pl) _ := hP
    have hD : va_D _ ([(r21, .inl (g.2.1 1, 84, .inl u22))] ++ pl) := hD
    refine W.widen (k := 0) (n := 0) (by omega) (by omega) ?_
    refine lv_aload_n hx hb dDA_accepts_16 rfl (lv_at hl 0 rfl) ?_
    refine lv_aload_n hx hb dDA_accepts_17 rfl (lv_at hl 3 rfl) ?_
    refine lv_aload_n hx hb dDA_accepts_18 rfl (lv_at hl 1 rfl) ?_
    refine ty_get (ci := 2) (C := "LatticeKeys$DsaSet") (TT := T_DS) (N := 17) (kd := (45, 0)) hx hb hts (wg_ft i_DS) hown hK hO k_st (nxg (clo_cons hc0 kr21 (by decide)) k_st rfl) hP (fun _ h9 => h9) rfl 16 (by decide) (hts _ (wg_t kw_338)) (fun _ h9 => h9) (cd := (1, 0, 4627)) rfl dDA_accepts_19 (fun v22 hv22 => ?_)
    obtain rfl := (show v22 = .int (nI 4627) from hv22)
    refine lv_iload hx hb dDA_accepts_22 (lv_at hl 4 rfl) ?_
    refine lv_iload hx hb dDA_accepts_24 (lv_at hl 5 rfl) ?_
    refine mp_v (cx := []) (wr := [(r21, .inl (g.2.1 1, 84, .inl u22))]) hP hD hS hA [] [0] rfl rfl rfl (by decide) (va_runV (As := [.ref tp, .int (nI 4627), .int (nI len), .int cl]) (rest := []) F (t_DA_digestMessage l g _ T (r21 :: xs) pl hO hU (clo_cons hc0 kr21 (by decide)) (clo_cons hc3 kr21 (by decide)) h0 tp n 4627 len cl k_h0 k_tp (by omega) (by omega) (by omega)) (cwV 4 hts (wg_app (wg_c kw_1188 (wg_c kw_1190 (wg_c ks_36 (wg_c kw_5 wg_n)))) kw_1191) rfl rfl rfl (by decide +kernel) ⟨by decide, by decide⟩) (pp_VT (en_ok g) (ci := 6) (kd := (15, 0)) hK hO k_h0 (nxg (clo_cons hc0 kr21 (by decide)) k_h0 rfl) (fun _ h9 => ko1 h9) hP hD hS hA hE [] rfl rfl rfl) rfl rfl hl.1 rfl (lv_room (Nat.le_of_ble_eq_true rfl)) dDA_accepts_26 ⟨by omega, by omega⟩) (fun  pl H locs hu23 hP hD hS => ?_)
    obtain ⟨hq23, hO⟩ := hu23
    have hP : va_P g.1 vcl ([(r21, .inl (g.2.1 1, 84, .inl u22))] ++ pl) _ := hP
    have hD : va_D _ ([(r21, .inl (g.2.1 1, 84, .inl u22))] ++ pl) := hD
    refine W.widen (k := 0) (n := 0) (by omega) (by omega) ?_
    refine lv_aload_n hx hb dDA_accepts_29 rfl (lv_at hl 0 rfl) ?_
    refine ty_get (ci := 6) (C := "LatticeKeys$Dsa") (TT := T_DA) (N := 17) (kd := (15, 0)) hx hb hts (wg_ft i_DA) hown hK hO k_h0 (nxg (clo_cons hc0 kr21 (by decide)) k_h0 rfl) hP (fun _ h9 => h9) rfl 2 (by decide) (hts _ (wg_t kw_167)) (fun _ h9 => h9) (cd := (3, 14, 0)) rfl dDA_accepts_30 (fun v23 hv23 => ?_)
    obtain ⟨r23, rfl, kr22⟩ := (show ∃ r : Nat, v23 = .ref r ∧ T r = some (14, 0) from hv23)
    refine lv_aload_n hx hb dDA_accepts_33 rfl (lv_at hl 1 rfl) ?_
    refine lv_aload_n hx hb dDA_accepts_34 rfl (lv_at hl 2 rfl) ?_
    refine lv_aload_n hx hb dDA_accepts_35 rfl (lv_at hl 0 rfl) ?_
    refine ty_get (ci := 6) (C := "LatticeKeys$Dsa") (TT := T_DA) (N := 17) (kd := (15, 0)) hx hb hts (wg_ft i_DA) hown hK hO k_h0 (nxg (clo_cons hc0 kr21 (by decide)) k_h0 rfl) hP (fun _ h9 => h9) rfl 3 (by decide) (hts _ (wg_t kw_168)) (fun _ h9 => h9) (cd := (3, 3, 56)) rfl dDA_accepts_36 (fun v24 hv24 => ?_)
    obtain ⟨r24, rfl, kr23⟩ := (show ∃ r : Nat, v24 = .ref r ∧ T r = some (3, 56) from hv24)
    refine mp_v (cx := []) (wr := [(r21, .inl (g.2.1 1, 84, .inl u22))]) hP hD hS hA [] [0] rfl rfl rfl (by decide) (va_runV (As := [.ref st, .ref pk, .ref r24]) (rest := []) F (t_SA_expandMatrix_2 l g _ T (r21 :: xs) pl hO hU (clo_cons hc0 kr21 (by decide)) (clo_cons hc4 kr21 (by decide)) r23 st pk r24 2592 kr22 k_st k_pk kr23 (by omega) (by omega)) (cwV 3 hts (wg_app (wg_c kw_703 (wg_c kw_704 (wg_c kw_705 (wg_c kw_6 wg_n)))) kw_706) rfl rfl rfl (by decide +kernel) ⟨by decide, by decide⟩) (pp_VT (en_ok g) (ci := 7) (kd := (14, 0)) hK hO kr22 (nxg (clo_cons hc0 kr21 (by decide)) kr22 rfl) (fun _ h9 => ko1 h9) hP hD hS hA hE [] rfl rfl rfl) rfl rfl hl.1 rfl (lv_room (Nat.le_of_ble_eq_true rfl)) dDA_accepts_39 ⟨by omega, by omega⟩) (fun  pl H locs hu24 hP hD hS => ?_)
    obtain ⟨hq24, hO⟩ := hu24
    have hP : va_P g.1 vcl ([(r21, .inl (g.2.1 1, 84, .inl u22))] ++ pl) _ := hP
    have hD : va_D _ ([(r21, .inl (g.2.1 1, 84, .inl u22))] ++ pl) := hD
    refine W.widen (k := 0) (n := 0) (by omega) (by omega) ?_
    refine lv_aload_n hx hb dDA_accepts_42 rfl (lv_at hl 0 rfl) ?_
    refine ty_get (ci := 6) (C := "LatticeKeys$Dsa") (TT := T_DA) (N := 17) (kd := (15, 0)) hx hb hts (wg_ft i_DA) hown hK hO k_h0 (nxg (clo_cons hc0 kr21 (by decide)) k_h0 rfl) hP (fun _ h9 => h9) rfl 2 (by decide) (hts _ (wg_t kw_167)) (fun _ h9 => h9) (cd := (3, 14, 0)) rfl dDA_accepts_43 (fun v25 hv25 => ?_)
    obtain ⟨r25, rfl, kr24⟩ := (show ∃ r : Nat, v25 = .ref r ∧ T r = some (14, 0) from hv25)
    refine lv_aload_n hx hb dDA_accepts_46 rfl (lv_at hl 1 rfl) ?_
    refine lv_aload_n hx hb dDA_accepts_47 rfl (lv_at hl 0 rfl) ?_
    refine ty_get (ci := 6) (C := "LatticeKeys$Dsa") (TT := T_DA) (N := 17) (kd := (15, 0)) hx hb hts (wg_ft i_DA) hown hK hO k_h0 (nxg (clo_cons hc0 kr21 (by decide)) k_h0 rfl) hP (fun _ h9 => h9) rfl 9 (by decide) (hts _ (wg_t kw_174)) (fun _ h9 => h9) (cd := (3, 0, 256)) rfl dDA_accepts_48 (fun v26 hv26 => ?_)
    obtain ⟨r26, rfl, kr25⟩ := (show ∃ r : Nat, v26 = .ref r ∧ T r = some (0, 256) from hv26)
    refine lv_aload_n hx hb dDA_accepts_51 rfl (lv_at hl 0 rfl) ?_
    refine ty_get (ci := 6) (C := "LatticeKeys$Dsa") (TT := T_DA) (N := 17) (kd := (15, 0)) hx hb hts (wg_ft i_DA) hown hK hO k_h0 (nxg (clo_cons hc0 kr21 (by decide)) k_h0 rfl) hP (fun _ h9 => h9) rfl 13 (by decide) (hts _ (wg_t kw_178)) (fun _ h9 => h9) (cd := (3, 1, 64)) rfl dDA_accepts_52 (fun v27 hv27 => ?_)
    obtain ⟨r27, rfl, kr26⟩ := (show ∃ r : Nat, v27 = .ref r ∧ T r = some (1, 64) from hv27)
    refine mp_v (cx := []) (wr := [(r21, .inl (g.2.1 1, 84, .inl u22))]) hP hD hS hA [] [0] rfl rfl rfl (by decide) (va_runV (As := [.ref st, .ref r26, .ref r27]) (rest := []) F (t_SA_sampleBall_2 l g _ T (r21 :: xs) pl hO hU (clo_cons hc0 kr21 (by decide)) (clo_cons hc4 kr21 (by decide)) r25 st r26 r27 64 kr24 k_st kr25 kr26 (by omega) (by omega)) (cwV 3 hts (wg_app (wg_c kw_1214 (wg_c kw_1215 (wg_c kw_1216 (wg_c kw_6 wg_n)))) kw_1217) rfl rfl rfl (by decide +kernel) ⟨by decide, by decide⟩) (pp_VT (en_ok g) (ci := 7) (kd := (14, 0)) hK hO kr24 (nxg (clo_cons hc0 kr21 (by decide)) kr24 rfl) (fun _ h9 => ko1 h9) hP hD hS hA hE [] rfl rfl rfl) rfl rfl hl.1 rfl (lv_room (Nat.le_of_ble_eq_true rfl)) dDA_accepts_55 ⟨by omega, by omega⟩) (fun  pl H locs hu25 hP hD hS => ?_)
    obtain ⟨hq25, hO⟩ := hu25
    have hP : va_P g.1 vcl ([(r21, .inl (g.2.1 1, 84, .inl u22))] ++ pl) _ := hP
    have hD : va_D _ ([(r21, .inl (g.2.1 1, 84, .inl u22))] ++ pl) := hD
    refine W.widen (k := 0) (n := 0) (by omega) (by omega) ?_
    refine lv_aload_n hx hb dDA_accepts_58 rfl (lv_at hl 0 rfl) ?_
    refine ty_get (ci := 6) (C := "LatticeKeys$Dsa") (TT := T_DA) (N := 17) (kd := (15, 0)) hx hb hts (wg_ft i_DA) hown hK hO k_h0 (nxg (clo_cons hc0 kr21 (by decide)) k_h0 rfl) hP (fun _ h9 => h9) rfl 1 (by decide) (hts _ (wg_t kw_166)) (fun _ h9 => h9) (cd := (3, 12, 0)) rfl dDA_accepts_59 (fun v28 hv28 => ?_)
    obtain ⟨r28, rfl, kr27⟩ := (show ∃ r : Nat, v28 = .ref r ∧ T r = some (12, 0) from hv28)
    refine lv_aload_n hx hb dDA_accepts_62 rfl (lv_at hl 0 rfl) ?_
    refine ty_get (ci := 6) (C := "LatticeKeys$Dsa") (TT := T_DA) (N := 17) (kd := (15, 0)) hx hb hts (wg_ft i_DA) hown hK hO k_h0 (nxg (clo_cons hc0 kr21 (by decide)) k_h0 rfl) hP (fun _ h9 => h9) rfl 9 (by decide) (hts _ (wg_t kw_174)) (fun _ h9 => h9) (cd := (3, 0, 256)) rfl dDA_accepts_63 (fun v29 hv29 => ?_)
    obtain ⟨r29, rfl, kr28⟩ := (show ∃ r : Nat, v29 = .ref r ∧ T r = some (0, 256) from hv29)
    refine mp_v (cx := []) (wr := [(r21, .inl (g.2.1 1, 84, .inl u22))]) hP hD hS hA [] [0] rfl rfl rfl (by decide) (va_runV (As := [.ref r29]) (rest := []) F (t_RG_transform_12 l g _ T (r21 :: xs) pl hO hU (clo_cons hc0 kr21 (by decide)) r28 r29 kr27 kr28) (cwV 1 hts (wg_app (wg_c kw_711 (wg_c kw_637 (wg_c kw_638 (wg_c kw_4 wg_n)))) kw_639) rfl rfl rfl (by decide +kernel) ⟨by decide, by decide⟩) (pp_VT (en_ok g) (ci := 4) (kd := (12, 0)) hK hO kr27 (nxg (clo_cons hc0 kr21 (by decide)) kr27 rfl) (fun _ h9 => ko1 h9) hP hD hS hA hE [] rfl rfl rfl) rfl rfl hl.1 rfl (lv_room (Nat.le_of_ble_eq_true rfl)) dDA_accepts_66 ⟨by omega, by omega⟩) (fun  pl H locs hu26 hP hD hS => ?_)
    obtain ⟨hq26, hO⟩ := hu26
    have hP : va_P g.1 vcl ([(r21, .inl (g.2.1 1, 84, .inl u22))] ++ pl) _ := hP
    have hD : va_D _ ([(r21, .inl (g.2.1 1, 84, .inl u22))] ++ pl) := hD
    refine W.widen (k := 0) (n := 0) (by omega) (by omega) ?_
    refine lv_iconst (v := nI 0) hx hb dDA_accepts_69 (by decide) ?_
    refine lv_istore (lv' := [(6, .int (nI 0)), (0, .ref h0), (1, .ref st), (2, .ref pk), (3, .ref tp), (4, .int (nI len)), (5, .int cl)]) hx hb dDA_accepts_70 hl (by decide) rfl (fun ls hl => ?_)
    have lp21 : ∀ (n21 : Nat) (i21 : Nat) (pl : va_W) (ls : Array Slot) (H : Heap) (locs : List Loc), n21 + i21 = 7 → lv_has ls 9 [(6, .int (nI i21)), (0, .ref h0), (1, .ref st), (2, .ref pk)] → okx g T (r21 :: xs) pl → va_P g.1 vcl ([(r21, .inl (g.2.1 1, 84, .inl u22))] ++ pl) H → va_D A ([(r21, .inl (g.2.1 1, 84, .inl u22))] ++ pl) → va_S A s.heap H locs → W p l e ({ frames := 5, cells := 0, slots := 0, locals := 152 } : Room) s m args below meth c H locs 0 0 (MQ below (va_Qi (fun (r : Int32) (u : va_W) => (r = nI 0 ∨ r = nI 1) ∧ okx g T xs u) (po g.1 vcl A (fun (u : va_W) => [] ++ u)) A) args s 0 0 A) (F0 m 72 ls []) := by
      intro n21
      induction n21 with
      | zero =>
        intro i21 pl ls H locs hm21  hl hO hP hD hS
        refine lv_iload hx hb dDA_accepts_72 (lv_at hl 0 rfl) ?_
        refine lv_aload_n hx hb dDA_accepts_74 rfl (lv_at hl 2 rfl) ?_
        refine ty_get (ci := 2) (C := "LatticeKeys$DsaSet") (TT := T_DS) (N := 17) (kd := (45, 0)) hx hb hts (wg_ft i_DS) hown hK hO k_st (nxg (clo_cons hc0 kr21 (by decide)) k_st rfl) hP (fun _ h9 => h9) rfl 1 (by decide) (hts _ (wg_t kw_305)) (fun _ h9 => h9) (cd := (1, 0, 7)) rfl dDA_accepts_75 (fun v30 hv30 => ?_)
        obtain rfl := (show v30 = .int (nI 7) from hv30)
        refine mi_ge (tgt := 101) hx hb dDA_accepts_78 (by decide) (by omega) (by omega) (fun h22 => ?_) (fun h22 => absurd h22 (by omega))
        refine lv_aload_n hx hb dDA_accepts_101 rfl (lv_at hl 1 rfl) ?_
        obtain ⟨q22, fs22, -, hf22⟩ := ty_obj (X := []) hO k_h0 (nxg (clo_cons hc0 kr21 (by decide)) k_h0 rfl) (fun _ h9 => h9)
        obtain ⟨v31, -, hv31⟩ := fall_get hf22 (j := 0) (c := (3, 10, 2)) rfl
        obtain ⟨r30, -, kr29⟩ := (show ∃ r : Nat, v31 = .ref r ∧ T r = some (10, 2) from hv31)
        obtain ⟨e22, pl, hP, hD, hk22, hO⟩ := open1 hP hD hO kr29 (nxg (clo_cons hc3 kr21 (by decide)) kr29 rfl)
        obtain ⟨ln21, rt21, ps21, x21, rfl, kl21, hr21, hr22, hr23⟩ := hk22
        have kl21 : T ln21 = some (19, 2) := kl21
        obtain ⟨e23, pl, hP, hD, hk23, hO⟩ := open1 hP hD hO kl21 (nmc (knd_ne kl21 kr29 (by decide)) (nxg (clo_cons hc3 kr21 (by decide)) kl21 rfl))
        obtain ⟨f21, rfl⟩ := hk23
        have hP : va_P g.1 vcl ([(r21, .inl (g.2.1 1, 84, .inl u22)), (r30, .inr (3, [.ref ln21, .int (nI rt21), .int x21, .int (nI ps21)])), (ln21, .inl (g.2.1 2, 25, .inr (.inl f21)))] ++ pl) _ := hP
        have hD : va_D _ ([(r21, .inl (g.2.1 1, 84, .inl u22)), (r30, .inr (3, [.ref ln21, .int (nI rt21), .int x21, .int (nI ps21)])), (ln21, .inl (g.2.1 2, 25, .inr (.inl f21)))] ++ pl) := hD
        refine mp_v (cx := [(r30, .inr (3, [.ref ln21, .int (nI rt21), .int x21, .int (nI ps21)])), (ln21, .inl (g.2.1 2, 25, .inr (.inl f21)))]) (wr := [(r21, .inl (g.2.1 1, 84, .inl u22))]) hP hD hS hA [1, 2] [0] rfl rfl rfl (by decide) (va_runV (As := []) (rest := []) F (t_DA_startChallenge l g _ T (ln21 :: (r30 :: (r21 :: xs))) pl hO hU (clo_cons (clo_cons (clo_cons hc0 kr21 (by decide)) kr29 (by decide)) kl21 (by decide)) r30 h0 ln21 rt21 ps21 x21 f21 kr29 k_h0) (cwV 0 hts (wg_app (wg_c kw_1202 (wg_c kw_1204 (wg_c ks_38 (wg_c kw_5 wg_n)))) kw_1205) rfl rfl rfl (by decide +kernel) ⟨by decide, by decide⟩) (pp_VT (en_ok g) (ci := 6) (kd := (15, 0)) hK hO k_h0 (nxg (clo_cons (clo_cons (clo_cons hc0 kr21 (by decide)) kr29 (by decide)) kl21 (by decide)) k_h0 rfl) (fun _ h9 => ko1 h9) hP hD hS hA hE [1, 2] rfl rfl rfl) rfl rfl hl.1 rfl (lv_room (Nat.le_of_ble_eq_true rfl)) dDA_accepts_102 ⟨by omega, by omega⟩) (fun  u23 H locs hu27 hP hD hS => ?_)
        obtain ⟨u24, pl⟩ := u23
        obtain ⟨hq27, hO⟩ := hu27
        obtain ⟨ps22, f22⟩ := u24
        have hP : va_P g.1 vcl ([(r21, .inl (g.2.1 1, 84, .inl u22)), (r30, .inr (3, [.ref ln21, .int (nI 136), .int (nI 31), .int (nI ps22)])), (ln21, .inl (g.2.1 2, 25, .inr (.inl f22)))] ++ pl) _ := hP
        have hD : va_D _ ([(r21, .inl (g.2.1 1, 84, .inl u22)), (r30, .inr (3, [.ref ln21, .int (nI 136), .int (nI 31), .int (nI ps22)])), (ln21, .inl (g.2.1 2, 25, .inr (.inl f22)))] ++ pl) := hD
        have hq27 : ps22 < 136 := hq27
        refine W.widen (k := 0) (n := 0) (by omega) (by omega) ?_
        refine lv_iconst (v := nI 0) hx hb dDA_accepts_105 (by decide) ?_
        refine lv_istore (lv' := [(6, .int (nI 0)), (0, .ref h0), (1, .ref st), (2, .ref pk)]) hx hb dDA_accepts_106 hl (by decide) rfl (fun ls hl => ?_)
        refine lv_iconst (v := nI 0) hx hb dDA_accepts_108 (by decide) ?_
        refine lv_istore (lv' := [(7, .int (nI 0)), (6, .int (nI 0)), (0, .ref h0), (1, .ref st), (2, .ref pk)]) hx hb dDA_accepts_109 hl (by decide) rfl (fun ls hl => ?_)
        have lp22 : ∀ (n22 : Nat) (i22 : Nat) (fs23 : Nat) (ps23 : Nat) (f23 : Nat → Int64) (pl : va_W) (ls : Array Slot) (H : Heap) (locs : List Loc), n22 + i22 = 8 → (fs23 ≤ 255) → (ps23 < 136) → lv_has ls 9 [(7, .int (nI i22)), (6, .int (nI fs23)), (0, .ref h0), (1, .ref st), (2, .ref pk)] → okx g T (ln21 :: (r30 :: (r21 :: xs))) pl → va_P g.1 vcl ([(r21, .inl (g.2.1 1, 84, .inl u22)), (r30, .inr (3, [.ref ln21, .int (nI 136), .int (nI 31), .int (nI ps23)])), (ln21, .inl (g.2.1 2, 25, .inr (.inl f23)))] ++ pl) H → va_D A ([(r21, .inl (g.2.1 1, 84, .inl u22)), (r30, .inr (3, [.ref ln21, .int (nI 136), .int (nI 31), .int (nI ps23)])), (ln21, .inl (g.2.1 2, 25, .inr (.inl f23)))] ++ pl) → va_S A s.heap H locs → W p l e ({ frames := 5, cells := 0, slots := 0, locals := 152 } : Room) s m args below meth c H locs 0 0 (MQ below (va_Qi (fun (r : Int32) (u : va_W) => (r = nI 0 ∨ r = nI 1) ∧ okx g T xs u) (po g.1 vcl A (fun (u : va_W) => [] ++ u)) A) args s 0 0 A) (F0 m 111 ls []) := by
          intro n22
          induction n22 with
          | zero =>
            intro i22 fs23 ps23 f23 pl ls H locs hm22 hi21 hi22 hl hO hP hD hS
            refine lv_iload hx hb dDA_accepts_111 (lv_at hl 0 rfl) ?_
            refine lv_aload_n hx hb dDA_accepts_113 rfl (lv_at hl 3 rfl) ?_
            refine ty_get (ci := 2) (C := "LatticeKeys$DsaSet") (TT := T_DS) (N := 17) (kd := (45, 0)) hx hb hts (wg_ft i_DS) hown hK hO k_st (nxg (clo_cons (clo_cons (clo_cons hc0 kr21 (by decide)) kr29 (by decide)) kl21 (by decide)) k_st rfl) hP (fun _ h9 => h9) rfl 0 (by decide) (hts _ (wg_t kw_302)) (fun _ h9 => h9) (cd := (1, 0, 8)) rfl dDA_accepts_114 (fun v32 hv32 => ?_)
            obtain rfl := (show v32 = .int (nI 8) from hv32)
            refine mi_ge (tgt := 177) hx hb dDA_accepts_117 (by decide) (by omega) (by omega) (fun h23 => ?_) (fun h23 => absurd h23 (by omega))
            refine lv_aload_n hx hb dDA_accepts_177 rfl (lv_at hl 2 rfl) ?_
            refine ty_get (ci := 6) (C := "LatticeKeys$Dsa") (TT := T_DA) (N := 17) (kd := (15, 0)) hx hb hts (wg_ft i_DA) hown hK hO k_h0 (nxg (clo_cons (clo_cons (clo_cons hc0 kr21 (by decide)) kr29 (by decide)) kl21 (by decide)) k_h0 rfl) hP (fun _ h9 => h9) rfl 0 (by decide) (hts _ (wg_t kw_165)) (fun _ h9 => h9) (cd := (3, 10, 2)) rfl dDA_accepts_178 (fun v33 hv33 => ?_)
            obtain ⟨r31, rfl, kr30⟩ := (show ∃ r : Nat, v33 = .ref r ∧ T r = some (10, 2) from hv33)
            obtain rfl : r30 = r31 := hU _ _ _ (by decide) kr29 kr30
            refine mp_v (cx := [(r30, .inr (3, [.ref ln21, .int (nI 136), .int (nI 31), .int (nI ps23)])), (ln21, .inl (g.2.1 2, 25, .inr (.inl f23)))]) (wr := [(r21, .inl (g.2.1 1, 84, .inl u22))]) hP hD hS hA [1, 2] [0] rfl rfl rfl (by decide) (va_runV (As := []) (rest := []) F (t_SP_finish l g _ T (ln21 :: (r30 :: (r21 :: xs))) pl hO hU  r30 ln21 136 ps23 (nI 31) f23 (by omega) (by omega)) (cwV 0 hts (wg_app (wg_c kw_672 (wg_c kw_611 (wg_c kw_612 (wg_c kw_2 wg_n)))) kw_613) rfl rfl rfl (by decide +kernel) ⟨by decide, by decide⟩) (pp_V (en_ok g) (q0 := 1) hK hP hD hS hA hE [1, 2] rfl rfl rfl rfl) rfl rfl hl.1 rfl (lv_room (Nat.le_of_ble_eq_true rfl)) dDA_accepts_181 ⟨by omega, by omega⟩) (fun  u25 H locs hu28 hP hD hS => ?_)
            obtain ⟨u26, pl⟩ := u25
            obtain ⟨hq28, hO⟩ := hu28
            have hP : va_P g.1 vcl ([(r21, .inl (g.2.1 1, 84, .inl u22)), (r30, .inr (3, [.ref ln21, .int (nI 136), .int (nI 31), .int (nI 136)])), (ln21, .inl (g.2.1 2, 25, .inr (.inl u26)))] ++ pl) _ := hP
            have hD : va_D _ ([(r21, .inl (g.2.1 1, 84, .inl u22)), (r30, .inr (3, [.ref ln21, .int (nI 136), .int (nI 31), .int (nI 136)])), (ln21, .inl (g.2.1 2, 25, .inr (.inl u26)))] ++ pl) := hD
            refine W.widen (k := 0) (n := 0) (by omega) (by omega) ?_
            refine lv_aload_n hx hb dDA_accepts_184 rfl (lv_at hl 2 rfl) ?_
            refine ty_get (ci := 6) (C := "LatticeKeys$Dsa") (TT := T_DA) (N := 17) (kd := (15, 0)) hx hb hts (wg_ft i_DA) hown hK hO k_h0 (nxg (clo_cons (clo_cons (clo_cons hc0 kr21 (by decide)) kr29 (by decide)) kl21 (by decide)) k_h0 rfl) hP (fun _ h9 => h9) rfl 0 (by decide) (hts _ (wg_t kw_165)) (fun _ h9 => h9) (cd := (3, 10, 2)) rfl dDA_accepts_185 (fun v34 hv34 => ?_)
            obtain ⟨r32, rfl, kr31⟩ := (show ∃ r : Nat, v34 = .ref r ∧ T r = some (10, 2) from hv34)
            obtain rfl : r30 = r32 := hU _ _ _ (by decide) kr29 kr31
            refine lv_aload_n hx hb dDA_accepts_188 rfl (lv_at hl 2 rfl) ?_
            refine ty_get (ci := 6) (C := "LatticeKeys$Dsa") (TT := T_DA) (N := 17) (kd := (15, 0)) hx hb hts (wg_ft i_DA) hown hK hO k_h0 (nxg (clo_cons (clo_cons (clo_cons hc0 kr21 (by decide)) kr29 (by decide)) kl21 (by decide)) k_h0 rfl) hP (fun _ h9 => h9) rfl 14 (by decide) (hts _ (wg_t kw_179)) (fun _ h9 => h9) (cd := (3, 1, 64)) rfl dDA_accepts_189 (fun v35 hv35 => ?_)
            obtain ⟨r33, rfl, kr32⟩ := (show ∃ r : Nat, v35 = .ref r ∧ T r = some (1, 64) from hv35)
            refine lv_iconst (v := nI 0) hx hb dDA_accepts_192 (by decide) ?_
            refine lv_aload_n hx hb dDA_accepts_193 rfl (lv_at hl 3 rfl) ?_
            refine ty_get (ci := 2) (C := "LatticeKeys$DsaSet") (TT := T_DS) (N := 17) (kd := (45, 0)) hx hb hts (wg_ft i_DS) hown hK hO k_st (nxg (clo_cons (clo_cons (clo_cons hc0 kr21 (by decide)) kr29 (by decide)) kl21 (by decide)) k_st rfl) hP (fun _ h9 => h9) rfl 5 (by decide) (hts _ (wg_t kw_315)) (fun _ h9 => h9) (cd := (1, 0, 64)) rfl dDA_accepts_194 (fun v36 hv36 => ?_)
            obtain rfl := (show v36 = .int (nI 64) from hv36)
            refine mp_v (cx := [(r30, .inr (3, [.ref ln21, .int (nI 136), .int (nI 31), .int (nI 136)])), (ln21, .inl (g.2.1 2, 25, .inr (.inl u26)))]) (wr := [(r21, .inl (g.2.1 1, 84, .inl u22))]) hP hD hS hA [1, 2] [0] rfl rfl rfl (by decide) (va_runV (As := [.ref r33, .int (nI 0), .int (nI 64)]) (rest := []) F (t_SP_squeeze l g _ T (ln21 :: (r30 :: (r21 :: xs))) pl hO hU (clo_cons (clo_cons (clo_cons hc0 kr21 (by decide)) kr29 (by decide)) kl21 (by decide)) r33 64 0 64 r30 ln21 136 136 (nI 31) u26 kr32 (by omega) (by omega) (by omega) (by omega)) (cwV 3 hts (wg_app (wg_c kw_673 (wg_c kw_615 (wg_c kw_616 (wg_c kw_2 wg_n)))) kw_617) rfl rfl rfl (by decide +kernel) ⟨by decide, by decide⟩) (pp_V (en_ok g) (q0 := 1) hK hP hD hS hA hE [1, 2] rfl rfl rfl rfl) rfl rfl hl.1 rfl (lv_room (Nat.le_of_ble_eq_true rfl)) dDA_accepts_197 ⟨by omega, by omega⟩) (fun  u27 H locs hu29 hP hD hS => ?_)
            obtain ⟨u28, pl⟩ := u27
            obtain ⟨hq29, hO⟩ := hu29
            obtain ⟨k21, f24⟩ := u28
            have hP : va_P g.1 vcl ([(r21, .inl (g.2.1 1, 84, .inl u22)), (r30, .inr (3, [.ref ln21, .int (nI 136), .int (nI 31), .int (nI k21)])), (ln21, .inl (g.2.1 2, 25, .inr (.inl f24)))] ++ pl) _ := hP
            have hD : va_D _ ([(r21, .inl (g.2.1 1, 84, .inl u22)), (r30, .inr (3, [.ref ln21, .int (nI 136), .int (nI 31), .int (nI k21)])), (ln21, .inl (g.2.1 2, 25, .inr (.inl f24)))] ++ pl) := hD
            have hq29 : k21 ≤ 136 := hq29
            refine W.widen (k := 0) (n := 0) (by omega) (by omega) ?_
            refine lv_aload_n hx hb dDA_accepts_200 rfl (lv_at hl 2 rfl) ?_
            refine lv_aload_n hx hb dDA_accepts_201 rfl (lv_at hl 3 rfl) ?_
            refine mp_i (cx := []) (wr := [(r21, .inl (g.2.1 1, 84, .inl u22)), (r30, .inr (3, [.ref ln21, .int (nI 136), .int (nI 31), .int (nI k21)])), (ln21, .inl (g.2.1 2, 25, .inr (.inl f24)))]) hP hD hS hA [] [0, 1, 2] rfl rfl rfl (by decide) (va_runV (As := [.ref st]) (rest := []) F (t_DA_challengesAgree_2 l g _ T (ln21 :: (r30 :: (r21 :: xs))) pl hO hU (clo_cons (clo_cons (clo_cons hc0 kr21 (by decide)) kr29 (by decide)) kl21 (by decide)) h0 st k_h0 k_st) (cwV 1 hts (wg_app (wg_c kw_1287 (wg_c kw_1289 (wg_c ks_49 (wg_c kw_5 wg_n)))) kw_1290) rfl rfl rfl (by decide +kernel) ⟨by decide, by decide⟩) (pp_VT (en_ok g) (ci := 6) (kd := (15, 0)) hK hO k_h0 (nxg (clo_cons (clo_cons (clo_cons hc0 kr21 (by decide)) kr29 (by decide)) kl21 (by decide)) k_h0 rfl) (fun _ h9 => ko1 h9) hP hD hS hA hE [] rfl rfl rfl) rfl rfl hl.1 rfl (lv_room (Nat.le_of_ble_eq_true rfl)) dDA_accepts_202 ⟨by omega, by omega⟩) (fun r34 pl H locs hu30 hP hD hS => ?_)
            obtain ⟨hq30, hO⟩ := hu30
            have hP : va_P g.1 vcl ([(r21, .inl (g.2.1 1, 84, .inl u22)), (r30, .inr (3, [.ref ln21, .int (nI 136), .int (nI 31), .int (nI k21)])), (ln21, .inl (g.2.1 2, 25, .inr (.inl f24)))] ++ pl) _ := hP
            have hD : va_D _ ([(r21, .inl (g.2.1 1, 84, .inl u22)), (r30, .inr (3, [.ref ln21, .int (nI 136), .int (nI 31), .int (nI k21)])), (ln21, .inl (g.2.1 2, 25, .inr (.inl f24)))] ++ pl) := hD
            refine W.widen (k := 0) (n := 0) (by omega) (by omega) ?_
            have hO := close1 (e := .inl (g.2.1 2, 25, .inr (.inl f24))) hO kl21 ⟨_, rfl⟩
            have hO := close1 (e := .inr (3, [.ref ln21, .int (nI 136), .int (nI 31), .int (nI k21)])) hO kr29 ⟨_, _, _, _, rfl, kl21, by omega, by omega, by omega⟩
            have hO := close1 (e := .inl (g.2.1 1, 84, .inl u22)) hO kr21 ⟨_, rfl, hby22⟩
            have hO : okx g T xs ((r21, .inl (g.2.1 1, 84, .inl u22)) :: (r30, .inr (3, [.ref ln21, .int (nI 136), .int (nI 31), .int (nI k21)])) :: (ln21, .inl (g.2.1 2, 25, .inr (.inl f24))) :: pl) := hO
            have hP : va_P g.1 vcl ([] ++ ((r21, .inl (g.2.1 1, 84, .inl u22)) :: (r30, .inr (3, [.ref ln21, .int (nI 136), .int (nI 31), .int (nI k21)])) :: (ln21, .inl (g.2.1 2, 25, .inr (.inl f24))) :: pl)) _ := hP
            have hD : va_D _ ([] ++ ((r21, .inl (g.2.1 1, 84, .inl u22)) :: (r30, .inr (3, [.ref ln21, .int (nI 136), .int (nI 31), .int (nI k21)])) :: (ln21, .inl (g.2.1 2, 25, .inr (.inl f24))) :: pl)) := hD
            generalize ((r21, .inl (g.2.1 1, 84, .inl u22)) :: (r30, .inr (3, [.ref ln21, .int (nI 136), .int (nI 31), .int (nI k21)])) :: (ln21, .inl (g.2.1 2, 25, .inr (.inl f24))) :: pl) = pl at hO hP hD
            exact mp_zret hx hb hr hlk (nar_b hq30) hP hD hS pl ⟨hq30, hO⟩ [] rfl rfl rfl (by omega) (by omega) dDA_accepts_205
          | succ n22 ih22 =>
            intro i22 fs23 ps23 f23 pl ls H locs hm22 hi21 hi22 hl hO hP hD hS
            refine lv_iload hx hb dDA_accepts_111 (lv_at hl 0 rfl) ?_
            refine lv_aload_n hx hb dDA_accepts_113 rfl (lv_at hl 3 rfl) ?_
            refine ty_get (ci := 2) (C := "LatticeKeys$DsaSet") (TT := T_DS) (N := 17) (kd := (45, 0)) hx hb hts (wg_ft i_DS) hown hK hO k_st (nxg (clo_cons (clo_cons (clo_cons hc0 kr21 (by decide)) kr29 (by decide)) kl21 (by decide)) k_st rfl) hP (fun _ h9 => h9) rfl 0 (by decide) (hts _ (wg_t kw_302)) (fun _ h9 => h9) (cd := (1, 0, 8)) rfl dDA_accepts_114 (fun v37 hv37 => ?_)
            obtain rfl := (show v37 = .int (nI 8) from hv37)
            refine mi_ge (tgt := 177) hx hb dDA_accepts_117 (by decide) (by omega) (by omega) (fun h24 => absurd h24 (by omega)) (fun h24 => ?_)
            refine lv_aload_n hx hb dDA_accepts_120 rfl (lv_at hl 2 rfl) ?_
            refine ty_get (ci := 6) (C := "LatticeKeys$Dsa") (TT := T_DA) (N := 17) (kd := (15, 0)) hx hb hts (wg_ft i_DA) hown hK hO k_h0 (nxg (clo_cons (clo_cons (clo_cons hc0 kr21 (by decide)) kr29 (by decide)) kl21 (by decide)) k_h0 rfl) hP (fun _ h9 => h9) rfl 15 (by decide) (hts _ (wg_t kw_180)) (fun _ h9 => h9) (cd := (3, 8, 84)) rfl dDA_accepts_121 (fun v38 hv38 => ?_)
            obtain ⟨r35, rfl, kr33⟩ := (show ∃ r : Nat, v38 = .ref r ∧ T r = some (8, 84) from hv38)
            obtain rfl : r21 = r35 := hU _ _ _ (by decide) kr21 kr33
            refine lv_aload_n hx hb dDA_accepts_124 rfl (lv_at hl 3 rfl) ?_
            refine ty_get (ci := 2) (C := "LatticeKeys$DsaSet") (TT := T_DS) (N := 17) (kd := (45, 0)) hx hb hts (wg_ft i_DS) hown hK hO k_st (nxg (clo_cons (clo_cons (clo_cons hc0 kr21 (by decide)) kr29 (by decide)) kl21 (by decide)) k_st rfl) hP (fun _ h9 => h9) rfl 11 (by decide) (hts _ (wg_t kw_327)) (fun _ h9 => h9) (cd := (1, 0, 75)) rfl dDA_accepts_125 (fun v39 hv39 => ?_)
            obtain rfl := (show v39 = .int (nI 75) from hv39)
            refine lv_iload hx hb dDA_accepts_128 (lv_at hl 0 rfl) ?_
            refine mi_iadd hx hb dDA_accepts_130 ?_
            refine va_bald hx hb hK hP 0 1 rfl rfl (vp_in_nI (by omega) (by decide)) dDA_accepts_131 ?_
            rw [nI_clamp (show 75 + i22 < 2 ^ 31 by omega)]
            refine lv_sipush (v := nI 255) hx hb dDA_accepts_132 (by decide) ?_
            refine mi_iandE hx hb 8 dDA_accepts_135 (by decide) (fun z21 hz21 ez21 => ?_)
            have hz21 : z21 < 256 := hz21
            have hzlz21 := hg_le hgd (show i22 < 8 by omega) (by decide) (show z21 < 256 by omega) ez21
            refine lv_istore (lv' := [(8, .int (nI z21)), (7, .int (nI i22)), (6, .int (nI fs23)), (0, .ref h0), (1, .ref st), (2, .ref pk)]) hx hb dDA_accepts_136 hl (by decide) rfl (fun ls hl => ?_)
            refine lv_aload_n hx hb dDA_accepts_138 rfl (lv_at hl 3 rfl) ?_
            refine lv_aload_n hx hb dDA_accepts_139 rfl (lv_at hl 4 rfl) ?_
            refine lv_aload_n hx hb dDA_accepts_140 rfl (lv_at hl 5 rfl) ?_
            refine lv_iload hx hb dDA_accepts_141 (lv_at hl 1 rfl) ?_
            refine mp_v (cx := []) (wr := [(r21, .inl (g.2.1 1, 84, .inl u22)), (r30, .inr (3, [.ref ln21, .int (nI 136), .int (nI 31), .int (nI ps23)])), (ln21, .inl (g.2.1 2, 25, .inr (.inl f23)))]) hP hD hS hA [] [0, 1, 2] rfl rfl rfl (by decide) (va_runV (As := [.ref st, .ref pk, .int (nI i22)]) (rest := []) F (t_DA_rebuildRow_2 l g _ T (ln21 :: (r30 :: (r21 :: xs))) pl hO hU (clo_cons (clo_cons (clo_cons hc0 kr21 (by decide)) kr29 (by decide)) kl21 (by decide)) h0 st pk i22 k_h0 k_st k_pk (by omega)) (cwV 3 hts (wg_app (wg_c kw_1273 (wg_c kw_1275 (wg_c ks_47 (wg_c kw_5 wg_n)))) kw_1276) rfl rfl rfl (by decide +kernel) ⟨by decide, by decide⟩) (pp_VT (en_ok g) (ci := 6) (kd := (15, 0)) hK hO k_h0 (nxg (clo_cons (clo_cons (clo_cons hc0 kr21 (by decide)) kr29 (by decide)) kl21 (by decide)) k_h0 rfl) (fun _ h9 => ko1 h9) hP hD hS hA hE [] rfl rfl rfl) rfl rfl hl.1 rfl (lv_room (Nat.le_of_ble_eq_true rfl)) dDA_accepts_143 ⟨by omega, by omega⟩) (fun  pl H locs hu31 hP hD hS => ?_)
            obtain ⟨hq31, hO⟩ := hu31
            have hP : va_P g.1 vcl ([(r21, .inl (g.2.1 1, 84, .inl u22)), (r30, .inr (3, [.ref ln21, .int (nI 136), .int (nI 31), .int (nI ps23)])), (ln21, .inl (g.2.1 2, 25, .inr (.inl f23)))] ++ pl) _ := hP
            have hD : va_D _ ([(r21, .inl (g.2.1 1, 84, .inl u22)), (r30, .inr (3, [.ref ln21, .int (nI 136), .int (nI 31), .int (nI ps23)])), (ln21, .inl (g.2.1 2, 25, .inr (.inl f23)))] ++ pl) := hD
            refine W.widen (k := 0) (n := 0) (by omega) (by omega) ?_
            refine lv_aload_n hx hb dDA_accepts_146 rfl (lv_at hl 3 rfl) ?_
            refine lv_aload_n hx hb dDA_accepts_147 rfl (lv_at hl 4 rfl) ?_
            refine lv_aload_n hx hb dDA_accepts_148 rfl (lv_at hl 3 rfl) ?_
            refine ty_get (ci := 6) (C := "LatticeKeys$Dsa") (TT := T_DA) (N := 17) (kd := (15, 0)) hx hb hts (wg_ft i_DA) hown hK hO k_h0 (nxg (clo_cons (clo_cons (clo_cons hc0 kr21 (by decide)) kr29 (by decide)) kl21 (by decide)) k_h0 rfl) hP (fun _ h9 => h9) rfl 8 (by decide) (hts _ (wg_t kw_173)) (fun _ h9 => h9) (cd := (3, 3, 8)) rfl dDA_accepts_149 (fun v40 hv40 => ?_)
            obtain ⟨r36, rfl, kr34⟩ := (show ∃ r : Nat, v40 = .ref r ∧ T r = some (3, 8) from hv40)
            refine lv_iload hx hb dDA_accepts_152 (lv_at hl 1 rfl) ?_
            refine ty_aald3 hx hb hK hO kr34 (nxg (clo_cons (clo_cons (clo_cons hc0 kr21 (by decide)) kr29 (by decide)) kl21 (by decide)) kr34 rfl) hP (by omega) (by decide) dDA_accepts_154 (fun r37 kr35 => ?_)
            refine lv_iload hx hb dDA_accepts_155 (lv_at hl 2 rfl) ?_
            refine lv_iload hx hb dDA_accepts_157 (lv_at hl 0 rfl) ?_
            refine mp_v (cx := [(r21, .inl (g.2.1 1, 84, .inl u22))]) (wr := [(r30, .inr (3, [.ref ln21, .int (nI 136), .int (nI 31), .int (nI ps23)])), (ln21, .inl (g.2.1 2, 25, .inr (.inl f23)))]) hP hD hS hA [0] [1, 2] rfl rfl rfl (by decide) (va_runV (As := [.ref st, .ref r37, .int (nI fs23), .int (nI z21)]) (rest := []) F (t_DA_useHints_2 l g _ T (ln21 :: (r30 :: (r21 :: xs))) pl hO hU (clo_cons (clo_cons (clo_cons hc0 kr21 (by decide)) kr29 (by decide)) kl21 (by decide)) r21 h0 st r37 fs23 z21 u22 kr21 k_h0 k_st kr35 (by omega) (by omega)) (cwV 4 hts (wg_app (wg_c kw_1277 (wg_c kw_1279 (wg_c ks_48 (wg_c kw_5 wg_n)))) kw_1280) rfl rfl rfl (by decide +kernel) ⟨by decide, by decide⟩) (pp_VT (en_ok g) (ci := 6) (kd := (15, 0)) hK hO k_h0 (nxg (clo_cons (clo_cons (clo_cons hc0 kr21 (by decide)) kr29 (by decide)) kl21 (by decide)) k_h0 rfl) (fun _ h9 => ko1 h9) hP hD hS hA hE [0] rfl rfl rfl) rfl rfl hl.1 rfl (lv_room (Nat.le_of_ble_eq_true rfl)) dDA_accepts_159 ⟨by omega, by omega⟩) (fun  pl H locs hu32 hP hD hS => ?_)
            obtain ⟨hq32, hO⟩ := hu32
            have hP : va_P g.1 vcl ([(r30, .inr (3, [.ref ln21, .int (nI 136), .int (nI 31), .int (nI ps23)])), (ln21, .inl (g.2.1 2, 25, .inr (.inl f23))), (r21, .inl (g.2.1 1, 84, .inl u22))] ++ pl) _ := hP
            have hD : va_D _ ([(r30, .inr (3, [.ref ln21, .int (nI 136), .int (nI 31), .int (nI ps23)])), (ln21, .inl (g.2.1 2, 25, .inr (.inl f23))), (r21, .inl (g.2.1 1, 84, .inl u22))] ++ pl) := hD
            refine W.widen (k := 0) (n := 0) (by omega) (by omega) ?_
            refine lv_aload_n hx hb dDA_accepts_162 rfl (lv_at hl 3 rfl) ?_
            refine lv_aload_n hx hb dDA_accepts_163 rfl (lv_at hl 4 rfl) ?_
            refine mp_v (cx := [(r30, .inr (3, [.ref ln21, .int (nI 136), .int (nI 31), .int (nI ps23)])), (ln21, .inl (g.2.1 2, 25, .inr (.inl f23)))]) (wr := [(r21, .inl (g.2.1 1, 84, .inl u22))]) hP hD hS hA [0, 1] [2] rfl rfl rfl (by decide) (va_runV (As := [.ref st]) (rest := []) F (t_DA_absorbHigh_2 l g _ T (ln21 :: (r30 :: (r21 :: xs))) pl hO hU (clo_cons (clo_cons (clo_cons hc0 kr21 (by decide)) kr29 (by decide)) kl21 (by decide)) r30 h0 st ln21 136 ps23 (nI 31) f23 kr29 k_h0 k_st (by omega) (by omega)) (cwV 1 hts (wg_app (wg_c kw_1210 (wg_c kw_1212 (wg_c ks_39 (wg_c kw_5 wg_n)))) kw_1213) rfl rfl rfl (by decide +kernel) ⟨by decide, by decide⟩) (pp_VT (en_ok g) (ci := 6) (kd := (15, 0)) hK hO k_h0 (nxg (clo_cons (clo_cons (clo_cons hc0 kr21 (by decide)) kr29 (by decide)) kl21 (by decide)) k_h0 rfl) (fun _ h9 => ko1 h9) hP hD hS hA hE [0, 1] rfl rfl rfl) rfl rfl hl.1 rfl (lv_room (Nat.le_of_ble_eq_true rfl)) dDA_accepts_164 ⟨by omega, by omega⟩) (fun  u29 H locs hu33 hP hD hS => ?_)
            obtain ⟨u30, pl⟩ := u29
            obtain ⟨hq33, hO⟩ := hu33
            obtain ⟨ps24, f25⟩ := u30
            have hP : va_P g.1 vcl ([(r21, .inl (g.2.1 1, 84, .inl u22)), (r30, .inr (3, [.ref ln21, .int (nI 136), .int (nI 31), .int (nI ps24)])), (ln21, .inl (g.2.1 2, 25, .inr (.inl f25)))] ++ pl) _ := hP
            have hD : va_D _ ([(r21, .inl (g.2.1 1, 84, .inl u22)), (r30, .inr (3, [.ref ln21, .int (nI 136), .int (nI 31), .int (nI ps24)])), (ln21, .inl (g.2.1 2, 25, .inr (.inl f25)))] ++ pl) := hD
            have hq33 : ps24 < 136 := hq33
            refine W.widen (k := 0) (n := 0) (by omega) (by omega) ?_
            refine lv_iload hx hb dDA_accepts_167 (lv_at hl 0 rfl) ?_
            refine lv_istore (lv' := [(6, .int (nI z21)), (8, .int (nI z21)), (7, .int (nI i22)), (0, .ref h0), (1, .ref st), (2, .ref pk)]) hx hb dDA_accepts_169 hl (by decide) rfl (fun ls hl => ?_)
            refine mi_iinc (k := 2) (x := i22) (d := 1) (y := i22 + 1) (lv' := [(7, .int (nI (i22 + 1))), (6, .int (nI z21)), (8, .int (nI z21)), (0, .ref h0), (1, .ref st), (2, .ref pk)]) hx hb dDA_accepts_171 hl rfl (by decide) rfl (by decide) rfl (fun ls hl => ?_)
            refine lv_goto (tgt := 111) hx hb dDA_accepts_174 (by decide) ?_
            exact ih22 (i22 + 1) z21 ps24 f25 pl ls H locs (by omega) (by omega) (by omega) (lv_sub hl [0, 1, 3, 4, 5] rfl) hO hP hD hS
        exact lp22 8 0 0 ps22 f22 pl ls _ _ (by omega) (by omega) (by omega) (lv_sub hl [0, 1, 2, 3, 4] rfl) hO hP hD hS
      | succ n21 ih21 =>
        intro i21 pl ls H locs hm21  hl hO hP hD hS
        refine lv_iload hx hb dDA_accepts_72 (lv_at hl 0 rfl) ?_
        refine lv_aload_n hx hb dDA_accepts_74 rfl (lv_at hl 2 rfl) ?_
        refine ty_get (ci := 2) (C := "LatticeKeys$DsaSet") (TT := T_DS) (N := 17) (kd := (45, 0)) hx hb hts (wg_ft i_DS) hown hK hO k_st (nxg (clo_cons hc0 kr21 (by decide)) k_st rfl) hP (fun _ h9 => h9) rfl 1 (by decide) (hts _ (wg_t kw_305)) (fun _ h9 => h9) (cd := (1, 0, 7)) rfl dDA_accepts_75 (fun v41 hv41 => ?_)
        obtain rfl := (show v41 = .int (nI 7) from hv41)
        refine mi_ge (tgt := 101) hx hb dDA_accepts_78 (by decide) (by omega) (by omega) (fun h25 => absurd h25 (by omega)) (fun h25 => ?_)
        refine lv_aload_n hx hb dDA_accepts_81 rfl (lv_at hl 1 rfl) ?_
        refine ty_get (ci := 6) (C := "LatticeKeys$Dsa") (TT := T_DA) (N := 17) (kd := (15, 0)) hx hb hts (wg_ft i_DA) hown hK hO k_h0 (nxg (clo_cons hc0 kr21 (by decide)) k_h0 rfl) hP (fun _ h9 => h9) rfl 1 (by decide) (hts _ (wg_t kw_166)) (fun _ h9 => h9) (cd := (3, 12, 0)) rfl dDA_accepts_82 (fun v42 hv42 => ?_)
        obtain ⟨r38, rfl, kr36⟩ := (show ∃ r : Nat, v42 = .ref r ∧ T r = some (12, 0) from hv42)
        refine lv_aload_n hx hb dDA_accepts_85 rfl (lv_at hl 1 rfl) ?_
        refine ty_get (ci := 6) (C := "LatticeKeys$Dsa") (TT := T_DA) (N := 17) (kd := (15, 0)) hx hb hts (wg_ft i_DA) hown hK hO k_h0 (nxg (clo_cons hc0 kr21 (by decide)) k_h0 rfl) hP (fun _ h9 => h9) rfl 7 (by decide) (hts _ (wg_t kw_172)) (fun _ h9 => h9) (cd := (3, 3, 7)) rfl dDA_accepts_86 (fun v43 hv43 => ?_)
        obtain ⟨r39, rfl, kr37⟩ := (show ∃ r : Nat, v43 = .ref r ∧ T r = some (3, 7) from hv43)
        refine lv_iload hx hb dDA_accepts_89 (lv_at hl 0 rfl) ?_
        refine ty_aald3 hx hb hK hO kr37 (nxg (clo_cons hc0 kr21 (by decide)) kr37 rfl) hP (by omega) (by decide) dDA_accepts_91 (fun r40 kr38 => ?_)
        refine mp_v (cx := []) (wr := [(r21, .inl (g.2.1 1, 84, .inl u22))]) hP hD hS hA [] [0] rfl rfl rfl (by decide) (va_runV (As := [.ref r40]) (rest := []) F (t_RG_transform_12 l g _ T (r21 :: xs) pl hO hU (clo_cons hc0 kr21 (by decide)) r38 r40 kr36 kr38) (cwV 1 hts (wg_app (wg_c kw_711 (wg_c kw_637 (wg_c kw_638 (wg_c kw_4 wg_n)))) kw_639) rfl rfl rfl (by decide +kernel) ⟨by decide, by decide⟩) (pp_VT (en_ok g) (ci := 4) (kd := (12, 0)) hK hO kr36 (nxg (clo_cons hc0 kr21 (by decide)) kr36 rfl) (fun _ h9 => ko1 h9) hP hD hS hA hE [] rfl rfl rfl) rfl rfl hl.1 rfl (lv_room (Nat.le_of_ble_eq_true rfl)) dDA_accepts_92 ⟨by omega, by omega⟩) (fun  pl H locs hu34 hP hD hS => ?_)
        obtain ⟨hq34, hO⟩ := hu34
        have hP : va_P g.1 vcl ([(r21, .inl (g.2.1 1, 84, .inl u22))] ++ pl) _ := hP
        have hD : va_D _ ([(r21, .inl (g.2.1 1, 84, .inl u22))] ++ pl) := hD
        refine W.widen (k := 0) (n := 0) (by omega) (by omega) ?_
        refine mi_iinc (k := 0) (x := i21) (d := 1) (y := i21 + 1) (lv' := [(6, .int (nI (i21 + 1))), (0, .ref h0), (1, .ref st), (2, .ref pk)]) hx hb dDA_accepts_95 hl rfl (by decide) rfl (by decide) rfl (fun ls hl => ?_)
        refine lv_goto (tgt := 72) hx hb dDA_accepts_98 (by decide) ?_
        exact ih21 (i21 + 1) pl ls H locs (by omega) (lv_sub hl [0, 1, 2, 3] rfl) hO hP hD hS
    exact lp21 7 0 pl ls _ _ (by omega) (lv_sub hl [0, 1, 2, 3] rfl) hO hP hD hS
  · refine lv_iconst (v := nI 0) hx hb dDA_accepts_9 (by decide) ?_
    have hO := close1 (e := .inl (g.2.1 1, 84, .inl u22)) hO kr21 ⟨_, rfl, hby22⟩
    have hO : okx g T xs ((r21, .inl (g.2.1 1, 84, .inl u22)) :: pl) := hO
    have hP : va_P g.1 vcl ([] ++ ((r21, .inl (g.2.1 1, 84, .inl u22)) :: pl)) _ := hP
    have hD : va_D _ ([] ++ ((r21, .inl (g.2.1 1, 84, .inl u22)) :: pl)) := hD
    generalize ((r21, .inl (g.2.1 1, 84, .inl u22)) :: pl) = pl at hO hP hD
    exact mp_zret hx hb hr hlk rfl hP hD hS pl ⟨(Or.inl rfl), hO⟩ [] rfl rfl rfl (by omega) (by omega) dDA_accepts_10
