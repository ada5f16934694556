set_option linter.all false
abbrev c_DA_hintsAreInForm : ByteArray := prog_3_method_21_code
abbrev y_DA_hintsAreInForm : MethodName := ⟨"LatticeKeys$Dsa", "hintsAreInForm", "(LLatticeKeys$DsaSet;)Z"⟩
abbrev w_DA_hintsAreInForm : List Cond := Cond.code y_DA_hintsAreInForm c_DA_hintsAreInForm 6 (some .boolean) :: WG
theorem dDA_hintsAreInForm_0 : decode c_DA_hintsAreInForm 0 = .ok (.iconst 0, 1) := by decide +kernel
theorem dDA_hintsAreInForm_1 : decode c_DA_hintsAreInForm 1 = .ok (.istore_n 2, 1) := by decide +kernel
theorem dDA_hintsAreInForm_2 : decode c_DA_hintsAreInForm 2 = .ok (.iconst 0, 1) := by decide +kernel
theorem dDA_hintsAreInForm_3 : decode c_DA_hintsAreInForm 3 = .ok (.istore_n 3, 1) := by decide +kernel
theorem dDA_hintsAreInForm_4 : decode c_DA_hintsAreInForm 4 = .ok (.iload_n 3, 1) := by decide +kernel
theorem dDA_hintsAreInForm_5 : decode c_DA_hintsAreInForm 5 = .ok (.aload_n 1, 1) := by decide +kernel
theorem dDA_hintsAreInForm_6 : decode c_DA_hintsAreInForm 6 = .ok (.getfield 87, 3) := by decide +kernel
theorem dDA_hintsAreInForm_9 : decode c_DA_hintsAreInForm 9 = .ok (.if_icmp .ge 93, 3) := by decide +kernel
theorem dDA_hintsAreInForm_12 : decode c_DA_hintsAreInForm 12 = .ok (.aload_n 0, 1) := by decide +kernel
theorem dDA_hintsAreInForm_13 : decode c_DA_hintsAreInForm 13 = .ok (.getfield 73, 3) := by decide +kernel
theorem dDA_hintsAreInForm_16 : decode c_DA_hintsAreInForm 16 = .ok (.aload_n 1, 1) := by decide +kernel
theorem dDA_hintsAreInForm_17 : decode c_DA_hintsAreInForm 17 = .ok (.getfield 252, 3) := by decide +kernel
theorem dDA_hintsAreInForm_20 : decode c_DA_hintsAreInForm 20 = .ok (.iload_n 3, 1) := by decide +kernel
theorem dDA_hintsAreInForm_21 : decode c_DA_hintsAreInForm 21 = .ok (.iadd, 1) := by decide +kernel
theorem dDA_hintsAreInForm_22 : decode c_DA_hintsAreInForm 22 = .ok (.baload, 1) := by decide +kernel
theorem dDA_hintsAreInForm_23 : decode c_DA_hintsAreInForm 23 = .ok (.sipush 255, 3) := by decide +kernel
theorem dDA_hintsAreInForm_26 : decode c_DA_hintsAreInForm 26 = .ok (.iand, 1) := by decide +kernel
theorem dDA_hintsAreInForm_27 : decode c_DA_hintsAreInForm 27 = .ok (.istore 4, 2) := by decide +kernel
theorem dDA_hintsAreInForm_29 : decode c_DA_hintsAreInForm 29 = .ok (.iload 4, 2) := by decide +kernel
theorem dDA_hintsAreInForm_31 : decode c_DA_hintsAreInForm 31 = .ok (.iload_n 2, 1) := by decide +kernel
theorem dDA_hintsAreInForm_32 : decode c_DA_hintsAreInForm 32 = .ok (.if_icmp .lt 12, 3) := by decide +kernel
theorem dDA_hintsAreInForm_35 : decode c_DA_hintsAreInForm 35 = .ok (.iload 4, 2) := by decide +kernel
theorem dDA_hintsAreInForm_37 : decode c_DA_hintsAreInForm 37 = .ok (.aload_n 1, 1) := by decide +kernel
theorem dDA_hintsAreInForm_38 : decode c_DA_hintsAreInForm 38 = .ok (.getfield 252, 3) := by decide +kernel
theorem dDA_hintsAreInForm_41 : decode c_DA_hintsAreInForm 41 = .ok (.if_icmp .le 5, 3) := by decide +kernel
theorem dDA_hintsAreInForm_44 : decode c_DA_hintsAreInForm 44 = .ok (.iconst 0, 1) := by decide +kernel
theorem dDA_hintsAreInForm_45 : decode c_DA_hintsAreInForm 45 = .ok (.ireturn, 1) := by decide +kernel
theorem dDA_hintsAreInForm_46 : decode c_DA_hintsAreInForm 46 = .ok (.iload_n 2, 1) := by decide +kernel
theorem dDA_hintsAreInForm_47 : decode c_DA_hintsAreInForm 47 = .ok (.iconst 1, 1) := by decide +kernel
theorem dDA_hintsAreInForm_48 : decode c_DA_hintsAreInForm 48 = .ok (.iadd, 1) := by decide +kernel
theorem dDA_hintsAreInForm_49 : decode c_DA_hintsAreInForm 49 = .ok (.istore 5, 2) := by decide +kernel
theorem dDA_hintsAreInForm_51 : decode c_DA_hintsAreInForm 51 = .ok (.iload 5, 2) := by decide +kernel
theorem dDA_hintsAreInForm_53 : decode c_DA_hintsAreInForm 53 = .ok (.iload 4, 2) := by decide +kernel
theorem dDA_hintsAreInForm_55 : decode c_DA_hintsAreInForm 55 = .ok (.if_icmp .ge 38, 3) := by decide +kernel
theorem dDA_hintsAreInForm_58 : decode c_DA_hintsAreInForm 58 = .ok (.aload_n 0, 1) := by decide +kernel
theorem dDA_hintsAreInForm_59 : decode c_DA_hintsAreInForm 59 = .ok (.getfield 73, 3) := by decide +kernel
theorem dDA_hintsAreInForm_62 : decode c_DA_hintsAreInForm 62 = .ok (.iload 5, 2) := by decide +kernel
theorem dDA_hintsAreInForm_64 : decode c_DA_hintsAreInForm 64 = .ok (.iconst 1, 1) := by decide +kernel
theorem dDA_hintsAreInForm_65 : decode c_DA_hintsAreInForm 65 = .ok (.isub, 1) := by decide +kernel
theorem dDA_hintsAreInForm_66 : decode c_DA_hintsAreInForm 66 = .ok (.baload, 1) := by decide +kernel
theorem dDA_hintsAreInForm_67 : decode c_DA_hintsAreInForm 67 = .ok (.sipush 255, 3) := by decide +kernel
theorem dDA_hintsAreInForm_70 : decode c_DA_hintsAreInForm 70 = .ok (.iand, 1) := by decide +kernel
theorem dDA_hintsAreInForm_71 : decode c_DA_hintsAreInForm 71 = .ok (.aload_n 0, 1) := by decide +kernel
theorem dDA_hintsAreInForm_72 : decode c_DA_hintsAreInForm 72 = .ok (.getfield 73, 3) := by decide +kernel
theorem dDA_hintsAreInForm_75 : decode c_DA_hintsAreInForm 75 = .ok (.iload 5, 2) := by decide +kernel
theorem dDA_hintsAreInForm_77 : decode c_DA_hintsAreInForm 77 = .ok (.baload, 1) := by decide +kernel
theorem dDA_hintsAreInForm_78 : decode c_DA_hintsAreInForm 78 = .ok (.sipush 255, 3) := by decide +kernel
theorem dDA_hintsAreInForm_81 : decode c_DA_hintsAreInForm 81 = .ok (.iand, 1) := by decide +kernel
theorem dDA_hintsAreInForm_82 : decode c_DA_hintsAreInForm 82 = .ok (.if_icmp .lt 5, 3) := by decide +kernel
theorem dDA_hintsAreInForm_85 : decode c_DA_hintsAreInForm 85 = .ok (.iconst 0, 1) := by decide +kernel
theorem dDA_hintsAreInForm_86 : decode c_DA_hintsAreInForm 86 = .ok (.ireturn, 1) := by decide +kernel
theorem dDA_hintsAreInForm_87 : decode c_DA_hintsAreInForm 87 = .ok (.iinc 5 1, 3) := by decide +kernel
theorem dDA_hintsAreInForm_90 : decode c_DA_hintsAreInForm 90 = .ok (.goto (-39), 3) := by decide +kernel
theorem dDA_hintsAreInForm_93 : decode c_DA_hintsAreInForm 93 = .ok (.iload 4, 2) := by decide +kernel
theorem dDA_hintsAreInForm_95 : decode c_DA_hintsAreInForm 95 = .ok (.istore_n 2, 1) := by decide +kernel
theorem dDA_hintsAreInForm_96 : decode c_DA_hintsAreInForm 96 = .ok (.iinc 3 1, 3) := by decide +kernel
theorem dDA_hintsAreInForm_99 : decode c_DA_hintsAreInForm 99 = .ok (.goto (-95), 3) := by decide +kernel
theorem dDA_hintsAreInForm_102 : decode c_DA_hintsAreInForm 102 = .ok (.iload_n 2, 1) := by decide +kernel
theorem dDA_hintsAreInForm_103 : decode c_DA_hintsAreInForm 103 = .ok (.istore_n 3, 1) := by decide +kernel
theorem dDA_hintsAreInForm_104 : decode c_DA_hintsAreInForm 104 = .ok (.iload_n 3, 1) := by decide +kernel
theorem dDA_hintsAreInForm_105 : decode c_DA_hintsAreInForm 105 = .ok (.aload_n 1, 1) := by decide +kernel
theorem dDA_hintsAreInForm_106 : decode c_DA_hintsAreInForm 106 = .ok (.getfield 252, 3) := by decide +kernel
theorem dDA_hintsAreInForm_109 : decode c_DA_hintsAreInForm 109 = .ok (.if_icmp .ge 20, 3) := by decide +kernel
theorem dDA_hintsAreInForm_112 : decode c_DA_hintsAreInForm 112 = .ok (.aload_n 0, 1) := by decide +kernel
theorem dDA_hintsAreInForm_113 : decode c_DA_hintsAreInForm 113 = .ok (.getfield 73, 3) := by decide +kernel
theorem dDA_hintsAreInForm_116 : decode c_DA_hintsAreInForm 116 = .ok (.iload_n 3, 1) := by decide +kernel
theorem dDA_hintsAreInForm_117 : decode c_DA_hintsAreInForm 117 = .ok (.baload, 1) := by decide +kernel
theorem dDA_hintsAreInForm_118 : decode c_DA_hintsAreInForm 118 = .ok (.ifCond .eq 5, 3) := by decide +kernel
theorem dDA_hintsAreInForm_121 : decode c_DA_hintsAreInForm 121 = .ok (.iconst 0, 1) := by decide +kernel
theorem dDA_hintsAreInForm_122 : decode c_DA_hintsAreInForm 122 = .ok (.ireturn, 1) := by decide +kernel
theorem dDA_hintsAreInForm_123 : decode c_DA_hintsAreInForm 123 = .ok (.iinc 3 1, 3) := by decide +kernel
theorem dDA_hintsAreInForm_126 : decode c_DA_hintsAreInForm 126 = .ok (.goto (-22), 3) := by decide +kernel
theorem dDA_hintsAreInForm_129 : decode c_DA_hintsAreInForm 129 = .ok (.iconst 1, 1) := by decide +kernel
theorem dDA_hintsAreInForm_130 : decode c_DA_hintsAreInForm 130 = .ok (.ireturn, 1) := by decide +kernel
abbrev c_DA_readSignature : ByteArray := prog_3_method_20_code
abbrev y_DA_readSignature : MethodName := ⟨"LatticeKeys$Dsa", "readSignature", "(LLatticeKeys$DsaSet;[B)Z"⟩
abbrev w_DA_readSignature : List Cond := Cond.code y_DA_readSignature c_DA_readSignature 4 (some .boolean) :: WG
theorem dDA_readSignature_0 : decode c_DA_readSignature 0 = .ok (.aload_n 2, 1) := by decide +kernel
theorem dDA_readSignature_1 : decode c_DA_readSignature 1 = .ok (.iconst 0, 1) := by decide +kernel
theorem dDA_readSignature_2 : decode c_DA_readSignature 2 = .ok (.aload_n 0, 1) := by decide +kernel
theorem dDA_readSignature_3 : decode c_DA_readSignature 3 = .ok (.getfield 67, 3) := by decide +kernel
theorem dDA_readSignature_6 : decode c_DA_readSignature 6 = .ok (.iconst 0, 1) := by decide +kernel
theorem dDA_readSignature_7 : decode c_DA_readSignature 7 = .ok (.aload_n 1, 1) := by decide +kernel
theorem dDA_readSignature_8 : decode c_DA_readSignature 8 = .ok (.getfield 220, 3) := by decide +kernel
theorem dDA_readSignature_11 : decode c_DA_readSignature 11 = .ok (.invokestatic 105, 3) := by decide +kernel
theorem dDA_readSignature_14 : decode c_DA_readSignature 14 = .ok (.aload_n 2, 1) := by decide +kernel
theorem dDA_readSignature_15 : decode c_DA_readSignature 15 = .ok (.aload_n 1, 1) := by decide +kernel
theorem dDA_readSignature_16 : decode c_DA_readSignature 16 = .ok (.getfield 258, 3) := by decide +kernel
theorem dDA_readSignature_19 : decode c_DA_readSignature 19 = .ok (.aload_n 0, 1) := by decide +kernel
theorem dDA_readSignature_20 : decode c_DA_readSignature 20 = .ok (.getfield 73, 3) := by decide +kernel
theorem dDA_readSignature_23 : decode c_DA_readSignature 23 = .ok (.iconst 0, 1) := by decide +kernel
theorem dDA_readSignature_24 : decode c_DA_readSignature 24 = .ok (.aload_n 1, 1) := by decide +kernel
theorem dDA_readSignature_25 : decode c_DA_readSignature 25 = .ok (.getfield 252, 3) := by decide +kernel
theorem dDA_readSignature_28 : decode c_DA_readSignature 28 = .ok (.aload_n 1, 1) := by decide +kernel
theorem dDA_readSignature_29 : decode c_DA_readSignature 29 = .ok (.getfield 87, 3) := by decide +kernel
theorem dDA_readSignature_32 : decode c_DA_readSignature 32 = .ok (.iadd, 1) := by decide +kernel
theorem dDA_readSignature_33 : decode c_DA_readSignature 33 = .ok (.invokestatic 105, 3) := by decide +kernel
theorem dDA_readSignature_36 : decode c_DA_readSignature 36 = .ok (.aload_n 0, 1) := by decide +kernel
theorem dDA_readSignature_37 : decode c_DA_readSignature 37 = .ok (.aload_n 1, 1) := by decide +kernel
theorem dDA_readSignature_38 : decode c_DA_readSignature 38 = .ok (.invokevirtual 279, 3) := by decide +kernel
theorem dDA_readSignature_41 : decode c_DA_readSignature 41 = .ok (.ifCond .ne 5, 3) := by decide +kernel
theorem dDA_readSignature_44 : decode c_DA_readSignature 44 = .ok (.iconst 0, 1) := by decide +kernel
theorem dDA_readSignature_45 : decode c_DA_readSignature 45 = .ok (.ireturn, 1) := by decide +kernel
theorem dDA_readSignature_46 : decode c_DA_readSignature 46 = .ok (.iconst 0, 1) := by decide +kernel
theorem dDA_readSignature_47 : decode c_DA_readSignature 47 = .ok (.istore_n 3, 1) := by decide +kernel
theorem dDA_readSignature_48 : decode c_DA_readSignature 48 = .ok (.iload_n 3, 1) := by decide +kernel
theorem dDA_readSignature_49 : decode c_DA_readSignature 49 = .ok (.aload_n 1, 1) := by decide +kernel
theorem dDA_readSignature_50 : decode c_DA_readSignature 50 = .ok (.getfield 96, 3) := by decide +kernel
theorem dDA_readSignature_53 : decode c_DA_readSignature 53 = .ok (.if_icmp .ge 69, 3) := by decide +kernel
theorem dDA_readSignature_56 : decode c_DA_readSignature 56 = .ok (.aload_n 0, 1) := by decide +kernel
theorem dDA_readSignature_57 : decode c_DA_readSignature 57 = .ok (.aload_n 0, 1) := by decide +kernel
theorem dDA_readSignature_58 : decode c_DA_readSignature 58 = .ok (.getfield 47, 3) := by decide +kernel
theorem dDA_readSignature_61 : decode c_DA_readSignature 61 = .ok (.iload_n 3, 1) := by decide +kernel
theorem dDA_readSignature_62 : decode c_DA_readSignature 62 = .ok (.aaload, 1) := by decide +kernel
theorem dDA_readSignature_63 : decode c_DA_readSignature 63 = .ok (.aload_n 1, 1) := by decide +kernel
theorem dDA_readSignature_64 : decode c_DA_readSignature 64 = .ok (.getfield 255, 3) := by decide +kernel
theorem dDA_readSignature_67 : decode c_DA_readSignature 67 = .ok (.aload_n 1, 1) := by decide +kernel
theorem dDA_readSignature_68 : decode c_DA_readSignature 68 = .ok (.getfield 202, 3) := by decide +kernel
theorem dDA_readSignature_71 : decode c_DA_readSignature 71 = .ok (.aload_n 2, 1) := by decide +kernel
theorem dDA_readSignature_72 : decode c_DA_readSignature 72 = .ok (.aload_n 1, 1) := by decide +kernel
theorem dDA_readSignature_73 : decode c_DA_readSignature 73 = .ok (.getfield 220, 3) := by decide +kernel
theorem dDA_readSignature_76 : decode c_DA_readSignature 76 = .ok (.bipush 32, 2) := by decide +kernel
theorem dDA_readSignature_78 : decode c_DA_readSignature 78 = .ok (.aload_n 1, 1) := by decide +kernel
theorem dDA_readSignature_79 : decode c_DA_readSignature 79 = .ok (.getfield 255, 3) := by decide +kernel
theorem dDA_readSignature_82 : decode c_DA_readSignature 82 = .ok (.imul, 1) := by decide +kernel
theorem dDA_readSignature_83 : decode c_DA_readSignature 83 = .ok (.iload_n 3, 1) := by decide +kernel
theorem dDA_readSignature_84 : decode c_DA_readSignature 84 = .ok (.imul, 1) := by decide +kernel
theorem dDA_readSignature_85 : decode c_DA_readSignature 85 = .ok (.iadd, 1) := by decide +kernel
theorem dDA_readSignature_86 : decode c_DA_readSignature 86 = .ok (.invokevirtual 185, 3) := by decide +kernel
theorem dDA_readSignature_89 : decode c_DA_readSignature 89 = .ok (.aload_n 0, 1) := by decide +kernel
theorem dDA_readSignature_90 : decode c_DA_readSignature 90 = .ok (.getfield 22, 3) := by decide +kernel
theorem dDA_readSignature_93 : decode c_DA_readSignature 93 = .ok (.aload_n 0, 1) := by decide +kernel
theorem dDA_readSignature_94 : decode c_DA_readSignature 94 = .ok (.getfield 47, 3) := by decide +kernel
theorem dDA_readSignature_97 : decode c_DA_readSignature 97 = .ok (.iload_n 3, 1) := by decide +kernel
theorem dDA_readSignature_98 : decode c_DA_readSignature 98 = .ok (.aaload, 1) := by decide +kernel
theorem dDA_readSignature_99 : decode c_DA_readSignature 99 = .ok (.aload_n 1, 1) := by decide +kernel
theorem dDA_readSignature_100 : decode c_DA_readSignature 100 = .ok (.getfield 202, 3) := by decide +kernel
theorem dDA_readSignature_103 : decode c_DA_readSignature 103 = .ok (.aload_n 1, 1) := by decide +kernel
theorem dDA_readSignature_104 : decode c_DA_readSignature 104 = .ok (.getfield 233, 3) := by decide +kernel
theorem dDA_readSignature_107 : decode c_DA_readSignature 107 = .ok (.isub, 1) := by decide +kernel
theorem dDA_readSignature_108 : decode c_DA_readSignature 108 = .ok (.invokevirtual 236, 3) := by decide +kernel
theorem dDA_readSignature_111 : decode c_DA_readSignature 111 = .ok (.ifCond .ne 5, 3) := by decide +kernel
theorem dDA_readSignature_114 : decode c_DA_readSignature 114 = .ok (.iconst 0, 1) := by decide +kernel
theorem dDA_readSignature_115 : decode c_DA_readSignature 115 = .ok (.ireturn, 1) := by decide +kernel
theorem dDA_readSignature_116 : decode c_DA_readSignature 116 = .ok (.iinc 3 1, 3) := by decide +kernel
theorem dDA_readSignature_119 : decode c_DA_readSignature 119 = .ok (.goto (-71), 3) := by decide +kernel
theorem dDA_readSignature_122 : decode c_DA_readSignature 122 = .ok (.iconst 1, 1) := by decide +kernel
theorem dDA_readSignature_123 : decode c_DA_readSignature 123 = .ok (.ireturn, 1) := by decide +kernel
abbrev c_DA_useHints : ByteArray := prog_3_method_23_code
abbrev y_DA_useHints : MethodName := ⟨"LatticeKeys$Dsa", "useHints", "(LLatticeKeys$DsaSet;[III)V"⟩
abbrev w_DA_useHints : List Cond := Cond.code y_DA_useHints c_DA_useHints 7 none :: WG
theorem dDA_useHints_0 : decode c_DA_useHints 0 = .ok (.iconst 0, 1) := by decide +kernel
theorem dDA_useHints_1 : decode c_DA_useHints 1 = .ok (.istore 5, 2) := by decide +kernel
theorem dDA_useHints_3 : decode c_DA_useHints 3 = .ok (.iload 5, 2) := by decide +kernel
theorem dDA_useHints_5 : decode c_DA_useHints 5 = .ok (.sipush 256, 3) := by decide +kernel
theorem dDA_useHints_8 : decode c_DA_useHints 8 = .ok (.if_icmp .ge 24, 3) := by decide +kernel
theorem dDA_useHints_11 : decode c_DA_useHints 11 = .ok (.aload_n 0, 1) := by decide +kernel
theorem dDA_useHints_12 : decode c_DA_useHints 12 = .ok (.getfield 57, 3) := by decide +kernel
theorem dDA_useHints_15 : decode c_DA_useHints 15 = .ok (.iload 5, 2) := by decide +kernel
theorem dDA_useHints_17 : decode c_DA_useHints 17 = .ok (.aload_n 1, 1) := by decide +kernel
theorem dDA_useHints_18 : decode c_DA_useHints 18 = .ok (.aload_n 2, 1) := by decide +kernel
theorem dDA_useHints_19 : decode c_DA_useHints 19 = .ok (.iload 5, 2) := by decide +kernel
theorem dDA_useHints_21 : decode c_DA_useHints 21 = .ok (.iaload, 1) := by decide +kernel
theorem dDA_useHints_22 : decode c_DA_useHints 22 = .ok (.invokevirtual 212, 3) := by decide +kernel
theorem dDA_useHints_25 : decode c_DA_useHints 25 = .ok (.iastore, 1) := by decide +kernel
theorem dDA_useHints_26 : decode c_DA_useHints 26 = .ok (.iinc 5 1, 3) := by decide +kernel
theorem dDA_useHints_29 : decode c_DA_useHints 29 = .ok (.goto (-26), 3) := by decide +kernel
theorem dDA_useHints_32 : decode c_DA_useHints 32 = .ok (.iload_n 3, 1) := by decide +kernel
theorem dDA_useHints_33 : decode c_DA_useHints 33 = .ok (.istore 5, 2) := by decide +kernel
theorem dDA_useHints_35 : decode c_DA_useHints 35 = .ok (.iload 5, 2) := by decide +kernel
theorem dDA_useHints_37 : decode c_DA_useHints 37 = .ok (.iload 4, 2) := by decide +kernel
theorem dDA_useHints_39 : decode c_DA_useHints 39 = .ok (.if_icmp .ge 37, 3) := by decide +kernel
theorem dDA_useHints_42 : decode c_DA_useHints 42 = .ok (.aload_n 0, 1) := by decide +kernel
theorem dDA_useHints_43 : decode c_DA_useHints 43 = .ok (.getfield 73, 3) := by decide +kernel
theorem dDA_useHints_46 : decode c_DA_useHints 46 = .ok (.iload 5, 2) := by decide +kernel
theorem dDA_useHints_48 : decode c_DA_useHints 48 = .ok (.baload, 1) := by decide +kernel
theorem dDA_useHints_49 : decode c_DA_useHints 49 = .ok (.sipush 255, 3) := by decide +kernel
theorem dDA_useHints_52 : decode c_DA_useHints 52 = .ok (.iand, 1) := by decide +kernel
theorem dDA_useHints_53 : decode c_DA_useHints 53 = .ok (.istore 6, 2) := by decide +kernel
theorem dDA_useHints_55 : decode c_DA_useHints 55 = .ok (.aload_n 0, 1) := by decide +kernel
theorem dDA_useHints_56 : decode c_DA_useHints 56 = .ok (.getfield 57, 3) := by decide +kernel
theorem dDA_useHints_59 : decode c_DA_useHints 59 = .ok (.iload 6, 2) := by decide +kernel
theorem dDA_useHints_61 : decode c_DA_useHints 61 = .ok (.aload_n 1, 1) := by decide +kernel
theorem dDA_useHints_62 : decode c_DA_useHints 62 = .ok (.aload_n 2, 1) := by decide +kernel
theorem dDA_useHints_63 : decode c_DA_useHints 63 = .ok (.iload 6, 2) := by decide +kernel
theorem dDA_useHints_65 : decode c_DA_useHints 65 = .ok (.iaload, 1) := by decide +kernel
theorem dDA_useHints_66 : decode c_DA_useHints 66 = .ok (.invokevirtual 282, 3) := by decide +kernel
theorem dDA_useHints_69 : decode c_DA_useHints 69 = .ok (.iastore, 1) := by decide +kernel
theorem dDA_useHints_70 : decode c_DA_useHints 70 = .ok (.iinc 5 1, 3) := by decide +kernel
theorem dDA_useHints_73 : decode c_DA_useHints 73 = .ok (.goto (-38), 3) := by decide +kernel
theorem dDA_useHints_76 : decode c_DA_useHints 76 = .ok (.return_, 1) := by decide +kernel
abbrev c_DA_rebuildRow : ByteArray := prog_3_method_22_code
abbrev y_DA_rebuildRow : MethodName := ⟨"LatticeKeys$Dsa", "rebuildRow", "(LLatticeKeys$DsaSet;[BI)V"⟩
abbrev w_DA_rebuildRow : List Cond := Cond.code y_DA_rebuildRow c_DA_rebuildRow 5 none :: WG
theorem dDA_rebuildRow_0 : decode c_DA_rebuildRow 0 = .ok (.aload_n 0, 1) := by decide +kernel
theorem dDA_rebuildRow_1 : decode c_DA_rebuildRow 1 = .ok (.aload_n 1, 1) := by decide +kernel
theorem dDA_rebuildRow_2 : decode c_DA_rebuildRow 2 = .ok (.iload_n 3, 1) := by decide +kernel
theorem dDA_rebuildRow_3 : decode c_DA_rebuildRow 3 = .ok (.aload_n 0, 1) := by decide +kernel
theorem dDA_rebuildRow_4 : decode c_DA_rebuildRow 4 = .ok (.getfield 47, 3) := by decide +kernel
theorem dDA_rebuildRow_7 : decode c_DA_rebuildRow 7 = .ok (.invokevirtual 126, 3) := by decide +kernel
theorem dDA_rebuildRow_10 : decode c_DA_rebuildRow 10 = .ok (.aload_n 0, 1) := by decide +kernel
theorem dDA_rebuildRow_11 : decode c_DA_rebuildRow 11 = .ok (.getfield 57, 3) := by decide +kernel
theorem dDA_rebuildRow_14 : decode c_DA_rebuildRow 14 = .ok (.bipush 10, 2) := by decide +kernel
theorem dDA_rebuildRow_16 : decode c_DA_rebuildRow 16 = .ok (.aload_n 2, 1) := by decide +kernel
theorem dDA_rebuildRow_17 : decode c_DA_rebuildRow 17 = .ok (.bipush 32, 2) := by decide +kernel
theorem dDA_rebuildRow_19 : decode c_DA_rebuildRow 19 = .ok (.sipush 320, 3) := by decide +kernel
theorem dDA_rebuildRow_22 : decode c_DA_rebuildRow 22 = .ok (.iload_n 3, 1) := by decide +kernel
theorem dDA_rebuildRow_23 : decode c_DA_rebuildRow 23 = .ok (.imul, 1) := by decide +kernel
theorem dDA_rebuildRow_24 : decode c_DA_rebuildRow 24 = .ok (.iadd, 1) := by decide +kernel
theorem dDA_rebuildRow_25 : decode c_DA_rebuildRow 25 = .ok (.invokestatic 189, 3) := by decide +kernel
theorem dDA_rebuildRow_28 : decode c_DA_rebuildRow 28 = .ok (.iconst 0, 1) := by decide +kernel
theorem dDA_rebuildRow_29 : decode c_DA_rebuildRow 29 = .ok (.istore 4, 2) := by decide +kernel
theorem dDA_rebuildRow_31 : decode c_DA_rebuildRow 31 = .ok (.iload 4, 2) := by decide +kernel
theorem dDA_rebuildRow_33 : decode c_DA_rebuildRow 33 = .ok (.sipush 256, 3) := by decide +kernel
theorem dDA_rebuildRow_36 : decode c_DA_rebuildRow 36 = .ok (.if_icmp .ge 21, 3) := by decide +kernel
theorem dDA_rebuildRow_39 : decode c_DA_rebuildRow 39 = .ok (.aload_n 0, 1) := by decide +kernel
theorem dDA_rebuildRow_40 : decode c_DA_rebuildRow 40 = .ok (.getfield 57, 3) := by decide +kernel
theorem dDA_rebuildRow_43 : decode c_DA_rebuildRow 43 = .ok (.iload 4, 2) := by decide +kernel
theorem dDA_rebuildRow_45 : decode c_DA_rebuildRow 45 = .ok (.dup2, 1) := by decide +kernel
theorem dDA_rebuildRow_46 : decode c_DA_rebuildRow 46 = .ok (.iaload, 1) := by decide +kernel
theorem dDA_rebuildRow_47 : decode c_DA_rebuildRow 47 = .ok (.bipush 13, 2) := by decide +kernel
theorem dDA_rebuildRow_49 : decode c_DA_rebuildRow 49 = .ok (.ishl, 1) := by decide +kernel
theorem dDA_rebuildRow_50 : decode c_DA_rebuildRow 50 = .ok (.iastore, 1) := by decide +kernel
theorem dDA_rebuildRow_51 : decode c_DA_rebuildRow 51 = .ok (.iinc 4 1, 3) := by decide +kernel
theorem dDA_rebuildRow_54 : decode c_DA_rebuildRow 54 = .ok (.goto (-23), 3) := by decide +kernel
theorem dDA_rebuildRow_57 : decode c_DA_rebuildRow 57 = .ok (.aload_n 0, 1) := by decide +kernel
theorem dDA_rebuildRow_58 : decode c_DA_rebuildRow 58 = .ok (.getfield 22, 3) := by decide +kernel
theorem dDA_rebuildRow_61 : decode c_DA_rebuildRow 61 = .ok (.aload_n 0, 1) := by decide +kernel
theorem dDA_rebuildRow_62 : decode c_DA_rebuildRow 62 = .ok (.getfield 57, 3) := by decide +kernel
theorem dDA_rebuildRow_65 : decode c_DA_rebuildRow 65 = .ok (.invokevirtual 119, 3) := by decide +kernel
theorem dDA_rebuildRow_68 : decode c_DA_rebuildRow 68 = .ok (.aload_n 0, 1) := by decide +kernel
theorem dDA_rebuildRow_69 : decode c_DA_rebuildRow 69 = .ok (.getfield 44, 3) := by decide +kernel
theorem dDA_rebuildRow_72 : decode c_DA_rebuildRow 72 = .ok (.iload_n 3, 1) := by decide +kernel
theorem dDA_rebuildRow_73 : decode c_DA_rebuildRow 73 = .ok (.aaload, 1) := by decide +kernel
theorem dDA_rebuildRow_74 : decode c_DA_rebuildRow 74 = .ok (.iconst 0, 1) := by decide +kernel
theorem dDA_rebuildRow_75 : decode c_DA_rebuildRow 75 = .ok (.invokestatic 192, 3) := by decide +kernel
theorem dDA_rebuildRow_78 : decode c_DA_rebuildRow 78 = .ok (.aload_n 0, 1) := by decide +kernel
theorem dDA_rebuildRow_79 : decode c_DA_rebuildRow 79 = .ok (.getfield 22, 3) := by decide +kernel
theorem dDA_rebuildRow_82 : decode c_DA_rebuildRow 82 = .ok (.aload_n 0, 1) := by decide +kernel
theorem dDA_rebuildRow_83 : decode c_DA_rebuildRow 83 = .ok (.getfield 44, 3) := by decide +kernel
theorem dDA_rebuildRow_86 : decode c_DA_rebuildRow 86 = .ok (.iload_n 3, 1) := by decide +kernel
theorem dDA_rebuildRow_87 : decode c_DA_rebuildRow 87 = .ok (.aaload, 1) := by decide +kernel
theorem dDA_rebuildRow_88 : decode c_DA_rebuildRow 88 = .ok (.aload_n 0, 1) := by decide +kernel
theorem dDA_rebuildRow_89 : decode c_DA_rebuildRow 89 = .ok (.getfield 53, 3) := by decide +kernel
theorem dDA_rebuildRow_92 : decode c_DA_rebuildRow 92 = .ok (.aload_n 0, 1) := by decide +kernel
theorem dDA_rebuildRow_93 : decode c_DA_rebuildRow 93 = .ok (.getfield 57, 3) := by decide +kernel
theorem dDA_rebuildRow_96 : decode c_DA_rebuildRow 96 = .ok (.invokevirtual 205, 3) := by decide +kernel
theorem dDA_rebuildRow_99 : decode c_DA_rebuildRow 99 = .ok (.aload_n 0, 1) := by decide +kernel
theorem dDA_rebuildRow_100 : decode c_DA_rebuildRow 100 = .ok (.getfield 22, 3) := by decide +kernel
theorem dDA_rebuildRow_103 : decode c_DA_rebuildRow 103 = .ok (.aload_n 0, 1) := by decide +kernel
theorem dDA_rebuildRow_104 : decode c_DA_rebuildRow 104 = .ok (.getfield 50, 3) := by decide +kernel
theorem dDA_rebuildRow_107 : decode c_DA_rebuildRow 107 = .ok (.iload_n 3, 1) := by decide +kernel
theorem dDA_rebuildRow_108 : decode c_DA_rebuildRow 108 = .ok (.aaload, 1) := by decide +kernel
theorem dDA_rebuildRow_109 : decode c_DA_rebuildRow 109 = .ok (.aload_n 0, 1) := by decide +kernel
theorem dDA_rebuildRow_110 : decode c_DA_rebuildRow 110 = .ok (.getfield 44, 3) := by decide +kernel
theorem dDA_rebuildRow_113 : decode c_DA_rebuildRow 113 = .ok (.iload_n 3, 1) := by decide +kernel
theorem dDA_rebuildRow_114 : decode c_DA_rebuildRow 114 = .ok (.aaload, 1) := by decide +kernel
theorem dDA_rebuildRow_115 : decode c_DA_rebuildRow 115 = .ok (.invokevirtual 243, 3) := by decide +kernel
theorem dDA_rebuildRow_118 : decode c_DA_rebuildRow 118 = .ok (.aload_n 0, 1) := by decide +kernel
theorem dDA_rebuildRow_119 : decode c_DA_rebuildRow 119 = .ok (.getfield 22, 3) := by decide +kernel
theorem dDA_rebuildRow_122 : decode c_DA_rebuildRow 122 = .ok (.aload_n 0, 1) := by decide +kernel
theorem dDA_rebuildRow_123 : decode c_DA_rebuildRow 123 = .ok (.getfield 50, 3) := by decide +kernel
theorem dDA_rebuildRow_126 : decode c_DA_rebuildRow 126 = .ok (.iload_n 3, 1) := by decide +kernel
theorem dDA_rebuildRow_127 : decode c_DA_rebuildRow 127 = .ok (.aaload, 1) := by decide +kernel
theorem dDA_rebuildRow_128 : decode c_DA_rebuildRow 128 = .ok (.invokevirtual 130, 3) := by decide +kernel
theorem dDA_rebuildRow_131 : decode c_DA_rebuildRow 131 = .ok (.return_, 1) := by decide +kernel
abbrev c_DA_challengesAgree : ByteArray := prog_3_method_24_code
abbrev y_DA_challengesAgree : MethodName := ⟨"LatticeKeys$Dsa", "challengesAgree", "(LLatticeKeys$DsaSet;)Z"⟩
abbrev w_DA_challengesAgree : List Cond := Cond.code y_DA_challengesAgree c_DA_challengesAgree 3 (some .boolean) :: WG
theorem dDA_challengesAgree_0 : decode c_DA_challengesAgree 0 = .ok (.iconst 0, 1) := by decide +kernel
theorem dDA_challengesAgree_1 : decode c_DA_challengesAgree 1 = .ok (.istore_n 2, 1) := by decide +kernel
theorem dDA_challengesAgree_2 : decode c_DA_challengesAgree 2 = .ok (.iload_n 2, 1) := by decide +kernel
theorem dDA_challengesAgree_3 : decode c_DA_challengesAgree 3 = .ok (.aload_n 1, 1) := by decide +kernel
theorem dDA_challengesAgree_4 : decode c_DA_challengesAgree 4 = .ok (.getfield 220, 3) := by decide +kernel
theorem dDA_challengesAgree_7 : decode c_DA_challengesAgree 7 = .ok (.if_icmp .ge 26, 3) := by decide +kernel
theorem dDA_challengesAgree_10 : decode c_DA_challengesAgree 10 = .ok (.aload_n 0, 1) := by decide +kernel
theorem dDA_challengesAgree_11 : decode c_DA_challengesAgree 11 = .ok (.getfield 67, 3) := by decide +kernel
theorem dDA_challengesAgree_14 : decode c_DA_challengesAgree 14 = .ok (.iload_n 2, 1) := by decide +kernel
theorem dDA_challengesAgree_15 : decode c_DA_challengesAgree 15 = .ok (.baload, 1) := by decide +kernel
theorem dDA_challengesAgree_16 : decode c_DA_challengesAgree 16 = .ok (.aload_n 0, 1) := by decide +kernel
theorem dDA_challengesAgree_17 : decode c_DA_challengesAgree 17 = .ok (.getfield 70, 3) := by decide +kernel
theorem dDA_challengesAgree_20 : decode c_DA_challengesAgree 20 = .ok (.iload_n 2, 1) := by decide +kernel
theorem dDA_challengesAgree_21 : decode c_DA_challengesAgree 21 = .ok (.baload, 1) := by decide +kernel
theorem dDA_challengesAgree_22 : decode c_DA_challengesAgree 22 = .ok (.if_icmp .eq 5, 3) := by decide +kernel
theorem dDA_challengesAgree_25 : decode c_DA_challengesAgree 25 = .ok (.iconst 0, 1) := by decide +kernel
theorem dDA_challengesAgree_26 : decode c_DA_challengesAgree 26 = .ok (.ireturn, 1) := by decide +kernel
theorem dDA_challengesAgree_27 : decode c_DA_challengesAgree 27 = .ok (.iinc 2 1, 3) := by decide +kernel
theorem dDA_challengesAgree_30 : decode c_DA_challengesAgree 30 = .ok (.goto (-28), 3) := by decide +kernel
theorem dDA_challengesAgree_33 : decode c_DA_challengesAgree 33 = .ok (.iconst 1, 1) := by decide +kernel
theorem dDA_challengesAgree_34 : decode c_DA_challengesAgree 34 = .ok (.ireturn, 1) := by decide +kernel
def M_DA_hintsAreInForm_0 (k : Nat) : Prop := (0 : Nat) = 1
noncomputable def F_DA_hintsAreInForm_0_L2 (i21 : Nat) (z21 : Nat) (kk : Nat → Nat → Sto → Int32 × Sto) : Nat → Nat → Sto → Int32 × Sto
  | 0, kx21, s23 => kk (i21 + 1) z21 s23
  | n23 + 1, kx21, s23 => if ((s23.1 146 (kx21 - 1)) &&& (nI 255)) < ((s23.1 146 kx21) &&& (nI 255)) then F_DA_hintsAreInForm_0_L2 i21 z21 kk n23 (kx21 + 1) s23 else (nI 0, s23)
noncomputable def F_DA_hintsAreInForm_0_L1 : Nat → Nat → Sto → Int32 × Sto
  | 0, i22, s22 => (nI 1, s22)
  | n22 + 1, i22, s22 => if (s22.1 146 i22) = 0 then F_DA_hintsAreInForm_0_L1  n22 (i22 + 1) s22 else (nI 0, s22)
noncomputable def F_DA_hintsAreInForm_0_L0 : Nat → Nat → Nat → Sto → Int32 × Sto
  | 0, i21, fs21, s21 => F_DA_hintsAreInForm_0_L1 (80 - fs21) fs21 s21
  | n21 + 1, i21, fs21, s21 => bnd (((s21.1 146 (80 + i21)) &&& nI 255).toNatClampNeg) fun z21 => if z21 < fs21 then (nI 0, s21) else if z21 ≤ 80 then F_DA_hintsAreInForm_0_L2 i21 z21 (F_DA_hintsAreInForm_0_L0  n21) (z21 - (fs21 + 1)) (fs21 + 1) s21 else (nI 0, s21)
noncomputable def F_DA_hintsAreInForm_0 (s : Sto) : Int32 × Sto := F_DA_hintsAreInForm_0_L0 4 0 0 s
set_option maxHeartbeats 8000000 in
set_option maxRecDepth 100000 in
theorem N_DA_hintsAreInForm_0 (l : Launch) (g : Gd) (sz : Nat) (T : TyN) (s : Sto) (pl : va_W) (hO : okn g T s pl) (hU : inj T) (h0 st : Nat) (k_h0 : T h0 = some 39) (k_st : T st = some 9)  : Met l y_DA_hintsAreInForm w_DA_hintsAreInForm ({ frames := 0, cells := 0, slots := 0, locals := 0 } : Room) (va_Pc [.ref h0, .ref st] (pr (en g) g.1 vcl sz ([] ++ pl))) (va_Qi (fun (r : Int32) (u : (Int32 × Sto) × va_W) => (u.1 = F_DA_hintsAreInForm_0 s ∧ r = u.1.1 ∧ frm (M_DA_hintsAreInForm_0) s u.1.2 ∧ (u.1.1 = nI 0 ∨ hgN 80 4 (u.1.2.1 146)) ∧ True) ∧ okn g T u.1.2 u.2) (po g.1 vcl (va_A ([] ++ pl) sz) (fun (u : (Int32 × Sto) × va_W) => [] ++ u.2)) (va_A ([] ++ pl) sz)) 0 0 (va_A ([] ++ pl) sz) := by
  refine mc_entry (cc := c_DA_hintsAreInForm) (maxL := 6) (ret := (some .boolean)) (by decide) rfl (Nat.le_of_ble_eq_true rfl) ?_
  intro p e s0 m args below meth c ls F hr hlk hnm hsz hP hD hE hA hl
  obtain ⟨hx, hb, hml, hown, hts⟩ := id F
  have hK := hE.1
  generalize va_A ([] ++ pl) sz = A at hD hE hA ⊢
  have hS : va_S A s0.heap s0.heap [] := va_S.rf
  have hl : lv_has ls 6 [(0, .ref h0), (1, .ref st)] := hl
  have hR : F_DA_hintsAreInForm_0 s = F_DA_hintsAreInForm_0 s := rfl
  have hF : frm (M_DA_hintsAreInForm_0) s s := frm_rf
  refine lv_iconst (v := nI 0) hx hb dDA_hintsAreInForm_0 (by decide) ?_
  refine lv_istore_n (lv' := [(2, .int (nI 0)), (0, .ref h0), (1, .ref st)]) hx hb dDA_hintsAreInForm_1 rfl hl (by decide) rfl (fun ls hl => ?_)
  refine lv_iconst (v := nI 0) hx hb dDA_hintsAreInForm_2 (by decide) ?_
  refine lv_istore_n (lv' := [(3, .int (nI 0)), (2, .int (nI 0)), (0, .ref h0), (1, .ref st)]) hx hb dDA_hintsAreInForm_3 rfl hl (by decide) rfl (fun ls hl => ?_)
  have lp21 : ∀ (n21 : Nat) (i21 : Nat) (fs21 : Nat) (s21 : Sto) (pl : va_W) (ls : Array Slot) (H : Heap) (locs : List Loc), n21 + i21 = 4 → (fs21 ≤ 80) → frm (M_DA_hintsAreInForm_0) s s21 → (hgN 80 i21 (s.1 146)) → F_DA_hintsAreInForm_0 s = F_DA_hintsAreInForm_0_L0 n21 i21 fs21 s21 → lv_has ls 6 [(3, .int (nI i21)), (2, .int (nI fs21)), (0, .ref h0), (1, .ref st)] → okn g T s21 pl → va_P g.1 vcl ([] ++ pl) H → va_D A ([] ++ pl) → va_S A s0.heap H locs → W p l e ({ frames := 0, cells := 0, slots := 0, locals := 0 } : Room) s0 m args below meth c H locs 0 0 (MQ below (va_Qi (fun (r : Int32) (u : (Int32 × Sto) × va_W) => (u.1 = F_DA_hintsAreInForm_0 s ∧ r = u.1.1 ∧ frm (M_DA_hintsAreInForm_0) s u.1.2 ∧ (u.1.1 = nI 0 ∨ hgN 80 4 (u.1.2.1 146)) ∧ True) ∧ okn g T u.1.2 u.2) (po g.1 vcl A (fun (u : (Int32 × Sto) × va_W) => [] ++ u.2)) A) args s0 0 0 A) (F0 m 4 ls []) := by
    intro n21
    induction n21 with
    | zero =>
      intro i21 fs21 s21 pl ls H locs hm21 hi21 hF hgd hR hl hO hP hD hS
      refine lv_iload_n hx hb dDA_hintsAreInForm_4 rfl (lv_at hl 0 rfl) ?_
      refine lv_aload_n hx hb dDA_hintsAreInForm_5 rfl (lv_at hl 3 rfl) ?_
      refine nw_get (C := "LatticeKeys$DsaSet") (TT := T_DS) (N := 17) hx hb hts (wg_ft i_DS) hown hK hO k_st (kn := 9) (ci := 2) (fl := [(1, 4), (1, 4), (1, 2), (1, 3), (1, 39), (1, 32), (1, 18), (1, 131072), (1, 44), (1, 6), (1, 95232), (1, 80), (1, 78), (1, 1312), (1, 2560), (1, 2336), (1, 2420)]) rfl hP rfl 0 (by decide) (hts _ (wg_t kw_302)) (fun _ h9 => h9) (cd := (1, 4)) rfl dDA_hintsAreInForm_6 (fun v21 hv21 => ?_)
      obtain rfl := (show v21 = .int (nI 4) from hv21)
      refine mi_ge (tgt := 102) hx hb dDA_hintsAreInForm_9 (by decide) (by omega) (by omega) (fun h21 => ?_) (fun h21 => absurd h21 (by omega))
      refine lv_iload_n hx hb dDA_hintsAreInForm_102 rfl (lv_at hl 1 rfl) ?_
      refine lv_istore_n (lv' := [(3, .int (nI fs21)), (2, .int (nI fs21)), (0, .ref h0), (1, .ref st)]) hx hb dDA_hintsAreInForm_103 rfl hl (by decide) rfl (fun ls hl => ?_)
      have lp22 : ∀ (n22 : Nat) (i22 : Nat) (s22 : Sto) (pl : va_W) (ls : Array Slot) (H : Heap) (locs : List Loc), n22 + i22 = 80 → (fs21 ≤ i22) → frm (M_DA_hintsAreInForm_0) s s22 → F_DA_hintsAreInForm_0 s = F_DA_hintsAreInForm_0_L1 n22 i22 s22 → lv_has ls 6 [(3, .int (nI i22)), (0, .ref h0), (1, .ref st)] → okn g T s22 pl → va_P g.1 vcl ([] ++ pl) H → va_D A ([] ++ pl) → va_S A s0.heap H locs → W p l e ({ frames := 0, cells := 0, slots := 0, locals := 0 } : Room) s0 m args below meth c H locs 0 0 (MQ below (va_Qi (fun (r : Int32) (u : (Int32 × Sto) × va_W) => (u.1 = F_DA_hintsAreInForm_0 s ∧ r = u.1.1 ∧ frm (M_DA_hintsAreInForm_0) s u.1.2 ∧ (u.1.1 = nI 0 ∨ hgN 80 4 (u.1.2.1 146)) ∧ True) ∧ okn g T u.1.2 u.2) (po g.1 vcl A (fun (u : (Int32 × Sto) × va_W) => [] ++ u.2)) A) args s0 0 0 A) (F0 m 104 ls []) := by
        intro n22
        induction n22 with
        | zero =>
          intro i22 s22 pl ls H locs hm22 hi22 hF hR hl hO hP hD hS
          refine lv_iload_n hx hb dDA_hintsAreInForm_104 rfl (lv_at hl 0 rfl) ?_
          refine lv_aload_n hx hb dDA_hintsAreInForm_105 rfl (lv_at hl 2 rfl) ?_
          refine nw_get (C := "LatticeKeys$DsaSet") (TT := T_DS) (N := 17) hx hb hts (wg_ft i_DS) hown hK hO k_st (kn := 9) (ci := 2) (fl := [(1, 4), (1, 4), (1, 2), (1, 3), (1, 39), (1, 32), (1, 18), (1, 131072), (1, 44), (1, 6), (1, 95232), (1, 80), (1, 78), (1, 1312), (1, 2560), (1, 2336), (1, 2420)]) rfl hP rfl 11 (by decide) (hts _ (wg_t kw_327)) (fun _ h9 => h9) (cd := (1, 80)) rfl dDA_hintsAreInForm_106 (fun v22 hv22 => ?_)
          obtain rfl := (show v22 = .int (nI 80) from hv22)
          refine mi_ge (tgt := 129) hx hb dDA_hintsAreInForm_109 (by decide) (by omega) (by omega) (fun h22 => ?_) (fun h22 => absurd h22 (by omega))
          refine lv_iconst (v := nI 1) hx hb dDA_hintsAreInForm_129 (by decide) ?_
          exact mp_zret hx hb hr hlk rfl hP hD hS ((nI 1, s22), pl) ⟨⟨hR.symm, rfl, hF, (Or.inr (by rw [hF 146 (by unfold M_DA_hintsAreInForm_0; omega)]; exact hgN_at hgd (by omega))), trivial⟩, hO⟩ [] rfl rfl rfl (by omega) (by omega) dDA_hintsAreInForm_130
        | succ n22 ih22 =>
          intro i22 s22 pl ls H locs hm22 hi22 hF hR hl hO hP hD hS
          refine lv_iload_n hx hb dDA_hintsAreInForm_104 rfl (lv_at hl 0 rfl) ?_
          refine lv_aload_n hx hb dDA_hintsAreInForm_105 rfl (lv_at hl 2 rfl) ?_
          refine nw_get (C := "LatticeKeys$DsaSet") (TT := T_DS) (N := 17) hx hb hts (wg_ft i_DS) hown hK hO k_st (kn := 9) (ci := 2) (fl := [(1, 4), (1, 4), (1, 2), (1, 3), (1, 39), (1, 32), (1, 18), (1, 131072), (1, 44), (1, 6), (1, 95232), (1, 80), (1, 78), (1, 1312), (1, 2560), (1, 2336), (1, 2420)]) rfl hP rfl 11 (by decide) (hts _ (wg_t kw_327)) (fun _ h9 => h9) (cd := (1, 80)) rfl dDA_hintsAreInForm_106 (fun v23 hv23 => ?_)
          obtain rfl := (show v23 = .int (nI 80) from hv23)
          refine mi_ge (tgt := 129) hx hb dDA_hintsAreInForm_109 (by decide) (by omega) (by omega) (fun h23 => absurd h23 (by omega)) (fun h23 => ?_)
          refine lv_aload_n hx hb dDA_hintsAreInForm_112 rfl (lv_at hl 1 rfl) ?_
          refine nw_get (C := "LatticeKeys$Dsa") (TT := T_DA) (N := 17) hx hb hts (wg_ft i_DA) hown hK hO k_h0 (kn := 39) (ci := 6) (fl := [(3, 16), (3, 22), (3, 37), (3, 40), (3, 97), (3, 105), (3, 114), (3, 123), (3, 131), (3, 140), (3, 141), (3, 142), (3, 143), (3, 144), (3, 145), (3, 146), (3, 147)]) rfl hP rfl 15 (by decide) (hts _ (wg_t kw_180)) (fun _ h9 => h9) (cd := (3, 146)) rfl dDA_hintsAreInForm_113 (fun v24 hv24 => ?_)
          obtain ⟨r21, rfl, kr21⟩ := (show ∃ r : Nat, v24 = .ref r ∧ T r = some 146 from hv24)
          refine lv_iload_n hx hb dDA_hintsAreInForm_116 rfl (lv_at hl 0 rfl) ?_
          refine nw_bald hx hb hK hO kr21 (k := 146) rfl hP (by omega) (by omega) dDA_hintsAreInForm_117 ?_
          refine lv_if_eq (tgt := 123) hx hb dDA_hintsAreInForm_118 (by decide) (fun h24 => ?_) (fun h24 => ?_)
          · replace hR := hR.trans (if_pos h24)
            refine mi_iinc (k := 0) (x := i22) (d := 1) (y := i22 + 1) (lv' := [(3, .int (nI (i22 + 1))), (0, .ref h0), (1, .ref st)]) hx hb dDA_hintsAreInForm_123 hl rfl (by decide) rfl (by decide) rfl (fun ls hl => ?_)
            refine lv_goto (tgt := 104) hx hb dDA_hintsAreInForm_126 (by decide) ?_
            exact ih22 (i22 + 1) s22 pl ls H locs (by omega) (by omega) hF hR (lv_sub hl [0, 1, 2] rfl) hO hP hD hS
          · replace hR := hR.trans (if_neg h24)
            refine lv_iconst (v := nI 0) hx hb dDA_hintsAreInForm_121 (by decide) ?_
            exact mp_zret hx hb hr hlk rfl hP hD hS ((nI 0, s22), pl) ⟨⟨hR.symm, rfl, hF, (Or.inl rfl), trivial⟩, hO⟩ [] rfl rfl rfl (by omega) (by omega) dDA_hintsAreInForm_122
      exact lp22 (80 - fs21) fs21 s21 pl ls _ _ (by omega) (by omega) hF hR (lv_sub hl [0, 2, 3] rfl) hO hP hD hS
    | succ n21 ih21 =>
      intro i21 fs21 s21 pl ls H locs hm21 hi21 hF hgd hR hl hO hP hD hS
      refine lv_iload_n hx hb dDA_hintsAreInForm_4 rfl (lv_at hl 0 rfl) ?_
      refine lv_aload_n hx hb dDA_hintsAreInForm_5 rfl (lv_at hl 3 rfl) ?_
      refine nw_get (C := "LatticeKeys$DsaSet") (TT := T_DS) (N := 17) hx hb hts (wg_ft i_DS) hown hK hO k_st (kn := 9) (ci := 2) (fl := [(1, 4), (1, 4), (1, 2), (1, 3), (1, 39), (1, 32), (1, 18), (1, 131072), (1, 44), (1, 6), (1, 95232), (1, 80), (1, 78), (1, 1312), (1, 2560), (1, 2336), (1, 2420)]) rfl hP rfl 0 (by decide) (hts _ (wg_t kw_302)) (fun _ h9 => h9) (cd := (1, 4)) rfl dDA_hintsAreInForm_6 (fun v25 hv25 => ?_)
      obtain rfl := (show v25 = .int (nI 4) from hv25)
      refine mi_ge (tgt := 102) hx hb dDA_hintsAreInForm_9 (by decide) (by omega) (by omega) (fun h25 => absurd h25 (by omega)) (fun h25 => ?_)
      refine lv_aload_n hx hb dDA_hintsAreInForm_12 rfl (lv_at hl 2 rfl) ?_
      refine nw_get (C := "LatticeKeys$Dsa") (TT := T_DA) (N := 17) hx hb hts (wg_ft i_DA) hown hK hO k_h0 (kn := 39) (ci := 6) (fl := [(3, 16), (3, 22), (3, 37), (3, 40), (3, 97), (3, 105), (3, 114), (3, 123), (3, 131), (3, 140), (3, 141), (3, 142), (3, 143), (3, 144), (3, 145), (3, 146), (3, 147)]) rfl hP rfl 15 (by decide) (hts _ (wg_t kw_180)) (fun _ h9 => h9) (cd := (3, 146)) rfl dDA_hintsAreInForm_13 (fun v26 hv26 => ?_)
      obtain ⟨r22, rfl, kr22⟩ := (show ∃ r : Nat, v26 = .ref r ∧ T r = some 146 from hv26)
      refine lv_aload_n hx hb dDA_hintsAreInForm_16 rfl (lv_at hl 3 rfl) ?_
      refine nw_get (C := "LatticeKeys$DsaSet") (TT := T_DS) (N := 17) hx hb hts (wg_ft i_DS) hown hK hO k_st (kn := 9) (ci := 2) (fl := [(1, 4), (1, 4), (1, 2), (1, 3), (1, 39), (1, 32), (1, 18), (1, 131072), (1, 44), (1, 6), (1, 95232), (1, 80), (1, 78), (1, 1312), (1, 2560), (1, 2336), (1, 2420)]) rfl hP rfl 11 (by decide) (hts _ (wg_t kw_327)) (fun _ h9 => h9) (cd := (1, 80)) rfl dDA_hintsAreInForm_17 (fun v27 hv27 => ?_)
      obtain rfl := (show v27 = .int (nI 80) from hv27)
      refine lv_iload_n hx hb dDA_hintsAreInForm_20 rfl (lv_at hl 0 rfl) ?_
      refine mi_iadd hx hb dDA_hintsAreInForm_21 ?_
      refine nw_bald hx hb hK hO kr22 (k := 146) rfl hP (by omega) (by omega) dDA_hintsAreInForm_22 ?_
      refine lv_sipush (v := nI 255) hx hb dDA_hintsAreInForm_23 (by decide) ?_
      refine mi_iandT hx hb 8 dDA_hintsAreInForm_26 (by decide) (by decide) (fun z21 ez21 hz21 => ?_)
      have hz21 : z21 < 256 := hz21
      replace hR := bnd_step hR ez21
      have hFx := hF 146 (by unfold M_DA_hintsAreInForm_0; omega)
      refine lv_istore (lv' := [(4, .int (nI z21)), (3, .int (nI i21)), (2, .int (nI fs21)), (0, .ref h0), (1, .ref st)]) hx hb dDA_hintsAreInForm_27 hl (by decide) rfl (fun ls hl => ?_)
      refine lv_iload hx hb dDA_hintsAreInForm_29 (lv_at hl 0 rfl) ?_
      refine lv_iload_n hx hb dDA_hintsAreInForm_31 rfl (lv_at hl 2 rfl) ?_
      refine mi_lt (tgt := 44) hx hb dDA_hintsAreInForm_32 (by decide) (by omega) (by omega) (fun h26 => ?_) (fun h26 => ?_)
      · replace hR := hR.trans (if_pos h26)
        refine lv_iconst (v := nI 0) hx hb dDA_hintsAreInForm_44 (by decide) ?_
        exact mp_zret hx hb hr hlk rfl hP hD hS ((nI 0, s21), pl) ⟨⟨hR.symm, rfl, hF, (Or.inl rfl), trivial⟩, hO⟩ [] rfl rfl rfl (by omega) (by omega) dDA_hintsAreInForm_45
      · replace hR := hR.trans (if_neg (Nat.not_lt.mpr h26))
        refine lv_iload hx hb dDA_hintsAreInForm_35 (lv_at hl 0 rfl) ?_
        refine lv_aload_n hx hb dDA_hintsAreInForm_37 rfl (lv_at hl 4 rfl) ?_
        refine nw_get (C := "LatticeKeys$DsaSet") (TT := T_DS) (N := 17) hx hb hts (wg_ft i_DS) hown hK hO k_st (kn := 9) (ci := 2) (fl := [(1, 4), (1, 4), (1, 2), (1, 3), (1, 39), (1, 32), (1, 18), (1, 131072), (1, 44), (1, 6), (1, 95232), (1, 80), (1, 78), (1, 1312), (1, 2560), (1, 2336), (1, 2420)]) rfl hP rfl 11 (by decide) (hts _ (wg_t kw_327)) (fun _ h9 => h9) (cd := (1, 80)) rfl dDA_hintsAreInForm_38 (fun v28 hv28 => ?_)
        obtain rfl := (show v28 = .int (nI 80) from hv28)
        refine mi_le (tgt := 46) hx hb dDA_hintsAreInForm_41 (by decide) (by omega) (by omega) (fun h27 => ?_) (fun h27 => ?_)
        · replace hR := hR.trans (if_pos h27)
          refine lv_iload_n hx hb dDA_hintsAreInForm_46 rfl (lv_at hl 2 rfl) ?_
          refine lv_iconst (v := nI 1) hx hb dDA_hintsAreInForm_47 (by decide) ?_
          refine mi_iadd hx hb dDA_hintsAreInForm_48 ?_
          refine lv_istore (lv' := [(5, .int (nI (fs21 + 1))), (4, .int (nI z21)), (3, .int (nI i21)), (2, .int (nI fs21)), (0, .ref h0), (1, .ref st)]) hx hb dDA_hintsAreInForm_49 hl (by decide) rfl (fun ls hl => ?_)
          have lp23 : ∀ (n23 : Nat) (kx21 : Nat) (s23 : Sto) (pl : va_W) (ls : Array Slot) (H : Heap) (locs : List Loc), n23 = z21 - kx21 → (1 ≤ kx21) → (kx21 ≤ 85) → frm (M_DA_hintsAreInForm_0) s s23 → F_DA_hintsAreInForm_0 s = F_DA_hintsAreInForm_0_L2 i21 z21 (F_DA_hintsAreInForm_0_L0 n21) n23 kx21 s23 → lv_has ls 6 [(5, .int (nI kx21)), (4, .int (nI z21)), (3, .int (nI i21)), (0, .ref h0), (1, .ref st)] → okn g T s23 pl → va_P g.1 vcl ([] ++ pl) H → va_D A ([] ++ pl) → va_S A s0.heap H locs → W p l e ({ frames := 0, cells := 0, slots := 0, locals := 0 } : Room) s0 m args below meth c H locs 0 0 (MQ below (va_Qi (fun (r : Int32) (u : (Int32 × Sto) × va_W) => (u.1 = F_DA_hintsAreInForm_0 s ∧ r = u.1.1 ∧ frm (M_DA_hintsAreInForm_0) s u.1.2 ∧ (u.1.1 = nI 0 ∨ hgN 80 4 (u.1.2.1 146)) ∧ True) ∧ okn g T u.1.2 u.2) (po g.1 vcl A (fun (u : (Int32 × Sto) × va_W) => [] ++ u.2)) A) args s0 0 0 A) (F0 m 51 ls []) := by
            intro n23
            induction n23 with
            | zero =>
              intro kx21 s23 pl ls H locs hm23 hi23 hi24 hF hR hl hO hP hD hS
              refine lv_iload hx hb dDA_hintsAreInForm_51 (lv_at hl 0 rfl) ?_
              refine lv_iload hx hb dDA_hintsAreInForm_53 (lv_at hl 1 rfl) ?_
              refine mi_ge (tgt := 93) hx hb dDA_hintsAreInForm_55 (by decide) (by omega) (by omega) (fun h28 => ?_) (fun h28 => absurd h28 (by omega))
              refine lv_iload hx hb dDA_hintsAreInForm_93 (lv_at hl 1 rfl) ?_
              refine lv_istore_n (lv' := [(2, .int (nI z21)), (5, .int (nI kx21)), (4, .int (nI z21)), (3, .int (nI i21)), (0, .ref h0), (1, .ref st)]) hx hb dDA_hintsAreInForm_95 rfl hl (by decide) rfl (fun ls hl => ?_)
              refine mi_iinc (k := 3) (x := i21) (d := 1) (y := i21 + 1) (lv' := [(3, .int (nI (i21 + 1))), (2, .int (nI z21)), (5, .int (nI kx21)), (4, .int (nI z21)), (0, .ref h0), (1, .ref st)]) hx hb dDA_hintsAreInForm_96 hl rfl (by decide) rfl (by decide) rfl (fun ls hl => ?_)
              refine lv_goto (tgt := 4) hx hb dDA_hintsAreInForm_99 (by decide) ?_
              exact ih21 (i21 + 1) z21 s23 pl ls H locs (by omega) (by omega) hF (hgN_step hgd (by rw [← hFx, ← ez21]; omega)) hR (lv_sub hl [0, 1, 4, 5] rfl) hO hP hD hS
            | succ n23 ih23 =>
              intro kx21 s23 pl ls H locs hm23 hi23 hi24 hF hR hl hO hP hD hS
              refine lv_iload hx hb dDA_hintsAreInForm_51 (lv_at hl 0 rfl) ?_
              refine lv_iload hx hb dDA_hintsAreInForm_53 (lv_at hl 1 rfl) ?_
              refine mi_ge (tgt := 93) hx hb dDA_hintsAreInForm_55 (by decide) (by omega) (by omega) (fun h29 => absurd h29 (by omega)) (fun h29 => ?_)
              refine lv_aload_n hx hb dDA_hintsAreInForm_58 rfl (lv_at hl 3 rfl) ?_
              refine nw_get (C := "LatticeKeys$Dsa") (TT := T_DA) (N := 17) hx hb hts (wg_ft i_DA) hown hK hO k_h0 (kn := 39) (ci := 6) (fl := [(3, 16), (3, 22), (3, 37), (3, 40), (3, 97), (3, 105), (3, 114), (3, 123), (3, 131), (3, 140), (3, 141), (3, 142), (3, 143), (3, 144), (3, 145), (3, 146), (3, 147)]) rfl hP rfl 15 (by decide) (hts _ (wg_t kw_180)) (fun _ h9 => h9) (cd := (3, 146)) rfl dDA_hintsAreInForm_59 (fun v29 hv29 => ?_)
              obtain ⟨r23, rfl, kr23⟩ := (show ∃ r : Nat, v29 = .ref r ∧ T r = some 146 from hv29)
              refine lv_iload hx hb dDA_hintsAreInForm_62 (lv_at hl 0 rfl) ?_
              refine lv_iconst (v := nI 1) hx hb dDA_hintsAreInForm_64 (by decide) ?_
              refine mi_isub hx hb dDA_hintsAreInForm_65 (by omega) ?_
              refine nw_bald hx hb hK hO kr23 (k := 146) rfl hP (by omega) (by omega) dDA_hintsAreInForm_66 ?_
              refine lv_sipush (v := nI 255) hx hb dDA_hintsAreInForm_67 (by decide) ?_
              refine lv_iand hx hb dDA_hintsAreInForm_70 ?_
              refine lv_aload_n hx hb dDA_hintsAreInForm_71 rfl (lv_at hl 3 rfl) ?_
              refine nw_get (C := "LatticeKeys$Dsa") (TT := T_DA) (N := 17) hx hb hts (wg_ft i_DA) hown hK hO k_h0 (kn := 39) (ci := 6) (fl := [(3, 16), (3, 22), (3, 37), (3, 40), (3, 97), (3, 105), (3, 114), (3, 123), (3, 131), (3, 140), (3, 141), (3, 142), (3, 143), (3, 144), (3, 145), (3, 146), (3, 147)]) rfl hP rfl 15 (by decide) (hts _ (wg_t kw_180)) (fun _ h9 => h9) (cd := (3, 146)) rfl dDA_hintsAreInForm_72 (fun v30 hv30 => ?_)
              obtain ⟨r24, rfl, kr24⟩ := (show ∃ r : Nat, v30 = .ref r ∧ T r = some 146 from hv30)
              refine lv_iload hx hb dDA_hintsAreInForm_75 (lv_at hl 0 rfl) ?_
              refine nw_bald hx hb hK hO kr24 (k := 146) rfl hP (by omega) (by omega) dDA_hintsAreInForm_77 ?_
              refine lv_sipush (v := nI 255) hx hb dDA_hintsAreInForm_78 (by decide) ?_
              refine lv_iand hx hb dDA_hintsAreInForm_81 ?_
              refine lv_icmp_lt (tgt := 87) hx hb dDA_hintsAreInForm_82 (by decide) (fun h30 => ?_) (fun h30 => ?_)
              · replace hR := hR.trans (if_pos h30)
                refine mi_iinc (k := 0) (x := kx21) (d := 1) (y := kx21 + 1) (lv' := [(5, .int (nI (kx21 + 1))), (4, .int (nI z21)), (3, .int (nI i21)), (0, .ref h0), (1, .ref st)]) hx hb dDA_hintsAreInForm_87 hl rfl (by decide) rfl (by decide) rfl (fun ls hl => ?_)
                refine lv_goto (tgt := 51) hx hb dDA_hintsAreInForm_90 (by decide) ?_
                exact ih23 (kx21 + 1) s23 pl ls H locs (by omega) (by omega) (by omega) hF hR (lv_sub hl [0, 1, 2, 3, 4] rfl) hO hP hD hS
              · replace hR := hR.trans (if_neg h30)
                refine lv_iconst (v := nI 0) hx hb dDA_hintsAreInForm_85 (by decide) ?_
                exact mp_zret hx hb hr hlk rfl hP hD hS ((nI 0, s23), pl) ⟨⟨hR.symm, rfl, hF, (Or.inl rfl), trivial⟩, hO⟩ [] rfl rfl rfl (by omega) (by omega) dDA_hintsAreInForm_86
          exact lp23 (z21 - (fs21 + 1)) (fs21 + 1) s21 pl ls _ _ (by omega) (by omega) (by omega) hF hR (lv_sub hl [0, 1, 2, 4, 5] rfl) hO hP hD hS
        · replace hR := hR.trans (if_neg (Nat.not_le.mpr h27))
          refine lv_iconst (v := nI 0) hx hb dDA_hintsAreInForm_44 (by decide) ?_
          exact mp_zret hx hb hr hlk rfl hP hD hS ((nI 0, s21), pl) ⟨⟨hR.symm, rfl, hF, (Or.inl rfl), trivial⟩, hO⟩ [] rfl rfl rfl (by omega) (by omega) dDA_hintsAreInForm_45
  exact lp21 4 0 0 s pl ls _ _ (by omega) (by omega) hF (fun _ h9 => absurd h9 (Nat.not_lt_zero _)) hR (lv_sub hl [0, 1, 2, 3] rfl) hO hP hD hS
def M_DA_hintsAreInForm_1 (k : Nat) : Prop := (0 : Nat) = 1
noncomputable def F_DA_hintsAreInForm_1_L2 (i21 : Nat) (z21 : Nat) (kk : Nat → Nat → Sto → Int32 × Sto) : Nat → Nat → Sto → Int32 × Sto
  | 0, kx21, s23 => kk (i21 + 1) z21 s23
  | n23 + 1, kx21, s23 => if ((s23.1 146 (kx21 - 1)) &&& (nI 255)) < ((s23.1 146 kx21) &&& (nI 255)) then F_DA_hintsAreInForm_1_L2 i21 z21 kk n23 (kx21 + 1) s23 else (nI 0, s23)
noncomputable def F_DA_hintsAreInForm_1_L1 : Nat → Nat → Sto → Int32 × Sto
  | 0, i22, s22 => (nI 1, s22)
  | n22 + 1, i22, s22 => if (s22.1 146 i22) = 0 then F_DA_hintsAreInForm_1_L1  n22 (i22 + 1) s22 else (nI 0, s22)
noncomputable def F_DA_hintsAreInForm_1_L0 : Nat → Nat → Nat → Sto → Int32 × Sto
  | 0, i21, fs21, s21 => F_DA_hintsAreInForm_1_L1 (55 - fs21) fs21 s21
  | n21 + 1, i21, fs21, s21 => bnd (((s21.1 146 (55 + i21)) &&& nI 255).toNatClampNeg) fun z21 => if z21 < fs21 then (nI 0, s21) else if z21 ≤ 55 then F_DA_hintsAreInForm_1_L2 i21 z21 (F_DA_hintsAreInForm_1_L0  n21) (z21 - (fs21 + 1)) (fs21 + 1) s21 else (nI 0, s21)
noncomputable def F_DA_hintsAreInForm_1 (s : Sto) : Int32 × Sto := F_DA_hintsAreInForm_1_L0 6 0 0 s
set_option maxHeartbeats 8000000 in
set_option maxRecDepth 100000 in
theorem N_DA_hintsAreInForm_1 (l : Launch) (g : Gd) (sz : Nat) (T : TyN) (s : Sto) (pl : va_W) (hO : okn g T s pl) (hU : inj T) (h0 st : Nat) (k_h0 : T h0 = some 39) (k_st : T st = some 10)  : Met l y_DA_hintsAreInForm w_DA_hintsAreInForm ({ frames := 0, cells := 0, slots := 0, locals := 0 } : Room) (va_Pc [.ref h0, .ref st] (pr (en g) g.1 vcl sz ([] ++ pl))) (va_Qi (fun (r : Int32) (u : (Int32 × Sto) × va_W) => (u.1 = F_DA_hintsAreInForm_1 s ∧ r = u.1.1 ∧ frm (M_DA_hintsAreInForm_1) s u.1.2 ∧ (u.1.1 = nI 0 ∨ hgN 55 6 (u.1.2.1 146)) ∧ True) ∧ okn g T u.1.2 u.2) (po g.1 vcl (va_A ([] ++ pl) sz) (fun (u : (Int32 × Sto) × va_W) => [] ++ u.2)) (va_A ([] ++ pl) sz)) 0 0 (va_A ([] ++ pl) sz) := by
  refine mc_entry (cc := c_DA_hintsAreInForm) (maxL := 6) (ret := (some .boolean)) (by decide) rfl (Nat.le_of_ble_eq_true rfl) ?_
  intro p e s0 m args below meth c ls F hr hlk hnm hsz hP hD hE hA hl
  obtain ⟨hx, hb, hml, hown, hts⟩ := id F
  have hK := hE.1
  generalize va_A ([] ++ pl) sz = A at hD hE hA ⊢
  have hS : va_S A s0.heap s0.heap [] := va_S.rf
  have hl : lv_has ls 6 [(0, .ref h0), (1, .ref st)] := hl
  have hR : F_DA_hintsAreInForm_1 s = F_DA_hintsAreInForm_1 s := rfl
  have hF : frm (M_DA_hintsAreInForm_1) s s := frm_rf
  refine lv_iconst (v := nI 0) hx hb dDA_hintsAreInForm_0 (by decide) ?_
  refine lv_istore_n (lv' := [(2, .int (nI 0)), (0, .ref h0), (1, .ref st)]) hx hb dDA_hintsAreInForm_1 rfl hl (by decide) rfl (fun ls hl => ?_)
  refine lv_iconst (v := nI 0) hx hb dDA_hintsAreInForm_2 (by decide) ?_
  refine lv_istore_n (lv' := [(3, .int (nI 0)), (2, .int (nI 0)), (0, .ref h0), (1, .ref st)]) hx hb dDA_hintsAreInForm_3 rfl hl (by decide) rfl (fun ls hl => ?_)
  have lp21 : ∀ (n21 : Nat) (i21 : Nat) (fs21 : Nat) (s21 : Sto) (pl : va_W) (ls : Array Slot) (H : Heap) (locs : List Loc), n21 + i21 = 6 → (fs21 ≤ 55) → frm (M_DA_hintsAreInForm_1) s s21 → (hgN 55 i21 (s.1 146)) → F_DA_hintsAreInForm_1 s = F_DA_hintsAreInForm_1_L0 n21 i21 fs21 s21 → lv_has ls 6 [(3, .int (nI i21)), (2, .int (nI fs21)), (0, .ref h0), (1, .ref st)] → okn g T s21 pl → va_P g.1 vcl ([] ++ pl) H → va_D A ([] ++ pl) → va_S A s0.heap H locs → W p l e ({ frames := 0, cells := 0, slots := 0, locals := 0 } : Room) s0 m args below meth c H locs 0 0 (MQ below (va_Qi (fun (r : Int32) (u : (Int32 × Sto) × va_W) => (u.1 = F_DA_hintsAreInForm_1 s ∧ r = u.1.1 ∧ frm (M_DA_hintsAreInForm_1) s u.1.2 ∧ (u.1.1 = nI 0 ∨ hgN 55 6 (u.1.2.1 146)) ∧ True) ∧ okn g T u.1.2 u.2) (po g.1 vcl A (fun (u : (Int32 × Sto) × va_W) => [] ++ u.2)) A) args s0 0 0 A) (F0 m 4 ls []) := by
    intro n21
    induction n21 with
    | zero =>
      intro i21 fs21 s21 pl ls H locs hm21 hi21 hF hgd hR hl hO hP hD hS
      refine lv_iload_n hx hb dDA_hintsAreInForm_4 rfl (lv_at hl 0 rfl) ?_
      refine lv_aload_n hx hb dDA_hintsAreInForm_5 rfl (lv_at hl 3 rfl) ?_
      refine nw_get (C := "LatticeKeys$DsaSet") (TT := T_DS) (N := 17) hx hb hts (wg_ft i_DS) hown hK hO k_st (kn := 10) (ci := 2) (fl := [(1, 6), (1, 5), (1, 4), (1, 4), (1, 49), (1, 48), (1, 20), (1, 524288), (1, 16), (1, 4), (1, 261888), (1, 55), (1, 196), (1, 1952), (1, 4032), (1, 3248), (1, 3309)]) rfl hP rfl 0 (by decide) (hts _ (wg_t kw_302)) (fun _ h9 => h9) (cd := (1, 6)) rfl dDA_hintsAreInForm_6 (fun v21 hv21 => ?_)
      obtain rfl := (show v21 = .int (nI 6) from hv21)
      refine mi_ge (tgt := 102) hx hb dDA_hintsAreInForm_9 (by decide) (by omega) (by omega) (fun h21 => ?_) (fun h21 => absurd h21 (by omega))
      refine lv_iload_n hx hb dDA_hintsAreInForm_102 rfl (lv_at hl 1 rfl) ?_
      refine lv_istore_n (lv' := [(3, .int (nI fs21)), (2, .int (nI fs21)), (0, .ref h0), (1, .ref st)]) hx hb dDA_hintsAreInForm_103 rfl hl (by decide) rfl (fun ls hl => ?_)
      have lp22 : ∀ (n22 : Nat) (i22 : Nat) (s22 : Sto) (pl : va_W) (ls : Array Slot) (H : Heap) (locs : List Loc), n22 + i22 = 55 → (fs21 ≤ i22) → frm (M_DA_hintsAreInForm_1) s s22 → F_DA_hintsAreInForm_1 s = F_DA_hintsAreInForm_1_L1 n22 i22 s22 → lv_has ls 6 [(3, .int (nI i22)), (0, .ref h0), (1, .ref st)] → okn g T s22 pl → va_P g.1 vcl ([] ++ pl) H → va_D A ([] ++ pl) → va_S A s0.heap H locs → W p l e ({ frames := 0, cells := 0, slots := 0, locals := 0 } : Room) s0 m args below meth c H locs 0 0 (MQ below (va_Qi (fun (r : Int32) (u : (Int32 × Sto) × va_W) => (u.1 = F_DA_hintsAreInForm_1 s ∧ r = u.1.1 ∧ frm (M_DA_hintsAreInForm_1) s u.1.2 ∧ (u.1.1 = nI 0 ∨ hgN 55 6 (u.1.2.1 146)) ∧ True) ∧ okn g T u.1.2 u.2) (po g.1 vcl A (fun (u : (Int32 × Sto) × va_W) => [] ++ u.2)) A) args s0 0 0 A) (F0 m 104 ls []) := by
        intro n22
        induction n22 with
        | zero =>
          intro i22 s22 pl ls H locs hm22 hi22 hF hR hl hO hP hD hS
          refine lv_iload_n hx hb dDA_hintsAreInForm_104 rfl (lv_at hl 0 rfl) ?_
          refine lv_aload_n hx hb dDA_hintsAreInForm_105 rfl (lv_at hl 2 rfl) ?_
          refine nw_get (C := "LatticeKeys$DsaSet") (TT := T_DS) (N := 17) hx hb hts (wg_ft i_DS) hown hK hO k_st (kn := 10) (ci := 2) (fl := [(1, 6), (1, 5), (1, 4), (1, 4), (1, 49), (1, 48), (1, 20), (1, 524288), (1, 16), (1, 4), (1, 261888), (1, 55), (1, 196), (1, 1952), (1, 4032), (1, 3248), (1, 3309)]) rfl hP rfl 11 (by decide) (hts _ (wg_t kw_327)) (fun _ h9 => h9) (cd := (1, 55)) rfl dDA_hintsAreInForm_106 (fun v22 hv22 => ?_)
          obtain rfl := (show v22 = .int (nI 55) from hv22)
          refine mi_ge (tgt := 129) hx hb dDA_hintsAreInForm_109 (by decide) (by omega) (by omega) (fun h22 => ?_) (fun h22 => absurd h22 (by omega))
          refine lv_iconst (v := nI 1) hx hb dDA_hintsAreInForm_129 (by decide) ?_
          exact mp_zret hx hb hr hlk rfl hP hD hS ((nI 1, s22), pl) ⟨⟨hR.symm, rfl, hF, (Or.inr (by rw [hF 146 (by unfold M_DA_hintsAreInForm_1; omega)]; exact hgN_at hgd (by omega))), trivial⟩, hO⟩ [] rfl rfl rfl (by omega) (by omega) dDA_hintsAreInForm_130
        | succ n22 ih22 =>
          intro i22 s22 pl ls H locs hm22 hi22 hF hR hl hO hP hD hS
          refine lv_iload_n hx hb dDA_hintsAreInForm_104 rfl (lv_at hl 0 rfl) ?_
          refine lv_aload_n hx hb dDA_hintsAreInForm_105 rfl (lv_at hl 2 rfl) ?_
          refine nw_get (C := "LatticeKeys$DsaSet") (TT := T_DS) (N := 17) hx hb hts (wg_ft i_DS) hown hK hO k_st (kn := 10) (ci := 2) (fl := [(1, 6), (1, 5), (1, 4), (1, 4), (1, 49), (1, 48), (1, 20), (1, 524288), (1, 16), (1, 4), (1, 261888), (1, 55), (1, 196), (1, 1952), (1, 4032), (1, 3248), (1, 3309)]) rfl hP rfl 11 (by decide) (hts _ (wg_t kw_327)) (fun _ h9 => h9) (cd := (1, 55)) rfl dDA_hintsAreInForm_106 (fun v23 hv23 => ?_)
          obtain rfl := (show v23 = .int (nI 55) from hv23)
          refine mi_ge (tgt := 129) hx hb dDA_hintsAreInForm_109 (by decide) (by omega) (by omega) (fun h23 => absurd h23 (by omega)) (fun h23 => ?_)
          refine lv_aload_n hx hb dDA_hintsAreInForm_112 rfl (lv_at hl 1 rfl) ?_
          refine nw_get (C := "LatticeKeys$Dsa") (TT := T_DA) (N := 17) hx hb hts (wg_ft i_DA) hown hK hO k_h0 (kn := 39) (ci := 6) (fl := [(3, 16), (3, 22), (3, 37), (3, 40), (3, 97), (3, 105), (3, 114), (3, 123), (3, 131), (3, 140), (3, 141), (3, 142), (3, 143), (3, 144), (3, 145), (3, 146), (3, 147)]) rfl hP rfl 15 (by decide) (hts _ (wg_t kw_180)) (fun _ h9 => h9) (cd := (3, 146)) rfl dDA_hintsAreInForm_113 (fun v24 hv24 => ?_)
          obtain ⟨r21, rfl, kr21⟩ := (show ∃ r : Nat, v24 = .ref r ∧ T r = some 146 from hv24)
          refine lv_iload_n hx hb dDA_hintsAreInForm_116 rfl (lv_at hl 0 rfl) ?_
          refine nw_bald hx hb hK hO kr21 (k := 146) rfl hP (by omega) (by omega) dDA_hintsAreInForm_117 ?_
          refine lv_if_eq (tgt := 123) hx hb dDA_hintsAreInForm_118 (by decide) (fun h24 => ?_) (fun h24 => ?_)
          · replace hR := hR.trans (if_pos h24)
            refine mi_iinc (k := 0) (x := i22) (d := 1) (y := i22 + 1) (lv' := [(3, .int (nI (i22 + 1))), (0, .ref h0), (1, .ref st)]) hx hb dDA_hintsAreInForm_123 hl rfl (by decide) rfl (by decide) rfl (fun ls hl => ?_)
            refine lv_goto (tgt := 104) hx hb dDA_hintsAreInForm_126 (by decide) ?_
            exact ih22 (i22 + 1) s22 pl ls H locs (by omega) (by omega) hF hR (lv_sub hl [0, 1, 2] rfl) hO hP hD hS
          · replace hR := hR.trans (if_neg h24)
            refine lv_iconst (v := nI 0) hx hb dDA_hintsAreInForm_121 (by decide) ?_
            exact mp_zret hx hb hr hlk rfl hP hD hS ((nI 0, s22), pl) ⟨⟨hR.symm, rfl, hF, (Or.inl rfl), trivial⟩, hO⟩ [] rfl rfl rfl (by omega) (by omega) dDA_hintsAreInForm_122
      exact lp22 (55 - fs21) fs21 s21 pl ls _ _ (by omega) (by omega) hF hR (lv_sub hl [0, 2, 3] rfl) hO hP hD hS
    | succ n21 ih21 =>
      intro i21 fs21 s21 pl ls H locs hm21 hi21 hF hgd hR hl hO hP hD hS
      refine lv_iload_n hx hb dDA_hintsAreInForm_4 rfl (lv_at hl 0 rfl) ?_
      refine lv_aload_n hx hb dDA_hintsAreInForm_5 rfl (lv_at hl 3 rfl) ?_
      refine nw_get (C := "LatticeKeys$DsaSet") (TT := T_DS) (N := 17) hx hb hts (wg_ft i_DS) hown hK hO k_st (kn := 10) (ci := 2) (fl := [(1, 6), (1, 5), (1, 4), (1, 4), (1, 49), (1, 48), (1, 20), (1, 524288), (1, 16), (1, 4), (1, 261888), (1, 55), (1, 196), (1, 1952), (1, 4032), (1, 3248), (1, 3309)]) rfl hP rfl 0 (by decide) (hts _ (wg_t kw_302)) (fun _ h9 => h9) (cd := (1, 6)) rfl dDA_hintsAreInForm_6 (fun v25 hv25 => ?_)
      obtain rfl := (show v25 = .int (nI 6) from hv25)
      refine mi_ge (tgt := 102) hx hb dDA_hintsAreInForm_9 (by decide) (by omega) (by omega) (fun h25 => absurd h25 (by omega)) (fun h25 => ?_)
      refine lv_aload_n hx hb dDA_hintsAreInForm_12 rfl (lv_at hl 2 rfl) ?_
      refine nw_get (C := "LatticeKeys$Dsa") (TT := T_DA) (N := 17) hx hb hts (wg_ft i_DA) hown hK hO k_h0 (kn := 39) (ci := 6) (fl := [(3, 16), (3, 22), (3, 37), (3, 40), (3, 97), (3, 105), (3, 114), (3, 123), (3, 131), (3, 140), (3, 141), (3, 142), (3, 143), (3, 144), (3, 145), (3, 146), (3, 147)]) rfl hP rfl 15 (by decide) (hts _ (wg_t kw_180)) (fun _ h9 => h9) (cd := (3, 146)) rfl dDA_hintsAreInForm_13 (fun v26 hv26 => ?_)
      obtain ⟨r22, rfl, kr22⟩ := (show ∃ r : Nat, v26 = .ref r ∧ T r = some 146 from hv26)
      refine lv_aload_n hx hb dDA_hintsAreInForm_16 rfl (lv_at hl 3 rfl) ?_
      refine nw_get (C := "LatticeKeys$DsaSet") (TT := T_DS) (N := 17) hx hb hts (wg_ft i_DS) hown hK hO k_st (kn := 10) (ci := 2) (fl := [(1, 6), (1, 5), (1, 4), (1, 4), (1, 49), (1, 48), (1, 20), (1, 524288), (1, 16), (1, 4), (1, 261888), (1, 55), (1, 196), (1, 1952), (1, 4032), (1, 3248), (1, 3309)]) rfl hP rfl 11 (by decide) (hts _ (wg_t kw_327)) (fun _ h9 => h9) (cd := (1, 55)) rfl dDA_hintsAreInForm_17 (fun v27 hv27 => ?_)
      obtain rfl := (show v27 = .int (nI 55) from hv27)
      refine lv_iload_n hx hb dDA_hintsAreInForm_20 rfl (lv_at hl 0 rfl) ?_
      refine mi_iadd hx hb dDA_hintsAreInForm_21 ?_
      refine nw_bald hx hb hK hO kr22 (k := 146) rfl hP (by omega) (by omega) dDA_hintsAreInForm_22 ?_
      refine lv_sipush (v := nI 255) hx hb dDA_hintsAreInForm_23 (by decide) ?_
      refine mi_iandT hx hb 8 dDA_hintsAreInForm_26 (by decide) (by decide) (fun z21 ez21 hz21 => ?_)
      have hz21 : z21 < 256 := hz21
      replace hR := bnd_step hR ez21
      have hFx := hF 146 (by unfold M_DA_hintsAreInForm_1; omega)
      refine lv_istore (lv' := [(4, .int (nI z21)), (3, .int (nI i21)), (2, .int (nI fs21)), (0, .ref h0), (1, .ref st)]) hx hb dDA_hintsAreInForm_27 hl (by decide) rfl (fun ls hl => ?_)
      refine lv_iload hx hb dDA_hintsAreInForm_29 (lv_at hl 0 rfl) ?_
      refine lv_iload_n hx hb dDA_hintsAreInForm_31 rfl (lv_at hl 2 rfl) ?_
      refine mi_lt (tgt := 44) hx hb dDA_hintsAreInForm_32 (by decide) (by omega) (by omega) (fun h26 => ?_) (fun h26 => ?_)
      · replace hR := hR.trans (if_pos h26)
        refine lv_iconst (v := nI 0) hx hb dDA_hintsAreInForm_44 (by decide) ?_
        exact mp_zret hx hb hr hlk rfl hP hD hS ((nI 0, s21), pl) ⟨⟨hR.symm, rfl, hF, (Or.inl rfl), trivial⟩, hO⟩ [] rfl rfl rfl (by omega) (by omega) dDA_hintsAreInForm_45
      · replace hR := hR.trans (if_neg (Nat.not_lt.mpr h26))
        refine lv_iload hx hb dDA_hintsAreInForm_35 (lv_at hl 0 rfl) ?_
        refine lv_aload_n hx hb dDA_hintsAreInForm_37 rfl (lv_at hl 4 rfl) ?_
        refine nw_get (C := "LatticeKeys$DsaSet") (TT := T_DS) (N := 17) hx hb hts (wg_ft i_DS) hown hK hO k_st (kn := 10) (ci := 2) (fl := [(1, 6), (1, 5), (1, 4), (1, 4), (1, 49), (1, 48), (1, 20), (1, 524288), (1, 16), (1, 4), (1, 261888), (1, 55), (1, 196), (1, 1952), (1, 4032), (1, 3248), (1, 3309)]) rfl hP rfl 11 (by decide) (hts _ (wg_t kw_327)) (fun _ h9 => h9) (cd := (1, 55)) rfl dDA_hintsAreInForm_38 (fun v28 hv28 => ?_)
        obtain rfl := (show v28 = .int (nI 55) from hv28)
        refine mi_le (tgt := 46) hx hb dDA_hintsAreInForm_41 (by decide) (by omega) (by omega) (fun h27 => ?_) (fun h27 => ?_)
        · replace hR := hR.trans (if_pos h27)
          refine lv_iload_n hx hb dDA_hintsAreInForm_46 rfl (lv_at hl 2 rfl) ?_
          refine lv_iconst (v := nI 1) hx hb dDA_hintsAreInForm_47 (by decide) ?_
          refine mi_iadd hx hb dDA_hintsAreInForm_48 ?_
          refine lv_istore (lv' := [(5, .int (nI (fs21 + 1))), (4, .int (nI z21)), (3, .int (nI i21)), (2, .int (nI fs21)), (0, .ref h0), (1, .ref st)]) hx hb dDA_hintsAreInForm_49 hl (by decide) rfl (fun ls hl => ?_)
          have lp23 : ∀ (n23 : Nat) (kx21 : Nat) (s23 : Sto) (pl : va_W) (ls : Array Slot) (H : Heap) (locs : List Loc), n23 = z21 - kx21 → (1 ≤ kx21) → (kx21 ≤ 85) → frm (M_DA_hintsAreInForm_1) s s23 → F_DA_hintsAreInForm_1 s = F_DA_hintsAreInForm_1_L2 i21 z21 (F_DA_hintsAreInForm_1_L0 n21) n23 kx21 s23 → lv_has ls 6 [(5, .int (nI kx21)), (4, .int (nI z21)), (3, .int (nI i21)), (0, .ref h0), (1, .ref st)] → okn g T s23 pl → va_P g.1 vcl ([] ++ pl) H → va_D A ([] ++ pl) → va_S A s0.heap H locs → W p l e ({ frames := 0, cells := 0, slots := 0, locals := 0 } : Room) s0 m args below meth c H locs 0 0 (MQ below (va_Qi (fun (r : Int32) (u : (Int32 × Sto) × va_W) => (u.1 = F_DA_hintsAreInForm_1 s ∧ r = u.1.1 ∧ frm (M_DA_hintsAreInForm_1) s u.1.2 ∧ (u.1.1 = nI 0 ∨ hgN 55 6 (u.1.2.1 146)) ∧ True) ∧ okn g T u.1.2 u.2) (po g.1 vcl A (fun (u : (Int32 × Sto) × va_W) => [] ++ u.2)) A) args s0 0 0 A) (F0 m 51 ls []) := by
            intro n23
            induction n23 with
            | zero =>
              intro kx21 s23 pl ls H locs hm23 hi23 hi24 hF hR hl hO hP hD hS
              refine lv_iload hx hb dDA_hintsAreInForm_51 (lv_at hl 0 rfl) ?_
              refine lv_iload hx hb dDA_hintsAreInForm_53 (lv_at hl 1 rfl) ?_
              refine mi_ge (tgt := 93) hx hb dDA_hintsAreInForm_55 (by decide) (by omega) (by omega) (fun h28 => ?_) (fun h28 => absurd h28 (by omega))
              refine lv_iload hx hb dDA_hintsAreInForm_93 (lv_at hl 1 rfl) ?_
              refine lv_istore_n (lv' := [(2, .int (nI z21)), (5, .int (nI kx21)), (4, .int (nI z21)), (3, .int (nI i21)), (0, .ref h0), (1, .ref st)]) hx hb dDA_hintsAreInForm_95 rfl hl (by decide) rfl (fun ls hl => ?_)
              refine mi_iinc (k := 3) (x := i21) (d := 1) (y := i21 + 1) (lv' := [(3, .int (nI (i21 + 1))), (2, .int (nI z21)), (5, .int (nI kx21)), (4, .int (nI z21)), (0, .ref h0), (1, .ref st)]) hx hb dDA_hintsAreInForm_96 hl rfl (by decide) rfl (by decide) rfl (fun ls hl => ?_)
              refine lv_goto (tgt := 4) hx hb dDA_hintsAreInForm_99 (by decide) ?_
              exact ih21 (i21 + 1) z21 s23 pl ls H locs (by omega) (by omega) hF (hgN_step hgd (by rw [← hFx, ← ez21]; omega)) hR (lv_sub hl [0, 1, 4, 5] rfl) hO hP hD hS
            | succ n23 ih23 =>
              intro kx21 s23 pl ls H locs hm23 hi23 hi24 hF hR hl hO hP hD hS
              refine lv_iload hx hb dDA_hintsAreInForm_51 (lv_at hl 0 rfl) ?_
              refine lv_iload hx hb dDA_hintsAreInForm_53 (lv_at hl 1 rfl) ?_
              refine mi_ge (tgt := 93) hx hb dDA_hintsAreInForm_55 (by decide) (by omega) (by omega) (fun h29 => absurd h29 (by omega)) (fun h29 => ?_)
              refine lv_aload_n hx hb dDA_hintsAreInForm_58 rfl (lv_at hl 3 rfl) ?_
              refine nw_get (C := "LatticeKeys$Dsa") (TT := T_DA) (N := 17) hx hb hts (wg_ft i_DA) hown hK hO k_h0 (kn := 39) (ci := 6) (fl := [(3, 16), (3, 22), (3, 37), (3, 40), (3, 97), (3, 105), (3, 114), (3, 123), (3, 131), (3, 140), (3, 141), (3, 142), (3, 143), (3, 144), (3, 145), (3, 146), (3, 147)]) rfl hP rfl 15 (by decide) (hts _ (wg_t kw_180)) (fun _ h9 => h9) (cd := (3, 146)) rfl dDA_hintsAreInForm_59 (fun v29 hv29 => ?_)
              obtain ⟨r23, rfl, kr23⟩ := (show ∃ r : Nat, v29 = .ref r ∧ T r = some 146 from hv29)
              refine lv_iload hx hb dDA_hintsAreInForm_62 (lv_at hl 0 rfl) ?_
              refine lv_iconst (v := nI 1) hx hb dDA_hintsAreInForm_64 (by decide) ?_
              refine mi_isub hx hb dDA_hintsAreInForm_65 (by omega) ?_
              refine nw_bald hx hb hK hO kr23 (k := 146) rfl hP (by omega) (by omega) dDA_hintsAreInForm_66 ?_
              refine lv_sipush (v := nI 255) hx hb dDA_hintsAreInForm_67 (by decide) ?_
              refine lv_iand hx hb dDA_hintsAreInForm_70 ?_
              refine lv_aload_n hx hb dDA_hintsAreInForm_71 rfl (lv_at hl 3 rfl) ?_
              refine nw_get (C := "LatticeKeys$Dsa") (TT := T_DA) (N := 17) hx hb hts (wg_ft i_DA) hown hK hO k_h0 (kn := 39) (ci := 6) (fl := [(3, 16), (3, 22), (3, 37), (3, 40), (3, 97), (3, 105), (3, 114), (3, 123), (3, 131), (3, 140), (3, 141), (3, 142), (3, 143), (3, 144), (3, 145), (3, 146), (3, 147)]) rfl hP rfl 15 (by decide) (hts _ (wg_t kw_180)) (fun _ h9 => h9) (cd := (3, 146)) rfl dDA_hintsAreInForm_72 (fun v30 hv30 => ?_)
              obtain ⟨r24, rfl, kr24⟩ := (show ∃ r : Nat, v30 = .ref r ∧ T r = some 146 from hv30)
              refine lv_iload hx hb dDA_hintsAreInForm_75 (lv_at hl 0 rfl) ?_
              refine nw_bald hx hb hK hO kr24 (k := 146) rfl hP (by omega) (by omega) dDA_hintsAreInForm_77 ?_
              refine lv_sipush (v := nI 255) hx hb dDA_hintsAreInForm_78 (by decide) ?_
              refine lv_iand hx hb dDA_hintsAreInForm_81 ?_
              refine lv_icmp_lt (tgt := 87) hx hb dDA_hintsAreInForm_82 (by decide) (fun h30 => ?_) (fun h30 => ?_)
              · replace hR := hR.trans (if_pos h30)
                refine mi_iinc (k := 0) (x := kx21) (d := 1) (y := kx21 + 1) (lv' := [(5, .int (nI (kx21 + 1))), (4, .int (nI z21)), (3, .int (nI i21)), (0, .ref h0), (1, .ref st)]) hx hb dDA_hintsAreInForm_87 hl rfl (by decide) rfl (by decide) rfl (fun ls hl => ?_)
                refine lv_goto (tgt := 51) hx hb dDA_hintsAreInForm_90 (by decide) ?_
                exact ih23 (kx21 + 1) s23 pl ls H locs (by omega) (by omega) (by omega) hF hR (lv_sub hl [0, 1, 2, 3, 4] rfl) hO hP hD hS
              · replace hR := hR.trans (if_neg h30)
                refine lv_iconst (v := nI 0) hx hb dDA_hintsAreInForm_85 (by decide) ?_
                exact mp_zret hx hb hr hlk rfl hP hD hS ((nI 0, s23), pl) ⟨⟨hR.symm, rfl, hF, (Or.inl rfl), trivial⟩, hO⟩ [] rfl rfl rfl (by omega) (by omega) dDA_hintsAreInForm_86
          exact lp23 (z21 - (fs21 + 1)) (fs21 + 1) s21 pl ls _ _ (by omega) (by omega) (by omega) hF hR (lv_sub hl [0, 1, 2, 4, 5] rfl) hO hP hD hS
        · replace hR := hR.trans (if_neg (Nat.not_le.mpr h27))
          refine lv_iconst (v := nI 0) hx hb dDA_hintsAreInForm_44 (by decide) ?_
          exact mp_zret hx hb hr hlk rfl hP hD hS ((nI 0, s21), pl) ⟨⟨hR.symm, rfl, hF, (Or.inl rfl), trivial⟩, hO⟩ [] rfl rfl rfl (by omega) (by omega) dDA_hintsAreInForm_45
  exact lp21 6 0 0 s pl ls _ _ (by omega) (by omega) hF (fun _ h9 => absurd h9 (Nat.not_lt_zero _)) hR (lv_sub hl [0, 1, 2, 3] rfl) hO hP hD hS
def M_DA_hintsAreInForm_2 (k : Nat) : Prop := (0 : Nat) = 1
noncomputable def F_DA_hintsAreInForm_2_L2 (i21 : Nat) (z21 : Nat) (kk : Nat → Nat → Sto → Int32 × Sto) : Nat → Nat → Sto → Int32 × Sto
  | 0, kx21, s23 => kk (i21 + 1) z21 s23
  | n23 + 1, kx21, s23 => if ((s23.1 146 (kx21 - 1)) &&& (nI 255)) < ((s23.1 146 kx21) &&& (nI 255)) then F_DA_hintsAreInForm_2_L2 i21 z21 kk n23 (kx21 + 1) s23 else (nI 0, s23)
noncomputable def F_DA_hintsAreInForm_2_L1 : Nat → Nat → Sto → Int32 × Sto
  | 0, i22, s22 => (nI 1, s22)
  | n22 + 1, i22, s22 => if (s22.1 146 i22) = 0 then F_DA_hintsAreInForm_2_L1  n22 (i22 + 1) s22 else (nI 0, s22)
noncomputable def F_DA_hintsAreInForm_2_L0 : Nat → Nat → Nat → Sto → Int32 × Sto
  | 0, i21, fs21, s21 => F_DA_hintsAreInForm_2_L1 (75 - fs21) fs21 s21
  | n21 + 1, i21, fs21, s21 => bnd (((s21.1 146 (75 + i21)) &&& nI 255).toNatClampNeg) fun z21 => if z21 < fs21 then (nI 0, s21) else if z21 ≤ 75 then F_DA_hintsAreInForm_2_L2 i21 z21 (F_DA_hintsAreInForm_2_L0  n21) (z21 - (fs21 + 1)) (fs21 + 1) s21 else (nI 0, s21)
noncomputable def F_DA_hintsAreInForm_2 (s : Sto) : Int32 × Sto := F_DA_hintsAreInForm_2_L0 8 0 0 s
set_option maxHeartbeats 8000000 in
set_option maxRecDepth 100000 in
theorem N_DA_hintsAreInForm_2 (l : Launch) (g : Gd) (sz : Nat) (T : TyN) (s : Sto) (pl : va_W) (hO : okn g T s pl) (hU : inj T) (h0 st : Nat) (k_h0 : T h0 = some 39) (k_st : T st = some 11)  : Met l y_DA_hintsAreInForm w_DA_hintsAreInForm ({ frames := 0, cells := 0, slots := 0, locals := 0 } : Room) (va_Pc [.ref h0, .ref st] (pr (en g) g.1 vcl sz ([] ++ pl))) (va_Qi (fun (r : Int32) (u : (Int32 × Sto) × va_W) => (u.1 = F_DA_hintsAreInForm_2 s ∧ r = u.1.1 ∧ frm (M_DA_hintsAreInForm_2) s u.1.2 ∧ (u.1.1 = nI 0 ∨ hgN 75 8 (u.1.2.1 146)) ∧ True) ∧ okn g T u.1.2 u.2) (po g.1 vcl (va_A ([] ++ pl) sz) (fun (u : (Int32 × Sto) × va_W) => [] ++ u.2)) (va_A ([] ++ pl) sz)) 0 0 (va_A ([] ++ pl) sz) := by
  refine mc_entry (cc := c_DA_hintsAreInForm) (maxL := 6) (ret := (some .boolean)) (by decide) rfl (Nat.le_of_ble_eq_true rfl) ?_
  intro p e s0 m args below meth c ls F hr hlk hnm hsz hP hD hE hA hl
  obtain ⟨hx, hb, hml, hown, hts⟩ := id F
  have hK := hE.1
  generalize va_A ([] ++ pl) sz = A at hD hE hA ⊢
  have hS : va_S A s0.heap s0.heap [] := va_S.rf
  have hl : lv_has ls 6 [(0, .ref h0), (1, .ref st)] := hl
  have hR : F_DA_hintsAreInForm_2 s = F_DA_hintsAreInForm_2 s := rfl
  have hF : frm (M_DA_hintsAreInForm_2) s s := frm_rf
  refine lv_iconst (v := nI 0) hx hb dDA_hintsAreInForm_0 (by decide) ?_
  refine lv_istore_n (lv' := [(2, .int (nI 0)), (0, .ref h0), (1, .ref st)]) hx hb dDA_hintsAreInForm_1 rfl hl (by decide) rfl (fun ls hl => ?_)
  refine lv_iconst (v := nI 0) hx hb dDA_hintsAreInForm_2 (by decide) ?_
  refine lv_istore_n (lv' := [(3, .int (nI 0)), (2, .int (nI 0)), (0, .ref h0), (1, .ref st)]) hx hb dDA_hintsAreInForm_3 rfl hl (by decide) rfl (fun ls hl => ?_)
  have lp21 : ∀ (n21 : Nat) (i21 : Nat) (fs21 : Nat) (s21 : Sto) (pl : va_W) (ls : Array Slot) (H : Heap) (locs : List Loc), n21 + i21 = 8 → (fs21 ≤ 75) → frm (M_DA_hintsAreInForm_2) s s21 → (hgN 75 i21 (s.1 146)) → F_DA_hintsAreInForm_2 s = F_DA_hintsAreInForm_2_L0 n21 i21 fs21 s21 → lv_has ls 6 [(3, .int (nI i21)), (2, .int (nI fs21)), (0, .ref h0), (1, .ref st)] → okn g T s21 pl → va_P g.1 vcl ([] ++ pl) H → va_D A ([] ++ pl) → va_S A s0.heap H locs → W p l e ({ frames := 0, cells := 0, slots := 0, locals := 0 } : Room) s0 m args below meth c H locs 0 0 (MQ below (va_Qi (fun (r : Int32) (u : (Int32 × Sto) × va_W) => (u.1 = F_DA_hintsAreInForm_2 s ∧ r = u.1.1 ∧ frm (M_DA_hintsAreInForm_2) s u.1.2 ∧ (u.1.1 = nI 0 ∨ hgN 75 8 (u.1.2.1 146)) ∧ True) ∧ okn g T u.1.2 u.2) (po g.1 vcl A (fun (u : (Int32 × Sto) × va_W) => [] ++ u.2)) A) args s0 0 0 A) (F0 m 4 ls []) := by
    intro n21
    induction n21 with
    | zero =>
      intro i21 fs21 s21 pl ls H locs hm21 hi21 hF hgd hR hl hO hP hD hS
      refine lv_iload_n hx hb dDA_hintsAreInForm_4 rfl (lv_at hl 0 rfl) ?_
      refine lv_aload_n hx hb dDA_hintsAreInForm_5 rfl (lv_at hl 3 rfl) ?_
      refine nw_get (C := "LatticeKeys$DsaSet") (TT := T_DS) (N := 17) hx hb hts (wg_ft i_DS) hown hK hO k_st (kn := 11) (ci := 2) (fl := [(1, 8), (1, 7), (1, 2), (1, 3), (1, 60), (1, 64), (1, 20), (1, 524288), (1, 16), (1, 4), (1, 261888), (1, 75), (1, 120), (1, 2592), (1, 4896), (1, 4544), (1, 4627)]) rfl hP rfl 0 (by decide) (hts _ (wg_t kw_302)) (fun _ h9 => h9) (cd := (1, 8)) rfl dDA_hintsAreInForm_6 (fun v21 hv21 => ?_)
      obtain rfl := (show v21 = .int (nI 8) from hv21)
      refine mi_ge (tgt := 102) hx hb dDA_hintsAreInForm_9 (by decide) (by omega) (by omega) (fun h21 => ?_) (fun h21 => absurd h21 (by omega))
      refine lv_iload_n hx hb dDA_hintsAreInForm_102 rfl (lv_at hl 1 rfl) ?_
      refine lv_istore_n (lv' := [(3, .int (nI fs21)), (2, .int (nI fs21)), (0, .ref h0), (1, .ref st)]) hx hb dDA_hintsAreInForm_103 rfl hl (by decide) rfl (fun ls hl => ?_)
      have lp22 : ∀ (n22 : Nat) (i22 : Nat) (s22 : Sto) (pl : va_W) (ls : Array Slot) (H : Heap) (locs : List Loc), n22 + i22 = 75 → (fs21 ≤ i22) → frm (M_DA_hintsAreInForm_2) s s22 → F_DA_hintsAreInForm_2 s = F_DA_hintsAreInForm_2_L1 n22 i22 s22 → lv_has ls 6 [(3, .int (nI i22)), (0, .ref h0), (1, .ref st)] → okn g T s22 pl → va_P g.1 vcl ([] ++ pl) H → va_D A ([] ++ pl) → va_S A s0.heap H locs → W p l e ({ frames := 0, cells := 0, slots := 0, locals := 0 } : Room) s0 m args below meth c H locs 0 0 (MQ below (va_Qi (fun (r : Int32) (u : (Int32 × Sto) × va_W) => (u.1 = F_DA_hintsAreInForm_2 s ∧ r = u.1.1 ∧ frm (M_DA_hintsAreInForm_2) s u.1.2 ∧ (u.1.1 = nI 0 ∨ hgN 75 8 (u.1.2.1 146)) ∧ True) ∧ okn g T u.1.2 u.2) (po g.1 vcl A (fun (u : (Int32 × Sto) × va_W) => [] ++ u.2)) A) args s0 0 0 A) (F0 m 104 ls []) := by
        intro n22
        induction n22 with
        | zero =>
          intro i22 s22 pl ls H locs hm22 hi22 hF hR hl hO hP hD hS
          refine lv_iload_n hx hb dDA_hintsAreInForm_104 rfl (lv_at hl 0 rfl) ?_
          refine lv_aload_n hx hb dDA_hintsAreInForm_105 rfl (lv_at hl 2 rfl) ?_
          refine nw_get (C := "LatticeKeys$DsaSet") (TT := T_DS) (N := 17) hx hb hts (wg_ft i_DS) hown hK hO k_st (kn := 11) (ci := 2) (fl := [(1, 8), (1, 7), (1, 2), (1, 3), (1, 60), (1, 64), (1, 20), (1, 524288), (1, 16), (1, 4), (1, 261888), (1, 75), (1, 120), (1, 2592), (1, 4896), (1, 4544), (1, 4627)]) rfl hP rfl 11 (by decide) (hts _ (wg_t kw_327)) (fun _ h9 => h9) (cd := (1, 75)) rfl dDA_hintsAreInForm_106 (fun v22 hv22 => ?_)
          obtain rfl := (show v22 = .int (nI 75) from hv22)
          refine mi_ge (tgt := 129) hx hb dDA_hintsAreInForm_109 (by decide) (by omega) (by omega) (fun h22 => ?_) (fun h22 => absurd h22 (by omega))
          refine lv_iconst (v := nI 1) hx hb dDA_hintsAreInForm_129 (by decide) ?_
          exact mp_zret hx hb hr hlk rfl hP hD hS ((nI 1, s22), pl) ⟨⟨hR.symm, rfl, hF, (Or.inr (by rw [hF 146 (by unfold M_DA_hintsAreInForm_2; omega)]; exact hgN_at hgd (by omega))), trivial⟩, hO⟩ [] rfl rfl rfl (by omega) (by omega) dDA_hintsAreInForm_130
        | succ n22 ih22 =>
          intro i22 s22 pl ls H locs hm22 hi22 hF hR hl hO hP hD hS
          refine lv_iload_n hx hb dDA_hintsAreInForm_104 rfl (lv_at hl 0 rfl) ?_
          refine lv_aload_n hx hb dDA_hintsAreInForm_105 rfl (lv_at hl 2 rfl) ?_
          refine nw_get (C := "LatticeKeys$DsaSet") (TT := T_DS) (N := 17) hx hb hts (wg_ft i_DS) hown hK hO k_st (kn := 11) (ci := 2) (fl := [(1, 8), (1, 7), (1, 2), (1, 3), (1, 60), (1, 64), (1, 20), (1, 524288), (1, 16), (1, 4), (1, 261888), (1, 75), (1, 120), (1, 2592), (1, 4896), (1, 4544), (1, 4627)]) rfl hP rfl 11 (by decide) (hts _ (wg_t kw_327)) (fun _ h9 => h9) (cd := (1, 75)) rfl dDA_hintsAreInForm_106 (fun v23 hv23 => ?_)
          obtain rfl := (show v23 = .int (nI 75) from hv23)
          refine mi_ge (tgt := 129) hx hb dDA_hintsAreInForm_109 (by decide) (by omega) (by omega) (fun h23 => absurd h23 (by omega)) (fun h23 => ?_)
          refine lv_aload_n hx hb dDA_hintsAreInForm_112 rfl (lv_at hl 1 rfl) ?_
          refine nw_get (C := "LatticeKeys$Dsa") (TT := T_DA) (N := 17) hx hb hts (wg_ft i_DA) hown hK hO k_h0 (kn := 39) (ci := 6) (fl := [(3, 16), (3, 22), (3, 37), (3, 40), (3, 97), (3, 105), (3, 114), (3, 123), (3, 131), (3, 140), (3, 141), (3, 142), (3, 143), (3, 144), (3, 145), (3, 146), (3, 147)]) rfl hP rfl 15 (by decide) (hts _ (wg_t kw_180)) (fun _ h9 => h9) (cd := (3, 146)) rfl dDA_hintsAreInForm_113 (fun v24 hv24 => ?_)
          obtain ⟨r21, rfl, kr21⟩ := (show ∃ r : Nat, v24 = .ref r ∧ T r = some 146 from hv24)
          refine lv_iload_n hx hb dDA_hintsAreInForm_116 rfl (lv_at hl 0 rfl) ?_
          refine nw_bald hx hb hK hO kr21 (k := 146) rfl hP (by omega) (by omega) dDA_hintsAreInForm_117 ?_
          refine lv_if_eq (tgt := 123) hx hb dDA_hintsAreInForm_118 (by decide) (fun h24 => ?_) (fun h24 => ?_)
          · replace hR := hR.trans (if_pos h24)
            refine mi_iinc (k := 0) (x := i22) (d := 1) (y := i22 + 1) (lv' := [(3, .int (nI (i22 + 1))), (0, .ref h0), (1, .ref st)]) hx hb dDA_hintsAreInForm_123 hl rfl (by decide) rfl (by decide) rfl (fun ls hl => ?_)
            refine lv_goto (tgt := 104) hx hb dDA_hintsAreInForm_126 (by decide) ?_
            exact ih22 (i22 + 1) s22 pl ls H locs (by omega) (by omega) hF hR (lv_sub hl [0, 1, 2] rfl) hO hP hD hS
          · replace hR := hR.trans (if_neg h24)
            refine lv_iconst (v := nI 0) hx hb dDA_hintsAreInForm_121 (by decide) ?_
            exact mp_zret hx hb hr hlk rfl hP hD hS ((nI 0, s22), pl) ⟨⟨hR.symm, rfl, hF, (Or.inl rfl), trivial⟩, hO⟩ [] rfl rfl rfl (by omega) (by omega) dDA_hintsAreInForm_122
      exact lp22 (75 - fs21) fs21 s21 pl ls _ _ (by omega) (by omega) hF hR (lv_sub hl [0, 2, 3] rfl) hO hP hD hS
    | succ n21 ih21 =>
      intro i21 fs21 s21 pl ls H locs hm21 hi21 hF hgd hR hl hO hP hD hS
      refine lv_iload_n hx hb dDA_hintsAreInForm_4 rfl (lv_at hl 0 rfl) ?_
      refine lv_aload_n hx hb dDA_hintsAreInForm_5 rfl (lv_at hl 3 rfl) ?_
      refine nw_get (C := "LatticeKeys$DsaSet") (TT := T_DS) (N := 17) hx hb hts (wg_ft i_DS) hown hK hO k_st (kn := 11) (ci := 2) (fl := [(1, 8), (1, 7), (1, 2), (1, 3), (1, 60), (1, 64), (1, 20), (1, 524288), (1, 16), (1, 4), (1, 261888), (1, 75), (1, 120), (1, 2592), (1, 4896), (1, 4544), (1, 4627)]) rfl hP rfl 0 (by decide) (hts _ (wg_t kw_302)) (fun _ h9 => h9) (cd := (1, 8)) rfl dDA_hintsAreInForm_6 (fun v25 hv25 => ?_)
      obtain rfl := (show v25 = .int (nI 8) from hv25)
      refine mi_ge (tgt := 102) hx hb dDA_hintsAreInForm_9 (by decide) (by omega) (by omega) (fun h25 => absurd h25 (by omega)) (fun h25 => ?_)
      refine lv_aload_n hx hb dDA_hintsAreInForm_12 rfl (lv_at hl 2 rfl) ?_
      refine nw_get (C := "LatticeKeys$Dsa") (TT := T_DA) (N := 17) hx hb hts (wg_ft i_DA) hown hK hO k_h0 (kn := 39) (ci := 6) (fl := [(3, 16), (3, 22), (3, 37), (3, 40), (3, 97), (3, 105), (3, 114), (3, 123), (3, 131), (3, 140), (3, 141), (3, 142), (3, 143), (3, 144), (3, 145), (3, 146), (3, 147)]) rfl hP rfl 15 (by decide) (hts _ (wg_t kw_180)) (fun _ h9 => h9) (cd := (3, 146)) rfl dDA_hintsAreInForm_13 (fun v26 hv26 => ?_)
      obtain ⟨r22, rfl, kr22⟩ := (show ∃ r : Nat, v26 = .ref r ∧ T r = some 146 from hv26)
      refine lv_aload_n hx hb dDA_hintsAreInForm_16 rfl (lv_at hl 3 rfl) ?_
      refine nw_get (C := "LatticeKeys$DsaSet") (TT := T_DS) (N := 17) hx hb hts (wg_ft i_DS) hown hK hO k_st (kn := 11) (ci := 2) (fl := [(1, 8), (1, 7), (1, 2), (1, 3), (1, 60), (1, 64), (1, 20), (1, 524288), (1, 16), (1, 4), (1, 261888), (1, 75), (1, 120), (1, 2592), (1, 4896), (1, 4544), (1, 4627)]) rfl hP rfl 11 (by decide) (hts _ (wg_t kw_327)) (fun _ h9 => h9) (cd := (1, 75)) rfl dDA_hintsAreInForm_17 (fun v27 hv27 => ?_)
      obtain rfl := (show v27 = .int (nI 75) from hv27)
      refine lv_iload_n hx hb dDA_hintsAreInForm_20 rfl (lv_at hl 0 rfl) ?_
      refine mi_iadd hx hb dDA_hintsAreInForm_21 ?_
      refine nw_bald hx hb hK hO kr22 (k := 146) rfl hP (by omega) (by omega) dDA_hintsAreInForm_22 ?_
      refine lv_sipush (v := nI 255) hx hb dDA_hintsAreInForm_23 (by decide) ?_
      refine mi_iandT hx hb 8 dDA_hintsAreInForm_26 (by decide) (by decide) (fun z21 ez21 hz21 => ?_)
      have hz21 : z21 < 256 := hz21
      replace hR := bnd_step hR ez21
      have hFx := hF 146 (by unfold M_DA_hintsAreInForm_2; omega)
      refine lv_istore (lv' := [(4, .int (nI z21)), (3, .int (nI i21)), (2, .int (nI fs21)), (0, .ref h0), (1, .ref st)]) hx hb dDA_hintsAreInForm_27 hl (by decide) rfl (fun ls hl => ?_)
      refine lv_iload hx hb dDA_hintsAreInForm_29 (lv_at hl 0 rfl) ?_
      refine lv_iload_n hx hb dDA_hintsAreInForm_31 rfl (lv_at hl 2 rfl) ?_
      refine mi_lt (tgt := 44) hx hb dDA_hintsAreInForm_32 (by decide) (by omega) (by omega) (fun h26 => ?_) (fun h26 => ?_)
      · replace hR := hR.trans (if_pos h26)
        refine lv_iconst (v := nI 0) hx hb dDA_hintsAreInForm_44 (by decide) ?_
        exact mp_zret hx hb hr hlk rfl hP hD hS ((nI 0, s21), pl) ⟨⟨hR.symm, rfl, hF, (Or.inl rfl), trivial⟩, hO⟩ [] rfl rfl rfl (by omega) (by omega) dDA_hintsAreInForm_45
      · replace hR := hR.trans (if_neg (Nat.not_lt.mpr h26))
        refine lv_iload hx hb dDA_hintsAreInForm_35 (lv_at hl 0 rfl) ?_
        refine lv_aload_n hx hb dDA_hintsAreInForm_37 rfl (lv_at hl 4 rfl) ?_
        refine nw_get (C := "LatticeKeys$DsaSet") (TT := T_DS) (N := 17) hx hb hts (wg_ft i_DS) hown hK hO k_st (kn := 11) (ci := 2) (fl := [(1, 8), (1, 7), (1, 2), (1, 3), (1, 60), (1, 64), (1, 20), (1, 524288), (1, 16), (1, 4), (1, 261888), (1, 75), (1, 120), (1, 2592), (1, 4896), (1, 4544), (1, 4627)]) rfl hP rfl 11 (by decide) (hts _ (wg_t kw_327)) (fun _ h9 => h9) (cd := (1, 75)) rfl dDA_hintsAreInForm_38 (fun v28 hv28 => ?_)
        obtain rfl := (show v28 = .int (nI 75) from hv28)
        refine mi_le (tgt := 46) hx hb dDA_hintsAreInForm_41 (by decide) (by omega) (by omega) (fun h27 => ?_) (fun h27 => ?_)
        · replace hR := hR.trans (if_pos h27)
          refine lv_iload_n hx hb dDA_hintsAreInForm_46 rfl (lv_at hl 2 rfl) ?_
          refine lv_iconst (v := nI 1) hx hb dDA_hintsAreInForm_47 (by decide) ?_
          refine mi_iadd hx hb dDA_hintsAreInForm_48 ?_
          refine lv_istore (lv' := [(5, .int (nI (fs21 + 1))), (4, .int (nI z21)), (3, .int (nI i21)), (2, .int (nI fs21)), (0, .ref h0), (1, .ref st)]) hx hb dDA_hintsAreInForm_49 hl (by decide) rfl (fun ls hl => ?_)
          have lp23 : ∀ (n23 : Nat) (kx21 : Nat) (s23 : Sto) (pl : va_W) (ls : Array Slot) (H : Heap) (locs : List Loc), n23 = z21 - kx21 → (1 ≤ kx21) → (kx21 ≤ 85) → frm (M_DA_hintsAreInForm_2) s s23 → F_DA_hintsAreInForm_2 s = F_DA_hintsAreInForm_2_L2 i21 z21 (F_DA_hintsAreInForm_2_L0 n21) n23 kx21 s23 → lv_has ls 6 [(5, .int (nI kx21)), (4, .int (nI z21)), (3, .int (nI i21)), (0, .ref h0), (1, .ref st)] → okn g T s23 pl → va_P g.1 vcl ([] ++ pl) H → va_D A ([] ++ pl) → va_S A s0.heap H locs → W p l e ({ frames := 0, cells := 0, slots := 0, locals := 0 } : Room) s0 m args below meth c H locs 0 0 (MQ below (va_Qi (fun (r : Int32) (u : (Int32 × Sto) × va_W) => (u.1 = F_DA_hintsAreInForm_2 s ∧ r = u.1.1 ∧ frm (M_DA_hintsAreInForm_2) s u.1.2 ∧ (u.1.1 = nI 0 ∨ hgN 75 8 (u.1.2.1 146)) ∧ True) ∧ okn g T u.1.2 u.2) (po g.1 vcl A (fun (u : (Int32 × Sto) × va_W) => [] ++ u.2)) A) args s0 0 0 A) (F0 m 51 ls []) := by
            intro n23
            induction n23 with
            | zero =>
              intro kx21 s23 pl ls H locs hm23 hi23 hi24 hF hR hl hO hP hD hS
              refine lv_iload hx hb dDA_hintsAreInForm_51 (lv_at hl 0 rfl) ?_
              refine lv_iload hx hb dDA_hintsAreInForm_53 (lv_at hl 1 rfl) ?_
              refine mi_ge (tgt := 93) hx hb dDA_hintsAreInForm_55 (by decide) (by omega) (by omega) (fun h28 => ?_) (fun h28 => absurd h28 (by omega))
              refine lv_iload hx hb dDA_hintsAreInForm_93 (lv_at hl 1 rfl) ?_
              refine lv_istore_n (lv' := [(2, .int (nI z21)), (5, .int (nI kx21)), (4, .int (nI z21)), (3, .int (nI i21)), (0, .ref h0), (1, .ref st)]) hx hb dDA_hintsAreInForm_95 rfl hl (by decide) rfl (fun ls hl => ?_)
              refine mi_iinc (k := 3) (x := i21) (d := 1) (y := i21 + 1) (lv' := [(3, .int (nI (i21 + 1))), (2, .int (nI z21)), (5, .int (nI kx21)), (4, .int (nI z21)), (0, .ref h0), (1, .ref st)]) hx hb dDA_hintsAreInForm_96 hl rfl (by decide) rfl (by decide) rfl (fun ls hl => ?_)
              refine lv_goto (tgt := 4) hx hb dDA_hintsAreInForm_99 (by decide) ?_
              exact ih21 (i21 + 1) z21 s23 pl ls H locs (by omega) (by omega) hF (hgN_step hgd (by rw [← hFx, ← ez21]; omega)) hR (lv_sub hl [0, 1, 4, 5] rfl) hO hP hD hS
            | succ n23 ih23 =>
              intro kx21 s23 pl ls H locs hm23 hi23 hi24 hF hR hl hO hP hD hS
              refine lv_iload hx hb dDA_hintsAreInForm_51 (lv_at hl 0 rfl) ?_
              refine lv_iload hx hb dDA_hintsAreInForm_53 (lv_at hl 1 rfl) ?_
              refine mi_ge (tgt := 93) hx hb dDA_hintsAreInForm_55 (by decide) (by omega) (by omega) (fun h29 => absurd h29 (by omega)) (fun h29 => ?_)
              refine lv_aload_n hx hb dDA_hintsAreInForm_58 rfl (lv_at hl 3 rfl) ?_
              refine nw_get (C := "LatticeKeys$Dsa") (TT := T_DA) (N := 17) hx hb hts (wg_ft i_DA) hown hK hO k_h0 (kn := 39) (ci := 6) (fl := [(3, 16), (3, 22), (3, 37), (3, 40), (3, 97), (3, 105), (3, 114), (3, 123), (3, 131), (3, 140), (3, 141), (3, 142), (3, 143), (3, 144), (3, 145), (3, 146), (3, 147)]) rfl hP rfl 15 (by decide) (hts _ (wg_t kw_180)) (fun _ h9 => h9) (cd := (3, 146)) rfl dDA_hintsAreInForm_59 (fun v29 hv29 => ?_)
              obtain ⟨r23, rfl, kr23⟩ := (show ∃ r : Nat, v29 = .ref r ∧ T r = some 146 from hv29)
              refine lv_iload hx hb dDA_hintsAreInForm_62 (lv_at hl 0 rfl) ?_
              refine lv_iconst (v := nI 1) hx hb dDA_hintsAreInForm_64 (by decide) ?_
              refine mi_isub hx hb dDA_hintsAreInForm_65 (by omega) ?_
              refine nw_bald hx hb hK hO kr23 (k := 146) rfl hP (by omega) (by omega) dDA_hintsAreInForm_66 ?_
              refine lv_sipush (v := nI 255) hx hb dDA_hintsAreInForm_67 (by decide) ?_
              refine lv_iand hx hb dDA_hintsAreInForm_70 ?_
              refine lv_aload_n hx hb dDA_hintsAreInForm_71 rfl (lv_at hl 3 rfl) ?_
              refine nw_get (C := "LatticeKeys$Dsa") (TT := T_DA) (N := 17) hx hb hts (wg_ft i_DA) hown hK hO k_h0 (kn := 39) (ci := 6) (fl := [(3, 16), (3, 22), (3, 37), (3, 40), (3, 97), (3, 105), (3, 114), (3, 123), (3, 131), (3, 140), (3, 141), (3, 142), (3, 143), (3, 144), (3, 145), (3, 146), (3, 147)]) rfl hP rfl 15 (by decide) (hts _ (wg_t kw_180)) (fun _ h9 => h9) (cd := (3, 146)) rfl dDA_hintsAreInForm_72 (fun v30 hv30 => ?_)
              obtain ⟨r24, rfl, kr24⟩ := (show ∃ r : Nat, v30 = .ref r ∧ T r = some 146 from hv30)
              refine lv_iload hx hb dDA_hintsAreInForm_75 (lv_at hl 0 rfl) ?_
              refine nw_bald hx hb hK hO kr24 (k := 146) rfl hP (by omega) (by omega) dDA_hintsAreInForm_77 ?_
              refine lv_sipush (v := nI 255) hx hb dDA_hintsAreInForm_78 (by decide) ?_
              refine lv_iand hx hb dDA_hintsAreInForm_81 ?_
              refine lv_icmp_lt (tgt := 87) hx hb dDA_hintsAreInForm_82 (by decide) (fun h30 => ?_) (fun h30 => ?_)
              · replace hR := hR.trans (if_pos h30)
                refine mi_iinc (k := 0) (x := kx21) (d := 1) (y := kx21 + 1) (lv' := [(5, .int (nI (kx21 + 1))), (4, .int (nI z21)), (3, .int (nI i21)), (0, .ref h0), (1, .ref st)]) hx hb dDA_hintsAreInForm_87 hl rfl (by decide) rfl (by decide) rfl (fun ls hl => ?_)
                refine lv_goto (tgt := 51) hx hb dDA_hintsAreInForm_90 (by decide) ?_
                exact ih23 (kx21 + 1) s23 pl ls H locs (by omega) (by omega) (by omega) hF hR (lv_sub hl [0, 1, 2, 3, 4] rfl) hO hP hD hS
              · replace hR := hR.trans (if_neg h30)
                refine lv_iconst (v := nI 0) hx hb dDA_hintsAreInForm_85 (by decide) ?_
                exact mp_zret hx hb hr hlk rfl hP hD hS ((nI 0, s23), pl) ⟨⟨hR.symm, rfl, hF, (Or.inl rfl), trivial⟩, hO⟩ [] rfl rfl rfl (by omega) (by omega) dDA_hintsAreInForm_86
          exact lp23 (z21 - (fs21 + 1)) (fs21 + 1) s21 pl ls _ _ (by omega) (by omega) (by omega) hF hR (lv_sub hl [0, 1, 2, 4, 5] rfl) hO hP hD hS
        · replace hR := hR.trans (if_neg (Nat.not_le.mpr h27))
          refine lv_iconst (v := nI 0) hx hb dDA_hintsAreInForm_44 (by decide) ?_
          exact mp_zret hx hb hr hlk rfl hP hD hS ((nI 0, s21), pl) ⟨⟨hR.symm, rfl, hF, (Or.inl rfl), trivial⟩, hO⟩ [] rfl rfl rfl (by omega) (by omega) dDA_hintsAreInForm_45
  exact lp21 8 0 0 s pl ls _ _ (by omega) (by omega) hF (fun _ h9 => absurd h9 (Nat.not_lt_zero _)) hR (lv_sub hl [0, 1, 2, 3] rfl) hO hP hD hS
def M_DA_readSignature_0 (k : Nat) : Prop := (124 ≤ k ∧ k < 131) ∨ k = 144 ∨ k = 146 ∨ (0 : Nat) = 1
noncomputable def F_DA_readSignature_0_L0 (ptp : Nat) (n : Nat) : Nat → Nat → Sto → Int32 × Sto
  | 0, i21, s23 => (nI 1, s23)
  | n21 + 1, i21, s23 => bnd (F_DA_readFlipped (124 + i21) 18 (nI 131072) ptp n (32 + (576 * i21)) s23) fun s24 => bnd (F_RG_isShort_8 (124 + i21) (nI 130994) s24) fun q22 => if (q22.1) = 0 then (nI 0, q22.2) else F_DA_readSignature_0_L0 ptp n n21 (i21 + 1) q22.2
noncomputable def F_DA_readSignature_0 (ptp : Nat) (n : Nat) (s : Sto) : Int32 × Sto := bnd (sC s ptp 144 0 0 32) fun s21 => bnd (sC s21 ptp 146 2336 0 84) fun s22 => bnd (F_DA_hintsAreInForm_0  s22) fun q21 => if (q21.1) = 0 then (nI 0, q21.2) else F_DA_readSignature_0_L0 ptp n 4 0 q21.2
set_option maxHeartbeats 8000000 in
set_option maxRecDepth 100000 in
theorem N_DA_readSignature_0 (l : Launch) (g : Gd) (sz : Nat) (T : TyN) (s : Sto) (pl : va_W) (hO : okn g T s pl) (hU : inj T) (h0 st tp : Nat) (ptp : Nat) (n : Nat) (k_h0 : T h0 = some 39) (k_st : T st = some 9) (k_tp : T tp = some ptp) (n_tp : nsp ptp = (1, n, [])) (h1 : 2420 ≤ n) (h2 : n < 65536)  : Met l y_DA_readSignature w_DA_readSignature ({ frames := 2, cells := 0, slots := 0, locals := 60 } : Room) (va_Pc [.ref h0, .ref st, .ref tp] (pr (en g) g.1 vcl sz ([] ++ pl))) (va_Qi (fun (r : Int32) (u : (Int32 × Sto) × va_W) => (u.1 = F_DA_readSignature_0 ptp n s ∧ r = u.1.1 ∧ frm (M_DA_readSignature_0) s u.1.2 ∧ (u.1.1 = nI 0 ∨ hgN 80 4 (u.1.2.1 146)) ∧ True) ∧ okn g T u.1.2 u.2) (po g.1 vcl (va_A ([] ++ pl) sz) (fun (u : (Int32 × Sto) × va_W) => [] ++ u.2)) (va_A ([] ++ pl) sz)) 0 0 (va_A ([] ++ pl) sz) := by
  refine mc_entry (cc := c_DA_readSignature) (maxL := 4) (ret := (some .boolean)) (by decide) rfl (Nat.le_of_ble_eq_true rfl) ?_
  intro p e s0 m args below meth c ls F hr hlk hnm hsz hP hD hE hA hl
  obtain ⟨hx, hb, hml, hown, hts⟩ := id F
  have hK := hE.1
  generalize va_A ([] ++ pl) sz = A at hD hE hA ⊢
  have hS : va_S A s0.heap s0.heap [] := va_S.rf
  have hl : lv_has ls 4 [(0, .ref h0), (1, .ref st), (2, .ref tp)] := hl
  have hR : F_DA_readSignature_0 ptp n s = F_DA_readSignature_0 ptp n s := rfl
  have hF : frm (M_DA_readSignature_0) s s := frm_rf
  refine lv_aload_n hx hb dDA_readSignature_0 rfl (lv_at hl 2 rfl) ?_
  refine lv_iconst (v := nI 0) hx hb dDA_readSignature_1 (by decide) ?_
  refine lv_aload_n hx hb dDA_readSignature_2 rfl (lv_at hl 0 rfl) ?_
  refine nw_get (C := "LatticeKeys$Dsa") (TT := T_DA) (N := 17) hx hb hts (wg_ft i_DA) hown hK hO k_h0 (kn := 39) (ci := 6) (fl := [(3, 16), (3, 22), (3, 37), (3, 40), (3, 97), (3, 105), (3, 114), (3, 123), (3, 131), (3, 140), (3, 141), (3, 142), (3, 143), (3, 144), (3, 145), (3, 146), (3, 147)]) rfl hP rfl 13 (by decide) (hts _ (wg_t kw_178)) (fun _ h9 => h9) (cd := (3, 144)) rfl dDA_readSignature_3 (fun v21 hv21 => ?_)
  obtain ⟨r21, rfl, kr21⟩ := (show ∃ r : Nat, v21 = .ref r ∧ T r = some 144 from hv21)
  refine lv_iconst (v := nI 0) hx hb dDA_readSignature_6 (by decide) ?_
  refine lv_aload_n hx hb dDA_readSignature_7 rfl (lv_at hl 1 rfl) ?_
  refine nw_get (C := "LatticeKeys$DsaSet") (TT := T_DS) (N := 17) hx hb hts (wg_ft i_DS) hown hK hO k_st (kn := 9) (ci := 2) (fl := [(1, 4), (1, 4), (1, 2), (1, 3), (1, 39), (1, 32), (1, 18), (1, 131072), (1, 44), (1, 6), (1, 95232), (1, 80), (1, 78), (1, 1312), (1, 2560), (1, 2336), (1, 2420)]) rfl hP rfl 5 (by decide) (hts _ (wg_t kw_315)) (fun _ h9 => h9) (cd := (1, 32)) rfl dDA_readSignature_8 (fun v22 hv22 => ?_)
  obtain rfl := (show v22 = .int (nI 32) from hv22)
  refine nw_copyb hx hb (hml.trans hl.1.symm) hown (hts _ (wg_t kw_674)) (hts _ (wg_t kw_526)) (hts _ (wg_t kw_525)) (hts _ (wg_t kw_19)) hK hO hU k_tp (k0 := ptp) n_tp kr21 (k1 := 144) rfl hP hD hS (sp := 0) (dp := 0) (n := 32) (by omega) (by omega) (by omega) (by decide) (Nat.le_of_ble_eq_true rfl) dDA_readSignature_11 (fun s21 pl H locs es21 hO hP hD hS => ?_)
  replace hR := bnd_step hR es21
  have hF := frm_sC hF es21 (by unfold M_DA_readSignature_0; omega)
  refine lv_aload_n hx hb dDA_readSignature_14 rfl (lv_at hl 2 rfl) ?_
  refine lv_aload_n hx hb dDA_readSignature_15 rfl (lv_at hl 1 rfl) ?_
  refine nw_get (C := "LatticeKeys$DsaSet") (TT := T_DS) (N := 17) hx hb hts (wg_ft i_DS) hown hK hO k_st (kn := 9) (ci := 2) (fl := [(1, 4), (1, 4), (1, 2), (1, 3), (1, 39), (1, 32), (1, 18), (1, 131072), (1, 44), (1, 6), (1, 95232), (1, 80), (1, 78), (1, 1312), (1, 2560), (1, 2336), (1, 2420)]) rfl hP rfl 15 (by decide) (hts _ (wg_t kw_335)) (fun _ h9 => h9) (cd := (1, 2336)) rfl dDA_readSignature_16 (fun v23 hv23 => ?_)
  obtain rfl := (show v23 = .int (nI 2336) from hv23)
  refine lv_aload_n hx hb dDA_readSignature_19 rfl (lv_at hl 0 rfl) ?_
  refine nw_get (C := "LatticeKeys$Dsa") (TT := T_DA) (N := 17) hx hb hts (wg_ft i_DA) hown hK hO k_h0 (kn := 39) (ci := 6) (fl := [(3, 16), (3, 22), (3, 37), (3, 40), (3, 97), (3, 105), (3, 114), (3, 123), (3, 131), (3, 140), (3, 141), (3, 142), (3, 143), (3, 144), (3, 145), (3, 146), (3, 147)]) rfl hP rfl 15 (by decide) (hts _ (wg_t kw_180)) (fun _ h9 => h9) (cd := (3, 146)) rfl dDA_readSignature_20 (fun v24 hv24 => ?_)
  obtain ⟨r22, rfl, kr22⟩ := (show ∃ r : Nat, v24 = .ref r ∧ T r = some 146 from hv24)
  refine lv_iconst (v := nI 0) hx hb dDA_readSignature_23 (by decide) ?_
  refine lv_aload_n hx hb dDA_readSignature_24 rfl (lv_at hl 1 rfl) ?_
  refine nw_get (C := "LatticeKeys$DsaSet") (TT := T_DS) (N := 17) hx hb hts (wg_ft i_DS) hown hK hO k_st (kn := 9) (ci := 2) (fl := [(1, 4), (1, 4), (1, 2), (1, 3), (1, 39), (1, 32), (1, 18), (1, 131072), (1, 44), (1, 6), (1, 95232), (1, 80), (1, 78), (1, 1312), (1, 2560), (1, 2336), (1, 2420)]) rfl hP rfl 11 (by decide) (hts _ (wg_t kw_327)) (fun _ h9 => h9) (cd := (1, 80)) rfl dDA_readSignature_25 (fun v25 hv25 => ?_)
  obtain rfl := (show v25 = .int (nI 80) from hv25)
  refine lv_aload_n hx hb dDA_readSignature_28 rfl (lv_at hl 1 rfl) ?_
  refine nw_get (C := "LatticeKeys$DsaSet") (TT := T_DS) (N := 17) hx hb hts (wg_ft i_DS) hown hK hO k_st (kn := 9) (ci := 2) (fl := [(1, 4), (1, 4), (1, 2), (1, 3), (1, 39), (1, 32), (1, 18), (1, 131072), (1, 44), (1, 6), (1, 95232), (1, 80), (1, 78), (1, 1312), (1, 2560), (1, 2336), (1, 2420)]) rfl hP rfl 0 (by decide) (hts _ (wg_t kw_302)) (fun _ h9 => h9) (cd := (1, 4)) rfl dDA_readSignature_29 (fun v26 hv26 => ?_)
  obtain rfl := (show v26 = .int (nI 4) from hv26)
  refine mi_iadd hx hb dDA_readSignature_32 ?_
  refine mi_as (show nI (80 + 4) = nI 84 from rfl) ?_
  refine nw_copyb hx hb (hml.trans hl.1.symm) hown (hts _ (wg_t kw_674)) (hts _ (wg_t kw_526)) (hts _ (wg_t kw_525)) (hts _ (wg_t kw_19)) hK hO hU k_tp (k0 := ptp) n_tp kr22 (k1 := 146) rfl hP hD hS (sp := 2336) (dp := 0) (n := 84) (by omega) (by omega) (by omega) (by decide) (Nat.le_of_ble_eq_true rfl) dDA_readSignature_33 (fun s22 pl H locs es22 hO hP hD hS => ?_)
  replace hR := bnd_step hR es22
  have hF := frm_sC hF es22 (by unfold M_DA_readSignature_0; omega)
  refine lv_aload_n hx hb dDA_readSignature_36 rfl (lv_at hl 0 rfl) ?_
  refine lv_aload_n hx hb dDA_readSignature_37 rfl (lv_at hl 1 rfl) ?_
  refine mp_i (cx := []) (wr := []) hP hD hS hA [] [] rfl rfl rfl (by decide) (va_runV (As := [.ref st]) (rest := []) F (N_DA_hintsAreInForm_0 l g _ T s22 pl hO hU h0 st k_h0 k_st) (cwV 1 hts (wg_app (wg_c kw_1269 (wg_c kw_1271 (wg_c ks_46 (wg_c kw_5 wg_n)))) kw_1272) rfl rfl rfl (by decide +kernel) ⟨by decide, by decide⟩) (pn_W "LatticeKeys$Dsa" (en_ok g) (ci := 6) (kn := 39) (fl := [(3, 16), (3, 22), (3, 37), (3, 40), (3, 97), (3, 105), (3, 114), (3, 123), (3, 131), (3, 140), (3, 141), (3, 142), (3, 143), (3, 144), (3, 145), (3, 146), (3, 147)]) hK hO k_h0 rfl hP hD hS hA hE [] rfl rfl rfl) rfl rfl hl.1 rfl (lv_room (Nat.le_of_ble_eq_true rfl)) dDA_readSignature_38 ⟨by omega, by omega⟩) (fun r23 u21 H locs hu21 hP hD hS => ?_)
  obtain ⟨q21, pl⟩ := u21
  obtain ⟨⟨eq21, rfl, hFc21, hxp21, -⟩, hO⟩ := hu21
  have hO : okn g T q21.2 pl := hO
  have hP : va_P g.1 vcl ([] ++ pl) _ := hP
  have hD : va_D _ ([] ++ pl) := hD
  have hFc21 : frm (M_DA_hintsAreInForm_0) s22 q21.2 := hFc21
  replace hR := bnd_step hR eq21
  have hF := frm_tr hF hFc21 (fun k hk => by unfold M_DA_hintsAreInForm_0 at hk; unfold M_DA_readSignature_0; omega)
  refine W.widen (k := 0) (n := 0) (by omega) (by omega) ?_
  refine lv_if_ne (tgt := 46) hx hb dDA_readSignature_41 (by decide) (fun h21 => ?_) (fun h21 => ?_)
  · replace hR := hR.trans (if_neg h21)
    have hg21 : hgN 80 4 (q21.2.1 146) := hxp21.resolve_left h21
    refine lv_iconst (v := nI 0) hx hb dDA_readSignature_46 (by decide) ?_
    refine lv_istore_n (lv' := [(3, .int (nI 0)), (0, .ref h0), (1, .ref st), (2, .ref tp)]) hx hb dDA_readSignature_47 rfl hl (by decide) rfl (fun ls hl => ?_)
    have lp21 : ∀ (n21 : Nat) (i21 : Nat) (s23 : Sto) (pl : va_W) (ls : Array Slot) (H : Heap) (locs : List Loc), n21 + i21 = 4 → frm (M_DA_readSignature_0) s s23 → (hgN 80 4 (s23.1 146)) → F_DA_readSignature_0 ptp n s = F_DA_readSignature_0_L0 ptp n n21 i21 s23 → lv_has ls 4 [(3, .int (nI i21)), (0, .ref h0), (1, .ref st), (2, .ref tp)] → okn g T s23 pl → va_P g.1 vcl ([] ++ pl) H → va_D A ([] ++ pl) → va_S A s0.heap H locs → W p l e ({ frames := 2, cells := 0, slots := 0, locals := 60 } : Room) s0 m args below meth c H locs 0 0 (MQ below (va_Qi (fun (r : Int32) (u : (Int32 × Sto) × va_W) => (u.1 = F_DA_readSignature_0 ptp n s ∧ r = u.1.1 ∧ frm (M_DA_readSignature_0) s u.1.2 ∧ (u.1.1 = nI 0 ∨ hgN 80 4 (u.1.2.1 146)) ∧ True) ∧ okn g T u.1.2 u.2) (po g.1 vcl A (fun (u : (Int32 × Sto) × va_W) => [] ++ u.2)) A) args s0 0 0 A) (F0 m 48 ls []) := by
      intro n21
      induction n21 with
      | zero =>
        intro i21 s23 pl ls H locs hm21 hF hg22 hR hl hO hP hD hS
        refine lv_iload_n hx hb dDA_readSignature_48 rfl (lv_at hl 0 rfl) ?_
        refine lv_aload_n hx hb dDA_readSignature_49 rfl (lv_at hl 2 rfl) ?_
        refine nw_get (C := "LatticeKeys$DsaSet") (TT := T_DS) (N := 17) hx hb hts (wg_ft i_DS) hown hK hO k_st (kn := 9) (ci := 2) (fl := [(1, 4), (1, 4), (1, 2), (1, 3), (1, 39), (1, 32), (1, 18), (1, 131072), (1, 44), (1, 6), (1, 95232), (1, 80), (1, 78), (1, 1312), (1, 2560), (1, 2336), (1, 2420)]) rfl hP rfl 1 (by decide) (hts _ (wg_t kw_305)) (fun _ h9 => h9) (cd := (1, 4)) rfl dDA_readSignature_50 (fun v27 hv27 => ?_)
        obtain rfl := (show v27 = .int (nI 4) from hv27)
        refine mi_ge (tgt := 122) hx hb dDA_readSignature_53 (by decide) (by omega) (by omega) (fun h22 => ?_) (fun h22 => absurd h22 (by omega))
        refine lv_iconst (v := nI 1) hx hb dDA_readSignature_122 (by decide) ?_
        exact mp_zret hx hb hr hlk rfl hP hD hS ((nI 1, s23), pl) ⟨⟨hR.symm, rfl, hF, (Or.inr hg22), trivial⟩, hO⟩ [] rfl rfl rfl (by omega) (by omega) dDA_readSignature_123
      | succ n21 ih21 =>
        intro i21 s23 pl ls H locs hm21 hF hg22 hR hl hO hP hD hS
        refine lv_iload_n hx hb dDA_readSignature_48 rfl (lv_at hl 0 rfl) ?_
        refine lv_aload_n hx hb dDA_readSignature_49 rfl (lv_at hl 2 rfl) ?_
        refine nw_get (C := "LatticeKeys$DsaSet") (TT := T_DS) (N := 17) hx hb hts (wg_ft i_DS) hown hK hO k_st (kn := 9) (ci := 2) (fl := [(1, 4), (1, 4), (1, 2), (1, 3), (1, 39), (1, 32), (1, 18), (1, 131072), (1, 44), (1, 6), (1, 95232), (1, 80), (1, 78), (1, 1312), (1, 2560), (1, 2336), (1, 2420)]) rfl hP rfl 1 (by decide) (hts _ (wg_t kw_305)) (fun _ h9 => h9) (cd := (1, 4)) rfl dDA_readSignature_50 (fun v28 hv28 => ?_)
        obtain rfl := (show v28 = .int (nI 4) from hv28)
        refine mi_ge (tgt := 122) hx hb dDA_readSignature_53 (by decide) (by omega) (by omega) (fun h23 => absurd h23 (by omega)) (fun h23 => ?_)
        refine lv_aload_n hx hb dDA_readSignature_56 rfl (lv_at hl 1 rfl) ?_
        refine lv_aload_n hx hb dDA_readSignature_57 rfl (lv_at hl 1 rfl) ?_
        refine nw_get (C := "LatticeKeys$Dsa") (TT := T_DA) (N := 17) hx hb hts (wg_ft i_DA) hown hK hO k_h0 (kn := 39) (ci := 6) (fl := [(3, 16), (3, 22), (3, 37), (3, 40), (3, 97), (3, 105), (3, 114), (3, 123), (3, 131), (3, 140), (3, 141), (3, 142), (3, 143), (3, 144), (3, 145), (3, 146), (3, 147)]) rfl hP rfl 7 (by decide) (hts _ (wg_t kw_172)) (fun _ h9 => h9) (cd := (3, 123)) rfl dDA_readSignature_58 (fun v29 hv29 => ?_)
        obtain ⟨r24, rfl, kr23⟩ := (show ∃ r : Nat, v29 = .ref r ∧ T r = some 123 from hv29)
        refine lv_iload_n hx hb dDA_readSignature_61 rfl (lv_at hl 0 rfl) ?_
        refine nw_aald3 hx hb hK hO kr23 (k := 123) (b := 124) rfl hP (by omega) (by omega) dDA_readSignature_62 (fun r25 kr24 => ?_)
        have hn21 : nsp (124 + i21) = (0, 256, []) := rows_ok 124 7 (by decide) _ (by omega)
        refine lv_aload_n hx hb dDA_readSignature_63 rfl (lv_at hl 2 rfl) ?_
        refine nw_get (C := "LatticeKeys$DsaSet") (TT := T_DS) (N := 17) hx hb hts (wg_ft i_DS) hown hK hO k_st (kn := 9) (ci := 2) (fl := [(1, 4), (1, 4), (1, 2), (1, 3), (1, 39), (1, 32), (1, 18), (1, 131072), (1, 44), (1, 6), (1, 95232), (1, 80), (1, 78), (1, 1312), (1, 2560), (1, 2336), (1, 2420)]) rfl hP rfl 6 (by decide) (hts _ (wg_t kw_318)) (fun _ h9 => h9) (cd := (1, 18)) rfl dDA_readSignature_64 (fun v30 hv30 => ?_)
        obtain rfl := (show v30 = .int (nI 18) from hv30)
        refine lv_aload_n hx hb dDA_readSignature_67 rfl (lv_at hl 2 rfl) ?_
        refine nw_get (C := "LatticeKeys$DsaSet") (TT := T_DS) (N := 17) hx hb hts (wg_ft i_DS) hown hK hO k_st (kn := 9) (ci := 2) (fl := [(1, 4), (1, 4), (1, 2), (1, 3), (1, 39), (1, 32), (1, 18), (1, 131072), (1, 44), (1, 6), (1, 95232), (1, 80), (1, 78), (1, 1312), (1, 2560), (1, 2336), (1, 2420)]) rfl hP rfl 7 (by decide) (hts _ (wg_t kw_320)) (fun _ h9 => h9) (cd := (1, 131072)) rfl dDA_readSignature_68 (fun v31 hv31 => ?_)
        obtain rfl := (show v31 = .int (nI 131072) from hv31)
        refine lv_aload_n hx hb dDA_readSignature_71 rfl (lv_at hl 3 rfl) ?_
        refine lv_aload_n hx hb dDA_readSignature_72 rfl (lv_at hl 2 rfl) ?_
        refine nw_get (C := "LatticeKeys$DsaSet") (TT := T_DS) (N := 17) hx hb hts (wg_ft i_DS) hown hK hO k_st (kn := 9) (ci := 2) (fl := [(1, 4), (1, 4), (1, 2), (1, 3), (1, 39), (1, 32), (1, 18), (1, 131072), (1, 44), (1, 6), (1, 95232), (1, 80), (1, 78), (1, 1312), (1, 2560), (1, 2336), (1, 2420)]) rfl hP rfl 5 (by decide) (hts _ (wg_t kw_315)) (fun _ h9 => h9) (cd := (1, 32)) rfl dDA_readSignature_73 (fun v32 hv32 => ?_)
        obtain rfl := (show v32 = .int (nI 32) from hv32)
        refine lv_bipush (v := nI 32) hx hb dDA_readSignature_76 (by decide) ?_
        refine lv_aload_n hx hb dDA_readSignature_78 rfl (lv_at hl 2 rfl) ?_
        refine nw_get (C := "LatticeKeys$DsaSet") (TT := T_DS) (N := 17) hx hb hts (wg_ft i_DS) hown hK hO k_st (kn := 9) (ci := 2) (fl := [(1, 4), (1, 4), (1, 2), (1, 3), (1, 39), (1, 32), (1, 18), (1, 131072), (1, 44), (1, 6), (1, 95232), (1, 80), (1, 78), (1, 1312), (1, 2560), (1, 2336), (1, 2420)]) rfl hP rfl 6 (by decide) (hts _ (wg_t kw_318)) (fun _ h9 => h9) (cd := (1, 18)) rfl dDA_readSignature_79 (fun v33 hv33 => ?_)
        obtain rfl := (show v33 = .int (nI 18) from hv33)
        refine mi_imul hx hb dDA_readSignature_82 ?_
        refine mi_as (show nI (32 * 18) = nI 576 from rfl) ?_
        refine lv_iload_n hx hb dDA_readSignature_83 rfl (lv_at hl 0 rfl) ?_
        refine mi_imul hx hb dDA_readSignature_84 ?_
        refine mi_iadd hx hb dDA_readSignature_85 ?_
        refine mp_v (cx := []) (wr := []) hP hD hS hA [] [] rfl rfl rfl (by decide) (va_runV (As := [.ref r25, .int (nI 18), .int (nI 131072), .ref tp, .int (nI (32 + (576 * i21)))]) (rest := []) F (N_DA_readFlipped l g _ T s23 pl hO hU h0 r25 tp (124 + i21) 18 (nI 131072) ptp n (32 + (576 * i21)) k_h0 kr24 hn21 k_tp n_tp (by omega) (by omega) (by omega)) (cwV 5 hts (wg_app (wg_c kw_1183 (wg_c kw_1185 (wg_c ks_35 (wg_c kw_5 wg_n)))) kw_1186) rfl rfl rfl (by decide +kernel) ⟨by decide, by decide⟩) (pn_W "LatticeKeys$Dsa" (en_ok g) (ci := 6) (kn := 39) (fl := [(3, 16), (3, 22), (3, 37), (3, 40), (3, 97), (3, 105), (3, 114), (3, 123), (3, 131), (3, 140), (3, 141), (3, 142), (3, 143), (3, 144), (3, 145), (3, 146), (3, 147)]) hK hO k_h0 rfl hP hD hS hA hE [] rfl rfl rfl) rfl rfl hl.1 rfl (lv_room (Nat.le_of_ble_eq_true rfl)) dDA_readSignature_86 ⟨by omega, by omega⟩) (fun  u22 H locs hu22 hP hD hS => ?_)
        obtain ⟨s24, pl⟩ := u22
        obtain ⟨⟨eq22, hFc22, -⟩, hO⟩ := hu22
        have hO : okn g T s24 pl := hO
        have hP : va_P g.1 vcl ([] ++ pl) _ := hP
        have hD : va_D _ ([] ++ pl) := hD
        have hFc22 : frm (M_DA_readFlipped (124 + i21)) s23 s24 := hFc22
        replace hR := bnd_step hR eq22
        have hF := frm_tr hF hFc22 (fun k hk => by unfold M_DA_readFlipped at hk; unfold M_DA_readSignature_0; omega)
        have hg23 : hgN 80 4 (s24.1 146) := by rw [hFc22 146 (by unfold M_DA_readFlipped; omega)]; exact hg22
        refine W.widen (k := 0) (n := 0) (by omega) (by omega) ?_
        refine lv_aload_n hx hb dDA_readSignature_89 rfl (lv_at hl 1 rfl) ?_
        refine nw_get (C := "LatticeKeys$Dsa") (TT := T_DA) (N := 17) hx hb hts (wg_ft i_DA) hown hK hO k_h0 (kn := 39) (ci := 6) (fl := [(3, 16), (3, 22), (3, 37), (3, 40), (3, 97), (3, 105), (3, 114), (3, 123), (3, 131), (3, 140), (3, 141), (3, 142), (3, 143), (3, 144), (3, 145), (3, 146), (3, 147)]) rfl hP rfl 1 (by decide) (hts _ (wg_t kw_166)) (fun _ h9 => h9) (cd := (3, 22)) rfl dDA_readSignature_90 (fun v34 hv34 => ?_)
        obtain ⟨r26, rfl, kr25⟩ := (show ∃ r : Nat, v34 = .ref r ∧ T r = some 22 from hv34)
        refine lv_aload_n hx hb dDA_readSignature_93 rfl (lv_at hl 1 rfl) ?_
        refine nw_get (C := "LatticeKeys$Dsa") (TT := T_DA) (N := 17) hx hb hts (wg_ft i_DA) hown hK hO k_h0 (kn := 39) (ci := 6) (fl := [(3, 16), (3, 22), (3, 37), (3, 40), (3, 97), (3, 105), (3, 114), (3, 123), (3, 131), (3, 140), (3, 141), (3, 142), (3, 143), (3, 144), (3, 145), (3, 146), (3, 147)]) rfl hP rfl 7 (by decide) (hts _ (wg_t kw_172)) (fun _ h9 => h9) (cd := (3, 123)) rfl dDA_readSignature_94 (fun v35 hv35 => ?_)
        obtain ⟨r27, rfl, kr26⟩ := (show ∃ r : Nat, v35 = .ref r ∧ T r = some 123 from hv35)
        refine lv_iload_n hx hb dDA_readSignature_97 rfl (lv_at hl 0 rfl) ?_
        refine nw_aald3 hx hb hK hO kr26 (k := 123) (b := 124) rfl hP (by omega) (by omega) dDA_readSignature_98 (fun r28 kr27 => ?_)
        have hn22 : nsp (124 + i21) = (0, 256, []) := rows_ok 124 7 (by decide) _ (by omega)
        refine lv_aload_n hx hb dDA_readSignature_99 rfl (lv_at hl 2 rfl) ?_
        refine nw_get (C := "LatticeKeys$DsaSet") (TT := T_DS) (N := 17) hx hb hts (wg_ft i_DS) hown hK hO k_st (kn := 9) (ci := 2) (fl := [(1, 4), (1, 4), (1, 2), (1, 3), (1, 39), (1, 32), (1, 18), (1, 131072), (1, 44), (1, 6), (1, 95232), (1, 80), (1, 78), (1, 1312), (1, 2560), (1, 2336), (1, 2420)]) rfl hP rfl 7 (by decide) (hts _ (wg_t kw_320)) (fun _ h9 => h9) (cd := (1, 131072)) rfl dDA_readSignature_100 (fun v36 hv36 => ?_)
        obtain rfl := (show v36 = .int (nI 131072) from hv36)
        refine lv_aload_n hx hb dDA_readSignature_103 rfl (lv_at hl 2 rfl) ?_
        refine nw_get (C := "LatticeKeys$DsaSet") (TT := T_DS) (N := 17) hx hb hts (wg_ft i_DS) hown hK hO k_st (kn := 9) (ci := 2) (fl := [(1, 4), (1, 4), (1, 2), (1, 3), (1, 39), (1, 32), (1, 18), (1, 131072), (1, 44), (1, 6), (1, 95232), (1, 80), (1, 78), (1, 1312), (1, 2560), (1, 2336), (1, 2420)]) rfl hP rfl 12 (by decide) (hts _ (wg_t kw_329)) (fun _ h9 => h9) (cd := (1, 78)) rfl dDA_readSignature_104 (fun v37 hv37 => ?_)
        obtain rfl := (show v37 = .int (nI 78) from hv37)
        refine mi_isub hx hb dDA_readSignature_107 (by omega) ?_
        refine mi_as (show nI (131072 - 78) = nI 130994 from rfl) ?_
        refine mp_i (cx := []) (wr := []) hP hD hS hA [] [] rfl rfl rfl (by decide) (va_runV (As := [.ref r28, .int (nI 130994)]) (rest := []) F (N_RG_isShort_8 l g _ T s24 pl hO hU r26 r28 (124 + i21) (nI 130994) kr25 kr27 hn22) (cwV 2 hts (wg_app (wg_c kw_1228 (wg_c kw_1229 (wg_c kw_1230 (wg_c kw_4 wg_n)))) kw_1231) rfl rfl rfl (by decide +kernel) ⟨by decide, by decide⟩) (pn_W "LatticeKeys$Ring" (en_ok g) (ci := 4) (kn := 22) (fl := [(1, 8380417), (1, 8), (1, 8347681), (3, 23)]) hK hO kr25 rfl hP hD hS hA hE [] rfl rfl rfl) rfl rfl hl.1 rfl (lv_room (Nat.le_of_ble_eq_true rfl)) dDA_readSignature_108 ⟨by omega, by omega⟩) (fun r29 u23 H locs hu23 hP hD hS => ?_)
        obtain ⟨q22, pl⟩ := u23
        obtain ⟨⟨eq23, rfl, hFc23, -⟩, hO⟩ := hu23
        have hO : okn g T q22.2 pl := hO
        have hP : va_P g.1 vcl ([] ++ pl) _ := hP
        have hD : va_D _ ([] ++ pl) := hD
        have hFc23 : frm (M_RG_isShort_8) s24 q22.2 := hFc23
        replace hR := bnd_step hR eq23
        have hF := frm_tr hF hFc23 (fun k hk => by unfold M_RG_isShort_8 at hk; unfold M_DA_readSignature_0; omega)
        have hg24 : hgN 80 4 (q22.2.1 146) := by rw [hFc23 146 (by unfold M_RG_isShort_8; omega)]; exact hg23
        refine W.widen (k := 0) (n := 0) (by omega) (by omega) ?_
        refine lv_if_ne (tgt := 116) hx hb dDA_readSignature_111 (by decide) (fun h24 => ?_) (fun h24 => ?_)
        · replace hR := hR.trans (if_neg h24)
          refine mi_iinc (k := 0) (x := i21) (d := 1) (y := i21 + 1) (lv' := [(3, .int (nI (i21 + 1))), (0, .ref h0), (1, .ref st), (2, .ref tp)]) hx hb dDA_readSignature_116 hl rfl (by decide) rfl (by decide) rfl (fun ls hl => ?_)
          refine lv_goto (tgt := 48) hx hb dDA_readSignature_119 (by decide) ?_
          exact ih21 (i21 + 1) q22.2 pl ls H locs (by omega) hF hg24 hR (lv_sub hl [0, 1, 2, 3] rfl) hO hP hD hS
        · replace hR := hR.trans (if_pos h24)
          refine lv_iconst (v := nI 0) hx hb dDA_readSignature_114 (by decide) ?_
          exact mp_zret hx hb hr hlk rfl hP hD hS ((nI 0, q22.2), pl) ⟨⟨hR.symm, rfl, hF, (Or.inl rfl), trivial⟩, hO⟩ [] rfl rfl rfl (by omega) (by omega) dDA_readSignature_115
    exact lp21 4 0 q21.2 pl ls _ _ (by omega) hF hg21 hR (lv_sub hl [0, 1, 2, 3] rfl) hO hP hD hS
  · replace hR := hR.trans (if_pos h21)
    refine lv_iconst (v := nI 0) hx hb dDA_readSignature_44 (by decide) ?_
    exact mp_zret hx hb hr hlk rfl hP hD hS ((nI 0, q21.2), pl) ⟨⟨hR.symm, rfl, hF, (Or.inl rfl), trivial⟩, hO⟩ [] rfl rfl rfl (by omega) (by omega) dDA_readSignature_45
def M_DA_readSignature_1 (k : Nat) : Prop := (124 ≤ k ∧ k < 131) ∨ k = 144 ∨ k = 146 ∨ (0 : Nat) = 1
noncomputable def F_DA_readSignature_1_L0 (ptp : Nat) (n : Nat) : Nat → Nat → Sto → Int32 × Sto
  | 0, i21, s23 => (nI 1, s23)
  | n21 + 1, i21, s23 => bnd (F_DA_readFlipped (124 + i21) 20 (nI 524288) ptp n (48 + (640 * i21)) s23) fun s24 => bnd (F_RG_isShort_8 (124 + i21) (nI 524092) s24) fun q22 => if (q22.1) = 0 then (nI 0, q22.2) else F_DA_readSignature_1_L0 ptp n n21 (i21 + 1) q22.2
noncomputable def F_DA_readSignature_1 (ptp : Nat) (n : Nat) (s : Sto) : Int32 × Sto := bnd (sC s ptp 144 0 0 48) fun s21 => bnd (sC s21 ptp 146 3248 0 61) fun s22 => bnd (F_DA_hintsAreInForm_1  s22) fun q21 => if (q21.1) = 0 then (nI 0, q21.2) else F_DA_readSignature_1_L0 ptp n 5 0 q21.2
set_option maxHeartbeats 8000000 in
set_option maxRecDepth 100000 in
theorem N_DA_readSignature_1 (l : Launch) (g : Gd) (sz : Nat) (T : TyN) (s : Sto) (pl : va_W) (hO : okn g T s pl) (hU : inj T) (h0 st tp : Nat) (ptp : Nat) (n : Nat) (k_h0 : T h0 = some 39) (k_st : T st = some 10) (k_tp : T tp = some ptp) (n_tp : nsp ptp = (1, n, [])) (h1 : 3309 ≤ n) (h2 : n < 65536)  : Met l y_DA_readSignature w_DA_readSignature ({ frames := 2, cells := 0, slots := 0, locals := 60 } : Room) (va_Pc [.ref h0, .ref st, .ref tp] (pr (en g) g.1 vcl sz ([] ++ pl))) (va_Qi (fun (r : Int32) (u : (Int32 × Sto) × va_W) => (u.1 = F_DA_readSignature_1 ptp n s ∧ r = u.1.1 ∧ frm (M_DA_readSignature_1) s u.1.2 ∧ (u.1.1 = nI 0 ∨ hgN 55 6 (u.1.2.1 146)) ∧ True) ∧ okn g T u.1.2 u.2) (po g.1 vcl (va_A ([] ++ pl) sz) (fun (u : (Int32 × Sto) × va_W) => [] ++ u.2)) (va_A ([] ++ pl) sz)) 0 0 (va_A ([] ++ pl) sz) := by
  refine mc_entry (cc := c_DA_readSignature) (maxL := 4) (ret := (some .boolean)) (by decide) rfl (Nat.le_of_ble_eq_true rfl) ?_
  intro p e s0 m args below meth c ls F hr hlk hnm hsz hP hD hE hA hl
  obtain ⟨hx, hb, hml, hown, hts⟩ := id F
  have hK := hE.1
  generalize va_A ([] ++ pl) sz = A at hD hE hA ⊢
  have hS : va_S A s0.heap s0.heap [] := va_S.rf
  have hl : lv_has ls 4 [(0, .ref h0), (1, .ref st), (2, .ref tp)] := hl
  have hR : F_DA_readSignature_1 ptp n s = F_DA_readSignature_1 ptp n s := rfl
  have hF : frm (M_DA_readSignature_1) s s := frm_rf
  refine lv_aload_n hx hb dDA_readSignature_0 rfl (lv_at hl 2 rfl) ?_
  refine lv_iconst (v := nI 0) hx hb dDA_readSignature_1 (by decide) ?_
  refine lv_aload_n hx hb dDA_readSignature_2 rfl (lv_at hl 0 rfl) ?_
  refine nw_get (C := "LatticeKeys$Dsa") (TT := T_DA) (N := 17) hx hb hts (wg_ft i_DA) hown hK hO k_h0 (kn := 39) (ci := 6) (fl := [(3, 16), (3, 22), (3, 37), (3, 40), (3, 97), (3, 105), (3, 114), (3, 123), (3, 131), (3, 140), (3, 141), (3, 142), (3, 143), (3, 144), (3, 145), (3, 146), (3, 147)]) rfl hP rfl 13 (by decide) (hts _ (wg_t kw_178)) (fun _ h9 => h9) (cd := (3, 144)) rfl dDA_readSignature_3 (fun v21 hv21 => ?_)
  obtain ⟨r21, rfl, kr21⟩ := (show ∃ r : Nat, v21 = .ref r ∧ T r = some 144 from hv21)
  refine lv_iconst (v := nI 0) hx hb dDA_readSignature_6 (by decide) ?_
  refine lv_aload_n hx hb dDA_readSignature_7 rfl (lv_at hl 1 rfl) ?_
  refine nw_get (C := "LatticeKeys$DsaSet") (TT := T_DS) (N := 17) hx hb hts (wg_ft i_DS) hown hK hO k_st (kn := 10) (ci := 2) (fl := [(1, 6), (1, 5), (1, 4), (1, 4), (1, 49), (1, 48), (1, 20), (1, 524288), (1, 16), (1, 4), (1, 261888), (1, 55), (1, 196), (1, 1952), (1, 4032), (1, 3248), (1, 3309)]) rfl hP rfl 5 (by decide) (hts _ (wg_t kw_315)) (fun _ h9 => h9) (cd := (1, 48)) rfl dDA_readSignature_8 (fun v22 hv22 => ?_)
  obtain rfl := (show v22 = .int (nI 48) from hv22)
  refine nw_copyb hx hb (hml.trans hl.1.symm) hown (hts _ (wg_t kw_674)) (hts _ (wg_t kw_526)) (hts _ (wg_t kw_525)) (hts _ (wg_t kw_19)) hK hO hU k_tp (k0 := ptp) n_tp kr21 (k1 := 144) rfl hP hD hS (sp := 0) (dp := 0) (n := 48) (by omega) (by omega) (by omega) (by decide) (Nat.le_of_ble_eq_true rfl) dDA_readSignature_11 (fun s21 pl H locs es21 hO hP hD hS => ?_)
  replace hR := bnd_step hR es21
  have hF := frm_sC hF es21 (by unfold M_DA_readSignature_1; omega)
  refine lv_aload_n hx hb dDA_readSignature_14 rfl (lv_at hl 2 rfl) ?_
  refine lv_aload_n hx hb dDA_readSignature_15 rfl (lv_at hl 1 rfl) ?_
  refine nw_get (C := "LatticeKeys$DsaSet") (TT := T_DS) (N := 17) hx hb hts (wg_ft i_DS) hown hK hO k_st (kn := 10) (ci := 2) (fl := [(1, 6), (1, 5), (1, 4), (1, 4), (1, 49), (1, 48), (1, 20), (1, 524288), (1, 16), (1, 4), (1, 261888), (1, 55), (1, 196), (1, 1952), (1, 4032), (1, 3248), (1, 3309)]) rfl hP rfl 15 (by decide) (hts _ (wg_t kw_335)) (fun _ h9 => h9) (cd := (1, 3248)) rfl dDA_readSignature_16 (fun v23 hv23 => ?_)
  obtain rfl := (show v23 = .int (nI 3248) from hv23)
  refine lv_aload_n hx hb dDA_readSignature_19 rfl (lv_at hl 0 rfl) ?_
  refine nw_get (C := "LatticeKeys$Dsa") (TT := T_DA) (N := 17) hx hb hts (wg_ft i_DA) hown hK hO k_h0 (kn := 39) (ci := 6) (fl := [(3, 16), (3, 22), (3, 37), (3, 40), (3, 97), (3, 105), (3, 114), (3, 123), (3, 131), (3, 140), (3, 141), (3, 142), (3, 143), (3, 144), (3, 145), (3, 146), (3, 147)]) rfl hP rfl 15 (by decide) (hts _ (wg_t kw_180)) (fun _ h9 => h9) (cd := (3, 146)) rfl dDA_readSignature_20 (fun v24 hv24 => ?_)
  obtain ⟨r22, rfl, kr22⟩ := (show ∃ r : Nat, v24 = .ref r ∧ T r = some 146 from hv24)
  refine lv_iconst (v := nI 0) hx hb dDA_readSignature_23 (by decide) ?_
  refine lv_aload_n hx hb dDA_readSignature_24 rfl (lv_at hl 1 rfl) ?_
  refine nw_get (C := "LatticeKeys$DsaSet") (TT := T_DS) (N := 17) hx hb hts (wg_ft i_DS) hown hK hO k_st (kn := 10) (ci := 2) (fl := [(1, 6), (1, 5), (1, 4), (1, 4), (1, 49), (1, 48), (1, 20), (1, 524288), (1, 16), (1, 4), (1, 261888), (1, 55), (1, 196), (1, 1952), (1, 4032), (1, 3248), (1, 3309)]) rfl hP rfl 11 (by decide) (hts _ (wg_t kw_327)) (fun _ h9 => h9) (cd := (1, 55)) rfl dDA_readSignature_25 (fun v25 hv25 => ?_)
  obtain rfl := (show v25 = .int (nI 55) from hv25)
  refine lv_aload_n hx hb dDA_readSignature_28 rfl (lv_at hl 1 rfl) ?_
  refine nw_get (C := "LatticeKeys$DsaSet") (TT := T_DS) (N := 17) hx hb hts (wg_ft i_DS) hown hK hO k_st (kn := 10) (ci := 2) (fl := [(1, 6), (1, 5), (1, 4), (1, 4), (1, 49), (1, 48), (1, 20), (1, 524288), (1, 16), (1, 4), (1, 261888), (1, 55), (1, 196), (1, 1952), (1, 4032), (1, 3248), (1, 3309)]) rfl hP rfl 0 (by decide) (hts _ (wg_t kw_302)) (fun _ h9 => h9) (cd := (1, 6)) rfl dDA_readSignature_29 (fun v26 hv26 => ?_)
  obtain rfl := (show v26 = .int (nI 6) from hv26)
  refine mi_iadd hx hb dDA_readSignature_32 ?_
  refine mi_as (show nI (55 + 6) = nI 61 from rfl) ?_
  refine nw_copyb hx hb (hml.trans hl.1.symm) hown (hts _ (wg_t kw_674)) (hts _ (wg_t kw_526)) (hts _ (wg_t kw_525)) (hts _ (wg_t kw_19)) hK hO hU k_tp (k0 := ptp) n_tp kr22 (k1 := 146) rfl hP hD hS (sp := 3248) (dp := 0) (n := 61) (by omega) (by omega) (by omega) (by decide) (Nat.le_of_ble_eq_true rfl) dDA_readSignature_33 (fun s22 pl H locs es22 hO hP hD hS => ?_)
  replace hR := bnd_step hR es22
  have hF := frm_sC hF es22 (by unfold M_DA_readSignature_1; omega)
  refine lv_aload_n hx hb dDA_readSignature_36 rfl (lv_at hl 0 rfl) ?_
  refine lv_aload_n hx hb dDA_readSignature_37 rfl (lv_at hl 1 rfl) ?_
  refine mp_i (cx := []) (wr := []) hP hD hS hA [] [] rfl rfl rfl (by decide) (va_runV (As := [.ref st]) (rest := []) F (N_DA_hintsAreInForm_1 l g _ T s22 pl hO hU h0 st k_h0 k_st) (cwV 1 hts (wg_app (wg_c kw_1269 (wg_c kw_1271 (wg_c ks_46 (wg_c kw_5 wg_n)))) kw_1272) rfl rfl rfl (by decide +kernel) ⟨by decide, by decide⟩) (pn_W "LatticeKeys$Dsa" (en_ok g) (ci := 6) (kn := 39) (fl := [(3, 16), (3, 22), (3, 37), (3, 40), (3, 97), (3, 105), (3, 114), (3, 123), (3, 131), (3, 140), (3, 141), (3, 142), (3, 143), (3, 144), (3, 145), (3, 146), (3, 147)]) hK hO k_h0 rfl hP hD hS hA hE [] rfl rfl rfl) rfl rfl hl.1 rfl (lv_room (Nat.le_of_ble_eq_true rfl)) dDA_readSignature_38 ⟨by omega, by omega⟩) (fun r23 u21 H locs hu21 hP hD hS => ?_)
  obtain ⟨q21, pl⟩ := u21
  obtain ⟨⟨eq21, rfl, hFc21, hxp21, -⟩, hO⟩ := hu21
  have hO : okn g T q21.2 pl := hO
  have hP : va_P g.1 vcl ([] ++ pl) _ := hP
  have hD : va_D _ ([] ++ pl) := hD
  have hFc21 : frm (M_DA_hintsAreInForm_1) s22 q21.2 := hFc21
  replace hR := bnd_step hR eq21
  have hF := frm_tr hF hFc21 (fun k hk => by unfold M_DA_hintsAreInForm_1 at hk; unfold M_DA_readSignature_1; omega)
  refine W.widen (k := 0) (n := 0) (by omega) (by omega) ?_
  refine lv_if_ne (tgt := 46) hx hb dDA_readSignature_41 (by decide) (fun h21 => ?_) (fun h21 => ?_)
  · replace hR := hR.trans (if_neg h21)
    have hg21 : hgN 55 6 (q21.2.1 146) := hxp21.resolve_left h21
    refine lv_iconst (v := nI 0) hx hb dDA_readSignature_46 (by decide) ?_
    refine lv_istore_n (lv' := [(3, .int (nI 0)), (0, .ref h0), (1, .ref st), (2, .ref tp)]) hx hb dDA_readSignature_47 rfl hl (by decide) rfl (fun ls hl => ?_)
    have lp21 : ∀ (n21 : Nat) (i21 : Nat) (s23 : Sto) (pl : va_W) (ls : Array Slot) (H : Heap) (locs : List Loc), n21 + i21 = 5 → frm (M_DA_readSignature_1) s s23 → (hgN 55 6 (s23.1 146)) → F_DA_readSignature_1 ptp n s = F_DA_readSignature_1_L0 ptp n n21 i21 s23 → lv_has ls 4 [(3, .int (nI i21)), (0, .ref h0), (1, .ref st), (2, .ref tp)] → okn g T s23 pl → va_P g.1 vcl ([] ++ pl) H → va_D A ([] ++ pl) → va_S A s0.heap H locs → W p l e ({ frames := 2, cells := 0, slots := 0, locals := 60 } : Room) s0 m args below meth c H locs 0 0 (MQ below (va_Qi (fun (r : Int32) (u : (Int32 × Sto) × va_W) => (u.1 = F_DA_readSignature_1 ptp n s ∧ r = u.1.1 ∧ frm (M_DA_readSignature_1) s u.1.2 ∧ (u.1.1 = nI 0 ∨ hgN 55 6 (u.1.2.1 146)) ∧ True) ∧ okn g T u.1.2 u.2) (po g.1 vcl A (fun (u : (Int32 × Sto) × va_W) => [] ++ u.2)) A) args s0 0 0 A) (F0 m 48 ls []) := by
      intro n21
      induction n21 with
      | zero =>
        intro i21 s23 pl ls H locs hm21 hF hg22 hR hl hO hP hD hS
        refine lv_iload_n hx hb dDA_readSignature_48 rfl (lv_at hl 0 rfl) ?_
        refine lv_aload_n hx hb dDA_readSignature_49 rfl (lv_at hl 2 rfl) ?_
        refine nw_get (C := "LatticeKeys$DsaSet") (TT := T_DS) (N := 17) hx hb hts (wg_ft i_DS) hown hK hO k_st (kn := 10) (ci := 2) (fl := [(1, 6), (1, 5), (1, 4), (1, 4), (1, 49), (1, 48), (1, 20), (1, 524288), (1, 16), (1, 4), (1, 261888), (1, 55), (1, 196), (1, 1952), (1, 4032), (1, 3248), (1, 3309)]) rfl hP rfl 1 (by decide) (hts _ (wg_t kw_305)) (fun _ h9 => h9) (cd := (1, 5)) rfl dDA_readSignature_50 (fun v27 hv27 => ?_)
        obtain rfl := (show v27 = .int (nI 5) from hv27)
        refine mi_ge (tgt := 122) hx hb dDA_readSignature_53 (by decide) (by omega) (by omega) (fun h22 => ?_) (fun h22 => absurd h22 (by omega))
        refine lv_iconst (v := nI 1) hx hb dDA_readSignature_122 (by decide) ?_
        exact mp_zret hx hb hr hlk rfl hP hD hS ((nI 1, s23), pl) ⟨⟨hR.symm, rfl, hF, (Or.inr hg22), trivial⟩, hO⟩ [] rfl rfl rfl (by omega) (by omega) dDA_readSignature_123
      | succ n21 ih21 =>
        intro i21 s23 pl ls H locs hm21 hF hg22 hR hl hO hP hD hS
        refine lv_iload_n hx hb dDA_readSignature_48 rfl (lv_at hl 0 rfl) ?_
        refine lv_aload_n hx hb dDA_readSignature_49 rfl (lv_at hl 2 rfl) ?_
        refine nw_get (C := "LatticeKeys$DsaSet") (TT := T_DS) (N := 17) hx hb hts (wg_ft i_DS) hown hK hO k_st (kn := 10) (ci := 2) (fl := [(1, 6), (1, 5), (1, 4), (1, 4), (1, 49), (1, 48), (1, 20), (1, 524288), (1, 16), (1, 4), (1, 261888), (1, 55), (1, 196), (1, 1952), (1, 4032), (1, 3248), (1, 3309)]) rfl hP rfl 1 (by decide) (hts _ (wg_t kw_305)) (fun _ h9 => h9) (cd := (1, 5)) rfl dDA_readSignature_50 (fun v28 hv28 => ?_)
        obtain rfl := (show v28 = .int (nI 5) from hv28)
        refine mi_ge (tgt := 122) hx hb dDA_readSignature_53 (by decide) (by omega) (by omega) (fun h23 => absurd h23 (by omega)) (fun h23 => ?_)
        refine lv_aload_n hx hb dDA_readSignature_56 rfl (lv_at hl 1 rfl) ?_
        refine lv_aload_n hx hb dDA_readSignature_57 rfl (lv_at hl 1 rfl) ?_
        refine nw_get (C := "LatticeKeys$Dsa") (TT := T_DA) (N := 17) hx hb hts (wg_ft i_DA) hown hK hO k_h0 (kn := 39) (ci := 6) (fl := [(3, 16), (3, 22), (3, 37), (3, 40), (3, 97), (3, 105), (3, 114), (3, 123), (3, 131), (3, 140), (3, 141), (3, 142), (3, 143), (3, 144), (3, 145), (3, 146), (3, 147)]) rfl hP rfl 7 (by decide) (hts _ (wg_t kw_172)) (fun _ h9 => h9) (cd := (3, 123)) rfl dDA_readSignature_58 (fun v29 hv29 => ?_)
        obtain ⟨r24, rfl, kr23⟩ := (show ∃ r : Nat, v29 = .ref r ∧ T r = some 123 from hv29)
        refine lv_iload_n hx hb dDA_readSignature_61 rfl (lv_at hl 0 rfl) ?_
        refine nw_aald3 hx hb hK hO kr23 (k := 123) (b := 124) rfl hP (by omega) (by omega) dDA_readSignature_62 (fun r25 kr24 => ?_)
        have hn21 : nsp (124 + i21) = (0, 256, []) := rows_ok 124 7 (by decide) _ (by omega)
        refine lv_aload_n hx hb dDA_readSignature_63 rfl (lv_at hl 2 rfl) ?_
        refine nw_get (C := "LatticeKeys$DsaSet") (TT := T_DS) (N := 17) hx hb hts (wg_ft i_DS) hown hK hO k_st (kn := 10) (ci := 2) (fl := [(1, 6), (1, 5), (1, 4), (1, 4), (1, 49), (1, 48), (1, 20), (1, 524288), (1, 16), (1, 4), (1, 261888), (1, 55), (1, 196), (1, 1952), (1, 4032), (1, 3248), (1, 3309)]) rfl hP rfl 6 (by decide) (hts _ (wg_t kw_318)) (fun _ h9 => h9) (cd := (1, 20)) rfl dDA_readSignature_64 (fun v30 hv30 => ?_)
        obtain rfl := (show v30 = .int (nI 20) from hv30)
        refine lv_aload_n hx hb dDA_readSignature_67 rfl (lv_at hl 2 rfl) ?_
        refine nw_get (C := "LatticeKeys$DsaSet") (TT := T_DS) (N := 17) hx hb hts (wg_ft i_DS) hown hK hO k_st (kn := 10) (ci := 2) (fl := [(1, 6), (1, 5), (1, 4), (1, 4), (1, 49), (1, 48), (1, 20), (1, 524288), (1, 16), (1, 4), (1, 261888), (1, 55), (1, 196), (1, 1952), (1, 4032), (1, 3248), (1, 3309)]) rfl hP rfl 7 (by decide) (hts _ (wg_t kw_320)) (fun _ h9 => h9) (cd := (1, 524288)) rfl dDA_readSignature_68 (fun v31 hv31 => ?_)
        obtain rfl := (show v31 = .int (nI 524288) from hv31)
        refine lv_aload_n hx hb dDA_readSignature_71 rfl (lv_at hl 3 rfl) ?_
        refine lv_aload_n hx hb dDA_readSignature_72 rfl (lv_at hl 2 rfl) ?_
        refine nw_get (C := "LatticeKeys$DsaSet") (TT := T_DS) (N := 17) hx hb hts (wg_ft i_DS) hown hK hO k_st (kn := 10) (ci := 2) (fl := [(1, 6), (1, 5), (1, 4), (1, 4), (1, 49), (1, 48), (1, 20), (1, 524288), (1, 16), (1, 4), (1, 261888), (1, 55), (1, 196), (1, 1952), (1, 4032), (1, 3248), (1, 3309)]) rfl hP rfl 5 (by decide) (hts _ (wg_t kw_315)) (fun _ h9 => h9) (cd := (1, 48)) rfl dDA_readSignature_73 (fun v32 hv32 => ?_)
        obtain rfl := (show v32 = .int (nI 48) from hv32)
        refine lv_bipush (v := nI 32) hx hb dDA_readSignature_76 (by decide) ?_
        refine lv_aload_n hx hb dDA_readSignature_78 rfl (lv_at hl 2 rfl) ?_
        refine nw_get (C := "LatticeKeys$DsaSet") (TT := T_DS) (N := 17) hx hb hts (wg_ft i_DS) hown hK hO k_st (kn := 10) (ci := 2) (fl := [(1, 6), (1, 5), (1, 4), (1, 4), (1, 49), (1, 48), (1, 20), (1, 524288), (1, 16), (1, 4), (1, 261888), (1, 55), (1, 196), (1, 1952), (1, 4032), (1, 3248), (1, 3309)]) rfl hP rfl 6 (by decide) (hts _ (wg_t kw_318)) (fun _ h9 => h9) (cd := (1, 20)) rfl dDA_readSignature_79 (fun v33 hv33 => ?_)
        obtain rfl := (show v33 = .int (nI 20) from hv33)
        refine mi_imul hx hb dDA_readSignature_82 ?_
        refine mi_as (show nI (32 * 20) = nI 640 from rfl) ?_
        refine lv_iload_n hx hb dDA_readSignature_83 rfl (lv_at hl 0 rfl) ?_
        refine mi_imul hx hb dDA_readSignature_84 ?_
        refine mi_iadd hx hb dDA_readSignature_85 ?_
        refine mp_v (cx := []) (wr := []) hP hD hS hA [] [] rfl rfl rfl (by decide) (va_runV (As := [.ref r25, .int (nI 20), .int (nI 524288), .ref tp, .int (nI (48 + (640 * i21)))]) (rest := []) F (N_DA_readFlipped l g _ T s23 pl hO hU h0 r25 tp (124 + i21) 20 (nI 524288) ptp n (48 + (640 * i21)) k_h0 kr24 hn21 k_tp n_tp (by omega) (by omega) (by omega)) (cwV 5 hts (wg_app (wg_c kw_1183 (wg_c kw_1185 (wg_c ks_35 (wg_c kw_5 wg_n)))) kw_1186) rfl rfl rfl (by decide +kernel) ⟨by decide, by decide⟩) (pn_W "LatticeKeys$Dsa" (en_ok g) (ci := 6) (kn := 39) (fl := [(3, 16), (3, 22), (3, 37), (3, 40), (3, 97), (3, 105), (3, 114), (3, 123), (3, 131), (3, 140), (3, 141), (3, 142), (3, 143), (3, 144), (3, 145), (3, 146), (3, 147)]) hK hO k_h0 rfl hP hD hS hA hE [] rfl rfl rfl) rfl rfl hl.1 rfl (lv_room (Nat.le_of_ble_eq_true rfl)) dDA_readSignature_86 ⟨by omega, by omega⟩) (fun  u22 H locs hu22 hP hD hS => ?_)
        obtain ⟨s24, pl⟩ := u22
        obtain ⟨⟨eq22, hFc22, -⟩, hO⟩ := hu22
        have hO : okn g T s24 pl := hO
        have hP : va_P g.1 vcl ([] ++ pl) _ := hP
        have hD : va_D _ ([] ++ pl) := hD
        have hFc22 : frm (M_DA_readFlipped (124 + i21)) s23 s24 := hFc22
        replace hR := bnd_step hR eq22
        have hF := frm_tr hF hFc22 (fun k hk => by unfold M_DA_readFlipped at hk; unfold M_DA_readSignature_1; omega)
        have hg23 : hgN 55 6 (s24.1 146) := by rw [hFc22 146 (by unfold M_DA_readFlipped; omega)]; exact hg22
        refine W.widen (k := 0) (n := 0) (by omega) (by omega) ?_
        refine lv_aload_n hx hb dDA_readSignature_89 rfl (lv_at hl 1 rfl) ?_
        refine nw_get (C := "LatticeKeys$Dsa") (TT := T_DA) (N := 17) hx hb hts (wg_ft i_DA) hown hK hO k_h0 (kn := 39) (ci := 6) (fl := [(3, 16), (3, 22), (3, 37), (3, 40), (3, 97), (3, 105), (3, 114), (3, 123), (3, 131), (3, 140), (3, 141), (3, 142), (3, 143), (3, 144), (3, 145), (3, 146), (3, 147)]) rfl hP rfl 1 (by decide) (hts _ (wg_t kw_166)) (fun _ h9 => h9) (cd := (3, 22)) rfl dDA_readSignature_90 (fun v34 hv34 => ?_)
        obtain ⟨r26, rfl, kr25⟩ := (show ∃ r : Nat, v34 = .ref r ∧ T r = some 22 from hv34)
        refine lv_aload_n hx hb dDA_readSignature_93 rfl (lv_at hl 1 rfl) ?_
        refine nw_get (C := "LatticeKeys$Dsa") (TT := T_DA) (N := 17) hx hb hts (wg_ft i_DA) hown hK hO k_h0 (kn := 39) (ci := 6) (fl := [(3, 16), (3, 22), (3, 37), (3, 40), (3, 97), (3, 105), (3, 114), (3, 123), (3, 131), (3, 140), (3, 141), (3, 142), (3, 143), (3, 144), (3, 145), (3, 146), (3, 147)]) rfl hP rfl 7 (by decide) (hts _ (wg_t kw_172)) (fun _ h9 => h9) (cd := (3, 123)) rfl dDA_readSignature_94 (fun v35 hv35 => ?_)
        obtain ⟨r27, rfl, kr26⟩ := (show ∃ r : Nat, v35 = .ref r ∧ T r = some 123 from hv35)
        refine lv_iload_n hx hb dDA_readSignature_97 rfl (lv_at hl 0 rfl) ?_
        refine nw_aald3 hx hb hK hO kr26 (k := 123) (b := 124) rfl hP (by omega) (by omega) dDA_readSignature_98 (fun r28 kr27 => ?_)
        have hn22 : nsp (124 + i21) = (0, 256, []) := rows_ok 124 7 (by decide) _ (by omega)
        refine lv_aload_n hx hb dDA_readSignature_99 rfl (lv_at hl 2 rfl) ?_
        refine nw_get (C := "LatticeKeys$DsaSet") (TT := T_DS) (N := 17) hx hb hts (wg_ft i_DS) hown hK hO k_st (kn := 10) (ci := 2) (fl := [(1, 6), (1, 5), (1, 4), (1, 4), (1, 49), (1, 48), (1, 20), (1, 524288), (1, 16), (1, 4), (1, 261888), (1, 55), (1, 196), (1, 1952), (1, 4032), (1, 3248), (1, 3309)]) rfl hP rfl 7 (by decide) (hts _ (wg_t kw_320)) (fun _ h9 => h9) (cd := (1, 524288)) rfl dDA_readSignature_100 (fun v36 hv36 => ?_)
        obtain rfl := (show v36 = .int (nI 524288) from hv36)
        refine lv_aload_n hx hb dDA_readSignature_103 rfl (lv_at hl 2 rfl) ?_
        refine nw_get (C := "LatticeKeys$DsaSet") (TT := T_DS) (N := 17) hx hb hts (wg_ft i_DS) hown hK hO k_st (kn := 10) (ci := 2) (fl := [(1, 6), (1, 5), (1, 4), (1, 4), (1, 49), (1, 48), (1, 20), (1, 524288), (1, 16), (1, 4), (1, 261888), (1, 55), (1, 196), (1, 1952), (1, 4032), (1, 3248), (1, 3309)]) rfl hP rfl 12 (by decide) (hts _ (wg_t kw_329)) (fun _ h9 => h9) (cd := (1, 196)) rfl dDA_readSignature_104 (fun v37 hv37 => ?_)
        obtain rfl := (show v37 = .int (nI 196) from hv37)
        refine mi_isub hx hb dDA_readSignature_107 (by omega) ?_
        refine mi_as (show nI (524288 - 196) = nI 524092 from rfl) ?_
        refine mp_i (cx := []) (wr := []) hP hD hS hA [] [] rfl rfl rfl (by decide) (va_runV (As := [.ref r28, .int (nI 524092)]) (rest := []) F (N_RG_isShort_8 l g _ T s24 pl hO hU r26 r28 (124 + i21) (nI 524092) kr25 kr27 hn22) (cwV 2 hts (wg_app (wg_c kw_1228 (wg_c kw_1229 (wg_c kw_1230 (wg_c kw_4 wg_n)))) kw_1231) rfl rfl rfl (by decide +kernel) ⟨by decide, by decide⟩) (pn_W "LatticeKeys$Ring" (en_ok g) (ci := 4) (kn := 22) (fl := [(1, 8380417), (1, 8), (1, 8347681), (3, 23)]) hK hO kr25 rfl hP hD hS hA hE [] rfl rfl rfl) rfl rfl hl.1 rfl (lv_room (Nat.le_of_ble_eq_true rfl)) dDA_readSignature_108 ⟨by omega, by omega⟩) (fun r29 u23 H locs hu23 hP hD hS => ?_)
        obtain ⟨q22, pl⟩ := u23
        obtain ⟨⟨eq23, rfl, hFc23, -⟩, hO⟩ := hu23
        have hO : okn g T q22.2 pl := hO
        have hP : va_P g.1 vcl ([] ++ pl) _ := hP
        have hD : va_D _ ([] ++ pl) := hD
        have hFc23 : frm (M_RG_isShort_8) s24 q22.2 := hFc23
        replace hR := bnd_step hR eq23
        have hF := frm_tr hF hFc23 (fun k hk => by unfold M_RG_isShort_8 at hk; unfold M_DA_readSignature_1; omega)
        have hg24 : hgN 55 6 (q22.2.1 146) := by rw [hFc23 146 (by unfold M_RG_isShort_8; omega)]; exact hg23
        refine W.widen (k := 0) (n := 0) (by omega) (by omega) ?_
        refine lv_if_ne (tgt := 116) hx hb dDA_readSignature_111 (by decide) (fun h24 => ?_) (fun h24 => ?_)
        · replace hR := hR.trans (if_neg h24)
          refine mi_iinc (k := 0) (x := i21) (d := 1) (y := i21 + 1) (lv' := [(3, .int (nI (i21 + 1))), (0, .ref h0), (1, .ref st), (2, .ref tp)]) hx hb dDA_readSignature_116 hl rfl (by decide) rfl (by decide) rfl (fun ls hl => ?_)
          refine lv_goto (tgt := 48) hx hb dDA_readSignature_119 (by decide) ?_
          exact ih21 (i21 + 1) q22.2 pl ls H locs (by omega) hF hg24 hR (lv_sub hl [0, 1, 2, 3] rfl) hO hP hD hS
        · replace hR := hR.trans (if_pos h24)
          refine lv_iconst (v := nI 0) hx hb dDA_readSignature_114 (by decide) ?_
          exact mp_zret hx hb hr hlk rfl hP hD hS ((nI 0, q22.2), pl) ⟨⟨hR.symm, rfl, hF, (Or.inl rfl), trivial⟩, hO⟩ [] rfl rfl rfl (by omega) (by omega) dDA_readSignature_115
    exact lp21 5 0 q21.2 pl ls _ _ (by omega) hF hg21 hR (lv_sub hl [0, 1, 2, 3] rfl) hO hP hD hS
  · replace hR := hR.trans (if_pos h21)
    refine lv_iconst (v := nI 0) hx hb dDA_readSignature_44 (by decide) ?_
    exact mp_zret hx hb hr hlk rfl hP hD hS ((nI 0, q21.2), pl) ⟨⟨hR.symm, rfl, hF, (Or.inl rfl), trivial⟩, hO⟩ [] rfl rfl rfl (by omega) (by omega) dDA_readSignature_45
def M_DA_readSignature_2 (k : Nat) : Prop := (124 ≤ k ∧ k < 131) ∨ k = 144 ∨ k = 146 ∨ (0 : Nat) = 1
noncomputable def F_DA_readSignature_2_L0 (ptp : Nat) (n : Nat) : Nat → Nat → Sto → Int32 × Sto
  | 0, i21, s23 => (nI 1, s23)
  | n21 + 1, i21, s23 => bnd (F_DA_readFlipped (124 + i21) 20 (nI 524288) ptp n (64 + (640 * i21)) s23) fun s24 => bnd (F_RG_isShort_8 (124 + i21) (nI 524168) s24) fun q22 => if (q22.1) = 0 then (nI 0, q22.2) else F_DA_readSignature_2_L0 ptp n n21 (i21 + 1) q22.2
noncomputable def F_DA_readSignature_2 (ptp : Nat) (n : Nat) (s : Sto) : Int32 × Sto := bnd (sC s ptp 144 0 0 64) fun s21 => bnd (sC s21 ptp 146 4544 0 83) fun s22 => bnd (F_DA_hintsAreInForm_2  s22) fun q21 => if (q21.1) = 0 then (nI 0, q21.2) else F_DA_readSignature_2_L0 ptp n 7 0 q21.2
set_option maxHeartbeats 8000000 in
set_option maxRecDepth 100000 in
theorem N_DA_readSignature_2 (l : Launch) (g : Gd) (sz : Nat) (T : TyN) (s : Sto) (pl : va_W) (hO : okn g T s pl) (hU : inj T) (h0 st tp : Nat) (ptp : Nat) (n : Nat) (k_h0 : T h0 = some 39) (k_st : T st = some 11) (k_tp : T tp = some ptp) (n_tp : nsp ptp = (1, n, [])) (h1 : 4627 ≤ n) (h2 : n < 65536)  : Met l y_DA_readSignature w_DA_readSignature ({ frames := 2, cells := 0, slots := 0, locals := 60 } : Room) (va_Pc [.ref h0, .ref st, .ref tp] (pr (en g) g.1 vcl sz ([] ++ pl))) (va_Qi (fun (r : Int32) (u : (Int32 × Sto) × va_W) => (u.1 = F_DA_readSignature_2 ptp n s ∧ r = u.1.1 ∧ frm (M_DA_readSignature_2) s u.1.2 ∧ (u.1.1 = nI 0 ∨ hgN 75 8 (u.1.2.1 146)) ∧ True) ∧ okn g T u.1.2 u.2) (po g.1 vcl (va_A ([] ++ pl) sz) (fun (u : (Int32 × Sto) × va_W) => [] ++ u.2)) (va_A ([] ++ pl) sz)) 0 0 (va_A ([] ++ pl) sz) := by
  refine mc_entry (cc := c_DA_readSignature) (maxL := 4) (ret := (some .boolean)) (by decide) rfl (Nat.le_of_ble_eq_true rfl) ?_
  intro p e s0 m args below meth c ls F hr hlk hnm hsz hP hD hE hA hl
  obtain ⟨hx, hb, hml, hown, hts⟩ := id F
  have hK := hE.1
  generalize va_A ([] ++ pl) sz = A at hD hE hA ⊢
  have hS : va_S A s0.heap s0.heap [] := va_S.rf
  have hl : lv_has ls 4 [(0, .ref h0), (1, .ref st), (2, .ref tp)] := hl
  have hR : F_DA_readSignature_2 ptp n s = F_DA_readSignature_2 ptp n s := rfl
  have hF : frm (M_DA_readSignature_2) s s := frm_rf
  refine lv_aload_n hx hb dDA_readSignature_0 rfl (lv_at hl 2 rfl) ?_
  refine lv_iconst (v := nI 0) hx hb dDA_readSignature_1 (by decide) ?_
  refine lv_aload_n hx hb dDA_readSignature_2 rfl (lv_at hl 0 rfl) ?_
  refine nw_get (C := "LatticeKeys$Dsa") (TT := T_DA) (N := 17) hx hb hts (wg_ft i_DA) hown hK hO k_h0 (kn := 39) (ci := 6) (fl := [(3, 16), (3, 22), (3, 37), (3, 40), (3, 97), (3, 105), (3, 114), (3, 123), (3, 131), (3, 140), (3, 141), (3, 142), (3, 143), (3, 144), (3, 145), (3, 146), (3, 147)]) rfl hP rfl 13 (by decide) (hts _ (wg_t kw_178)) (fun _ h9 => h9) (cd := (3, 144)) rfl dDA_readSignature_3 (fun v21 hv21 => ?_)
  obtain ⟨r21, rfl, kr21⟩ := (show ∃ r : Nat, v21 = .ref r ∧ T r = some 144 from hv21)
  refine lv_iconst (v := nI 0) hx hb dDA_readSignature_6 (by decide) ?_
  refine lv_aload_n hx hb dDA_readSignature_7 rfl (lv_at hl 1 rfl) ?_
  refine nw_get (C := "LatticeKeys$DsaSet") (TT := T_DS) (N := 17) hx hb hts (wg_ft i_DS) hown hK hO k_st (kn := 11) (ci := 2) (fl := [(1, 8), (1, 7), (1, 2), (1, 3), (1, 60), (1, 64), (1, 20), (1, 524288), (1, 16), (1, 4), (1, 261888), (1, 75), (1, 120), (1, 2592), (1, 4896), (1, 4544), (1, 4627)]) rfl hP rfl 5 (by decide) (hts _ (wg_t kw_315)) (fun _ h9 => h9) (cd := (1, 64)) rfl dDA_readSignature_8 (fun v22 hv22 => ?_)
  obtain rfl := (show v22 = .int (nI 64) from hv22)
  refine nw_copyb hx hb (hml.trans hl.1.symm) hown (hts _ (wg_t kw_674)) (hts _ (wg_t kw_526)) (hts _ (wg_t kw_525)) (hts _ (wg_t kw_19)) hK hO hU k_tp (k0 := ptp) n_tp kr21 (k1 := 144) rfl hP hD hS (sp := 0) (dp := 0) (n := 64) (by omega) (by omega) (by omega) (by decide) (Nat.le_of_ble_eq_true rfl) dDA_readSignature_11 (fun s21 pl H locs es21 hO hP hD hS => ?_)
  replace hR := bnd_step hR es21
  have hF := frm_sC hF es21 (by unfold M_DA_readSignature_2; omega)
  refine lv_aload_n hx hb dDA_readSignature_14 rfl (lv_at hl 2 rfl) ?_
  refine lv_aload_n hx hb dDA_readSignature_15 rfl (lv_at hl 1 rfl) ?_
  refine nw_get (C := "LatticeKeys$DsaSet") (TT := T_DS) (N := 17) hx hb hts (wg_ft i_DS) hown hK hO k_st (kn := 11) (ci := 2) (fl := [(1, 8), (1, 7), (1, 2), (1, 3), (1, 60), (1, 64), (1, 20), (1, 524288), (1, 16), (1, 4), (1, 261888), (1, 75), (1, 120), (1, 2592), (1, 4896), (1, 4544), (1, 4627)]) rfl hP rfl 15 (by decide) (hts _ (wg_t kw_335)) (fun _ h9 => h9) (cd := (1, 4544)) rfl dDA_readSignature_16 (fun v23 hv23 => ?_)
  obtain rfl := (show v23 = .int (nI 4544) from hv23)
  refine lv_aload_n hx hb dDA_readSignature_19 rfl (lv_at hl 0 rfl) ?_
  refine nw_get (C := "LatticeKeys$Dsa") (TT := T_DA) (N := 17) hx hb hts (wg_ft i_DA) hown hK hO k_h0 (kn := 39) (ci := 6) (fl := [(3, 16), (3, 22), (3, 37), (3, 40), (3, 97), (3, 105), (3, 114), (3, 123), (3, 131), (3, 140), (3, 141), (3, 142), (3, 143), (3, 144), (3, 145), (3, 146), (3, 147)]) rfl hP rfl 15 (by decide) (hts _ (wg_t kw_180)) (fun _ h9 => h9) (cd := (3, 146)) rfl dDA_readSignature_20 (fun v24 hv24 => ?_)
  obtain ⟨r22, rfl, kr22⟩ := (show ∃ r : Nat, v24 = .ref r ∧ T r = some 146 from hv24)
  refine lv_iconst (v := nI 0) hx hb dDA_readSignature_23 (by decide) ?_
  refine lv_aload_n hx hb dDA_readSignature_24 rfl (lv_at hl 1 rfl) ?_
  refine nw_get (C := "LatticeKeys$DsaSet") (TT := T_DS) (N := 17) hx hb hts (wg_ft i_DS) hown hK hO k_st (kn := 11) (ci := 2) (fl := [(1, 8), (1, 7), (1, 2), (1, 3), (1, 60), (1, 64), (1, 20), (1, 524288), (1, 16), (1, 4), (1, 261888), (1, 75), (1, 120), (1, 2592), (1, 4896), (1, 4544), (1, 4627)]) rfl hP rfl 11 (by decide) (hts _ (wg_t kw_327)) (fun _ h9 => h9) (cd := (1, 75)) rfl dDA_readSignature_25 (fun v25 hv25 => ?_)
  obtain rfl := (show v25 = .int (nI 75) from hv25)
  refine lv_aload_n hx hb dDA_readSignature_28 rfl (lv_at hl 1 rfl) ?_
  refine nw_get (C := "LatticeKeys$DsaSet") (TT := T_DS) (N := 17) hx hb hts (wg_ft i_DS) hown hK hO k_st (kn := 11) (ci := 2) (fl := [(1, 8), (1, 7), (1, 2), (1, 3), (1, 60), (1, 64), (1, 20), (1, 524288), (1, 16), (1, 4), (1, 261888), (1, 75), (1, 120), (1, 2592), (1, 4896), (1, 4544), (1, 4627)]) rfl hP rfl 0 (by decide) (hts _ (wg_t kw_302)) (fun _ h9 => h9) (cd := (1, 8)) rfl dDA_readSignature_29 (fun v26 hv26 => ?_)
  obtain rfl := (show v26 = .int (nI 8) from hv26)
  refine mi_iadd hx hb dDA_readSignature_32 ?_
  refine mi_as (show nI (75 + 8) = nI 83 from rfl) ?_
  refine nw_copyb hx hb (hml.trans hl.1.symm) hown (hts _ (wg_t kw_674)) (hts _ (wg_t kw_526)) (hts _ (wg_t kw_525)) (hts _ (wg_t kw_19)) hK hO hU k_tp (k0 := ptp) n_tp kr22 (k1 := 146) rfl hP hD hS (sp := 4544) (dp := 0) (n := 83) (by omega) (by omega) (by omega) (by decide) (Nat.le_of_ble_eq_true rfl) dDA_readSignature_33 (fun s22 pl H locs es22 hO hP hD hS => ?_)
  replace hR := bnd_step hR es22
  have hF := frm_sC hF es22 (by unfold M_DA_readSignature_2; omega)
  refine lv_aload_n hx hb dDA_readSignature_36 rfl (lv_at hl 0 rfl) ?_
  refine lv_aload_n hx hb dDA_readSignature_37 rfl (lv_at hl 1 rfl) ?_
  refine mp_i (cx := []) (wr := []) hP hD hS hA [] [] rfl rfl rfl (by decide) (va_runV (As := [.ref st]) (rest := []) F (N_DA_hintsAreInForm_2 l g _ T s22 pl hO hU h0 st k_h0 k_st) (cwV 1 hts (wg_app (wg_c kw_1269 (wg_c kw_1271 (wg_c ks_46 (wg_c kw_5 wg_n)))) kw_1272) rfl rfl rfl (by decide +kernel) ⟨by decide, by decide⟩) (pn_W "LatticeKeys$Dsa" (en_ok g) (ci := 6) (kn := 39) (fl := [(3, 16), (3, 22), (3, 37), (3, 40), (3, 97), (3, 105), (3, 114), (3, 123), (3, 131), (3, 140), (3, 141), (3, 142), (3, 143), (3, 144), (3, 145), (3, 146), (3, 147)]) hK hO k_h0 rfl hP hD hS hA hE [] rfl rfl rfl) rfl rfl hl.1 rfl (lv_room (Nat.le_of_ble_eq_true rfl)) dDA_readSignature_38 ⟨by omega, by omega⟩) (fun r23 u21 H locs hu21 hP hD hS => ?_)
  obtain ⟨q21, pl⟩ := u21
  obtain ⟨⟨eq21, rfl, hFc21, hxp21, -⟩, hO⟩ := hu21
  have hO : okn g T q21.2 pl := hO
  have hP : va_P g.1 vcl ([] ++ pl) _ := hP
  have hD : va_D _ ([] ++ pl) := hD
  have hFc21 : frm (M_DA_hintsAreInForm_2) s22 q21.2 := hFc21
  replace hR := bnd_step hR eq21
  have hF := frm_tr hF hFc21 (fun k hk => by unfold M_DA_hintsAreInForm_2 at hk; unfold M_DA_readSignature_2; omega)
  refine W.widen (k := 0) (n := 0) (by omega) (by omega) ?_
  refine lv_if_ne (tgt := 46) hx hb dDA_readSignature_41 (by decide) (fun h21 => ?_) (fun h21 => ?_)
  · replace hR := hR.trans (if_neg h21)
    have hg21 : hgN 75 8 (q21.2.1 146) := hxp21.resolve_left h21
    refine lv_iconst (v := nI 0) hx hb dDA_readSignature_46 (by decide) ?_
    refine lv_istore_n (lv' := [(3, .int (nI 0)), (0, .ref h0), (1, .ref st), (2, .ref tp)]) hx hb dDA_readSignature_47 rfl hl (by decide) rfl (fun ls hl => ?_)
    have lp21 : ∀ (n21 : Nat) (i21 : Nat) (s23 : Sto) (pl : va_W) (ls : Array Slot) (H : Heap) (locs : List Loc), n21 + i21 = 7 → frm (M_DA_readSignature_2) s s23 → (hgN 75 8 (s23.1 146)) → F_DA_readSignature_2 ptp n s = F_DA_readSignature_2_L0 ptp n n21 i21 s23 → lv_has ls 4 [(3, .int (nI i21)), (0, .ref h0), (1, .ref st), (2, .ref tp)] → okn g T s23 pl → va_P g.1 vcl ([] ++ pl) H → va_D A ([] ++ pl) → va_S A s0.heap H locs → W p l e ({ frames := 2, cells := 0, slots := 0, locals := 60 } : Room) s0 m args below meth c H locs 0 0 (MQ below (va_Qi (fun (r : Int32) (u : (Int32 × Sto) × va_W) => (u.1 = F_DA_readSignature_2 ptp n s ∧ r = u.1.1 ∧ frm (M_DA_readSignature_2) s u.1.2 ∧ (u.1.1 = nI 0 ∨ hgN 75 8 (u.1.2.1 146)) ∧ True) ∧ okn g T u.1.2 u.2) (po g.1 vcl A (fun (u : (Int32 × Sto) × va_W) => [] ++ u.2)) A) args s0 0 0 A) (F0 m 48 ls []) := by
      intro n21
      induction n21 with
      | zero =>
        intro i21 s23 pl ls H locs hm21 hF hg22 hR hl hO hP hD hS
        refine lv_iload_n hx hb dDA_readSignature_48 rfl (lv_at hl 0 rfl) ?_
        refine lv_aload_n hx hb dDA_readSignature_49 rfl (lv_at hl 2 rfl) ?_
        refine nw_get (C := "LatticeKeys$DsaSet") (TT := T_DS) (N := 17) hx hb hts (wg_ft i_DS) hown hK hO k_st (kn := 11) (ci := 2) (fl := [(1, 8), (1, 7), (1, 2), (1, 3), (1, 60), (1, 64), (1, 20), (1, 524288), (1, 16), (1, 4), (1, 261888), (1, 75), (1, 120), (1, 2592), (1, 4896), (1, 4544), (1, 4627)]) rfl hP rfl 1 (by decide) (hts _ (wg_t kw_305)) (fun _ h9 => h9) (cd := (1, 7)) rfl dDA_readSignature_50 (fun v27 hv27 => ?_)
        obtain rfl := (show v27 = .int (nI 7) from hv27)
        refine mi_ge (tgt := 122) hx hb dDA_readSignature_53 (by decide) (by omega) (by omega) (fun h22 => ?_) (fun h22 => absurd h22 (by omega))
        refine lv_iconst (v := nI 1) hx hb dDA_readSignature_122 (by decide) ?_
        exact mp_zret hx hb hr hlk rfl hP hD hS ((nI 1, s23), pl) ⟨⟨hR.symm, rfl, hF, (Or.inr hg22), trivial⟩, hO⟩ [] rfl rfl rfl (by omega) (by omega) dDA_readSignature_123
      | succ n21 ih21 =>
        intro i21 s23 pl ls H locs hm21 hF hg22 hR hl hO hP hD hS
        refine lv_iload_n hx hb dDA_readSignature_48 rfl (lv_at hl 0 rfl) ?_
        refine lv_aload_n hx hb dDA_readSignature_49 rfl (lv_at hl 2 rfl) ?_
        refine nw_get (C := "LatticeKeys$DsaSet") (TT := T_DS) (N := 17) hx hb hts (wg_ft i_DS) hown hK hO k_st (kn := 11) (ci := 2) (fl := [(1, 8), (1, 7), (1, 2), (1, 3), (1, 60), (1, 64), (1, 20), (1, 524288), (1, 16), (1, 4), (1, 261888), (1, 75), (1, 120), (1, 2592), (1, 4896), (1, 4544), (1, 4627)]) rfl hP rfl 1 (by decide) (hts _ (wg_t kw_305)) (fun _ h9 => h9) (cd := (1, 7)) rfl dDA_readSignature_50 (fun v28 hv28 => ?_)
        obtain rfl := (show v28 = .int (nI 7) from hv28)
        refine mi_ge (tgt := 122) hx hb dDA_readSignature_53 (by decide) (by omega) (by omega) (fun h23 => absurd h23 (by omega)) (fun h23 => ?_)
        refine lv_aload_n hx hb dDA_readSignature_56 rfl (lv_at hl 1 rfl) ?_
        refine lv_aload_n hx hb dDA_readSignature_57 rfl (lv_at hl 1 rfl) ?_
        refine nw_get (C := "LatticeKeys$Dsa") (TT := T_DA) (N := 17) hx hb hts (wg_ft i_DA) hown hK hO k_h0 (kn := 39) (ci := 6) (fl := [(3, 16), (3, 22), (3, 37), (3, 40), (3, 97), (3, 105), (3, 114), (3, 123), (3, 131), (3, 140), (3, 141), (3, 142), (3, 143), (3, 144), (3, 145), (3, 146), (3, 147)]) rfl hP rfl 7 (by decide) (hts _ (wg_t kw_172)) (fun _ h9 => h9) (cd := (3, 123)) rfl dDA_readSignature_58 (fun v29 hv29 => ?_)
        obtain ⟨r24, rfl, kr23⟩ := (show ∃ r : Nat, v29 = .ref r ∧ T r = some 123 from hv29)
        refine lv_iload_n hx hb dDA_readSignature_61 rfl (lv_at hl 0 rfl) ?_
        refine nw_aald3 hx hb hK hO kr23 (k := 123) (b := 124) rfl hP (by omega) (by omega) dDA_readSignature_62 (fun r25 kr24 => ?_)
        have hn21 : nsp (124 + i21) = (0, 256, []) := rows_ok 124 7 (by decide) _ (by omega)
        refine lv_aload_n hx hb dDA_readSignature_63 rfl (lv_at hl 2 rfl) ?_
        refine nw_get (C := "LatticeKeys$DsaSet") (TT := T_DS) (N := 17) hx hb hts (wg_ft i_DS) hown hK hO k_st (kn := 11) (ci := 2) (fl := [(1, 8), (1, 7), (1, 2), (1, 3), (1, 60), (1, 64), (1, 20), (1, 524288), (1, 16), (1, 4), (1, 261888), (1, 75), (1, 120), (1, 2592), (1, 4896), (1, 4544), (1, 4627)]) rfl hP rfl 6 (by decide) (hts _ (wg_t kw_318)) (fun _ h9 => h9) (cd := (1, 20)) rfl dDA_readSignature_64 (fun v30 hv30 => ?_)
        obtain rfl := (show v30 = .int (nI 20) from hv30)
        refine lv_aload_n hx hb dDA_readSignature_67 rfl (lv_at hl 2 rfl) ?_
        refine nw_get (C := "LatticeKeys$DsaSet") (TT := T_DS) (N := 17) hx hb hts (wg_ft i_DS) hown hK hO k_st (kn := 11) (ci := 2) (fl := [(1, 8), (1, 7), (1, 2), (1, 3), (1, 60), (1, 64), (1, 20), (1, 524288), (1, 16), (1, 4), (1, 261888), (1, 75), (1, 120), (1, 2592), (1, 4896), (1, 4544), (1, 4627)]) rfl hP rfl 7 (by decide) (hts _ (wg_t kw_320)) (fun _ h9 => h9) (cd := (1, 524288)) rfl dDA_readSignature_68 (fun v31 hv31 => ?_)
        obtain rfl := (show v31 = .int (nI 524288) from hv31)
        refine lv_aload_n hx hb dDA_readSignature_71 rfl (lv_at hl 3 rfl) ?_
        refine lv_aload_n hx hb dDA_readSignature_72 rfl (lv_at hl 2 rfl) ?_
        refine nw_get (C := "LatticeKeys$DsaSet") (TT := T_DS) (N := 17) hx hb hts (wg_ft i_DS) hown hK hO k_st (kn := 11) (ci := 2) (fl := [(1, 8), (1, 7), (1, 2), (1, 3), (1, 60), (1, 64), (1, 20), (1, 524288), (1, 16), (1, 4), (1, 261888), (1, 75), (1, 120), (1, 2592), (1, 4896), (1, 4544), (1, 4627)]) rfl hP rfl 5 (by decide) (hts _ (wg_t kw_315)) (fun _ h9 => h9) (cd := (1, 64)) rfl dDA_readSignature_73 (fun v32 hv32 => ?_)
        obtain rfl := (show v32 = .int (nI 64) from hv32)
        refine lv_bipush (v := nI 32) hx hb dDA_readSignature_76 (by decide) ?_
        refine lv_aload_n hx hb dDA_readSignature_78 rfl (lv_at hl 2 rfl) ?_
        refine nw_get (C := "LatticeKeys$DsaSet") (TT := T_DS) (N := 17) hx hb hts (wg_ft i_DS) hown hK hO k_st (kn := 11) (ci := 2) (fl := [(1, 8), (1, 7), (1, 2), (1, 3), (1, 60), (1, 64), (1, 20), (1, 524288), (1, 16), (1, 4), (1, 261888), (1, 75), (1, 120), (1, 2592), (1, 4896), (1, 4544), (1, 4627)]) rfl hP rfl 6 (by decide) (hts _ (wg_t kw_318)) (fun _ h9 => h9) (cd := (1, 20)) rfl dDA_readSignature_79 (fun v33 hv33 => ?_)
        obtain rfl := (show v33 = .int (nI 20) from hv33)
        refine mi_imul hx hb dDA_readSignature_82 ?_
        refine mi_as (show nI (32 * 20) = nI 640 from rfl) ?_
        refine lv_iload_n hx hb dDA_readSignature_83 rfl (lv_at hl 0 rfl) ?_
        refine mi_imul hx hb dDA_readSignature_84 ?_
        refine mi_iadd hx hb dDA_readSignature_85 ?_
        refine mp_v (cx := []) (wr := []) hP hD hS hA [] [] rfl rfl rfl (by decide) (va_runV (As := [.ref r25, .int (nI 20), .int (nI 524288), .ref tp, .int (nI (64 + (640 * i21)))]) (rest := []) F (N_DA_readFlipped l g _ T s23 pl hO hU h0 r25 tp (124 + i21) 20 (nI 524288) ptp n (64 + (640 * i21)) k_h0 kr24 hn21 k_tp n_tp (by omega) (by omega) (by omega)) (cwV 5 hts (wg_app (wg_c kw_1183 (wg_c kw_1185 (wg_c ks_35 (wg_c kw_5 wg_n)))) kw_1186) rfl rfl rfl (by decide +kernel) ⟨by decide, by decide⟩) (pn_W "LatticeKeys$Dsa" (en_ok g) (ci := 6) (kn := 39) (fl := [(3, 16), (3, 22), (3, 37), (3, 40), (3, 97), (3, 105), (3, 114), (3, 123), (3, 131), (3, 140), (3, 141), (3, 142), (3, 143), (3, 144), (3, 145), (3, 146), (3, 147)]) hK hO k_h0 rfl hP hD hS hA hE [] rfl rfl rfl) rfl rfl hl.1 rfl (lv_room (Nat.le_of_ble_eq_true rfl)) dDA_readSignature_86 ⟨by omega, by omega⟩) (fun  u22 H locs hu22 hP hD hS => ?_)
        obtain ⟨s24, pl⟩ := u22
        obtain ⟨⟨eq22, hFc22, -⟩, hO⟩ := hu22
        have hO : okn g T s24 pl := hO
        have hP : va_P g.1 vcl ([] ++ pl) _ := hP
        have hD : va_D _ ([] ++ pl) := hD
        have hFc22 : frm (M_DA_readFlipped (124 + i21)) s23 s24 := hFc22
        replace hR := bnd_step hR eq22
        have hF := frm_tr hF hFc22 (fun k hk => by unfold M_DA_readFlipped at hk; unfold M_DA_readSignature_2; omega)
        have hg23 : hgN 75 8 (s24.1 146) := by rw [hFc22 146 (by unfold M_DA_readFlipped; omega)]; exact hg22
        refine W.widen (k := 0) (n := 0) (by omega) (by omega) ?_
        refine lv_aload_n hx hb dDA_readSignature_89 rfl (lv_at hl 1 rfl) ?_
        refine nw_get (C := "LatticeKeys$Dsa") (TT := T_DA) (N := 17) hx hb hts (wg_ft i_DA) hown hK hO k_h0 (kn := 39) (ci := 6) (fl := [(3, 16), (3, 22), (3, 37), (3, 40), (3, 97), (3, 105), (3, 114), (3, 123), (3, 131), (3, 140), (3, 141), (3, 142), (3, 143), (3, 144), (3, 145), (3, 146), (3, 147)]) rfl hP rfl 1 (by decide) (hts _ (wg_t kw_166)) (fun _ h9 => h9) (cd := (3, 22)) rfl dDA_readSignature_90 (fun v34 hv34 => ?_)
        obtain ⟨r26, rfl, kr25⟩ := (show ∃ r : Nat, v34 = .ref r ∧ T r = some 22 from hv34)
        refine lv_aload_n hx hb dDA_readSignature_93 rfl (lv_at hl 1 rfl) ?_
        refine nw_get (C := "LatticeKeys$Dsa") (TT := T_DA) (N := 17) hx hb hts (wg_ft i_DA) hown hK hO k_h0 (kn := 39) (ci := 6) (fl := [(3, 16), (3, 22), (3, 37), (3, 40), (3, 97), (3, 105), (3, 114), (3, 123), (3, 131), (3, 140), (3, 141), (3, 142), (3, 143), (3, 144), (3, 145), (3, 146), (3, 147)]) rfl hP rfl 7 (by decide) (hts _ (wg_t kw_172)) (fun _ h9 => h9) (cd := (3, 123)) rfl dDA_readSignature_94 (fun v35 hv35 => ?_)
        obtain ⟨r27, rfl, kr26⟩ := (show ∃ r : Nat, v35 = .ref r ∧ T r = some 123 from hv35)
        refine lv_iload_n hx hb dDA_readSignature_97 rfl (lv_at hl 0 rfl) ?_
        refine nw_aald3 hx hb hK hO kr26 (k := 123) (b := 124) rfl hP (by omega) (by omega) dDA_readSignature_98 (fun r28 kr27 => ?_)
        have hn22 : nsp (124 + i21) = (0, 256, []) := rows_ok 124 7 (by decide) _ (by omega)
        refine lv_aload_n hx hb dDA_readSignature_99 rfl (lv_at hl 2 rfl) ?_
        refine nw_get (C := "LatticeKeys$DsaSet") (TT := T_DS) (N := 17) hx hb hts (wg_ft i_DS) hown hK hO k_st (kn := 11) (ci := 2) (fl := [(1, 8), (1, 7), (1, 2), (1, 3), (1, 60), (1, 64), (1, 20), (1, 524288), (1, 16), (1, 4), (1, 261888), (1, 75), (1, 120), (1, 2592), (1, 4896), (1, 4544), (1, 4627)]) rfl hP rfl 7 (by decide) (hts _ (wg_t kw_320)) (fun _ h9 => h9) (cd := (1, 524288)) rfl dDA_readSignature_100 (fun v36 hv36 => ?_)
        obtain rfl := (show v36 = .int (nI 524288) from hv36)
        refine lv_aload_n hx hb dDA_readSignature_103 rfl (lv_at hl 2 rfl) ?_
        refine nw_get (C := "LatticeKeys$DsaSet") (TT := T_DS) (N := 17) hx hb hts (wg_ft i_DS) hown hK hO k_st (kn := 11) (ci := 2) (fl := [(1, 8), (1, 7), (1, 2), (1, 3), (1, 60), (1, 64), (1, 20), (1, 524288), (1, 16), (1, 4), (1, 261888), (1, 75), (1, 120), (1, 2592), (1, 4896), (1, 4544), (1, 4627)]) rfl hP rfl 12 (by decide) (hts _ (wg_t kw_329)) (fun _ h9 => h9) (cd := (1, 120)) rfl dDA_readSignature_104 (fun v37 hv37 => ?_)
        obtain rfl := (show v37 = .int (nI 120) from hv37)
        refine mi_isub hx hb dDA_readSignature_107 (by omega) ?_
        refine mi_as (show nI (524288 - 120) = nI 524168 from rfl) ?_
        refine mp_i (cx := []) (wr := []) hP hD hS hA [] [] rfl rfl rfl (by decide) (va_runV (As := [.ref r28, .int (nI 524168)]) (rest := []) F (N_RG_isShort_8 l g _ T s24 pl hO hU r26 r28 (124 + i21) (nI 524168) kr25 kr27 hn22) (cwV 2 hts (wg_app (wg_c kw_1228 (wg_c kw_1229 (wg_c kw_1230 (wg_c kw_4 wg_n)))) kw_1231) rfl rfl rfl (by decide +kernel) ⟨by decide, by decide⟩) (pn_W "LatticeKeys$Ring" (en_ok g) (ci := 4) (kn := 22) (fl := [(1, 8380417), (1, 8), (1, 8347681), (3, 23)]) hK hO kr25 rfl hP hD hS hA hE [] rfl rfl rfl) rfl rfl hl.1 rfl (lv_room (Nat.le_of_ble_eq_true rfl)) dDA_readSignature_108 ⟨by omega, by omega⟩) (fun r29 u23 H locs hu23 hP hD hS => ?_)
        obtain ⟨q22, pl⟩ := u23
        obtain ⟨⟨eq23, rfl, hFc23, -⟩, hO⟩ := hu23
        have hO : okn g T q22.2 pl := hO
        have hP : va_P g.1 vcl ([] ++ pl) _ := hP
        have hD : va_D _ ([] ++ pl) := hD
        have hFc23 : frm (M_RG_isShort_8) s24 q22.2 := hFc23
        replace hR := bnd_step hR eq23
        have hF := frm_tr hF hFc23 (fun k hk => by unfold M_RG_isShort_8 at hk; unfold M_DA_readSignature_2; omega)
        have hg24 : hgN 75 8 (q22.2.1 146) := by rw [hFc23 146 (by unfold M_RG_isShort_8; omega)]; exact hg23
        refine W.widen (k := 0) (n := 0) (by omega) (by omega) ?_
        refine lv_if_ne (tgt := 116) hx hb dDA_readSignature_111 (by decide) (fun h24 => ?_) (fun h24 => ?_)
        · replace hR := hR.trans (if_neg h24)
          refine mi_iinc (k := 0) (x := i21) (d := 1) (y := i21 + 1) (lv' := [(3, .int (nI (i21 + 1))), (0, .ref h0), (1, .ref st), (2, .ref tp)]) hx hb dDA_readSignature_116 hl rfl (by decide) rfl (by decide) rfl (fun ls hl => ?_)
          refine lv_goto (tgt := 48) hx hb dDA_readSignature_119 (by decide) ?_
          exact ih21 (i21 + 1) q22.2 pl ls H locs (by omega) hF hg24 hR (lv_sub hl [0, 1, 2, 3] rfl) hO hP hD hS
        · replace hR := hR.trans (if_pos h24)
          refine lv_iconst (v := nI 0) hx hb dDA_readSignature_114 (by decide) ?_
          exact mp_zret hx hb hr hlk rfl hP hD hS ((nI 0, q22.2), pl) ⟨⟨hR.symm, rfl, hF, (Or.inl rfl), trivial⟩, hO⟩ [] rfl rfl rfl (by omega) (by omega) dDA_readSignature_115
    exact lp21 7 0 q21.2 pl ls _ _ (by omega) hF hg21 hR (lv_sub hl [0, 1, 2, 3] rfl) hO hP hD hS
  · replace hR := hR.trans (if_pos h21)
    refine lv_iconst (v := nI 0) hx hb dDA_readSignature_44 (by decide) ?_
    exact mp_zret hx hb hr hlk rfl hP hD hS ((nI 0, q21.2), pl) ⟨⟨hR.symm, rfl, hF, (Or.inl rfl), trivial⟩, hO⟩ [] rfl rfl rfl (by omega) (by omega) dDA_readSignature_45
def M_DA_useHints_0 (k : Nat) : Prop := k = 141 ∨ (0 : Nat) = 1
noncomputable def F_DA_useHints_0_L1 (pf : Nat) : Nat → Nat → Sto → Sto
  | 0, kx21, s22 => s22
  | n22 + 1, kx21, s22 => bnd (((s22.1 146 kx21) &&& nI 255).toNatClampNeg) fun z21 => bnd (F_DS_hintedHigh_0 (s22.1 pf z21) s22) fun q21 => bnd (sI q21.2 141 z21 (q21.1)) fun s23 => F_DA_useHints_0_L1 pf n22 (kx21 + 1) s23
noncomputable def F_DA_useHints_0_L0 (pf : Nat) (fi : Nat) (en_ : Nat) : Nat → Nat → Sto → Sto
  | 0, i21, s21 => F_DA_useHints_0_L1 pf (en_ - fi) fi s21
  | n21 + 1, i21, s21 => bnd (F_DS_high_0 (s21.1 pf i21) s21) fun q22 => bnd (sI q22.2 141 i21 (q22.1)) fun s24 => F_DA_useHints_0_L0 pf fi en_ n21 (i21 + 1) s24
noncomputable def F_DA_useHints_0 (pf : Nat) (fi : Nat) (en_ : Nat) (s : Sto) : Sto := F_DA_useHints_0_L0 pf fi en_ 256 0 s
set_option maxHeartbeats 8000000 in
set_option maxRecDepth 100000 in
theorem N_DA_useHints_0 (l : Launch) (g : Gd) (sz : Nat) (T : TyN) (s : Sto) (pl : va_W) (hO : okn g T s pl) (hU : inj T) (h0 st f : Nat) (pf : Nat) (fi : Nat) (en_ : Nat) (k_h0 : T h0 = some 39) (k_st : T st = some 9) (k_f : T f = some pf) (n_f : nsp pf = (0, 256, [])) (h1 : en_ ≤ 80) (h2 : fi ≤ 255)  : Met l y_DA_useHints w_DA_useHints ({ frames := 2, cells := 0, slots := 0, locals := 45 } : Room) (va_Pc [.ref h0, .ref st, .ref f, .int (nI fi), .int (nI en_)] (pr (en g) g.1 vcl sz ([] ++ pl))) (va_Qv (fun (u : (Sto) × va_W) => (u.1 = F_DA_useHints_0 pf fi en_ s ∧ frm (M_DA_useHints_0) s u.1 ∧ True) ∧ okn g T u.1 u.2) (po g.1 vcl (va_A ([] ++ pl) sz) (fun (u : (Sto) × va_W) => [] ++ u.2)) (va_A ([] ++ pl) sz)) 0 0 (va_A ([] ++ pl) sz) := by
  refine mc_entry (cc := c_DA_useHints) (maxL := 7) (ret := none) (by decide) rfl (Nat.le_of_ble_eq_true rfl) ?_
  intro p e s0 m args below meth c ls F hr hlk hnm hsz hP hD hE hA hl
  obtain ⟨hx, hb, hml, hown, hts⟩ := id F
  have hK := hE.1
  generalize va_A ([] ++ pl) sz = A at hD hE hA ⊢
  have hS : va_S A s0.heap s0.heap [] := va_S.rf
  have hl : lv_has ls 7 [(0, .ref h0), (1, .ref st), (2, .ref f), (3, .int (nI fi)), (4, .int (nI en_))] := hl
  have hR : F_DA_useHints_0 pf fi en_ s = F_DA_useHints_0 pf fi en_ s := rfl
  have hF : frm (M_DA_useHints_0) s s := frm_rf
  refine lv_iconst (v := nI 0) hx hb dDA_useHints_0 (by decide) ?_
  refine lv_istore (lv' := [(5, .int (nI 0)), (0, .ref h0), (1, .ref st), (2, .ref f), (3, .int (nI fi)), (4, .int (nI en_))]) hx hb dDA_useHints_1 hl (by decide) rfl (fun ls hl => ?_)
  have lp21 : ∀ (n21 : Nat) (i21 : Nat) (s21 : Sto) (pl : va_W) (ls : Array Slot) (H : Heap) (locs : List Loc), n21 + i21 = 256 → frm (M_DA_useHints_0) s s21 → F_DA_useHints_0 pf fi en_ s = F_DA_useHints_0_L0 pf fi en_ n21 i21 s21 → lv_has ls 7 [(5, .int (nI i21)), (0, .ref h0), (1, .ref st), (2, .ref f), (3, .int (nI fi)), (4, .int (nI en_))] → okn g T s21 pl → va_P g.1 vcl ([] ++ pl) H → va_D A ([] ++ pl) → va_S A s0.heap H locs → W p l e ({ frames := 2, cells := 0, slots := 0, locals := 45 } : Room) s0 m args below meth c H locs 0 0 (MQ below (va_Qv (fun (u : (Sto) × va_W) => (u.1 = F_DA_useHints_0 pf fi en_ s ∧ frm (M_DA_useHints_0) s u.1 ∧ True) ∧ okn g T u.1 u.2) (po g.1 vcl A (fun (u : (Sto) × va_W) => [] ++ u.2)) A) args s0 0 0 A) (F0 m 3 ls []) := by
    intro n21
    induction n21 with
    | zero =>
      intro i21 s21 pl ls H locs hm21 hF hR hl hO hP hD hS
      refine lv_iload hx hb dDA_useHints_3 (lv_at hl 0 rfl) ?_
      refine lv_sipush (v := nI 256) hx hb dDA_useHints_5 (by decide) ?_
      refine mi_ge (tgt := 32) hx hb dDA_useHints_8 (by decide) (by omega) (by omega) (fun h21 => ?_) (fun h21 => absurd h21 (by omega))
      refine lv_iload_n hx hb dDA_useHints_32 rfl (lv_at hl 4 rfl) ?_
      refine lv_istore (lv' := [(5, .int (nI fi)), (0, .ref h0), (1, .ref st), (2, .ref f), (3, .int (nI fi)), (4, .int (nI en_))]) hx hb dDA_useHints_33 hl (by decide) rfl (fun ls hl => ?_)
      have lp22 : ∀ (n22 : Nat) (kx21 : Nat) (s22 : Sto) (pl : va_W) (ls : Array Slot) (H : Heap) (locs : List Loc), n22 = en_ - kx21 → (kx21 ≤ 255) → frm (M_DA_useHints_0) s s22 → F_DA_useHints_0 pf fi en_ s = F_DA_useHints_0_L1 pf n22 kx21 s22 → lv_has ls 7 [(5, .int (nI kx21)), (0, .ref h0), (1, .ref st), (2, .ref f), (4, .int (nI en_))] → okn g T s22 pl → va_P g.1 vcl ([] ++ pl) H → va_D A ([] ++ pl) → va_S A s0.heap H locs → W p l e ({ frames := 2, cells := 0, slots := 0, locals := 45 } : Room) s0 m args below meth c H locs 0 0 (MQ below (va_Qv (fun (u : (Sto) × va_W) => (u.1 = F_DA_useHints_0 pf fi en_ s ∧ frm (M_DA_useHints_0) s u.1 ∧ True) ∧ okn g T u.1 u.2) (po g.1 vcl A (fun (u : (Sto) × va_W) => [] ++ u.2)) A) args s0 0 0 A) (F0 m 35 ls []) := by
        intro n22
        induction n22 with
        | zero =>
          intro kx21 s22 pl ls H locs hm22 hi21 hF hR hl hO hP hD hS
          refine lv_iload hx hb dDA_useHints_35 (lv_at hl 0 rfl) ?_
          refine lv_iload hx hb dDA_useHints_37 (lv_at hl 4 rfl) ?_
          refine mi_ge (tgt := 76) hx hb dDA_useHints_39 (by decide) (by omega) (by omega) (fun h22 => ?_) (fun h22 => absurd h22 (by omega))
          exact mp_vret hx hb hr hlk hP hD hS (s22, pl) ⟨⟨hR.symm, hF, trivial⟩, hO⟩ [] rfl rfl rfl (by omega) (by omega) dDA_useHints_76
        | succ n22 ih22 =>
          intro kx21 s22 pl ls H locs hm22 hi21 hF hR hl hO hP hD hS
          refine lv_iload hx hb dDA_useHints_35 (lv_at hl 0 rfl) ?_
          refine lv_iload hx hb dDA_useHints_37 (lv_at hl 4 rfl) ?_
          refine mi_ge (tgt := 76) hx hb dDA_useHints_39 (by decide) (by omega) (by omega) (fun h23 => absurd h23 (by omega)) (fun h23 => ?_)
          refine lv_aload_n hx hb dDA_useHints_42 rfl (lv_at hl 1 rfl) ?_
          refine nw_get (C := "LatticeKeys$Dsa") (TT := T_DA) (N := 17) hx hb hts (wg_ft i_DA) hown hK hO k_h0 (kn := 39) (ci := 6) (fl := [(3, 16), (3, 22), (3, 37), (3, 40), (3, 97), (3, 105), (3, 114), (3, 123), (3, 131), (3, 140), (3, 141), (3, 142), (3, 143), (3, 144), (3, 145), (3, 146), (3, 147)]) rfl hP rfl 15 (by decide) (hts _ (wg_t kw_180)) (fun _ h9 => h9) (cd := (3, 146)) rfl dDA_useHints_43 (fun v21 hv21 => ?_)
          obtain ⟨r21, rfl, kr21⟩ := (show ∃ r : Nat, v21 = .ref r ∧ T r = some 146 from hv21)
          refine lv_iload hx hb dDA_useHints_46 (lv_at hl 0 rfl) ?_
          refine nw_bald hx hb hK hO kr21 (k := 146) rfl hP (by omega) (by omega) dDA_useHints_48 ?_
          refine lv_sipush (v := nI 255) hx hb dDA_useHints_49 (by decide) ?_
          refine mi_iandT hx hb 8 dDA_useHints_52 (by decide) (by decide) (fun z21 ez21 hz21 => ?_)
          have hz21 : z21 < 256 := hz21
          replace hR := bnd_step hR ez21
          refine lv_istore (lv' := [(6, .int (nI z21)), (5, .int (nI kx21)), (0, .ref h0), (1, .ref st), (2, .ref f), (4, .int (nI en_))]) hx hb dDA_useHints_53 hl (by decide) rfl (fun ls hl => ?_)
          refine lv_aload_n hx hb dDA_useHints_55 rfl (lv_at hl 2 rfl) ?_
          refine nw_get (C := "LatticeKeys$Dsa") (TT := T_DA) (N := 17) hx hb hts (wg_ft i_DA) hown hK hO k_h0 (kn := 39) (ci := 6) (fl := [(3, 16), (3, 22), (3, 37), (3, 40), (3, 97), (3, 105), (3, 114), (3, 123), (3, 131), (3, 140), (3, 141), (3, 142), (3, 143), (3, 144), (3, 145), (3, 146), (3, 147)]) rfl hP rfl 10 (by decide) (hts _ (wg_t kw_175)) (fun _ h9 => h9) (cd := (3, 141)) rfl dDA_useHints_56 (fun v22 hv22 => ?_)
          obtain ⟨r22, rfl, kr22⟩ := (show ∃ r : Nat, v22 = .ref r ∧ T r = some 141 from hv22)
          refine lv_iload hx hb dDA_useHints_59 (lv_at hl 0 rfl) ?_
          refine lv_aload_n hx hb dDA_useHints_61 rfl (lv_at hl 3 rfl) ?_
          refine lv_aload_n hx hb dDA_useHints_62 rfl (lv_at hl 4 rfl) ?_
          refine lv_iload hx hb dDA_useHints_63 (lv_at hl 0 rfl) ?_
          refine nw_iald hx hb hK hO k_f (k := pf) n_f hP (by omega) (by omega) dDA_useHints_65 ?_
          refine mp_i (cx := []) (wr := []) hP hD hS hA [] [] rfl rfl rfl (by decide) (va_runV (As := [.int ((s22.1 pf z21))]) (rest := [.int (nI z21), .ref r22]) F (N_DS_hintedHigh_0 l g _ T s22 pl hO hU st (s22.1 pf z21) k_st) (cwV 1 hts (wg_app (wg_c kw_1281 (wg_c kw_1282 (wg_c kw_1283 (wg_c kw_8 wg_n)))) kw_1284) rfl rfl rfl (by decide +kernel) ⟨by decide, by decide⟩) (pn_W "LatticeKeys$DsaSet" (en_ok g) (ci := 2) (kn := 9) (fl := [(1, 4), (1, 4), (1, 2), (1, 3), (1, 39), (1, 32), (1, 18), (1, 131072), (1, 44), (1, 6), (1, 95232), (1, 80), (1, 78), (1, 1312), (1, 2560), (1, 2336), (1, 2420)]) hK hO k_st rfl hP hD hS hA hE [] rfl rfl rfl) rfl rfl hl.1 rfl (lv_room (Nat.le_of_ble_eq_true rfl)) dDA_useHints_66 ⟨by omega, by omega⟩) (fun r23 u21 H locs hu21 hP hD hS => ?_)
          obtain ⟨q21, pl⟩ := u21
          obtain ⟨⟨eq21, rfl, hFc21, -⟩, hO⟩ := hu21
          have hO : okn g T q21.2 pl := hO
          have hP : va_P g.1 vcl ([] ++ pl) _ := hP
          have hD : va_D _ ([] ++ pl) := hD
          have hFc21 : frm (M_DS_hintedHigh_0) s22 q21.2 := hFc21
          replace hR := bnd_step hR eq21
          have hF := frm_tr hF hFc21 (fun k hk => by unfold M_DS_hintedHigh_0 at hk; unfold M_DA_useHints_0; omega)
          refine W.widen (k := 0) (n := 0) (by omega) (by omega) ?_
          refine nw_iast hx hb hK hO hU kr22 (k := 141) rfl hP hD hS (by omega) (by omega) dDA_useHints_69 (fun s23 pl H locs es21 hO hP hD hS => ?_)
          replace hR := bnd_step hR es21
          have hF := frm_sI hF es21 (by unfold M_DA_useHints_0; omega)
          refine mi_iinc (k := 1) (x := kx21) (d := 1) (y := kx21 + 1) (lv' := [(5, .int (nI (kx21 + 1))), (6, .int (nI z21)), (0, .ref h0), (1, .ref st), (2, .ref f), (4, .int (nI en_))]) hx hb dDA_useHints_70 hl rfl (by decide) rfl (by decide) rfl (fun ls hl => ?_)
          refine lv_goto (tgt := 35) hx hb dDA_useHints_73 (by decide) ?_
          exact ih22 (kx21 + 1) s23 pl ls H locs (by omega) (by omega) hF hR (lv_sub hl [0, 2, 3, 4, 5] rfl) hO hP hD hS
      exact lp22 (en_ - fi) fi s21 pl ls _ _ (by omega) (by omega) hF hR (lv_sub hl [0, 1, 2, 3, 5] rfl) hO hP hD hS
    | succ n21 ih21 =>
      intro i21 s21 pl ls H locs hm21 hF hR hl hO hP hD hS
      refine lv_iload hx hb dDA_useHints_3 (lv_at hl 0 rfl) ?_
      refine lv_sipush (v := nI 256) hx hb dDA_useHints_5 (by decide) ?_
      refine mi_ge (tgt := 32) hx hb dDA_useHints_8 (by decide) (by omega) (by omega) (fun h24 => absurd h24 (by omega)) (fun h24 => ?_)
      refine lv_aload_n hx hb dDA_useHints_11 rfl (lv_at hl 1 rfl) ?_
      refine nw_get (C := "LatticeKeys$Dsa") (TT := T_DA) (N := 17) hx hb hts (wg_ft i_DA) hown hK hO k_h0 (kn := 39) (ci := 6) (fl := [(3, 16), (3, 22), (3, 37), (3, 40), (3, 97), (3, 105), (3, 114), (3, 123), (3, 131), (3, 140), (3, 141), (3, 142), (3, 143), (3, 144), (3, 145), (3, 146), (3, 147)]) rfl hP rfl 10 (by decide) (hts _ (wg_t kw_175)) (fun _ h9 => h9) (cd := (3, 141)) rfl dDA_useHints_12 (fun v23 hv23 => ?_)
      obtain ⟨r24, rfl, kr23⟩ := (show ∃ r : Nat, v23 = .ref r ∧ T r = some 141 from hv23)
      refine lv_iload hx hb dDA_useHints_15 (lv_at hl 0 rfl) ?_
      refine lv_aload_n hx hb dDA_useHints_17 rfl (lv_at hl 2 rfl) ?_
      refine lv_aload_n hx hb dDA_useHints_18 rfl (lv_at hl 3 rfl) ?_
      refine lv_iload hx hb dDA_useHints_19 (lv_at hl 0 rfl) ?_
      refine nw_iald hx hb hK hO k_f (k := pf) n_f hP (by omega) (by omega) dDA_useHints_21 ?_
      refine mp_i (cx := []) (wr := []) hP hD hS hA [] [] rfl rfl rfl (by decide) (va_runV (As := [.int ((s21.1 pf i21))]) (rest := [.int (nI i21), .ref r24]) F (N_DS_high_0 l g _ T s21 pl hO hU st (s21.1 pf i21) k_st) (cwV 1 hts (wg_app (wg_c kw_1206 (wg_c kw_1207 (wg_c kw_1208 (wg_c kw_8 wg_n)))) kw_1209) rfl rfl rfl (by decide +kernel) ⟨by decide, by decide⟩) (pn_W "LatticeKeys$DsaSet" (en_ok g) (ci := 2) (kn := 9) (fl := [(1, 4), (1, 4), (1, 2), (1, 3), (1, 39), (1, 32), (1, 18), (1, 131072), (1, 44), (1, 6), (1, 95232), (1, 80), (1, 78), (1, 1312), (1, 2560), (1, 2336), (1, 2420)]) hK hO k_st rfl hP hD hS hA hE [] rfl rfl rfl) rfl rfl hl.1 rfl (lv_room (Nat.le_of_ble_eq_true rfl)) dDA_useHints_22 ⟨by omega, by omega⟩) (fun r25 u22 H locs hu22 hP hD hS => ?_)
      obtain ⟨q22, pl⟩ := u22
      obtain ⟨⟨eq22, rfl, hFc22, -⟩, hO⟩ := hu22
      have hO : okn g T q22.2 pl := hO
      have hP : va_P g.1 vcl ([] ++ pl) _ := hP
      have hD : va_D _ ([] ++ pl) := hD
      have hFc22 : frm (M_DS_high_0) s21 q22.2 := hFc22
      replace hR := bnd_step hR eq22
      have hF := frm_tr hF hFc22 (fun k hk => by unfold M_DS_high_0 at hk; unfold M_DA_useHints_0; omega)
      refine W.widen (k := 0) (n := 0) (by omega) (by omega) ?_
      refine nw_iast hx hb hK hO hU kr23 (k := 141) rfl hP hD hS (by omega) (by omega) dDA_useHints_25 (fun s24 pl H locs es22 hO hP hD hS => ?_)
      replace hR := bnd_step hR es22
      have hF := frm_sI hF es22 (by unfold M_DA_useHints_0; omega)
      refine mi_iinc (k := 0) (x := i21) (d := 1) (y := i21 + 1) (lv' := [(5, .int (nI (i21 + 1))), (0, .ref h0), (1, .ref st), (2, .ref f), (3, .int (nI fi)), (4, .int (nI en_))]) hx hb dDA_useHints_26 hl rfl (by decide) rfl (by decide) rfl (fun ls hl => ?_)
      refine lv_goto (tgt := 3) hx hb dDA_useHints_29 (by decide) ?_
      exact ih21 (i21 + 1) s24 pl ls H locs (by omega) hF hR (lv_sub hl [0, 1, 2, 3, 4, 5] rfl) hO hP hD hS
  exact lp21 256 0 s pl ls _ _ (by omega) hF hR (lv_sub hl [0, 1, 2, 3, 4, 5] rfl) hO hP hD hS
def M_DA_useHints_1 (k : Nat) : Prop := k = 141 ∨ (0 : Nat) = 1
noncomputable def F_DA_useHints_1_L1 (pf : Nat) : Nat → Nat → Sto → Sto
  | 0, kx21, s22 => s22
  | n22 + 1, kx21, s22 => bnd (((s22.1 146 kx21) &&& nI 255).toNatClampNeg) fun z21 => bnd (F_DS_hintedHigh_1 (s22.1 pf z21) s22) fun q21 => bnd (sI q21.2 141 z21 (q21.1)) fun s23 => F_DA_useHints_1_L1 pf n22 (kx21 + 1) s23
noncomputable def F_DA_useHints_1_L0 (pf : Nat) (fi : Nat) (en_ : Nat) : Nat → Nat → Sto → Sto
  | 0, i21, s21 => F_DA_useHints_1_L1 pf (en_ - fi) fi s21
  | n21 + 1, i21, s21 => bnd (F_DS_high_1 (s21.1 pf i21) s21) fun q22 => bnd (sI q22.2 141 i21 (q22.1)) fun s24 => F_DA_useHints_1_L0 pf fi en_ n21 (i21 + 1) s24
noncomputable def F_DA_useHints_1 (pf : Nat) (fi : Nat) (en_ : Nat) (s : Sto) : Sto := F_DA_useHints_1_L0 pf fi en_ 256 0 s
set_option maxHeartbeats 8000000 in
set_option maxRecDepth 100000 in
theorem N_DA_useHints_1 (l : Launch) (g : Gd) (sz : Nat) (T : TyN) (s : Sto) (pl : va_W) (hO : okn g T s pl) (hU : inj T) (h0 st f : Nat) (pf : Nat) (fi : Nat) (en_ : Nat) (k_h0 : T h0 = some 39) (k_st : T st = some 10) (k_f : T f = some pf) (n_f : nsp pf = (0, 256, [])) (h1 : en_ ≤ 55) (h2 : fi ≤ 255)  : Met l y_DA_useHints w_DA_useHints ({ frames := 2, cells := 0, slots := 0, locals := 45 } : Room) (va_Pc [.ref h0, .ref st, .ref f, .int (nI fi), .int (nI en_)] (pr (en g) g.1 vcl sz ([] ++ pl))) (va_Qv (fun (u : (Sto) × va_W) => (u.1 = F_DA_useHints_1 pf fi en_ s ∧ frm (M_DA_useHints_1) s u.1 ∧ True) ∧ okn g T u.1 u.2) (po g.1 vcl (va_A ([] ++ pl) sz) (fun (u : (Sto) × va_W) => [] ++ u.2)) (va_A ([] ++ pl) sz)) 0 0 (va_A ([] ++ pl) sz) := by
  refine mc_entry (cc := c_DA_useHints) (maxL := 7) (ret := none) (by decide) rfl (Nat.le_of_ble_eq_true rfl) ?_
  intro p e s0 m args below meth c ls F hr hlk hnm hsz hP hD hE hA hl
  obtain ⟨hx, hb, hml, hown, hts⟩ := id F
  have hK := hE.1
  generalize va_A ([] ++ pl) sz = A at hD hE hA ⊢
  have hS : va_S A s0.heap s0.heap [] := va_S.rf
  have hl : lv_has ls 7 [(0, .ref h0), (1, .ref st), (2, .ref f), (3, .int (nI fi)), (4, .int (nI en_))] := hl
  have hR : F_DA_useHints_1 pf fi en_ s = F_DA_useHints_1 pf fi en_ s := rfl
  have hF : frm (M_DA_useHints_1) s s := frm_rf
  refine lv_iconst (v := nI 0) hx hb dDA_useHints_0 (by decide) ?_
  refine lv_istore (lv' := [(5, .int (nI 0)), (0, .ref h0), (1, .ref st), (2, .ref f), (3, .int (nI fi)), (4, .int (nI en_))]) hx hb dDA_useHints_1 hl (by decide) rfl (fun ls hl => ?_)
  have lp21 : ∀ (n21 : Nat) (i21 : Nat) (s21 : Sto) (pl : va_W) (ls : Array Slot) (H : Heap) (locs : List Loc), n21 + i21 = 256 → frm (M_DA_useHints_1) s s21 → F_DA_useHints_1 pf fi en_ s = F_DA_useHints_1_L0 pf fi en_ n21 i21 s21 → lv_has ls 7 [(5, .int (nI i21)), (0, .ref h0), (1, .ref st), (2, .ref f), (3, .int (nI fi)), (4, .int (nI en_))] → okn g T s21 pl → va_P g.1 vcl ([] ++ pl) H → va_D A ([] ++ pl) → va_S A s0.heap H locs → W p l e ({ frames := 2, cells := 0, slots := 0, locals := 45 } : Room) s0 m args below meth c H locs 0 0 (MQ below (va_Qv (fun (u : (Sto) × va_W) => (u.1 = F_DA_useHints_1 pf fi en_ s ∧ frm (M_DA_useHints_1) s u.1 ∧ True) ∧ okn g T u.1 u.2) (po g.1 vcl A (fun (u : (Sto) × va_W) => [] ++ u.2)) A) args s0 0 0 A) (F0 m 3 ls []) := by
    intro n21
    induction n21 with
    | zero =>
      intro i21 s21 pl ls H locs hm21 hF hR hl hO hP hD hS
      refine lv_iload hx hb dDA_useHints_3 (lv_at hl 0 rfl) ?_
      refine lv_sipush (v := nI 256) hx hb dDA_useHints_5 (by decide) ?_
      refine mi_ge (tgt := 32) hx hb dDA_useHints_8 (by decide) (by omega) (by omega) (fun h21 => ?_) (fun h21 => absurd h21 (by omega))
      refine lv_iload_n hx hb dDA_useHints_32 rfl (lv_at hl 4 rfl) ?_
      refine lv_istore (lv' := [(5, .int (nI fi)), (0, .ref h0), (1, .ref st), (2, .ref f), (3, .int (nI fi)), (4, .int (nI en_))]) hx hb dDA_useHints_33 hl (by decide) rfl (fun ls hl => ?_)
      have lp22 : ∀ (n22 : Nat) (kx21 : Nat) (s22 : Sto) (pl : va_W) (ls : Array Slot) (H : Heap) (locs : List Loc), n22 = en_ - kx21 → (kx21 ≤ 255) → frm (M_DA_useHints_1) s s22 → F_DA_useHints_1 pf fi en_ s = F_DA_useHints_1_L1 pf n22 kx21 s22 → lv_has ls 7 [(5, .int (nI kx21)), (0, .ref h0), (1, .ref st), (2, .ref f), (4, .int (nI en_))] → okn g T s22 pl → va_P g.1 vcl ([] ++ pl) H → va_D A ([] ++ pl) → va_S A s0.heap H locs → W p l e ({ frames := 2, cells := 0, slots := 0, locals := 45 } : Room) s0 m args below meth c H locs 0 0 (MQ below (va_Qv (fun (u : (Sto) × va_W) => (u.1 = F_DA_useHints_1 pf fi en_ s ∧ frm (M_DA_useHints_1) s u.1 ∧ True) ∧ okn g T u.1 u.2) (po g.1 vcl A (fun (u : (Sto) × va_W) => [] ++ u.2)) A) args s0 0 0 A) (F0 m 35 ls []) := by
        intro n22
        induction n22 with
        | zero =>
          intro kx21 s22 pl ls H locs hm22 hi21 hF hR hl hO hP hD hS
          refine lv_iload hx hb dDA_useHints_35 (lv_at hl 0 rfl) ?_
          refine lv_iload hx hb dDA_useHints_37 (lv_at hl 4 rfl) ?_
          refine mi_ge (tgt := 76) hx hb dDA_useHints_39 (by decide) (by omega) (by omega) (fun h22 => ?_) (fun h22 => absurd h22 (by omega))
          exact mp_vret hx hb hr hlk hP hD hS (s22, pl) ⟨⟨hR.symm, hF, trivial⟩, hO⟩ [] rfl rfl rfl (by omega) (by omega) dDA_useHints_76
        | succ n22 ih22 =>
          intro kx21 s22 pl ls H locs hm22 hi21 hF hR hl hO hP hD hS
          refine lv_iload hx hb dDA_useHints_35 (lv_at hl 0 rfl) ?_
          refine lv_iload hx hb dDA_useHints_37 (lv_at hl 4 rfl) ?_
          refine mi_ge (tgt := 76) hx hb dDA_useHints_39 (by decide) (by omega) (by omega) (fun h23 => absurd h23 (by omega)) (fun h23 => ?_)
          refine lv_aload_n hx hb dDA_useHints_42 rfl (lv_at hl 1 rfl) ?_
          refine nw_get (C := "LatticeKeys$Dsa") (TT := T_DA) (N := 17) hx hb hts (wg_ft i_DA) hown hK hO k_h0 (kn := 39) (ci := 6) (fl := [(3, 16), (3, 22), (3, 37), (3, 40), (3, 97), (3, 105), (3, 114), (3, 123), (3, 131), (3, 140), (3, 141), (3, 142), (3, 143), (3, 144), (3, 145), (3, 146), (3, 147)]) rfl hP rfl 15 (by decide) (hts _ (wg_t kw_180)) (fun _ h9 => h9) (cd := (3, 146)) rfl dDA_useHints_43 (fun v21 hv21 => ?_)
          obtain ⟨r21, rfl, kr21⟩ := (show ∃ r : Nat, v21 = .ref r ∧ T r = some 146 from hv21)
          refine lv_iload hx hb dDA_useHints_46 (lv_at hl 0 rfl) ?_
          refine nw_bald hx hb hK hO kr21 (k := 146) rfl hP (by omega) (by omega) dDA_useHints_48 ?_
          refine lv_sipush (v := nI 255) hx hb dDA_useHints_49 (by decide) ?_
          refine mi_iandT hx hb 8 dDA_useHints_52 (by decide) (by decide) (fun z21 ez21 hz21 => ?_)
          have hz21 : z21 < 256 := hz21
          replace hR := bnd_step hR ez21
          refine lv_istore (lv' := [(6, .int (nI z21)), (5, .int (nI kx21)), (0, .ref h0), (1, .ref st), (2, .ref f), (4, .int (nI en_))]) hx hb dDA_useHints_53 hl (by decide) rfl (fun ls hl => ?_)
          refine lv_aload_n hx hb dDA_useHints_55 rfl (lv_at hl 2 rfl) ?_
          refine nw_get (C := "LatticeKeys$Dsa") (TT := T_DA) (N := 17) hx hb hts (wg_ft i_DA) hown hK hO k_h0 (kn := 39) (ci := 6) (fl := [(3, 16), (3, 22), (3, 37), (3, 40), (3, 97), (3, 105), (3, 114), (3, 123), (3, 131), (3, 140), (3, 141), (3, 142), (3, 143), (3, 144), (3, 145), (3, 146), (3, 147)]) rfl hP rfl 10 (by decide) (hts _ (wg_t kw_175)) (fun _ h9 => h9) (cd := (3, 141)) rfl dDA_useHints_56 (fun v22 hv22 => ?_)
          obtain ⟨r22, rfl, kr22⟩ := (show ∃ r : Nat, v22 = .ref r ∧ T r = some 141 from hv22)
          refine lv_iload hx hb dDA_useHints_59 (lv_at hl 0 rfl) ?_
          refine lv_aload_n hx hb dDA_useHints_61 rfl (lv_at hl 3 rfl) ?_
          refine lv_aload_n hx hb dDA_useHints_62 rfl (lv_at hl 4 rfl) ?_
          refine lv_iload hx hb dDA_useHints_63 (lv_at hl 0 rfl) ?_
          refine nw_iald hx hb hK hO k_f (k := pf) n_f hP (by omega) (by omega) dDA_useHints_65 ?_
          refine mp_i (cx := []) (wr := []) hP hD hS hA [] [] rfl rfl rfl (by decide) (va_runV (As := [.int ((s22.1 pf z21))]) (rest := [.int (nI z21), .ref r22]) F (N_DS_hintedHigh_1 l g _ T s22 pl hO hU st (s22.1 pf z21) k_st) (cwV 1 hts (wg_app (wg_c kw_1281 (wg_c kw_1282 (wg_c kw_1283 (wg_c kw_8 wg_n)))) kw_1284) rfl rfl rfl (by decide +kernel) ⟨by decide, by decide⟩) (pn_W "LatticeKeys$DsaSet" (en_ok g) (ci := 2) (kn := 10) (fl := [(1, 6), (1, 5), (1, 4), (1, 4), (1, 49), (1, 48), (1, 20), (1, 524288), (1, 16), (1, 4), (1, 261888), (1, 55), (1, 196), (1, 1952), (1, 4032), (1, 3248), (1, 3309)]) hK hO k_st rfl hP hD hS hA hE [] rfl rfl rfl) rfl rfl hl.1 rfl (lv_room (Nat.le_of_ble_eq_true rfl)) dDA_useHints_66 ⟨by omega, by omega⟩) (fun r23 u21 H locs hu21 hP hD hS => ?_)
          obtain ⟨q21, pl⟩ := u21
          obtain ⟨⟨eq21, rfl, hFc21, -⟩, hO⟩ := hu21
          have hO : okn g T q21.2 pl := hO
          have hP : va_P g.1 vcl ([] ++ pl) _ := hP
          have hD : va_D _ ([] ++ pl) := hD
          have hFc21 : frm (M_DS_hintedHigh_1) s22 q21.2 := hFc21
          replace hR := bnd_step hR eq21
          have hF := frm_tr hF hFc21 (fun k hk => by unfold M_DS_hintedHigh_1 at hk; unfold M_DA_useHints_1; omega)
          refine W.widen (k := 0) (n := 0) (by omega) (by omega) ?_
          refine nw_iast hx hb hK hO hU kr22 (k := 141) rfl hP hD hS (by omega) (by omega) dDA_useHints_69 (fun s23 pl H locs es21 hO hP hD hS => ?_)
          replace hR := bnd_step hR es21
          have hF := frm_sI hF es21 (by unfold M_DA_useHints_1; omega)
          refine mi_iinc (k := 1) (x := kx21) (d := 1) (y := kx21 + 1) (lv' := [(5, .int (nI (kx21 + 1))), (6, .int (nI z21)), (0, .ref h0), (1, .ref st), (2, .ref f), (4, .int (nI en_))]) hx hb dDA_useHints_70 hl rfl (by decide) rfl (by decide) rfl (fun ls hl => ?_)
          refine lv_goto (tgt := 35) hx hb dDA_useHints_73 (by decide) ?_
          exact ih22 (kx21 + 1) s23 pl ls H locs (by omega) (by omega) hF hR (lv_sub hl [0, 2, 3, 4, 5] rfl) hO hP hD hS
      exact lp22 (en_ - fi) fi s21 pl ls _ _ (by omega) (by omega) hF hR (lv_sub hl [0, 1, 2, 3, 5] rfl) hO hP hD hS
    | succ n21 ih21 =>
      intro i21 s21 pl ls H locs hm21 hF hR hl hO hP hD hS
      refine lv_iload hx hb dDA_useHints_3 (lv_at hl 0 rfl) ?_
      refine lv_sipush (v := nI 256) hx hb dDA_useHints_5 (by decide) ?_
      refine mi_ge (tgt := 32) hx hb dDA_useHints_8 (by decide) (by omega) (by omega) (fun h24 => absurd h24 (by omega)) (fun h24 => ?_)
      refine lv_aload_n hx hb dDA_useHints_11 rfl (lv_at hl 1 rfl) ?_
      refine nw_get (C := "LatticeKeys$Dsa") (TT := T_DA) (N := 17) hx hb hts (wg_ft i_DA) hown hK hO k_h0 (kn := 39) (ci := 6) (fl := [(3, 16), (3, 22), (3, 37), (3, 40), (3, 97), (3, 105), (3, 114), (3, 123), (3, 131), (3, 140), (3, 141), (3, 142), (3, 143), (3, 144), (3, 145), (3, 146), (3, 147)]) rfl hP rfl 10 (by decide) (hts _ (wg_t kw_175)) (fun _ h9 => h9) (cd := (3, 141)) rfl dDA_useHints_12 (fun v23 hv23 => ?_)
      obtain ⟨r24, rfl, kr23⟩ := (show ∃ r : Nat, v23 = .ref r ∧ T r = some 141 from hv23)
      refine lv_iload hx hb dDA_useHints_15 (lv_at hl 0 rfl) ?_
      refine lv_aload_n hx hb dDA_useHints_17 rfl (lv_at hl 2 rfl) ?_
      refine lv_aload_n hx hb dDA_useHints_18 rfl (lv_at hl 3 rfl) ?_
      refine lv_iload hx hb dDA_useHints_19 (lv_at hl 0 rfl) ?_
      refine nw_iald hx hb hK hO k_f (k := pf) n_f hP (by omega) (by omega) dDA_useHints_21 ?_
      refine mp_i (cx := []) (wr := []) hP hD hS hA [] [] rfl rfl rfl (by decide) (va_runV (As := [.int ((s21.1 pf i21))]) (rest := [.int (nI i21), .ref r24]) F (N_DS_high_1 l g _ T s21 pl hO hU st (s21.1 pf i21) k_st) (cwV 1 hts (wg_app (wg_c kw_1206 (wg_c kw_1207 (wg_c kw_1208 (wg_c kw_8 wg_n)))) kw_1209) rfl rfl rfl (by decide +kernel) ⟨by decide, by decide⟩) (pn_W "LatticeKeys$DsaSet" (en_ok g) (ci := 2) (kn := 10) (fl := [(1, 6), (1, 5), (1, 4), (1, 4), (1, 49), (1, 48), (1, 20), (1, 524288), (1, 16), (1, 4), (1, 261888), (1, 55), (1, 196), (1, 1952), (1, 4032), (1, 3248), (1, 3309)]) hK hO k_st rfl hP hD hS hA hE [] rfl rfl rfl) rfl rfl hl.1 rfl (lv_room (Nat.le_of_ble_eq_true rfl)) dDA_useHints_22 ⟨by omega, by omega⟩) (fun r25 u22 H locs hu22 hP hD hS => ?_)
      obtain ⟨q22, pl⟩ := u22
      obtain ⟨⟨eq22, rfl, hFc22, -⟩, hO⟩ := hu22
      have hO : okn g T q22.2 pl := hO
      have hP : va_P g.1 vcl ([] ++ pl) _ := hP
      have hD : va_D _ ([] ++ pl) := hD
      have hFc22 : frm (M_DS_high_1) s21 q22.2 := hFc22
      replace hR := bnd_step hR eq22
      have hF := frm_tr hF hFc22 (fun k hk => by unfold M_DS_high_1 at hk; unfold M_DA_useHints_1; omega)
      refine W.widen (k := 0) (n := 0) (by omega) (by omega) ?_
      refine nw_iast hx hb hK hO hU kr23 (k := 141) rfl hP hD hS (by omega) (by omega) dDA_useHints_25 (fun s24 pl H locs es22 hO hP hD hS => ?_)
      replace hR := bnd_step hR es22
      have hF := frm_sI hF es22 (by unfold M_DA_useHints_1; omega)
      refine mi_iinc (k := 0) (x := i21) (d := 1) (y := i21 + 1) (lv' := [(5, .int (nI (i21 + 1))), (0, .ref h0), (1, .ref st), (2, .ref f), (3, .int (nI fi)), (4, .int (nI en_))]) hx hb dDA_useHints_26 hl rfl (by decide) rfl (by decide) rfl (fun ls hl => ?_)
      refine lv_goto (tgt := 3) hx hb dDA_useHints_29 (by decide) ?_
      exact ih21 (i21 + 1) s24 pl ls H locs (by omega) hF hR (lv_sub hl [0, 1, 2, 3, 4, 5] rfl) hO hP hD hS
  exact lp21 256 0 s pl ls _ _ (by omega) hF hR (lv_sub hl [0, 1, 2, 3, 4, 5] rfl) hO hP hD hS
def M_DA_useHints_2 (k : Nat) : Prop := k = 141 ∨ (0 : Nat) = 1
noncomputable def F_DA_useHints_2_L1 (pf : Nat) : Nat → Nat → Sto → Sto
  | 0, kx21, s22 => s22
  | n22 + 1, kx21, s22 => bnd (((s22.1 146 kx21) &&& nI 255).toNatClampNeg) fun z21 => bnd (F_DS_hintedHigh_2 (s22.1 pf z21) s22) fun q21 => bnd (sI q21.2 141 z21 (q21.1)) fun s23 => F_DA_useHints_2_L1 pf n22 (kx21 + 1) s23
noncomputable def F_DA_useHints_2_L0 (pf : Nat) (fi : Nat) (en_ : Nat) : Nat → Nat → Sto → Sto
  | 0, i21, s21 => F_DA_useHints_2_L1 pf (en_ - fi) fi s21
  | n21 + 1, i21, s21 => bnd (F_DS_high_2 (s21.1 pf i21) s21) fun q22 => bnd (sI q22.2 141 i21 (q22.1)) fun s24 => F_DA_useHints_2_L0 pf fi en_ n21 (i21 + 1) s24
noncomputable def F_DA_useHints_2 (pf : Nat) (fi : Nat) (en_ : Nat) (s : Sto) : Sto := F_DA_useHints_2_L0 pf fi en_ 256 0 s
set_option maxHeartbeats 8000000 in
set_option maxRecDepth 100000 in
theorem N_DA_useHints_2 (l : Launch) (g : Gd) (sz : Nat) (T : TyN) (s : Sto) (pl : va_W) (hO : okn g T s pl) (hU : inj T) (h0 st f : Nat) (pf : Nat) (fi : Nat) (en_ : Nat) (k_h0 : T h0 = some 39) (k_st : T st = some 11) (k_f : T f = some pf) (n_f : nsp pf = (0, 256, [])) (h1 : en_ ≤ 75) (h2 : fi ≤ 255)  : Met l y_DA_useHints w_DA_useHints ({ frames := 2, cells := 0, slots := 0, locals := 45 } : Room) (va_Pc [.ref h0, .ref st, .ref f, .int (nI fi), .int (nI en_)] (pr (en g) g.1 vcl sz ([] ++ pl))) (va_Qv (fun (u : (Sto) × va_W) => (u.1 = F_DA_useHints_2 pf fi en_ s ∧ frm (M_DA_useHints_2) s u.1 ∧ True) ∧ okn g T u.1 u.2) (po g.1 vcl (va_A ([] ++ pl) sz) (fun (u : (Sto) × va_W) => [] ++ u.2)) (va_A ([] ++ pl) sz)) 0 0 (va_A ([] ++ pl) sz) := by
  refine mc_entry (cc := c_DA_useHints) (maxL := 7) (ret := none) (by decide) rfl (Nat.le_of_ble_eq_true rfl) ?_
  intro p e s0 m args below meth c ls F hr hlk hnm hsz hP hD hE hA hl
  obtain ⟨hx, hb, hml, hown, hts⟩ := id F
  have hK := hE.1
  generalize va_A ([] ++ pl) sz = A at hD hE hA ⊢
  have hS : va_S A s0.heap s0.heap [] := va_S.rf
  have hl : lv_has ls 7 [(0, .ref h0), (1, .ref st), (2, .ref f), (3, .int (nI fi)), (4, .int (nI en_))] := hl
  have hR : F_DA_useHints_2 pf fi en_ s = F_DA_useHints_2 pf fi en_ s := rfl
  have hF : frm (M_DA_useHints_2) s s := frm_rf
  refine lv_iconst (v := nI 0) hx hb dDA_useHints_0 (by decide) ?_
  refine lv_istore (lv' := [(5, .int (nI 0)), (0, .ref h0), (1, .ref st), (2, .ref f), (3, .int (nI fi)), (4, .int (nI en_))]) hx hb dDA_useHints_1 hl (by decide) rfl (fun ls hl => ?_)
  have lp21 : ∀ (n21 : Nat) (i21 : Nat) (s21 : Sto) (pl : va_W) (ls : Array Slot) (H : Heap) (locs : List Loc), n21 + i21 = 256 → frm (M_DA_useHints_2) s s21 → F_DA_useHints_2 pf fi en_ s = F_DA_useHints_2_L0 pf fi en_ n21 i21 s21 → lv_has ls 7 [(5, .int (nI i21)), (0, .ref h0), (1, .ref st), (2, .ref f), (3, .int (nI fi)), (4, .int (nI en_))] → okn g T s21 pl → va_P g.1 vcl ([] ++ pl) H → va_D A ([] ++ pl) → va_S A s0.heap H locs → W p l e ({ frames := 2, cells := 0, slots := 0, locals := 45 } : Room) s0 m args below meth c H locs 0 0 (MQ below (va_Qv (fun (u : (Sto) × va_W) => (u.1 = F_DA_useHints_2 pf fi en_ s ∧ frm (M_DA_useHints_2) s u.1 ∧ True) ∧ okn g T u.1 u.2) (po g.1 vcl A (fun (u : (Sto) × va_W) => [] ++ u.2)) A) args s0 0 0 A) (F0 m 3 ls []) := by
    intro n21
    induction n21 with
    | zero =>
      intro i21 s21 pl ls H locs hm21 hF hR hl hO hP hD hS
      refine lv_iload hx hb dDA_useHints_3 (lv_at hl 0 rfl) ?_
      refine lv_sipush (v := nI 256) hx hb dDA_useHints_5 (by decide) ?_
      refine mi_ge (tgt := 32) hx hb dDA_useHints_8 (by decide) (by omega) (by omega) (fun h21 => ?_) (fun h21 => absurd h21 (by omega))
      refine lv_iload_n hx hb dDA_useHints_32 rfl (lv_at hl 4 rfl) ?_
      refine lv_istore (lv' := [(5, .int (nI fi)), (0, .ref h0), (1, .ref st), (2, .ref f), (3, .int (nI fi)), (4, .int (nI en_))]) hx hb dDA_useHints_33 hl (by decide) rfl (fun ls hl => ?_)
      have lp22 : ∀ (n22 : Nat) (kx21 : Nat) (s22 : Sto) (pl : va_W) (ls : Array Slot) (H : Heap) (locs : List Loc), n22 = en_ - kx21 → (kx21 ≤ 255) → frm (M_DA_useHints_2) s s22 → F_DA_useHints_2 pf fi en_ s = F_DA_useHints_2_L1 pf n22 kx21 s22 → lv_has ls 7 [(5, .int (nI kx21)), (0, .ref h0), (1, .ref st), (2, .ref f), (4, .int (nI en_))] → okn g T s22 pl → va_P g.1 vcl ([] ++ pl) H → va_D A ([] ++ pl) → va_S A s0.heap H locs → W p l e ({ frames := 2, cells := 0, slots := 0, locals := 45 } : Room) s0 m args below meth c H locs 0 0 (MQ below (va_Qv (fun (u : (Sto) × va_W) => (u.1 = F_DA_useHints_2 pf fi en_ s ∧ frm (M_DA_useHints_2) s u.1 ∧ True) ∧ okn g T u.1 u.2) (po g.1 vcl A (fun (u : (Sto) × va_W) => [] ++ u.2)) A) args s0 0 0 A) (F0 m 35 ls []) := by
        intro n22
        induction n22 with
        | zero =>
          intro kx21 s22 pl ls H locs hm22 hi21 hF hR hl hO hP hD hS
          refine lv_iload hx hb dDA_useHints_35 (lv_at hl 0 rfl) ?_
          refine lv_iload hx hb dDA_useHints_37 (lv_at hl 4 rfl) ?_
          refine mi_ge (tgt := 76) hx hb dDA_useHints_39 (by decide) (by omega) (by omega) (fun h22 => ?_) (fun h22 => absurd h22 (by omega))
          exact mp_vret hx hb hr hlk hP hD hS (s22, pl) ⟨⟨hR.symm, hF, trivial⟩, hO⟩ [] rfl rfl rfl (by omega) (by omega) dDA_useHints_76
        | succ n22 ih22 =>
          intro kx21 s22 pl ls H locs hm22 hi21 hF hR hl hO hP hD hS
          refine lv_iload hx hb dDA_useHints_35 (lv_at hl 0 rfl) ?_
          refine lv_iload hx hb dDA_useHints_37 (lv_at hl 4 rfl) ?_
          refine mi_ge (tgt := 76) hx hb dDA_useHints_39 (by decide) (by omega) (by omega) (fun h23 => absurd h23 (by omega)) (fun h23 => ?_)
          refine lv_aload_n hx hb dDA_useHints_42 rfl (lv_at hl 1 rfl) ?_
          refine nw_get (C := "LatticeKeys$Dsa") (TT := T_DA) (N := 17) hx hb hts (wg_ft i_DA) hown hK hO k_h0 (kn := 39) (ci := 6) (fl := [(3, 16), (3, 22), (3, 37), (3, 40), (3, 97), (3, 105), (3, 114), (3, 123), (3, 131), (3, 140), (3, 141), (3, 142), (3, 143), (3, 144), (3, 145), (3, 146), (3, 147)]) rfl hP rfl 15 (by decide) (hts _ (wg_t kw_180)) (fun _ h9 => h9) (cd := (3, 146)) rfl dDA_useHints_43 (fun v21 hv21 => ?_)
          obtain ⟨r21, rfl, kr21⟩ := (show ∃ r : Nat, v21 = .ref r ∧ T r = some 146 from hv21)
          refine lv_iload hx hb dDA_useHints_46 (lv_at hl 0 rfl) ?_
          refine nw_bald hx hb hK hO kr21 (k := 146) rfl hP (by omega) (by omega) dDA_useHints_48 ?_
          refine lv_sipush (v := nI 255) hx hb dDA_useHints_49 (by decide) ?_
          refine mi_iandT hx hb 8 dDA_useHints_52 (by decide) (by decide) (fun z21 ez21 hz21 => ?_)
          have hz21 : z21 < 256 := hz21
          replace hR := bnd_step hR ez21
          refine lv_istore (lv' := [(6, .int (nI z21)), (5, .int (nI kx21)), (0, .ref h0), (1, .ref st), (2, .ref f), (4, .int (nI en_))]) hx hb dDA_useHints_53 hl (by decide) rfl (fun ls hl => ?_)
          refine lv_aload_n hx hb dDA_useHints_55 rfl (lv_at hl 2 rfl) ?_
          refine nw_get (C := "LatticeKeys$Dsa") (TT := T_DA) (N := 17) hx hb hts (wg_ft i_DA) hown hK hO k_h0 (kn := 39) (ci := 6) (fl := [(3, 16), (3, 22), (3, 37), (3, 40), (3, 97), (3, 105), (3, 114), (3, 123), (3, 131), (3, 140), (3, 141), (3, 142), (3, 143), (3, 144), (3, 145), (3, 146), (3, 147)]) rfl hP rfl 10 (by decide) (hts _ (wg_t kw_175)) (fun _ h9 => h9) (cd := (3, 141)) rfl dDA_useHints_56 (fun v22 hv22 => ?_)
          obtain ⟨r22, rfl, kr22⟩ := (show ∃ r : Nat, v22 = .ref r ∧ T r = some 141 from hv22)
          refine lv_iload hx hb dDA_useHints_59 (lv_at hl 0 rfl) ?_
          refine lv_aload_n hx hb dDA_useHints_61 rfl (lv_at hl 3 rfl) ?_
          refine lv_aload_n hx hb dDA_useHints_62 rfl (lv_at hl 4 rfl) ?_
          refine lv_iload hx hb dDA_useHints_63 (lv_at hl 0 rfl) ?_
          refine nw_iald hx hb hK hO k_f (k := pf) n_f hP (by omega) (by omega) dDA_useHints_65 ?_
          refine mp_i (cx := []) (wr := []) hP hD hS hA [] [] rfl rfl rfl (by decide) (va_runV (As := [.int ((s22.1 pf z21))]) (rest := [.int (nI z21), .ref r22]) F (N_DS_hintedHigh_2 l g _ T s22 pl hO hU st (s22.1 pf z21) k_st) (cwV 1 hts (wg_app (wg_c kw_1281 (wg_c kw_1282 (wg_c kw_1283 (wg_c kw_8 wg_n)))) kw_1284) rfl rfl rfl (by decide +kernel) ⟨by decide, by decide⟩) (pn_W "LatticeKeys$DsaSet" (en_ok g) (ci := 2) (kn := 11) (fl := [(1, 8), (1, 7), (1, 2), (1, 3), (1, 60), (1, 64), (1, 20), (1, 524288), (1, 16), (1, 4), (1, 261888), (1, 75), (1, 120), (1, 2592), (1, 4896), (1, 4544), (1, 4627)]) hK hO k_st rfl hP hD hS hA hE [] rfl rfl rfl) rfl rfl hl.1 rfl (lv_room (Nat.le_of_ble_eq_true rfl)) dDA_useHints_66 ⟨by omega, by omega⟩) (fun r23 u21 H locs hu21 hP hD hS => ?_)
          obtain ⟨q21, pl⟩ := u21
          obtain ⟨⟨eq21, rfl, hFc21, -⟩, hO⟩ := hu21
          have hO : okn g T q21.2 pl := hO
          have hP : va_P g.1 vcl ([] ++ pl) _ := hP
          have hD : va_D _ ([] ++ pl) := hD
          have hFc21 : frm (M_DS_hintedHigh_2) s22 q21.2 := hFc21
          replace hR := bnd_step hR eq21
          have hF := frm_tr hF hFc21 (fun k hk => by unfold M_DS_hintedHigh_2 at hk; unfold M_DA_useHints_2; omega)
          refine W.widen (k := 0) (n := 0) (by omega) (by omega) ?_
          refine nw_iast hx hb hK hO hU kr22 (k := 141) rfl hP hD hS (by omega) (by omega) dDA_useHints_69 (fun s23 pl H locs es21 hO hP hD hS => ?_)
          replace hR := bnd_step hR es21
          have hF := frm_sI hF es21 (by unfold M_DA_useHints_2; omega)
          refine mi_iinc (k := 1) (x := kx21) (d := 1) (y := kx21 + 1) (lv' := [(5, .int (nI (kx21 + 1))), (6, .int (nI z21)), (0, .ref h0), (1, .ref st), (2, .ref f), (4, .int (nI en_))]) hx hb dDA_useHints_70 hl rfl (by decide) rfl (by decide) rfl (fun ls hl => ?_)
          refine lv_goto (tgt := 35) hx hb dDA_useHints_73 (by decide) ?_
          exact ih22 (kx21 + 1) s23 pl ls H locs (by omega) (by omega) hF hR (lv_sub hl [0, 2, 3, 4, 5] rfl) hO hP hD hS
      exact lp22 (en_ - fi) fi s21 pl ls _ _ (by omega) (by omega) hF hR (lv_sub hl [0, 1, 2, 3, 5] rfl) hO hP hD hS
    | succ n21 ih21 =>
      intro i21 s21 pl ls H locs hm21 hF hR hl hO hP hD hS
      refine lv_iload hx hb dDA_useHints_3 (lv_at hl 0 rfl) ?_
      refine lv_sipush (v := nI 256) hx hb dDA_useHints_5 (by decide) ?_
      refine mi_ge (tgt := 32) hx hb dDA_useHints_8 (by decide) (by omega) (by omega) (fun h24 => absurd h24 (by omega)) (fun h24 => ?_)
      refine lv_aload_n hx hb dDA_useHints_11 rfl (lv_at hl 1 rfl) ?_
      refine nw_get (C := "LatticeKeys$Dsa") (TT := T_DA) (N := 17) hx hb hts (wg_ft i_DA) hown hK hO k_h0 (kn := 39) (ci := 6) (fl := [(3, 16), (3, 22), (3, 37), (3, 40), (3, 97), (3, 105), (3, 114), (3, 123), (3, 131), (3, 140), (3, 141), (3, 142), (3, 143), (3, 144), (3, 145), (3, 146), (3, 147)]) rfl hP rfl 10 (by decide) (hts _ (wg_t kw_175)) (fun _ h9 => h9) (cd := (3, 141)) rfl dDA_useHints_12 (fun v23 hv23 => ?_)
      obtain ⟨r24, rfl, kr23⟩ := (show ∃ r : Nat, v23 = .ref r ∧ T r = some 141 from hv23)
      refine lv_iload hx hb dDA_useHints_15 (lv_at hl 0 rfl) ?_
      refine lv_aload_n hx hb dDA_useHints_17 rfl (lv_at hl 2 rfl) ?_
      refine lv_aload_n hx hb dDA_useHints_18 rfl (lv_at hl 3 rfl) ?_
      refine lv_iload hx hb dDA_useHints_19 (lv_at hl 0 rfl) ?_
      refine nw_iald hx hb hK hO k_f (k := pf) n_f hP (by omega) (by omega) dDA_useHints_21 ?_
      refine mp_i (cx := []) (wr := []) hP hD hS hA [] [] rfl rfl rfl (by decide) (va_runV (As := [.int ((s21.1 pf i21))]) (rest := [.int (nI i21), .ref r24]) F (N_DS_high_2 l g _ T s21 pl hO hU st (s21.1 pf i21) k_st) (cwV 1 hts (wg_app (wg_c kw_1206 (wg_c kw_1207 (wg_c kw_1208 (wg_c kw_8 wg_n)))) kw_1209) rfl rfl rfl (by decide +kernel) ⟨by decide, by decide⟩) (pn_W "LatticeKeys$DsaSet" (en_ok g) (ci := 2) (kn := 11) (fl := [(1, 8), (1, 7), (1, 2), (1, 3), (1, 60), (1, 64), (1, 20), (1, 524288), (1, 16), (1, 4), (1, 261888), (1, 75), (1, 120), (1, 2592), (1, 4896), (1, 4544), (1, 4627)]) hK hO k_st rfl hP hD hS hA hE [] rfl rfl rfl) rfl rfl hl.1 rfl (lv_room (Nat.le_of_ble_eq_true rfl)) dDA_useHints_22 ⟨by omega, by omega⟩) (fun r25 u22 H locs hu22 hP hD hS => ?_)
      obtain ⟨q22, pl⟩ := u22
      obtain ⟨⟨eq22, rfl, hFc22, -⟩, hO⟩ := hu22
      have hO : okn g T q22.2 pl := hO
      have hP : va_P g.1 vcl ([] ++ pl) _ := hP
      have hD : va_D _ ([] ++ pl) := hD
      have hFc22 : frm (M_DS_high_2) s21 q22.2 := hFc22
      replace hR := bnd_step hR eq22
      have hF := frm_tr hF hFc22 (fun k hk => by unfold M_DS_high_2 at hk; unfold M_DA_useHints_2; omega)
      refine W.widen (k := 0) (n := 0) (by omega) (by omega) ?_
      refine nw_iast hx hb hK hO hU kr23 (k := 141) rfl hP hD hS (by omega) (by omega) dDA_useHints_25 (fun s24 pl H locs es22 hO hP hD hS => ?_)
      replace hR := bnd_step hR es22
      have hF := frm_sI hF es22 (by unfold M_DA_useHints_2; omega)
      refine mi_iinc (k := 0) (x := i21) (d := 1) (y := i21 + 1) (lv' := [(5, .int (nI (i21 + 1))), (0, .ref h0), (1, .ref st), (2, .ref f), (3, .int (nI fi)), (4, .int (nI en_))]) hx hb dDA_useHints_26 hl rfl (by decide) rfl (by decide) rfl (fun ls hl => ?_)
      refine lv_goto (tgt := 3) hx hb dDA_useHints_29 (by decide) ?_
      exact ih21 (i21 + 1) s24 pl ls H locs (by omega) hF hR (lv_sub hl [0, 1, 2, 3, 4, 5] rfl) hO hP hD hS
  exact lp21 256 0 s pl ls _ _ (by omega) hF hR (lv_sub hl [0, 1, 2, 3, 4, 5] rfl) hO hP hD hS
def M_DA_rebuildRow_0 (k : Nat) : Prop := (115 ≤ k ∧ k < 123) ∨ (132 ≤ k ∧ k < 140) ∨ k = 141 ∨ (0 : Nat) = 1
noncomputable def F_DA_rebuildRow_0_L0 (rw : Nat) : Nat → Nat → Sto → Sto
  | 0, i21, s23 => bnd (F_RG_transform_8 141 s23) fun s24 => bnd (F_AR_fillI (115 + rw) 256 (nI 0) s24) fun s25 => bnd (F_RG_addProduct_8 (115 + rw) 140 141 s25) fun s26 => bnd (F_RG_subtract_8 (132 + rw) (115 + rw) s26) fun s27 => bnd (F_RG_restore_8 (132 + rw) s27) fun s28 => s28
  | n21 + 1, i21, s23 => bnd (sI s23 141 i21 ((s23.1 141 i21) <<< ((nI 13) &&& 31))) fun s29 => F_DA_rebuildRow_0_L0 rw n21 (i21 + 1) s29
noncomputable def F_DA_rebuildRow_0 (pp : Nat) (rw : Nat) (s : Sto) : Sto := bnd (F_DA_multiplyRow_mask_0 rw s) fun s21 => bnd (F_BT_unpack 141 10 pp 1312 (32 + (320 * rw)) s21) fun s22 => F_DA_rebuildRow_0_L0 rw 256 0 s22
set_option maxHeartbeats 8000000 in
set_option maxRecDepth 100000 in
theorem N_DA_rebuildRow_0 (l : Launch) (g : Gd) (sz : Nat) (T : TyN) (s : Sto) (pl : va_W) (hO : okn g T s pl) (hU : inj T) (h0 st pk : Nat) (pp : Nat) (rw : Nat) (k_h0 : T h0 = some 39) (k_st : T st = some 9) (k_pk : T pk = some pp) (n_pk : nsp pp = (1, 1312, [])) (h1 : rw < 4)  : Met l y_DA_rebuildRow w_DA_rebuildRow ({ frames := 2, cells := 0, slots := 0, locals := 54 } : Room) (va_Pc [.ref h0, .ref st, .ref pk, .int (nI rw)] (pr (en g) g.1 vcl sz ([] ++ pl))) (va_Qv (fun (u : (Sto) × va_W) => (u.1 = F_DA_rebuildRow_0 pp rw s ∧ frm (M_DA_rebuildRow_0) s u.1 ∧ True) ∧ okn g T u.1 u.2) (po g.1 vcl (va_A ([] ++ pl) sz) (fun (u : (Sto) × va_W) => [] ++ u.2)) (va_A ([] ++ pl) sz)) 0 0 (va_A ([] ++ pl) sz) := by
  refine mc_entry (cc := c_DA_rebuildRow) (maxL := 5) (ret := none) (by decide) rfl (Nat.le_of_ble_eq_true rfl) ?_
  intro p e s0 m args below meth c ls F hr hlk hnm hsz hP hD hE hA hl
  obtain ⟨hx, hb, hml, hown, hts⟩ := id F
  have hK := hE.1
  generalize va_A ([] ++ pl) sz = A at hD hE hA ⊢
  have hS : va_S A s0.heap s0.heap [] := va_S.rf
  have hl : lv_has ls 5 [(0, .ref h0), (1, .ref st), (2, .ref pk), (3, .int (nI rw))] := hl
  have hR : F_DA_rebuildRow_0 pp rw s = F_DA_rebuildRow_0 pp rw s := rfl
  have hF : frm (M_DA_rebuildRow_0) s s := frm_rf
  refine lv_aload_n hx hb dDA_rebuildRow_0 rfl (lv_at hl 0 rfl) ?_
  refine lv_aload_n hx hb dDA_rebuildRow_1 rfl (lv_at hl 1 rfl) ?_
  refine lv_iload_n hx hb dDA_rebuildRow_2 rfl (lv_at hl 3 rfl) ?_
  refine lv_aload_n hx hb dDA_rebuildRow_3 rfl (lv_at hl 0 rfl) ?_
  refine nw_get (C := "LatticeKeys$Dsa") (TT := T_DA) (N := 17) hx hb hts (wg_ft i_DA) hown hK hO k_h0 (kn := 39) (ci := 6) (fl := [(3, 16), (3, 22), (3, 37), (3, 40), (3, 97), (3, 105), (3, 114), (3, 123), (3, 131), (3, 140), (3, 141), (3, 142), (3, 143), (3, 144), (3, 145), (3, 146), (3, 147)]) rfl hP rfl 7 (by decide) (hts _ (wg_t kw_172)) (fun _ h9 => h9) (cd := (3, 123)) rfl dDA_rebuildRow_4 (fun v21 hv21 => ?_)
  obtain ⟨r21, rfl, kr21⟩ := (show ∃ r : Nat, v21 = .ref r ∧ T r = some 123 from hv21)
  refine mp_v (cx := []) (wr := []) hP hD hS hA [] [] rfl rfl rfl (by decide) (va_runV (As := [.ref st, .int (nI rw), .ref r21]) (rest := []) F (N_DA_multiplyRow_mask_0 l g _ T s pl hO hU h0 st r21 rw k_h0 k_st kr21 (by omega)) (cwV 3 hts (wg_app (wg_c kw_712 (wg_c kw_714 (wg_c ks_15 (wg_c kw_5 wg_n)))) kw_715) rfl rfl rfl (by decide +kernel) ⟨by decide, by decide⟩) (pn_W "LatticeKeys$Dsa" (en_ok g) (ci := 6) (kn := 39) (fl := [(3, 16), (3, 22), (3, 37), (3, 40), (3, 97), (3, 105), (3, 114), (3, 123), (3, 131), (3, 140), (3, 141), (3, 142), (3, 143), (3, 144), (3, 145), (3, 146), (3, 147)]) hK hO k_h0 rfl hP hD hS hA hE [] rfl rfl rfl) rfl rfl hl.1 rfl (lv_room (Nat.le_of_ble_eq_true rfl)) dDA_rebuildRow_7 ⟨by omega, by omega⟩) (fun  u21 H locs hu21 hP hD hS => ?_)
  obtain ⟨s21, pl⟩ := u21
  obtain ⟨⟨eq21, hFc21, -⟩, hO⟩ := hu21
  have hO : okn g T s21 pl := hO
  have hP : va_P g.1 vcl ([] ++ pl) _ := hP
  have hD : va_D _ ([] ++ pl) := hD
  have hFc21 : frm (M_DA_multiplyRow_mask_0) s s21 := hFc21
  replace hR := bnd_step hR eq21
  have hF := frm_tr hF hFc21 (fun k hk => by unfold M_DA_multiplyRow_mask_0 at hk; unfold M_DA_rebuildRow_0; omega)
  refine W.widen (k := 0) (n := 0) (by omega) (by omega) ?_
  refine lv_aload_n hx hb dDA_rebuildRow_10 rfl (lv_at hl 0 rfl) ?_
  refine nw_get (C := "LatticeKeys$Dsa") (TT := T_DA) (N := 17) hx hb hts (wg_ft i_DA) hown hK hO k_h0 (kn := 39) (ci := 6) (fl := [(3, 16), (3, 22), (3, 37), (3, 40), (3, 97), (3, 105), (3, 114), (3, 123), (3, 131), (3, 140), (3, 141), (3, 142), (3, 143), (3, 144), (3, 145), (3, 146), (3, 147)]) rfl hP rfl 10 (by decide) (hts _ (wg_t kw_175)) (fun _ h9 => h9) (cd := (3, 141)) rfl dDA_rebuildRow_11 (fun v22 hv22 => ?_)
  obtain ⟨r22, rfl, kr22⟩ := (show ∃ r : Nat, v22 = .ref r ∧ T r = some 141 from hv22)
  refine lv_bipush (v := nI 10) hx hb dDA_rebuildRow_14 (by decide) ?_
  refine lv_aload_n hx hb dDA_rebuildRow_16 rfl (lv_at hl 2 rfl) ?_
  refine lv_bipush (v := nI 32) hx hb dDA_rebuildRow_17 (by decide) ?_
  refine lv_sipush (v := nI 320) hx hb dDA_rebuildRow_19 (by decide) ?_
  refine lv_iload_n hx hb dDA_rebuildRow_22 rfl (lv_at hl 3 rfl) ?_
  refine mi_imul hx hb dDA_rebuildRow_23 ?_
  refine mi_iadd hx hb dDA_rebuildRow_24 ?_
  refine mp_v (cx := []) (wr := []) hP hD hS hA [] [] rfl rfl rfl (by decide) (va_runS (As := [.ref r22, .int (nI 10), .ref pk, .int (nI (32 + (320 * rw)))]) (rest := []) F (N_BT_unpack l g _ T s21 pl hO hU r22 pk 141 10 pp 1312 (32 + (320 * rw)) kr22 rfl k_pk n_pk (by omega) (by omega) (by omega)) (va_cwS 4 hts (wg_app (wg_c kw_1187 (wg_c kw_628 (wg_c kw_22 wg_n))) kw_629) rfl rfl rfl (by decide +kernel) ⟨by decide, by decide⟩) (pp_S (en_ok g) hP hD hS hA hE [] rfl rfl) rfl rfl hl.1 rfl (lv_room (Nat.le_of_ble_eq_true rfl)) dDA_rebuildRow_25 ⟨by omega, by omega⟩) (fun  u22 H locs hu22 hP hD hS => ?_)
  obtain ⟨s22, pl⟩ := u22
  obtain ⟨⟨eq22, hFc22, -⟩, hO⟩ := hu22
  have hO : okn g T s22 pl := hO
  have hP : va_P g.1 vcl ([] ++ pl) _ := hP
  have hD : va_D _ ([] ++ pl) := hD
  have hFc22 : frm (M_BT_unpack 141) s21 s22 := hFc22
  replace hR := bnd_step hR eq22
  have hF := frm_tr hF hFc22 (fun k hk => by unfold M_BT_unpack at hk; unfold M_DA_rebuildRow_0; omega)
  refine W.widen (k := 0) (n := 0) (by omega) (by omega) ?_
  refine lv_iconst (v := nI 0) hx hb dDA_rebuildRow_28 (by decide) ?_
  refine lv_istore (lv' := [(4, .int (nI 0)), (0, .ref h0), (1, .ref st), (2, .ref pk), (3, .int (nI rw))]) hx hb dDA_rebuildRow_29 hl (by decide) rfl (fun ls hl => ?_)
  have lp21 : ∀ (n21 : Nat) (i21 : Nat) (s23 : Sto) (pl : va_W) (ls : Array Slot) (H : Heap) (locs : List Loc), n21 + i21 = 256 → frm (M_DA_rebuildRow_0) s s23 → F_DA_rebuildRow_0 pp rw s = F_DA_rebuildRow_0_L0 rw n21 i21 s23 → lv_has ls 5 [(4, .int (nI i21)), (0, .ref h0), (3, .int (nI rw))] → okn g T s23 pl → va_P g.1 vcl ([] ++ pl) H → va_D A ([] ++ pl) → va_S A s0.heap H locs → W p l e ({ frames := 2, cells := 0, slots := 0, locals := 54 } : Room) s0 m args below meth c H locs 0 0 (MQ below (va_Qv (fun (u : (Sto) × va_W) => (u.1 = F_DA_rebuildRow_0 pp rw s ∧ frm (M_DA_rebuildRow_0) s u.1 ∧ True) ∧ okn g T u.1 u.2) (po g.1 vcl A (fun (u : (Sto) × va_W) => [] ++ u.2)) A) args s0 0 0 A) (F0 m 31 ls []) := by
    intro n21
    induction n21 with
    | zero =>
      intro i21 s23 pl ls H locs hm21 hF hR hl hO hP hD hS
      refine lv_iload hx hb dDA_rebuildRow_31 (lv_at hl 0 rfl) ?_
      refine lv_sipush (v := nI 256) hx hb dDA_rebuildRow_33 (by decide) ?_
      refine mi_ge (tgt := 57) hx hb dDA_rebuildRow_36 (by decide) (by omega) (by omega) (fun h21 => ?_) (fun h21 => absurd h21 (by omega))
      refine lv_aload_n hx hb dDA_rebuildRow_57 rfl (lv_at hl 1 rfl) ?_
      refine nw_get (C := "LatticeKeys$Dsa") (TT := T_DA) (N := 17) hx hb hts (wg_ft i_DA) hown hK hO k_h0 (kn := 39) (ci := 6) (fl := [(3, 16), (3, 22), (3, 37), (3, 40), (3, 97), (3, 105), (3, 114), (3, 123), (3, 131), (3, 140), (3, 141), (3, 142), (3, 143), (3, 144), (3, 145), (3, 146), (3, 147)]) rfl hP rfl 1 (by decide) (hts _ (wg_t kw_166)) (fun _ h9 => h9) (cd := (3, 22)) rfl dDA_rebuildRow_58 (fun v23 hv23 => ?_)
      obtain ⟨r23, rfl, kr23⟩ := (show ∃ r : Nat, v23 = .ref r ∧ T r = some 22 from hv23)
      refine lv_aload_n hx hb dDA_rebuildRow_61 rfl (lv_at hl 1 rfl) ?_
      refine nw_get (C := "LatticeKeys$Dsa") (TT := T_DA) (N := 17) hx hb hts (wg_ft i_DA) hown hK hO k_h0 (kn := 39) (ci := 6) (fl := [(3, 16), (3, 22), (3, 37), (3, 40), (3, 97), (3, 105), (3, 114), (3, 123), (3, 131), (3, 140), (3, 141), (3, 142), (3, 143), (3, 144), (3, 145), (3, 146), (3, 147)]) rfl hP rfl 10 (by decide) (hts _ (wg_t kw_175)) (fun _ h9 => h9) (cd := (3, 141)) rfl dDA_rebuildRow_62 (fun v24 hv24 => ?_)
      obtain ⟨r24, rfl, kr24⟩ := (show ∃ r : Nat, v24 = .ref r ∧ T r = some 141 from hv24)
      refine mp_v (cx := []) (wr := []) hP hD hS hA [] [] rfl rfl rfl (by decide) (va_runV (As := [.ref r24]) (rest := []) F (N_RG_transform_8 l g _ T s23 pl hO hU r23 r24 141 kr23 kr24 rfl) (cwV 1 hts (wg_app (wg_c kw_711 (wg_c kw_637 (wg_c kw_638 (wg_c kw_4 wg_n)))) kw_639) rfl rfl rfl (by decide +kernel) ⟨by decide, by decide⟩) (pn_W "LatticeKeys$Ring" (en_ok g) (ci := 4) (kn := 22) (fl := [(1, 8380417), (1, 8), (1, 8347681), (3, 23)]) hK hO kr23 rfl hP hD hS hA hE [] rfl rfl rfl) rfl rfl hl.1 rfl (lv_room (Nat.le_of_ble_eq_true rfl)) dDA_rebuildRow_65 ⟨by omega, by omega⟩) (fun  u23 H locs hu23 hP hD hS => ?_)
      obtain ⟨s24, pl⟩ := u23
      obtain ⟨⟨eq23, hFc23, -⟩, hO⟩ := hu23
      have hO : okn g T s24 pl := hO
      have hP : va_P g.1 vcl ([] ++ pl) _ := hP
      have hD : va_D _ ([] ++ pl) := hD
      have hFc23 : frm (M_RG_transform_8 141) s23 s24 := hFc23
      replace hR := bnd_step hR eq23
      have hF := frm_tr hF hFc23 (fun k hk => by unfold M_RG_transform_8 at hk; unfold M_DA_rebuildRow_0; omega)
      refine W.widen (k := 0) (n := 0) (by omega) (by omega) ?_
      refine lv_aload_n hx hb dDA_rebuildRow_68 rfl (lv_at hl 1 rfl) ?_
      refine nw_get (C := "LatticeKeys$Dsa") (TT := T_DA) (N := 17) hx hb hts (wg_ft i_DA) hown hK hO k_h0 (kn := 39) (ci := 6) (fl := [(3, 16), (3, 22), (3, 37), (3, 40), (3, 97), (3, 105), (3, 114), (3, 123), (3, 131), (3, 140), (3, 141), (3, 142), (3, 143), (3, 144), (3, 145), (3, 146), (3, 147)]) rfl hP rfl 6 (by decide) (hts _ (wg_t kw_171)) (fun _ h9 => h9) (cd := (3, 114)) rfl dDA_rebuildRow_69 (fun v25 hv25 => ?_)
      obtain ⟨r25, rfl, kr25⟩ := (show ∃ r : Nat, v25 = .ref r ∧ T r = some 114 from hv25)
      refine lv_iload_n hx hb dDA_rebuildRow_72 rfl (lv_at hl 2 rfl) ?_
      refine nw_aald3 hx hb hK hO kr25 (k := 114) (b := 115) rfl hP (by omega) (by omega) dDA_rebuildRow_73 (fun r26 kr26 => ?_)
      have hn21 : nsp (115 + rw) = (0, 256, []) := rows_ok 115 8 (by decide) _ (by omega)
      refine lv_iconst (v := nI 0) hx hb dDA_rebuildRow_74 (by decide) ?_
      refine mp_v (cx := []) (wr := []) hP hD hS hA [] [] rfl rfl rfl (by decide) (va_runS (As := [.ref r26, .int (nI 0)]) (rest := []) F (N_AR_fillI l g _ T s24 pl hO hU r26 (115 + rw) 256 (nI 0) kr26 hn21 (by omega)) (va_cwS 2 hts (wg_app (wg_c kw_716 (wg_c kw_717 (wg_c kw_21 wg_n))) kw_718) rfl rfl rfl (by decide +kernel) ⟨by decide, by decide⟩) (pp_S (en_ok g) hP hD hS hA hE [] rfl rfl) rfl rfl hl.1 rfl (lv_room (Nat.le_of_ble_eq_true rfl)) dDA_rebuildRow_75 ⟨by omega, by omega⟩) (fun  u24 H locs hu24 hP hD hS => ?_)
      obtain ⟨s25, pl⟩ := u24
      obtain ⟨⟨eq24, hFc24, -⟩, hO⟩ := hu24
      have hO : okn g T s25 pl := hO
      have hP : va_P g.1 vcl ([] ++ pl) _ := hP
      have hD : va_D _ ([] ++ pl) := hD
      have hFc24 : frm (M_AR_fillI (115 + rw)) s24 s25 := hFc24
      replace hR := bnd_step hR eq24
      have hF := frm_tr hF hFc24 (fun k hk => by unfold M_AR_fillI at hk; unfold M_DA_rebuildRow_0; omega)
      refine W.widen (k := 0) (n := 0) (by omega) (by omega) ?_
      refine lv_aload_n hx hb dDA_rebuildRow_78 rfl (lv_at hl 1 rfl) ?_
      refine nw_get (C := "LatticeKeys$Dsa") (TT := T_DA) (N := 17) hx hb hts (wg_ft i_DA) hown hK hO k_h0 (kn := 39) (ci := 6) (fl := [(3, 16), (3, 22), (3, 37), (3, 40), (3, 97), (3, 105), (3, 114), (3, 123), (3, 131), (3, 140), (3, 141), (3, 142), (3, 143), (3, 144), (3, 145), (3, 146), (3, 147)]) rfl hP rfl 1 (by decide) (hts _ (wg_t kw_166)) (fun _ h9 => h9) (cd := (3, 22)) rfl dDA_rebuildRow_79 (fun v26 hv26 => ?_)
      obtain ⟨r27, rfl, kr27⟩ := (show ∃ r : Nat, v26 = .ref r ∧ T r = some 22 from hv26)
      refine lv_aload_n hx hb dDA_rebuildRow_82 rfl (lv_at hl 1 rfl) ?_
      refine nw_get (C := "LatticeKeys$Dsa") (TT := T_DA) (N := 17) hx hb hts (wg_ft i_DA) hown hK hO k_h0 (kn := 39) (ci := 6) (fl := [(3, 16), (3, 22), (3, 37), (3, 40), (3, 97), (3, 105), (3, 114), (3, 123), (3, 131), (3, 140), (3, 141), (3, 142), (3, 143), (3, 144), (3, 145), (3, 146), (3, 147)]) rfl hP rfl 6 (by decide) (hts _ (wg_t kw_171)) (fun _ h9 => h9) (cd := (3, 114)) rfl dDA_rebuildRow_83 (fun v27 hv27 => ?_)
      obtain ⟨r28, rfl, kr28⟩ := (show ∃ r : Nat, v27 = .ref r ∧ T r = some 114 from hv27)
      refine lv_iload_n hx hb dDA_rebuildRow_86 rfl (lv_at hl 2 rfl) ?_
      refine nw_aald3 hx hb hK hO kr28 (k := 114) (b := 115) rfl hP (by omega) (by omega) dDA_rebuildRow_87 (fun r29 kr29 => ?_)
      have hn22 : nsp (115 + rw) = (0, 256, []) := rows_ok 115 8 (by decide) _ (by omega)
      refine lv_aload_n hx hb dDA_rebuildRow_88 rfl (lv_at hl 1 rfl) ?_
      refine nw_get (C := "LatticeKeys$Dsa") (TT := T_DA) (N := 17) hx hb hts (wg_ft i_DA) hown hK hO k_h0 (kn := 39) (ci := 6) (fl := [(3, 16), (3, 22), (3, 37), (3, 40), (3, 97), (3, 105), (3, 114), (3, 123), (3, 131), (3, 140), (3, 141), (3, 142), (3, 143), (3, 144), (3, 145), (3, 146), (3, 147)]) rfl hP rfl 9 (by decide) (hts _ (wg_t kw_174)) (fun _ h9 => h9) (cd := (3, 140)) rfl dDA_rebuildRow_89 (fun v28 hv28 => ?_)
      obtain ⟨r30, rfl, kr30⟩ := (show ∃ r : Nat, v28 = .ref r ∧ T r = some 140 from hv28)
      refine lv_aload_n hx hb dDA_rebuildRow_92 rfl (lv_at hl 1 rfl) ?_
      refine nw_get (C := "LatticeKeys$Dsa") (TT := T_DA) (N := 17) hx hb hts (wg_ft i_DA) hown hK hO k_h0 (kn := 39) (ci := 6) (fl := [(3, 16), (3, 22), (3, 37), (3, 40), (3, 97), (3, 105), (3, 114), (3, 123), (3, 131), (3, 140), (3, 141), (3, 142), (3, 143), (3, 144), (3, 145), (3, 146), (3, 147)]) rfl hP rfl 10 (by decide) (hts _ (wg_t kw_175)) (fun _ h9 => h9) (cd := (3, 141)) rfl dDA_rebuildRow_93 (fun v29 hv29 => ?_)
      obtain ⟨r31, rfl, kr31⟩ := (show ∃ r : Nat, v29 = .ref r ∧ T r = some 141 from hv29)
      refine mp_v (cx := []) (wr := []) hP hD hS hA [] [] rfl rfl rfl (by decide) (va_runV (As := [.ref r29, .ref r30, .ref r31]) (rest := []) F (N_RG_addProduct_8 l g _ T s25 pl hO hU r27 r29 r30 r31 (115 + rw) 140 141 kr27 kr29 hn22 kr30 rfl kr31 rfl) (cwV 3 hts (wg_app (wg_c kw_719 (wg_c kw_654 (wg_c kw_655 (wg_c kw_4 wg_n)))) kw_656) rfl rfl rfl (by decide +kernel) ⟨by decide, by decide⟩) (pn_W "LatticeKeys$Ring" (en_ok g) (ci := 4) (kn := 22) (fl := [(1, 8380417), (1, 8), (1, 8347681), (3, 23)]) hK hO kr27 rfl hP hD hS hA hE [] rfl rfl rfl) rfl rfl hl.1 rfl (lv_room (Nat.le_of_ble_eq_true rfl)) dDA_rebuildRow_96 ⟨by omega, by omega⟩) (fun  u25 H locs hu25 hP hD hS => ?_)
      obtain ⟨s26, pl⟩ := u25
      obtain ⟨⟨eq25, hFc25, -⟩, hO⟩ := hu25
      have hO : okn g T s26 pl := hO
      have hP : va_P g.1 vcl ([] ++ pl) _ := hP
      have hD : va_D _ ([] ++ pl) := hD
      have hFc25 : frm (M_RG_addProduct_8 (115 + rw)) s25 s26 := hFc25
      replace hR := bnd_step hR eq25
      have hF := frm_tr hF hFc25 (fun k hk => by unfold M_RG_addProduct_8 at hk; unfold M_DA_rebuildRow_0; omega)
      refine W.widen (k := 0) (n := 0) (by omega) (by omega) ?_
      refine lv_aload_n hx hb dDA_rebuildRow_99 rfl (lv_at hl 1 rfl) ?_
      refine nw_get (C := "LatticeKeys$Dsa") (TT := T_DA) (N := 17) hx hb hts (wg_ft i_DA) hown hK hO k_h0 (kn := 39) (ci := 6) (fl := [(3, 16), (3, 22), (3, 37), (3, 40), (3, 97), (3, 105), (3, 114), (3, 123), (3, 131), (3, 140), (3, 141), (3, 142), (3, 143), (3, 144), (3, 145), (3, 146), (3, 147)]) rfl hP rfl 1 (by decide) (hts _ (wg_t kw_166)) (fun _ h9 => h9) (cd := (3, 22)) rfl dDA_rebuildRow_100 (fun v30 hv30 => ?_)
      obtain ⟨r32, rfl, kr32⟩ := (show ∃ r : Nat, v30 = .ref r ∧ T r = some 22 from hv30)
      refine lv_aload_n hx hb dDA_rebuildRow_103 rfl (lv_at hl 1 rfl) ?_
      refine nw_get (C := "LatticeKeys$Dsa") (TT := T_DA) (N := 17) hx hb hts (wg_ft i_DA) hown hK hO k_h0 (kn := 39) (ci := 6) (fl := [(3, 16), (3, 22), (3, 37), (3, 40), (3, 97), (3, 105), (3, 114), (3, 123), (3, 131), (3, 140), (3, 141), (3, 142), (3, 143), (3, 144), (3, 145), (3, 146), (3, 147)]) rfl hP rfl 8 (by decide) (hts _ (wg_t kw_173)) (fun _ h9 => h9) (cd := (3, 131)) rfl dDA_rebuildRow_104 (fun v31 hv31 => ?_)
      obtain ⟨r33, rfl, kr33⟩ := (show ∃ r : Nat, v31 = .ref r ∧ T r = some 131 from hv31)
      refine lv_iload_n hx hb dDA_rebuildRow_107 rfl (lv_at hl 2 rfl) ?_
      refine nw_aald3 hx hb hK hO kr33 (k := 131) (b := 132) rfl hP (by omega) (by omega) dDA_rebuildRow_108 (fun r34 kr34 => ?_)
      have hn23 : nsp (132 + rw) = (0, 256, []) := rows_ok 132 8 (by decide) _ (by omega)
      refine lv_aload_n hx hb dDA_rebuildRow_109 rfl (lv_at hl 1 rfl) ?_
      refine nw_get (C := "LatticeKeys$Dsa") (TT := T_DA) (N := 17) hx hb hts (wg_ft i_DA) hown hK hO k_h0 (kn := 39) (ci := 6) (fl := [(3, 16), (3, 22), (3, 37), (3, 40), (3, 97), (3, 105), (3, 114), (3, 123), (3, 131), (3, 140), (3, 141), (3, 142), (3, 143), (3, 144), (3, 145), (3, 146), (3, 147)]) rfl hP rfl 6 (by decide) (hts _ (wg_t kw_171)) (fun _ h9 => h9) (cd := (3, 114)) rfl dDA_rebuildRow_110 (fun v32 hv32 => ?_)
      obtain ⟨r35, rfl, kr35⟩ := (show ∃ r : Nat, v32 = .ref r ∧ T r = some 114 from hv32)
      refine lv_iload_n hx hb dDA_rebuildRow_113 rfl (lv_at hl 2 rfl) ?_
      refine nw_aald3 hx hb hK hO kr35 (k := 114) (b := 115) rfl hP (by omega) (by omega) dDA_rebuildRow_114 (fun r36 kr36 => ?_)
      have hn24 : nsp (115 + rw) = (0, 256, []) := rows_ok 115 8 (by decide) _ (by omega)
      refine mp_v (cx := []) (wr := []) hP hD hS hA [] [] rfl rfl rfl (by decide) (va_runV (As := [.ref r34, .ref r36]) (rest := []) F (N_RG_subtract_8 l g _ T s26 pl hO hU r32 r34 r36 (132 + rw) (115 + rw) kr32 kr34 hn23 kr36 hn24) (cwV 2 hts (wg_app (wg_c kw_1236 (wg_c kw_1155 (wg_c kw_1156 (wg_c kw_4 wg_n)))) kw_1157) rfl rfl rfl (by decide +kernel) ⟨by decide, by decide⟩) (pn_W "LatticeKeys$Ring" (en_ok g) (ci := 4) (kn := 22) (fl := [(1, 8380417), (1, 8), (1, 8347681), (3, 23)]) hK hO kr32 rfl hP hD hS hA hE [] rfl rfl rfl) rfl rfl hl.1 rfl (lv_room (Nat.le_of_ble_eq_true rfl)) dDA_rebuildRow_115 ⟨by omega, by omega⟩) (fun  u26 H locs hu26 hP hD hS => ?_)
      obtain ⟨s27, pl⟩ := u26
      obtain ⟨⟨eq26, hFc26, -⟩, hO⟩ := hu26
      have hO : okn g T s27 pl := hO
      have hP : va_P g.1 vcl ([] ++ pl) _ := hP
      have hD : va_D _ ([] ++ pl) := hD
      have hFc26 : frm (M_RG_subtract_8 (132 + rw)) s26 s27 := hFc26
      replace hR := bnd_step hR eq26
      have hF := frm_tr hF hFc26 (fun k hk => by unfold M_RG_subtract_8 at hk; unfold M_DA_rebuildRow_0; omega)
      refine W.widen (k := 0) (n := 0) (by omega) (by omega) ?_
      refine lv_aload_n hx hb dDA_rebuildRow_118 rfl (lv_at hl 1 rfl) ?_
      refine nw_get (C := "LatticeKeys$Dsa") (TT := T_DA) (N := 17) hx hb hts (wg_ft i_DA) hown hK hO k_h0 (kn := 39) (ci := 6) (fl := [(3, 16), (3, 22), (3, 37), (3, 40), (3, 97), (3, 105), (3, 114), (3, 123), (3, 131), (3, 140), (3, 141), (3, 142), (3, 143), (3, 144), (3, 145), (3, 146), (3, 147)]) rfl hP rfl 1 (by decide) (hts _ (wg_t kw_166)) (fun _ h9 => h9) (cd := (3, 22)) rfl dDA_rebuildRow_119 (fun v33 hv33 => ?_)
      obtain ⟨r37, rfl, kr37⟩ := (show ∃ r : Nat, v33 = .ref r ∧ T r = some 22 from hv33)
      refine lv_aload_n hx hb dDA_rebuildRow_122 rfl (lv_at hl 1 rfl) ?_
      refine nw_get (C := "LatticeKeys$Dsa") (TT := T_DA) (N := 17) hx hb hts (wg_ft i_DA) hown hK hO k_h0 (kn := 39) (ci := 6) (fl := [(3, 16), (3, 22), (3, 37), (3, 40), (3, 97), (3, 105), (3, 114), (3, 123), (3, 131), (3, 140), (3, 141), (3, 142), (3, 143), (3, 144), (3, 145), (3, 146), (3, 147)]) rfl hP rfl 8 (by decide) (hts _ (wg_t kw_173)) (fun _ h9 => h9) (cd := (3, 131)) rfl dDA_rebuildRow_123 (fun v34 hv34 => ?_)
      obtain ⟨r38, rfl, kr38⟩ := (show ∃ r : Nat, v34 = .ref r ∧ T r = some 131 from hv34)
      refine lv_iload_n hx hb dDA_rebuildRow_126 rfl (lv_at hl 2 rfl) ?_
      refine nw_aald3 hx hb hK hO kr38 (k := 131) (b := 132) rfl hP (by omega) (by omega) dDA_rebuildRow_127 (fun r39 kr39 => ?_)
      have hn25 : nsp (132 + rw) = (0, 256, []) := rows_ok 132 8 (by decide) _ (by omega)
      refine mp_v (cx := []) (wr := []) hP hD hS hA [] [] rfl rfl rfl (by decide) (va_runV (As := [.ref r39]) (rest := []) F (N_RG_restore_8 l g _ T s27 pl hO hU r37 r39 (132 + rw) kr37 kr39 hn25) (cwV 1 hts (wg_app (wg_c kw_720 (wg_c kw_721 (wg_c kw_722 (wg_c kw_4 wg_n)))) kw_723) rfl rfl rfl (by decide +kernel) ⟨by decide, by decide⟩) (pn_W "LatticeKeys$Ring" (en_ok g) (ci := 4) (kn := 22) (fl := [(1, 8380417), (1, 8), (1, 8347681), (3, 23)]) hK hO kr37 rfl hP hD hS hA hE [] rfl rfl rfl) rfl rfl hl.1 rfl (lv_room (Nat.le_of_ble_eq_true rfl)) dDA_rebuildRow_128 ⟨by omega, by omega⟩) (fun  u27 H locs hu27 hP hD hS => ?_)
      obtain ⟨s28, pl⟩ := u27
      obtain ⟨⟨eq27, hFc27, -⟩, hO⟩ := hu27
      have hO : okn g T s28 pl := hO
      have hP : va_P g.1 vcl ([] ++ pl) _ := hP
      have hD : va_D _ ([] ++ pl) := hD
      have hFc27 : frm (M_RG_restore_8 (132 + rw)) s27 s28 := hFc27
      replace hR := bnd_step hR eq27
      have hF := frm_tr hF hFc27 (fun k hk => by unfold M_RG_restore_8 at hk; unfold M_DA_rebuildRow_0; omega)
      refine W.widen (k := 0) (n := 0) (by omega) (by omega) ?_
      exact mp_vret hx hb hr hlk hP hD hS (s28, pl) ⟨⟨hR.symm, hF, trivial⟩, hO⟩ [] rfl rfl rfl (by omega) (by omega) dDA_rebuildRow_131
    | succ n21 ih21 =>
      intro i21 s23 pl ls H locs hm21 hF hR hl hO hP hD hS
      refine lv_iload hx hb dDA_rebuildRow_31 (lv_at hl 0 rfl) ?_
      refine lv_sipush (v := nI 256) hx hb dDA_rebuildRow_33 (by decide) ?_
      refine mi_ge (tgt := 57) hx hb dDA_rebuildRow_36 (by decide) (by omega) (by omega) (fun h22 => absurd h22 (by omega)) (fun h22 => ?_)
      refine lv_aload_n hx hb dDA_rebuildRow_39 rfl (lv_at hl 1 rfl) ?_
      refine nw_get (C := "LatticeKeys$Dsa") (TT := T_DA) (N := 17) hx hb hts (wg_ft i_DA) hown hK hO k_h0 (kn := 39) (ci := 6) (fl := [(3, 16), (3, 22), (3, 37), (3, 40), (3, 97), (3, 105), (3, 114), (3, 123), (3, 131), (3, 140), (3, 141), (3, 142), (3, 143), (3, 144), (3, 145), (3, 146), (3, 147)]) rfl hP rfl 10 (by decide) (hts _ (wg_t kw_175)) (fun _ h9 => h9) (cd := (3, 141)) rfl dDA_rebuildRow_40 (fun v35 hv35 => ?_)
      obtain ⟨r40, rfl, kr40⟩ := (show ∃ r : Nat, v35 = .ref r ∧ T r = some 141 from hv35)
      refine lv_iload hx hb dDA_rebuildRow_43 (lv_at hl 0 rfl) ?_
      refine lv_dup2_11 hx hb dDA_rebuildRow_45 rfl rfl ?_
      refine nw_iald hx hb hK hO kr40 (k := 141) rfl hP (by omega) (by omega) dDA_rebuildRow_46 ?_
      refine lv_bipush (v := nI 13) hx hb dDA_rebuildRow_47 (by decide) ?_
      refine lv_ishl hx hb dDA_rebuildRow_49 ?_
      refine nw_iast hx hb hK hO hU kr40 (k := 141) rfl hP hD hS (by omega) (by omega) dDA_rebuildRow_50 (fun s29 pl H locs es21 hO hP hD hS => ?_)
      replace hR := bnd_step hR es21
      have hF := frm_sI hF es21 (by unfold M_DA_rebuildRow_0; omega)
      refine mi_iinc (k := 0) (x := i21) (d := 1) (y := i21 + 1) (lv' := [(4, .int (nI (i21 + 1))), (0, .ref h0), (3, .int (nI rw))]) hx hb dDA_rebuildRow_51 hl rfl (by decide) rfl (by decide) rfl (fun ls hl => ?_)
      refine lv_goto (tgt := 31) hx hb dDA_rebuildRow_54 (by decide) ?_
      exact ih21 (i21 + 1) s29 pl ls H locs (by omega) hF hR (lv_sub hl [0, 1, 2] rfl) hO hP hD hS
  exact lp21 256 0 s22 pl ls _ _ (by omega) hF hR (lv_sub hl [0, 1, 4] rfl) hO hP hD hS
def M_DA_rebuildRow_1 (k : Nat) : Prop := (115 ≤ k ∧ k < 123) ∨ (132 ≤ k ∧ k < 140) ∨ k = 141 ∨ (0 : Nat) = 1
noncomputable def F_DA_rebuildRow_1_L0 (rw : Nat) : Nat → Nat → Sto → Sto
  | 0, i21, s23 => bnd (F_RG_transform_8 141 s23) fun s24 => bnd (F_AR_fillI (115 + rw) 256 (nI 0) s24) fun s25 => bnd (F_RG_addProduct_8 (115 + rw) 140 141 s25) fun s26 => bnd (F_RG_subtract_8 (132 + rw) (115 + rw) s26) fun s27 => bnd (F_RG_restore_8 (132 + rw) s27) fun s28 => s28
  | n21 + 1, i21, s23 => bnd (sI s23 141 i21 ((s23.1 141 i21) <<< ((nI 13) &&& 31))) fun s29 => F_DA_rebuildRow_1_L0 rw n21 (i21 + 1) s29
noncomputable def F_DA_rebuildRow_1 (pp : Nat) (rw : Nat) (s : Sto) : Sto := bnd (F_DA_multiplyRow_mask_1 rw s) fun s21 => bnd (F_BT_unpack 141 10 pp 1952 (32 + (320 * rw)) s21) fun s22 => F_DA_rebuildRow_1_L0 rw 256 0 s22
set_option maxHeartbeats 8000000 in
set_option maxRecDepth 100000 in
theorem N_DA_rebuildRow_1 (l : Launch) (g : Gd) (sz : Nat) (T : TyN) (s : Sto) (pl : va_W) (hO : okn g T s pl) (hU : inj T) (h0 st pk : Nat) (pp : Nat) (rw : Nat) (k_h0 : T h0 = some 39) (k_st : T st = some 10) (k_pk : T pk = some pp) (n_pk : nsp pp = (1, 1952, [])) (h1 : rw < 6)  : Met l y_DA_rebuildRow w_DA_rebuildRow ({ frames := 2, cells := 0, slots := 0, locals := 54 } : Room) (va_Pc [.ref h0, .ref st, .ref pk, .int (nI rw)] (pr (en g) g.1 vcl sz ([] ++ pl))) (va_Qv (fun (u : (Sto) × va_W) => (u.1 = F_DA_rebuildRow_1 pp rw s ∧ frm (M_DA_rebuildRow_1) s u.1 ∧ True) ∧ okn g T u.1 u.2) (po g.1 vcl (va_A ([] ++ pl) sz) (fun (u : (Sto) × va_W) => [] ++ u.2)) (va_A ([] ++ pl) sz)) 0 0 (va_A ([] ++ pl) sz) := by
  refine mc_entry (cc := c_DA_rebuildRow) (maxL := 5) (ret := none) (by decide) rfl (Nat.le_of_ble_eq_true rfl) ?_
  intro p e s0 m args below meth c ls F hr hlk hnm hsz hP hD hE hA hl
  obtain ⟨hx, hb, hml, hown, hts⟩ := id F
  have hK := hE.1
  generalize va_A ([] ++ pl) sz = A at hD hE hA ⊢
  have hS : va_S A s0.heap s0.heap [] := va_S.rf
  have hl : lv_has ls 5 [(0, .ref h0), (1, .ref st), (2, .ref pk), (3, .int (nI rw))] := hl
  have hR : F_DA_rebuildRow_1 pp rw s = F_DA_rebuildRow_1 pp rw s := rfl
  have hF : frm (M_DA_rebuildRow_1) s s := frm_rf
  refine lv_aload_n hx hb dDA_rebuildRow_0 rfl (lv_at hl 0 rfl) ?_
  refine lv_aload_n hx hb dDA_rebuildRow_1 rfl (lv_at hl 1 rfl) ?_
  refine lv_iload_n hx hb dDA_rebuildRow_2 rfl (lv_at hl 3 rfl) ?_
  refine lv_aload_n hx hb dDA_rebuildRow_3 rfl (lv_at hl 0 rfl) ?_
  refine nw_get (C := "LatticeKeys$Dsa") (TT := T_DA) (N := 17) hx hb hts (wg_ft i_DA) hown hK hO k_h0 (kn := 39) (ci := 6) (fl := [(3, 16), (3, 22), (3, 37), (3, 40), (3, 97), (3, 105), (3, 114), (3, 123), (3, 131), (3, 140), (3, 141), (3, 142), (3, 143), (3, 144), (3, 145), (3, 146), (3, 147)]) rfl hP rfl 7 (by decide) (hts _ (wg_t kw_172)) (fun _ h9 => h9) (cd := (3, 123)) rfl dDA_rebuildRow_4 (fun v21 hv21 => ?_)
  obtain ⟨r21, rfl, kr21⟩ := (show ∃ r : Nat, v21 = .ref r ∧ T r = some 123 from hv21)
  refine mp_v (cx := []) (wr := []) hP hD hS hA [] [] rfl rfl rfl (by decide) (va_runV (As := [.ref st, .int (nI rw), .ref r21]) (rest := []) F (N_DA_multiplyRow_mask_1 l g _ T s pl hO hU h0 st r21 rw k_h0 k_st kr21 (by omega)) (cwV 3 hts (wg_app (wg_c kw_712 (wg_c kw_714 (wg_c ks_15 (wg_c kw_5 wg_n)))) kw_715) rfl rfl rfl (by decide +kernel) ⟨by decide, by decide⟩) (pn_W "LatticeKeys$Dsa" (en_ok g) (ci := 6) (kn := 39) (fl := [(3, 16), (3, 22), (3, 37), (3, 40), (3, 97), (3, 105), (3, 114), (3, 123), (3, 131), (3, 140), (3, 141), (3, 142), (3, 143), (3, 144), (3, 145), (3, 146), (3, 147)]) hK hO k_h0 rfl hP hD hS hA hE [] rfl rfl rfl) rfl rfl hl.1 rfl (lv_room (Nat.le_of_ble_eq_true rfl)) dDA_rebuildRow_7 ⟨by omega, by omega⟩) (fun  u21 H locs hu21 hP hD hS => ?_)
  obtain ⟨s21, pl⟩ := u21
  obtain ⟨⟨eq21, hFc21, -⟩, hO⟩ := hu21
  have hO : okn g T s21 pl := hO
  have hP : va_P g.1 vcl ([] ++ pl) _ := hP
  have hD : va_D _ ([] ++ pl) := hD
  have hFc21 : frm (M_DA_multiplyRow_mask_1) s s21 := hFc21
  replace hR := bnd_step hR eq21
  have hF := frm_tr hF hFc21 (fun k hk => by unfold M_DA_multiplyRow_mask_1 at hk; unfold M_DA_rebuildRow_1; omega)
  refine W.widen (k := 0) (n := 0) (by omega) (by omega) ?_
  refine lv_aload_n hx hb dDA_rebuildRow_10 rfl (lv_at hl 0 rfl) ?_
  refine nw_get (C := "LatticeKeys$Dsa") (TT := T_DA) (N := 17) hx hb hts (wg_ft i_DA) hown hK hO k_h0 (kn := 39) (ci := 6) (fl := [(3, 16), (3, 22), (3, 37), (3, 40), (3, 97), (3, 105), (3, 114), (3, 123), (3, 131), (3, 140), (3, 141), (3, 142), (3, 143), (3, 144), (3, 145), (3, 146), (3, 147)]) rfl hP rfl 10 (by decide) (hts _ (wg_t kw_175)) (fun _ h9 => h9) (cd := (3, 141)) rfl dDA_rebuildRow_11 (fun v22 hv22 => ?_)
  obtain ⟨r22, rfl, kr22⟩ := (show ∃ r : Nat, v22 = .ref r ∧ T r = some 141 from hv22)
  refine lv_bipush (v := nI 10) hx hb dDA_rebuildRow_14 (by decide) ?_
  refine lv_aload_n hx hb dDA_rebuildRow_16 rfl (lv_at hl 2 rfl) ?_
  refine lv_bipush (v := nI 32) hx hb dDA_rebuildRow_17 (by decide) ?_
  refine lv_sipush (v := nI 320) hx hb dDA_rebuildRow_19 (by decide) ?_
  refine lv_iload_n hx hb dDA_rebuildRow_22 rfl (lv_at hl 3 rfl) ?_
  refine mi_imul hx hb dDA_rebuildRow_23 ?_
  refine mi_iadd hx hb dDA_rebuildRow_24 ?_
  refine mp_v (cx := []) (wr := []) hP hD hS hA [] [] rfl rfl rfl (by decide) (va_runS (As := [.ref r22, .int (nI 10), .ref pk, .int (nI (32 + (320 * rw)))]) (rest := []) F (N_BT_unpack l g _ T s21 pl hO hU r22 pk 141 10 pp 1952 (32 + (320 * rw)) kr22 rfl k_pk n_pk (by omega) (by omega) (by omega)) (va_cwS 4 hts (wg_app (wg_c kw_1187 (wg_c kw_628 (wg_c kw_22 wg_n))) kw_629) rfl rfl rfl (by decide +kernel) ⟨by decide, by decide⟩) (pp_S (en_ok g) hP hD hS hA hE [] rfl rfl) rfl rfl hl.1 rfl (lv_room (Nat.le_of_ble_eq_true rfl)) dDA_rebuildRow_25 ⟨by omega, by omega⟩) (fun  u22 H locs hu22 hP hD hS => ?_)
  obtain ⟨s22, pl⟩ := u22
  obtain ⟨⟨eq22, hFc22, -⟩, hO⟩ := hu22
  have hO : okn g T s22 pl := hO
  have hP : va_P g.1 vcl ([] ++ pl) _ := hP
  have hD : va_D _ ([] ++ pl) := hD
  have hFc22 : frm (M_BT_unpack 141) s21 s22 := hFc22
  replace hR := bnd_step hR eq22
  have hF := frm_tr hF hFc22 (fun k hk => by unfold M_BT_unpack at hk; unfold M_DA_rebuildRow_1; omega)
  refine W.widen (k := 0) (n := 0) (by omega) (by omega) ?_
  refine lv_iconst (v := nI 0) hx hb dDA_rebuildRow_28 (by decide) ?_
  refine lv_istore (lv' := [(4, .int (nI 0)), (0, .ref h0), (1, .ref st), (2, .ref pk), (3, .int (nI rw))]) hx hb dDA_rebuildRow_29 hl (by decide) rfl (fun ls hl => ?_)
  have lp21 : ∀ (n21 : Nat) (i21 : Nat) (s23 : Sto) (pl : va_W) (ls : Array Slot) (H : Heap) (locs : List Loc), n21 + i21 = 256 → frm (M_DA_rebuildRow_1) s s23 → F_DA_rebuildRow_1 pp rw s = F_DA_rebuildRow_1_L0 rw n21 i21 s23 → lv_has ls 5 [(4, .int (nI i21)), (0, .ref h0), (3, .int (nI rw))] → okn g T s23 pl → va_P g.1 vcl ([] ++ pl) H → va_D A ([] ++ pl) → va_S A s0.heap H locs → W p l e ({ frames := 2, cells := 0, slots := 0, locals := 54 } : Room) s0 m args below meth c H locs 0 0 (MQ below (va_Qv (fun (u : (Sto) × va_W) => (u.1 = F_DA_rebuildRow_1 pp rw s ∧ frm (M_DA_rebuildRow_1) s u.1 ∧ True) ∧ okn g T u.1 u.2) (po g.1 vcl A (fun (u : (Sto) × va_W) => [] ++ u.2)) A) args s0 0 0 A) (F0 m 31 ls []) := by
    intro n21
    induction n21 with
    | zero =>
      intro i21 s23 pl ls H locs hm21 hF hR hl hO hP hD hS
      refine lv_iload hx hb dDA_rebuildRow_31 (lv_at hl 0 rfl) ?_
      refine lv_sipush (v := nI 256) hx hb dDA_rebuildRow_33 (by decide) ?_
      refine mi_ge (tgt := 57) hx hb dDA_rebuildRow_36 (by decide) (by omega) (by omega) (fun h21 => ?_) (fun h21 => absurd h21 (by omega))
      refine lv_aload_n hx hb dDA_rebuildRow_57 rfl (lv_at hl 1 rfl) ?_
      refine nw_get (C := "LatticeKeys$Dsa") (TT := T_DA) (N := 17) hx hb hts (wg_ft i_DA) hown hK hO k_h0 (kn := 39) (ci := 6) (fl := [(3, 16), (3, 22), (3, 37), (3, 40), (3, 97), (3, 105), (3, 114), (3, 123), (3, 131), (3, 140), (3, 141), (3, 142), (3, 143), (3, 144), (3, 145), (3, 146), (3, 147)]) rfl hP rfl 1 (by decide) (hts _ (wg_t kw_166)) (fun _ h9 => h9) (cd := (3, 22)) rfl dDA_rebuildRow_58 (fun v23 hv23 => ?_)
      obtain ⟨r23, rfl, kr23⟩ := (show ∃ r : Nat, v23 = .ref r ∧ T r = some 22 from hv23)
      refine lv_aload_n hx hb dDA_rebuildRow_61 rfl (lv_at hl 1 rfl) ?_
      refine nw_get (C := "LatticeKeys$Dsa") (TT := T_DA) (N := 17) hx hb hts (wg_ft i_DA) hown hK hO k_h0 (kn := 39) (ci := 6) (fl := [(3, 16), (3, 22), (3, 37), (3, 40), (3, 97), (3, 105), (3, 114), (3, 123), (3, 131), (3, 140), (3, 141), (3, 142), (3, 143), (3, 144), (3, 145), (3, 146), (3, 147)]) rfl hP rfl 10 (by decide) (hts _ (wg_t kw_175)) (fun _ h9 => h9) (cd := (3, 141)) rfl dDA_rebuildRow_62 (fun v24 hv24 => ?_)
      obtain ⟨r24, rfl, kr24⟩ := (show ∃ r : Nat, v24 = .ref r ∧ T r = some 141 from hv24)
      refine mp_v (cx := []) (wr := []) hP hD hS hA [] [] rfl rfl rfl (by decide) (va_runV (As := [.ref r24]) (rest := []) F (N_RG_transform_8 l g _ T s23 pl hO hU r23 r24 141 kr23 kr24 rfl) (cwV 1 hts (wg_app (wg_c kw_711 (wg_c kw_637 (wg_c kw_638 (wg_c kw_4 wg_n)))) kw_639) rfl rfl rfl (by decide +kernel) ⟨by decide, by decide⟩) (pn_W "LatticeKeys$Ring" (en_ok g) (ci := 4) (kn := 22) (fl := [(1, 8380417), (1, 8), (1, 8347681), (3, 23)]) hK hO kr23 rfl hP hD hS hA hE [] rfl rfl rfl) rfl rfl hl.1 rfl (lv_room (Nat.le_of_ble_eq_true rfl)) dDA_rebuildRow_65 ⟨by omega, by omega⟩) (fun  u23 H locs hu23 hP hD hS => ?_)
      obtain ⟨s24, pl⟩ := u23
      obtain ⟨⟨eq23, hFc23, -⟩, hO⟩ := hu23
      have hO : okn g T s24 pl := hO
      have hP : va_P g.1 vcl ([] ++ pl) _ := hP
      have hD : va_D _ ([] ++ pl) := hD
      have hFc23 : frm (M_RG_transform_8 141) s23 s24 := hFc23
      replace hR := bnd_step hR eq23
      have hF := frm_tr hF hFc23 (fun k hk => by unfold M_RG_transform_8 at hk; unfold M_DA_rebuildRow_1; omega)
      refine W.widen (k := 0) (n := 0) (by omega) (by omega) ?_
      refine lv_aload_n hx hb dDA_rebuildRow_68 rfl (lv_at hl 1 rfl) ?_
      refine nw_get (C := "LatticeKeys$Dsa") (TT := T_DA) (N := 17) hx hb hts (wg_ft i_DA) hown hK hO k_h0 (kn := 39) (ci := 6) (fl := [(3, 16), (3, 22), (3, 37), (3, 40), (3, 97), (3, 105), (3, 114), (3, 123), (3, 131), (3, 140), (3, 141), (3, 142), (3, 143), (3, 144), (3, 145), (3, 146), (3, 147)]) rfl hP rfl 6 (by decide) (hts _ (wg_t kw_171)) (fun _ h9 => h9) (cd := (3, 114)) rfl dDA_rebuildRow_69 (fun v25 hv25 => ?_)
      obtain ⟨r25, rfl, kr25⟩ := (show ∃ r : Nat, v25 = .ref r ∧ T r = some 114 from hv25)
      refine lv_iload_n hx hb dDA_rebuildRow_72 rfl (lv_at hl 2 rfl) ?_
      refine nw_aald3 hx hb hK hO kr25 (k := 114) (b := 115) rfl hP (by omega) (by omega) dDA_rebuildRow_73 (fun r26 kr26 => ?_)
      have hn21 : nsp (115 + rw) = (0, 256, []) := rows_ok 115 8 (by decide) _ (by omega)
      refine lv_iconst (v := nI 0) hx hb dDA_rebuildRow_74 (by decide) ?_
      refine mp_v (cx := []) (wr := []) hP hD hS hA [] [] rfl rfl rfl (by decide) (va_runS (As := [.ref r26, .int (nI 0)]) (rest := []) F (N_AR_fillI l g _ T s24 pl hO hU r26 (115 + rw) 256 (nI 0) kr26 hn21 (by omega)) (va_cwS 2 hts (wg_app (wg_c kw_716 (wg_c kw_717 (wg_c kw_21 wg_n))) kw_718) rfl rfl rfl (by decide +kernel) ⟨by decide, by decide⟩) (pp_S (en_ok g) hP hD hS hA hE [] rfl rfl) rfl rfl hl.1 rfl (lv_room (Nat.le_of_ble_eq_true rfl)) dDA_rebuildRow_75 ⟨by omega, by omega⟩) (fun  u24 H locs hu24 hP hD hS => ?_)
      obtain ⟨s25, pl⟩ := u24
      obtain ⟨⟨eq24, hFc24, -⟩, hO⟩ := hu24
      have hO : okn g T s25 pl := hO
      have hP : va_P g.1 vcl ([] ++ pl) _ := hP
      have hD : va_D _ ([] ++ pl) := hD
      have hFc24 : frm (M_AR_fillI (115 + rw)) s24 s25 := hFc24
      replace hR := bnd_step hR eq24
      have hF := frm_tr hF hFc24 (fun k hk => by unfold M_AR_fillI at hk; unfold M_DA_rebuildRow_1; omega)
      refine W.widen (k := 0) (n := 0) (by omega) (by omega) ?_
      refine lv_aload_n hx hb dDA_rebuildRow_78 rfl (lv_at hl 1 rfl) ?_
      refine nw_get (C := "LatticeKeys$Dsa") (TT := T_DA) (N := 17) hx hb hts (wg_ft i_DA) hown hK hO k_h0 (kn := 39) (ci := 6) (fl := [(3, 16), (3, 22), (3, 37), (3, 40), (3, 97), (3, 105), (3, 114), (3, 123), (3, 131), (3, 140), (3, 141), (3, 142), (3, 143), (3, 144), (3, 145), (3, 146), (3, 147)]) rfl hP rfl 1 (by decide) (hts _ (wg_t kw_166)) (fun _ h9 => h9) (cd := (3, 22)) rfl dDA_rebuildRow_79 (fun v26 hv26 => ?_)
      obtain ⟨r27, rfl, kr27⟩ := (show ∃ r : Nat, v26 = .ref r ∧ T r = some 22 from hv26)
      refine lv_aload_n hx hb dDA_rebuildRow_82 rfl (lv_at hl 1 rfl) ?_
      refine nw_get (C := "LatticeKeys$Dsa") (TT := T_DA) (N := 17) hx hb hts (wg_ft i_DA) hown hK hO k_h0 (kn := 39) (ci := 6) (fl := [(3, 16), (3, 22), (3, 37), (3, 40), (3, 97), (3, 105), (3, 114), (3, 123), (3, 131), (3, 140), (3, 141), (3, 142), (3, 143), (3, 144), (3, 145), (3, 146), (3, 147)]) rfl hP rfl 6 (by decide) (hts _ (wg_t kw_171)) (fun _ h9 => h9) (cd := (3, 114)) rfl dDA_rebuildRow_83 (fun v27 hv27 => ?_)
      obtain ⟨r28, rfl, kr28⟩ := (show ∃ r : Nat, v27 = .ref r ∧ T r = some 114 from hv27)
      refine lv_iload_n hx hb dDA_rebuildRow_86 rfl (lv_at hl 2 rfl) ?_
      refine nw_aald3 hx hb hK hO kr28 (k := 114) (b := 115) rfl hP (by omega) (by omega) dDA_rebuildRow_87 (fun r29 kr29 => ?_)
      have hn22 : nsp (115 + rw) = (0, 256, []) := rows_ok 115 8 (by decide) _ (by omega)
      refine lv_aload_n hx hb dDA_rebuildRow_88 rfl (lv_at hl 1 rfl) ?_
      refine nw_get (C := "LatticeKeys$Dsa") (TT := T_DA) (N := 17) hx hb hts (wg_ft i_DA) hown hK hO k_h0 (kn := 39) (ci := 6) (fl := [(3, 16), (3, 22), (3, 37), (3, 40), (3, 97), (3, 105), (3, 114), (3, 123), (3, 131), (3, 140), (3, 141), (3, 142), (3, 143), (3, 144), (3, 145), (3, 146), (3, 147)]) rfl hP rfl 9 (by decide) (hts _ (wg_t kw_174)) (fun _ h9 => h9) (cd := (3, 140)) rfl dDA_rebuildRow_89 (fun v28 hv28 => ?_)
      obtain ⟨r30, rfl, kr30⟩ := (show ∃ r : Nat, v28 = .ref r ∧ T r = some 140 from hv28)
      refine lv_aload_n hx hb dDA_rebuildRow_92 rfl (lv_at hl 1 rfl) ?_
      refine nw_get (C := "LatticeKeys$Dsa") (TT := T_DA) (N := 17) hx hb hts (wg_ft i_DA) hown hK hO k_h0 (kn := 39) (ci := 6) (fl := [(3, 16), (3, 22), (3, 37), (3, 40), (3, 97), (3, 105), (3, 114), (3, 123), (3, 131), (3, 140), (3, 141), (3, 142), (3, 143), (3, 144), (3, 145), (3, 146), (3, 147)]) rfl hP rfl 10 (by decide) (hts _ (wg_t kw_175)) (fun _ h9 => h9) (cd := (3, 141)) rfl dDA_rebuildRow_93 (fun v29 hv29 => ?_)
      obtain ⟨r31, rfl, kr31⟩ := (show ∃ r : Nat, v29 = .ref r ∧ T r = some 141 from hv29)
      refine mp_v (cx := []) (wr := []) hP hD hS hA [] [] rfl rfl rfl (by decide) (va_runV (As := [.ref r29, .ref r30, .ref r31]) (rest := []) F (N_RG_addProduct_8 l g _ T s25 pl hO hU r27 r29 r30 r31 (115 + rw) 140 141 kr27 kr29 hn22 kr30 rfl kr31 rfl) (cwV 3 hts (wg_app (wg_c kw_719 (wg_c kw_654 (wg_c kw_655 (wg_c kw_4 wg_n)))) kw_656) rfl rfl rfl (by decide +kernel) ⟨by decide, by decide⟩) (pn_W "LatticeKeys$Ring" (en_ok g) (ci := 4) (kn := 22) (fl := [(1, 8380417), (1, 8), (1, 8347681), (3, 23)]) hK hO kr27 rfl hP hD hS hA hE [] rfl rfl rfl) rfl rfl hl.1 rfl (lv_room (Nat.le_of_ble_eq_true rfl)) dDA_rebuildRow_96 ⟨by omega, by omega⟩) (fun  u25 H locs hu25 hP hD hS => ?_)
      obtain ⟨s26, pl⟩ := u25
      obtain ⟨⟨eq25, hFc25, -⟩, hO⟩ := hu25
      have hO : okn g T s26 pl := hO
      have hP : va_P g.1 vcl ([] ++ pl) _ := hP
      have hD : va_D _ ([] ++ pl) := hD
      have hFc25 : frm (M_RG_addProduct_8 (115 + rw)) s25 s26 := hFc25
      replace hR := bnd_step hR eq25
      have hF := frm_tr hF hFc25 (fun k hk => by unfold M_RG_addProduct_8 at hk; unfold M_DA_rebuildRow_1; omega)
      refine W.widen (k := 0) (n := 0) (by omega) (by omega) ?_
      refine lv_aload_n hx hb dDA_rebuildRow_99 rfl (lv_at hl 1 rfl) ?_
      refine nw_get (C := "LatticeKeys$Dsa") (TT := T_DA) (N := 17) hx hb hts (wg_ft i_DA) hown hK hO k_h0 (kn := 39) (ci := 6) (fl := [(3, 16), (3, 22), (3, 37), (3, 40), (3, 97), (3, 105), (3, 114), (3, 123), (3, 131), (3, 140), (3, 141), (3, 142), (3, 143), (3, 144), (3, 145), (3, 146), (3, 147)]) rfl hP rfl 1 (by decide) (hts _ (wg_t kw_166)) (fun _ h9 => h9) (cd := (3, 22)) rfl dDA_rebuildRow_100 (fun v30 hv30 => ?_)
      obtain ⟨r32, rfl, kr32⟩ := (show ∃ r : Nat, v30 = .ref r ∧ T r = some 22 from hv30)
      refine lv_aload_n hx hb dDA_rebuildRow_103 rfl (lv_at hl 1 rfl) ?_
      refine nw_get (C := "LatticeKeys$Dsa") (TT := T_DA) (N := 17) hx hb hts (wg_ft i_DA) hown hK hO k_h0 (kn := 39) (ci := 6) (fl := [(3, 16), (3, 22), (3, 37), (3, 40), (3, 97), (3, 105), (3, 114), (3, 123), (3, 131), (3, 140), (3, 141), (3, 142), (3, 143), (3, 144), (3, 145), (3, 146), (3, 147)]) rfl hP rfl 8 (by decide) (hts _ (wg_t kw_173)) (fun _ h9 => h9) (cd := (3, 131)) rfl dDA_rebuildRow_104 (fun v31 hv31 => ?_)
      obtain ⟨r33, rfl, kr33⟩ := (show ∃ r : Nat, v31 = .ref r ∧ T r = some 131 from hv31)
      refine lv_iload_n hx hb dDA_rebuildRow_107 rfl (lv_at hl 2 rfl) ?_
      refine nw_aald3 hx hb hK hO kr33 (k := 131) (b := 132) rfl hP (by omega) (by omega) dDA_rebuildRow_108 (fun r34 kr34 => ?_)
      have hn23 : nsp (132 + rw) = (0, 256, []) := rows_ok 132 8 (by decide) _ (by omega)
      refine lv_aload_n hx hb dDA_rebuildRow_109 rfl (lv_at hl 1 rfl) ?_
      refine nw_get (C := "LatticeKeys$Dsa") (TT := T_DA) (N := 17) hx hb hts (wg_ft i_DA) hown hK hO k_h0 (kn := 39) (ci := 6) (fl := [(3, 16), (3, 22), (3, 37), (3, 40), (3, 97), (3, 105), (3, 114), (3, 123), (3, 131), (3, 140), (3, 141), (3, 142), (3, 143), (3, 144), (3, 145), (3, 146), (3, 147)]) rfl hP rfl 6 (by decide) (hts _ (wg_t kw_171)) (fun _ h9 => h9) (cd := (3, 114)) rfl dDA_rebuildRow_110 (fun v32 hv32 => ?_)
      obtain ⟨r35, rfl, kr35⟩ := (show ∃ r : Nat, v32 = .ref r ∧ T r = some 114 from hv32)
      refine lv_iload_n hx hb dDA_rebuildRow_113 rfl (lv_at hl 2 rfl) ?_
      refine nw_aald3 hx hb hK hO kr35 (k := 114) (b := 115) rfl hP (by omega) (by omega) dDA_rebuildRow_114 (fun r36 kr36 => ?_)
      have hn24 : nsp (115 + rw) = (0, 256, []) := rows_ok 115 8 (by decide) _ (by omega)
      refine mp_v (cx := []) (wr := []) hP hD hS hA [] [] rfl rfl rfl (by decide) (va_runV (As := [.ref r34, .ref r36]) (rest := []) F (N_RG_subtract_8 l g _ T s26 pl hO hU r32 r34 r36 (132 + rw) (115 + rw) kr32 kr34 hn23 kr36 hn24) (cwV 2 hts (wg_app (wg_c kw_1236 (wg_c kw_1155 (wg_c kw_1156 (wg_c kw_4 wg_n)))) kw_1157) rfl rfl rfl (by decide +kernel) ⟨by decide, by decide⟩) (pn_W "LatticeKeys$Ring" (en_ok g) (ci := 4) (kn := 22) (fl := [(1, 8380417), (1, 8), (1, 8347681), (3, 23)]) hK hO kr32 rfl hP hD hS hA hE [] rfl rfl rfl) rfl rfl hl.1 rfl (lv_room (Nat.le_of_ble_eq_true rfl)) dDA_rebuildRow_115 ⟨by omega, by omega⟩) (fun  u26 H locs hu26 hP hD hS => ?_)
      obtain ⟨s27, pl⟩ := u26
      obtain ⟨⟨eq26, hFc26, -⟩, hO⟩ := hu26
      have hO : okn g T s27 pl := hO
      have hP : va_P g.1 vcl ([] ++ pl) _ := hP
      have hD : va_D _ ([] ++ pl) := hD
      have hFc26 : frm (M_RG_subtract_8 (132 + rw)) s26 s27 := hFc26
      replace hR := bnd_step hR eq26
      have hF := frm_tr hF hFc26 (fun k hk => by unfold M_RG_subtract_8 at hk; unfold M_DA_rebuildRow_1; omega)
      refine W.widen (k := 0) (n := 0) (by omega) (by omega) ?_
      refine lv_aload_n hx hb dDA_rebuildRow_118 rfl (lv_at hl 1 rfl) ?_
      refine nw_get (C := "LatticeKeys$Dsa") (TT := T_DA) (N := 17) hx hb hts (wg_ft i_DA) hown hK hO k_h0 (kn := 39) (ci := 6) (fl := [(3, 16), (3, 22), (3, 37), (3, 40), (3, 97), (3, 105), (3, 114), (3, 123), (3, 131), (3, 140), (3, 141), (3, 142), (3, 143), (3, 144), (3, 145), (3, 146), (3, 147)]) rfl hP rfl 1 (by decide) (hts _ (wg_t kw_166)) (fun _ h9 => h9) (cd := (3, 22)) rfl dDA_rebuildRow_119 (fun v33 hv33 => ?_)
      obtain ⟨r37, rfl, kr37⟩ := (show ∃ r : Nat, v33 = .ref r ∧ T r = some 22 from hv33)
      refine lv_aload_n hx hb dDA_rebuildRow_122 rfl (lv_at hl 1 rfl) ?_
      refine nw_get (C := "LatticeKeys$Dsa") (TT := T_DA) (N := 17) hx hb hts (wg_ft i_DA) hown hK hO k_h0 (kn := 39) (ci := 6) (fl := [(3, 16), (3, 22), (3, 37), (3, 40), (3, 97), (3, 105), (3, 114), (3, 123), (3, 131), (3, 140), (3, 141), (3, 142), (3, 143), (3, 144), (3, 145), (3, 146), (3, 147)]) rfl hP rfl 8 (by decide) (hts _ (wg_t kw_173)) (fun _ h9 => h9) (cd := (3, 131)) rfl dDA_rebuildRow_123 (fun v34 hv34 => ?_)
      obtain ⟨r38, rfl, kr38⟩ := (show ∃ r : Nat, v34 = .ref r ∧ T r = some 131 from hv34)
      refine lv_iload_n hx hb dDA_rebuildRow_126 rfl (lv_at hl 2 rfl) ?_
      refine nw_aald3 hx hb hK hO kr38 (k := 131) (b := 132) rfl hP (by omega) (by omega) dDA_rebuildRow_127 (fun r39 kr39 => ?_)
      have hn25 : nsp (132 + rw) = (0, 256, []) := rows_ok 132 8 (by decide) _ (by omega)
      refine mp_v (cx := []) (wr := []) hP hD hS hA [] [] rfl rfl rfl (by decide) (va_runV (As := [.ref r39]) (rest := []) F (N_RG_restore_8 l g _ T s27 pl hO hU r37 r39 (132 + rw) kr37 kr39 hn25) (cwV 1 hts (wg_app (wg_c kw_720 (wg_c kw_721 (wg_c kw_722 (wg_c kw_4 wg_n)))) kw_723) rfl rfl rfl (by decide +kernel) ⟨by decide, by decide⟩) (pn_W "LatticeKeys$Ring" (en_ok g) (ci := 4) (kn := 22) (fl := [(1, 8380417), (1, 8), (1, 8347681), (3, 23)]) hK hO kr37 rfl hP hD hS hA hE [] rfl rfl rfl) rfl rfl hl.1 rfl (lv_room (Nat.le_of_ble_eq_true rfl)) dDA_rebuildRow_128 ⟨by omega, by omega⟩) (fun  u27 H locs hu27 hP hD hS => ?_)
      obtain ⟨s28, pl⟩ := u27
      obtain ⟨⟨eq27, hFc27, -⟩, hO⟩ := hu27
      have hO : okn g T s28 pl := hO
      have hP : va_P g.1 vcl ([] ++ pl) _ := hP
      have hD : va_D _ ([] ++ pl) := hD
      have hFc27 : frm (M_RG_restore_8 (132 + rw)) s27 s28 := hFc27
      replace hR := bnd_step hR eq27
      have hF := frm_tr hF hFc27 (fun k hk => by unfold M_RG_restore_8 at hk; unfold M_DA_rebuildRow_1; omega)
      refine W.widen (k := 0) (n := 0) (by omega) (by omega) ?_
      exact mp_vret hx hb hr hlk hP hD hS (s28, pl) ⟨⟨hR.symm, hF, trivial⟩, hO⟩ [] rfl rfl rfl (by omega) (by omega) dDA_rebuildRow_131
    | succ n21 ih21 =>
      intro i21 s23 pl ls H locs hm21 hF hR hl hO hP hD hS
      refine lv_iload hx hb dDA_rebuildRow_31 (lv_at hl 0 rfl) ?_
      refine lv_sipush (v := nI 256) hx hb dDA_rebuildRow_33 (by decide) ?_
      refine mi_ge (tgt := 57) hx hb dDA_rebuildRow_36 (by decide) (by omega) (by omega) (fun h22 => absurd h22 (by omega)) (fun h22 => ?_)
      refine lv_aload_n hx hb dDA_rebuildRow_39 rfl (lv_at hl 1 rfl) ?_
      refine nw_get (C := "LatticeKeys$Dsa") (TT := T_DA) (N := 17) hx hb hts (wg_ft i_DA) hown hK hO k_h0 (kn := 39) (ci := 6) (fl := [(3, 16), (3, 22), (3, 37), (3, 40), (3, 97), (3, 105), (3, 114), (3, 123), (3, 131), (3, 140), (3, 141), (3, 142), (3, 143), (3, 144), (3, 145), (3, 146), (3, 147)]) rfl hP rfl 10 (by decide) (hts _ (wg_t kw_175)) (fun _ h9 => h9) (cd := (3, 141)) rfl dDA_rebuildRow_40 (fun v35 hv35 => ?_)
      obtain ⟨r40, rfl, kr40⟩ := (show ∃ r : Nat, v35 = .ref r ∧ T r = some 141 from hv35)
      refine lv_iload hx hb dDA_rebuildRow_43 (lv_at hl 0 rfl) ?_
      refine lv_dup2_11 hx hb dDA_rebuildRow_45 rfl rfl ?_
      refine nw_iald hx hb hK hO kr40 (k := 141) rfl hP (by omega) (by omega) dDA_rebuildRow_46 ?_
      refine lv_bipush (v := nI 13) hx hb dDA_rebuildRow_47 (by decide) ?_
      refine lv_ishl hx hb dDA_rebuildRow_49 ?_
      refine nw_iast hx hb hK hO hU kr40 (k := 141) rfl hP hD hS (by omega) (by omega) dDA_rebuildRow_50 (fun s29 pl H locs es21 hO hP hD hS => ?_)
      replace hR := bnd_step hR es21
      have hF := frm_sI hF es21 (by unfold M_DA_rebuildRow_1; omega)
      refine mi_iinc (k := 0) (x := i21) (d := 1) (y := i21 + 1) (lv' := [(4, .int (nI (i21 + 1))), (0, .ref h0), (3, .int (nI rw))]) hx hb dDA_rebuildRow_51 hl rfl (by decide) rfl (by decide) rfl (fun ls hl => ?_)
      refine lv_goto (tgt := 31) hx hb dDA_rebuildRow_54 (by decide) ?_
      exact ih21 (i21 + 1) s29 pl ls H locs (by omega) hF hR (lv_sub hl [0, 1, 2] rfl) hO hP hD hS
  exact lp21 256 0 s22 pl ls _ _ (by omega) hF hR (lv_sub hl [0, 1, 4] rfl) hO hP hD hS
def M_DA_rebuildRow_2 (k : Nat) : Prop := (115 ≤ k ∧ k < 123) ∨ (132 ≤ k ∧ k < 140) ∨ k = 141 ∨ (0 : Nat) = 1
noncomputable def F_DA_rebuildRow_2_L0 (rw : Nat) : Nat → Nat → Sto → Sto
  | 0, i21, s23 => bnd (F_RG_transform_8 141 s23) fun s24 => bnd (F_AR_fillI (115 + rw) 256 (nI 0) s24) fun s25 => bnd (F_RG_addProduct_8 (115 + rw) 140 141 s25) fun s26 => bnd (F_RG_subtract_8 (132 + rw) (115 + rw) s26) fun s27 => bnd (F_RG_restore_8 (132 + rw) s27) fun s28 => s28
  | n21 + 1, i21, s23 => bnd (sI s23 141 i21 ((s23.1 141 i21) <<< ((nI 13) &&& 31))) fun s29 => F_DA_rebuildRow_2_L0 rw n21 (i21 + 1) s29
noncomputable def F_DA_rebuildRow_2 (pp : Nat) (rw : Nat) (s : Sto) : Sto := bnd (F_DA_multiplyRow_mask_2 rw s) fun s21 => bnd (F_BT_unpack 141 10 pp 2592 (32 + (320 * rw)) s21) fun s22 => F_DA_rebuildRow_2_L0 rw 256 0 s22
set_option maxHeartbeats 8000000 in
set_option maxRecDepth 100000 in
theorem N_DA_rebuildRow_2 (l : Launch) (g : Gd) (sz : Nat) (T : TyN) (s : Sto) (pl : va_W) (hO : okn g T s pl) (hU : inj T) (h0 st pk : Nat) (pp : Nat) (rw : Nat) (k_h0 : T h0 = some 39) (k_st : T st = some 11) (k_pk : T pk = some pp) (n_pk : nsp pp = (1, 2592, [])) (h1 : rw < 8)  : Met l y_DA_rebuildRow w_DA_rebuildRow ({ frames := 2, cells := 0, slots := 0, locals := 54 } : Room) (va_Pc [.ref h0, .ref st, .ref pk, .int (nI rw)] (pr (en g) g.1 vcl sz ([] ++ pl))) (va_Qv (fun (u : (Sto) × va_W) => (u.1 = F_DA_rebuildRow_2 pp rw s ∧ frm (M_DA_rebuildRow_2) s u.1 ∧ True) ∧ okn g T u.1 u.2) (po g.1 vcl (va_A ([] ++ pl) sz) (fun (u : (Sto) × va_W) => [] ++ u.2)) (va_A ([] ++ pl) sz)) 0 0 (va_A ([] ++ pl) sz) := by
  refine mc_entry (cc := c_DA_rebuildRow) (maxL := 5) (ret := none) (by decide) rfl (Nat.le_of_ble_eq_true rfl) ?_
  intro p e s0 m args below meth c ls F hr hlk hnm hsz hP hD hE hA hl
  obtain ⟨hx, hb, hml, hown, hts⟩ := id F
  have hK := hE.1
  generalize va_A ([] ++ pl) sz = A at hD hE hA ⊢
  have hS : va_S A s0.heap s0.heap [] := va_S.rf
  have hl : lv_has ls 5 [(0, .ref h0), (1, .ref st), (2, .ref pk), (3, .int (nI rw))] := hl
  have hR : F_DA_rebuildRow_2 pp rw s = F_DA_rebuildRow_2 pp rw s := rfl
  have hF : frm (M_DA_rebuildRow_2) s s := frm_rf
  refine lv_aload_n hx hb dDA_rebuildRow_0 rfl (lv_at hl 0 rfl) ?_
  refine lv_aload_n hx hb dDA_rebuildRow_1 rfl (lv_at hl 1 rfl) ?_
  refine lv_iload_n hx hb dDA_rebuildRow_2 rfl (lv_at hl 3 rfl) ?_
  refine lv_aload_n hx hb dDA_rebuildRow_3 rfl (lv_at hl 0 rfl) ?_
  refine nw_get (C := "LatticeKeys$Dsa") (TT := T_DA) (N := 17) hx hb hts (wg_ft i_DA) hown hK hO k_h0 (kn := 39) (ci := 6) (fl := [(3, 16), (3, 22), (3, 37), (3, 40), (3, 97), (3, 105), (3, 114), (3, 123), (3, 131), (3, 140), (3, 141), (3, 142), (3, 143), (3, 144), (3, 145), (3, 146), (3, 147)]) rfl hP rfl 7 (by decide) (hts _ (wg_t kw_172)) (fun _ h9 => h9) (cd := (3, 123)) rfl dDA_rebuildRow_4 (fun v21 hv21 => ?_)
  obtain ⟨r21, rfl, kr21⟩ := (show ∃ r : Nat, v21 = .ref r ∧ T r = some 123 from hv21)
  refine mp_v (cx := []) (wr := []) hP hD hS hA [] [] rfl rfl rfl (by decide) (va_runV (As := [.ref st, .int (nI rw), .ref r21]) (rest := []) F (N_DA_multiplyRow_mask_2 l g _ T s pl hO hU h0 st r21 rw k_h0 k_st kr21 (by omega)) (cwV 3 hts (wg_app (wg_c kw_712 (wg_c kw_714 (wg_c ks_15 (wg_c kw_5 wg_n)))) kw_715) rfl rfl rfl (by decide +kernel) ⟨by decide, by decide⟩) (pn_W "LatticeKeys$Dsa" (en_ok g) (ci := 6) (kn := 39) (fl := [(3, 16), (3, 22), (3, 37), (3, 40), (3, 97), (3, 105), (3, 114), (3, 123), (3, 131), (3, 140), (3, 141), (3, 142), (3, 143), (3, 144), (3, 145), (3, 146), (3, 147)]) hK hO k_h0 rfl hP hD hS hA hE [] rfl rfl rfl) rfl rfl hl.1 rfl (lv_room (Nat.le_of_ble_eq_true rfl)) dDA_rebuildRow_7 ⟨by omega, by omega⟩) (fun  u21 H locs hu21 hP hD hS => ?_)
  obtain ⟨s21, pl⟩ := u21
  obtain ⟨⟨eq21, hFc21, -⟩, hO⟩ := hu21
  have hO : okn g T s21 pl := hO
  have hP : va_P g.1 vcl ([] ++ pl) _ := hP
  have hD : va_D _ ([] ++ pl) := hD
  have hFc21 : frm (M_DA_multiplyRow_mask_2) s s21 := hFc21
  replace hR := bnd_step hR eq21
  have hF := frm_tr hF hFc21 (fun k hk => by unfold M_DA_multiplyRow_mask_2 at hk; unfold M_DA_rebuildRow_2; omega)
  refine W.widen (k := 0) (n := 0) (by omega) (by omega) ?_
  refine lv_aload_n hx hb dDA_rebuildRow_10 rfl (lv_at hl 0 rfl) ?_
  refine nw_get (C := "LatticeKeys$Dsa") (TT := T_DA) (N := 17) hx hb hts (wg_ft i_DA) hown hK hO k_h0 (kn := 39) (ci := 6) (fl := [(3, 16), (3, 22), (3, 37), (3, 40), (3, 97), (3, 105), (3, 114), (3, 123), (3, 131), (3, 140), (3, 141), (3, 142), (3, 143), (3, 144), (3, 145), (3, 146), (3, 147)]) rfl hP rfl 10 (by decide) (hts _ (wg_t kw_175)) (fun _ h9 => h9) (cd := (3, 141)) rfl dDA_rebuildRow_11 (fun v22 hv22 => ?_)
  obtain ⟨r22, rfl, kr22⟩ := (show ∃ r : Nat, v22 = .ref r ∧ T r = some 141 from hv22)
  refine lv_bipush (v := nI 10) hx hb dDA_rebuildRow_14 (by decide) ?_
  refine lv_aload_n hx hb dDA_rebuildRow_16 rfl (lv_at hl 2 rfl) ?_
  refine lv_bipush (v := nI 32) hx hb dDA_rebuildRow_17 (by decide) ?_
  refine lv_sipush (v := nI 320) hx hb dDA_rebuildRow_19 (by decide) ?_
  refine lv_iload_n hx hb dDA_rebuildRow_22 rfl (lv_at hl 3 rfl) ?_
  refine mi_imul hx hb dDA_rebuildRow_23 ?_
  refine mi_iadd hx hb dDA_rebuildRow_24 ?_
  refine mp_v (cx := []) (wr := []) hP hD hS hA [] [] rfl rfl rfl (by decide) (va_runS (As := [.ref r22, .int (nI 10), .ref pk, .int (nI (32 + (320 * rw)))]) (rest := []) F (N_BT_unpack l g _ T s21 pl hO hU r22 pk 141 10 pp 2592 (32 + (320 * rw)) kr22 rfl k_pk n_pk (by omega) (by omega) (by omega)) (va_cwS 4 hts (wg_app (wg_c kw_1187 (wg_c kw_628 (wg_c kw_22 wg_n))) kw_629) rfl rfl rfl (by decide +kernel) ⟨by decide, by decide⟩) (pp_S (en_ok g) hP hD hS hA hE [] rfl rfl) rfl rfl hl.1 rfl (lv_room (Nat.le_of_ble_eq_true rfl)) dDA_rebuildRow_25 ⟨by omega, by omega⟩) (fun  u22 H locs hu22 hP hD hS => ?_)
  obtain ⟨s22, pl⟩ := u22
  obtain ⟨⟨eq22, hFc22, -⟩, hO⟩ := hu22
  have hO : okn g T s22 pl := hO
  have hP : va_P g.1 vcl ([] ++ pl) _ := hP
  have hD : va_D _ ([] ++ pl) := hD
  have hFc22 : frm (M_BT_unpack 141) s21 s22 := hFc22
  replace hR := bnd_step hR eq22
  have hF := frm_tr hF hFc22 (fun k hk => by unfold M_BT_unpack at hk; unfold M_DA_rebuildRow_2; omega)
  refine W.widen (k := 0) (n := 0) (by omega) (by omega) ?_
  refine lv_iconst (v := nI 0) hx hb dDA_rebuildRow_28 (by decide) ?_
  refine lv_istore (lv' := [(4, .int (nI 0)), (0, .ref h0), (1, .ref st), (2, .ref pk), (3, .int (nI rw))]) hx hb dDA_rebuildRow_29 hl (by decide) rfl (fun ls hl => ?_)
  have lp21 : ∀ (n21 : Nat) (i21 : Nat) (s23 : Sto) (pl : va_W) (ls : Array Slot) (H : Heap) (locs : List Loc), n21 + i21 = 256 → frm (M_DA_rebuildRow_2) s s23 → F_DA_rebuildRow_2 pp rw s = F_DA_rebuildRow_2_L0 rw n21 i21 s23 → lv_has ls 5 [(4, .int (nI i21)), (0, .ref h0), (3, .int (nI rw))] → okn g T s23 pl → va_P g.1 vcl ([] ++ pl) H → va_D A ([] ++ pl) → va_S A s0.heap H locs → W p l e ({ frames := 2, cells := 0, slots := 0, locals := 54 } : Room) s0 m args below meth c H locs 0 0 (MQ below (va_Qv (fun (u : (Sto) × va_W) => (u.1 = F_DA_rebuildRow_2 pp rw s ∧ frm (M_DA_rebuildRow_2) s u.1 ∧ True) ∧ okn g T u.1 u.2) (po g.1 vcl A (fun (u : (Sto) × va_W) => [] ++ u.2)) A) args s0 0 0 A) (F0 m 31 ls []) := by
    intro n21
    induction n21 with
    | zero =>
      intro i21 s23 pl ls H locs hm21 hF hR hl hO hP hD hS
      refine lv_iload hx hb dDA_rebuildRow_31 (lv_at hl 0 rfl) ?_
      refine lv_sipush (v := nI 256) hx hb dDA_rebuildRow_33 (by decide) ?_
      refine mi_ge (tgt := 57) hx hb dDA_rebuildRow_36 (by decide) (by omega) (by omega) (fun h21 => ?_) (fun h21 => absurd h21 (by omega))
      refine lv_aload_n hx hb dDA_rebuildRow_57 rfl (lv_at hl 1 rfl) ?_
      refine nw_get (C := "LatticeKeys$Dsa") (TT := T_DA) (N := 17) hx hb hts (wg_ft i_DA) hown hK hO k_h0 (kn := 39) (ci := 6) (fl := [(3, 16), (3, 22), (3, 37), (3, 40), (3, 97), (3, 105), (3, 114), (3, 123), (3, 131), (3, 140), (3, 141), (3, 142), (3, 143), (3, 144), (3, 145), (3, 146), (3, 147)]) rfl hP rfl 1 (by decide) (hts _ (wg_t kw_166)) (fun _ h9 => h9) (cd := (3, 22)) rfl dDA_rebuildRow_58 (fun v23 hv23 => ?_)
      obtain ⟨r23, rfl, kr23⟩ := (show ∃ r : Nat, v23 = .ref r ∧ T r = some 22 from hv23)
      refine lv_aload_n hx hb dDA_rebuildRow_61 rfl (lv_at hl 1 rfl) ?_
      refine nw_get (C := "LatticeKeys$Dsa") (TT := T_DA) (N := 17) hx hb hts (wg_ft i_DA) hown hK hO k_h0 (kn := 39) (ci := 6) (fl := [(3, 16), (3, 22), (3, 37), (3, 40), (3, 97), (3, 105), (3, 114), (3, 123), (3, 131), (3, 140), (3, 141), (3, 142), (3, 143), (3, 144), (3, 145), (3, 146), (3, 147)]) rfl hP rfl 10 (by decide) (hts _ (wg_t kw_175)) (fun _ h9 => h9) (cd := (3, 141)) rfl dDA_rebuildRow_62 (fun v24 hv24 => ?_)
      obtain ⟨r24, rfl, kr24⟩ := (show ∃ r : Nat, v24 = .ref r ∧ T r = some 141 from hv24)
      refine mp_v (cx := []) (wr := []) hP hD hS hA [] [] rfl rfl rfl (by decide) (va_runV (As := [.ref r24]) (rest := []) F (N_RG_transform_8 l g _ T s23 pl hO hU r23 r24 141 kr23 kr24 rfl) (cwV 1 hts (wg_app (wg_c kw_711 (wg_c kw_637 (wg_c kw_638 (wg_c kw_4 wg_n)))) kw_639) rfl rfl rfl (by decide +kernel) ⟨by decide, by decide⟩) (pn_W "LatticeKeys$Ring" (en_ok g) (ci := 4) (kn := 22) (fl := [(1, 8380417), (1, 8), (1, 8347681), (3, 23)]) hK hO kr23 rfl hP hD hS hA hE [] rfl rfl rfl) rfl rfl hl.1 rfl (lv_room (Nat.le_of_ble_eq_true rfl)) dDA_rebuildRow_65 ⟨by omega, by omega⟩) (fun  u23 H locs hu23 hP hD hS => ?_)
      obtain ⟨s24, pl⟩ := u23
      obtain ⟨⟨eq23, hFc23, -⟩, hO⟩ := hu23
      have hO : okn g T s24 pl := hO
      have hP : va_P g.1 vcl ([] ++ pl) _ := hP
      have hD : va_D _ ([] ++ pl) := hD
      have hFc23 : frm (M_RG_transform_8 141) s23 s24 := hFc23
      replace hR := bnd_step hR eq23
      have hF := frm_tr hF hFc23 (fun k hk => by unfold M_RG_transform_8 at hk; unfold M_DA_rebuildRow_2; omega)
      refine W.widen (k := 0) (n := 0) (by omega) (by omega) ?_
      refine lv_aload_n hx hb dDA_rebuildRow_68 rfl (lv_at hl 1 rfl) ?_
      refine nw_get (C := "LatticeKeys$Dsa") (TT := T_DA) (N := 17) hx hb hts (wg_ft i_DA) hown hK hO k_h0 (kn := 39) (ci := 6) (fl := [(3, 16), (3, 22), (3, 37), (3, 40), (3, 97), (3, 105), (3, 114), (3, 123), (3, 131), (3, 140), (3, 141), (3, 142), (3, 143), (3, 144), (3, 145), (3, 146), (3, 147)]) rfl hP rfl 6 (by decide) (hts _ (wg_t kw_171)) (fun _ h9 => h9) (cd := (3, 114)) rfl dDA_rebuildRow_69 (fun v25 hv25 => ?_)
      obtain ⟨r25, rfl, kr25⟩ := (show ∃ r : Nat, v25 = .ref r ∧ T r = some 114 from hv25)
      refine lv_iload_n hx hb dDA_rebuildRow_72 rfl (lv_at hl 2 rfl) ?_
      refine nw_aald3 hx hb hK hO kr25 (k := 114) (b := 115) rfl hP (by omega) (by omega) dDA_rebuildRow_73 (fun r26 kr26 => ?_)
      have hn21 : nsp (115 + rw) = (0, 256, []) := rows_ok 115 8 (by decide) _ (by omega)
      refine lv_iconst (v := nI 0) hx hb dDA_rebuildRow_74 (by decide) ?_
      refine mp_v (cx := []) (wr := []) hP hD hS hA [] [] rfl rfl rfl (by decide) (va_runS (As := [.ref r26, .int (nI 0)]) (rest := []) F (N_AR_fillI l g _ T s24 pl hO hU r26 (115 + rw) 256 (nI 0) kr26 hn21 (by omega)) (va_cwS 2 hts (wg_app (wg_c kw_716 (wg_c kw_717 (wg_c kw_21 wg_n))) kw_718) rfl rfl rfl (by decide +kernel) ⟨by decide, by decide⟩) (pp_S (en_ok g) hP hD hS hA hE [] rfl rfl) rfl rfl hl.1 rfl (lv_room (Nat.le_of_ble_eq_true rfl)) dDA_rebuildRow_75 ⟨by omega, by omega⟩) (fun  u24 H locs hu24 hP hD hS => ?_)
      obtain ⟨s25, pl⟩ := u24
      obtain ⟨⟨eq24, hFc24, -⟩, hO⟩ := hu24
      have hO : okn g T s25 pl := hO
      have hP : va_P g.1 vcl ([] ++ pl) _ := hP
      have hD : va_D _ ([] ++ pl) := hD
      have hFc24 : frm (M_AR_fillI (115 + rw)) s24 s25 := hFc24
      replace hR := bnd_step hR eq24
      have hF := frm_tr hF hFc24 (fun k hk => by unfold M_AR_fillI at hk; unfold M_DA_rebuildRow_2; omega)
      refine W.widen (k := 0) (n := 0) (by omega) (by omega) ?_
      refine lv_aload_n hx hb dDA_rebuildRow_78 rfl (lv_at hl 1 rfl) ?_
      refine nw_get (C := "LatticeKeys$Dsa") (TT := T_DA) (N := 17) hx hb hts (wg_ft i_DA) hown hK hO k_h0 (kn := 39) (ci := 6) (fl := [(3, 16), (3, 22), (3, 37), (3, 40), (3, 97), (3, 105), (3, 114), (3, 123), (3, 131), (3, 140), (3, 141), (3, 142), (3, 143), (3, 144), (3, 145), (3, 146), (3, 147)]) rfl hP rfl 1 (by decide) (hts _ (wg_t kw_166)) (fun _ h9 => h9) (cd := (3, 22)) rfl dDA_rebuildRow_79 (fun v26 hv26 => ?_)
      obtain ⟨r27, rfl, kr27⟩ := (show ∃ r : Nat, v26 = .ref r ∧ T r = some 22 from hv26)
      refine lv_aload_n hx hb dDA_rebuildRow_82 rfl (lv_at hl 1 rfl) ?_
      refine nw_get (C := "LatticeKeys$Dsa") (TT := T_DA) (N := 17) hx hb hts (wg_ft i_DA) hown hK hO k_h0 (kn := 39) (ci := 6) (fl := [(3, 16), (3, 22), (3, 37), (3, 40), (3, 97), (3, 105), (3, 114), (3, 123), (3, 131), (3, 140), (3, 141), (3, 142), (3, 143), (3, 144), (3, 145), (3, 146), (3, 147)]) rfl hP rfl 6 (by decide) (hts _ (wg_t kw_171)) (fun _ h9 => h9) (cd := (3, 114)) rfl dDA_rebuildRow_83 (fun v27 hv27 => ?_)
      obtain ⟨r28, rfl, kr28⟩ := (show ∃ r : Nat, v27 = .ref r ∧ T r = some 114 from hv27)
      refine lv_iload_n hx hb dDA_rebuildRow_86 rfl (lv_at hl 2 rfl) ?_
      refine nw_aald3 hx hb hK hO kr28 (k := 114) (b := 115) rfl hP (by omega) (by omega) dDA_rebuildRow_87 (fun r29 kr29 => ?_)
      have hn22 : nsp (115 + rw) = (0, 256, []) := rows_ok 115 8 (by decide) _ (by omega)
      refine lv_aload_n hx hb dDA_rebuildRow_88 rfl (lv_at hl 1 rfl) ?_
      refine nw_get (C := "LatticeKeys$Dsa") (TT := T_DA) (N := 17) hx hb hts (wg_ft i_DA) hown hK hO k_h0 (kn := 39) (ci := 6) (fl := [(3, 16), (3, 22), (3, 37), (3, 40), (3, 97), (3, 105), (3, 114), (3, 123), (3, 131), (3, 140), (3, 141), (3, 142), (3, 143), (3, 144), (3, 145), (3, 146), (3, 147)]) rfl hP rfl 9 (by decide) (hts _ (wg_t kw_174)) (fun _ h9 => h9) (cd := (3, 140)) rfl dDA_rebuildRow_89 (fun v28 hv28 => ?_)
      obtain ⟨r30, rfl, kr30⟩ := (show ∃ r : Nat, v28 = .ref r ∧ T r = some 140 from hv28)
      refine lv_aload_n hx hb dDA_rebuildRow_92 rfl (lv_at hl 1 rfl) ?_
      refine nw_get (C := "LatticeKeys$Dsa") (TT := T_DA) (N := 17) hx hb hts (wg_ft i_DA) hown hK hO k_h0 (kn := 39) (ci := 6) (fl := [(3, 16), (3, 22), (3, 37), (3, 40), (3, 97), (3, 105), (3, 114), (3, 123), (3, 131), (3, 140), (3, 141), (3, 142), (3, 143), (3, 144), (3, 145), (3, 146), (3, 147)]) rfl hP rfl 10 (by decide) (hts _ (wg_t kw_175)) (fun _ h9 => h9) (cd := (3, 141)) rfl dDA_rebuildRow_93 (fun v29 hv29 => ?_)
      obtain ⟨r31, rfl, kr31⟩ := (show ∃ r : Nat, v29 = .ref r ∧ T r = some 141 from hv29)
      refine mp_v (cx := []) (wr := []) hP hD hS hA [] [] rfl rfl rfl (by decide) (va_runV (As := [.ref r29, .ref r30, .ref r31]) (rest := []) F (N_RG_addProduct_8 l g _ T s25 pl hO hU r27 r29 r30 r31 (115 + rw) 140 141 kr27 kr29 hn22 kr30 rfl kr31 rfl) (cwV 3 hts (wg_app (wg_c kw_719 (wg_c kw_654 (wg_c kw_655 (wg_c kw_4 wg_n)))) kw_656) rfl rfl rfl (by decide +kernel) ⟨by decide, by decide⟩) (pn_W "LatticeKeys$Ring" (en_ok g) (ci := 4) (kn := 22) (fl := [(1, 8380417), (1, 8), (1, 8347681), (3, 23)]) hK hO kr27 rfl hP hD hS hA hE [] rfl rfl rfl) rfl rfl hl.1 rfl (lv_room (Nat.le_of_ble_eq_true rfl)) dDA_rebuildRow_96 ⟨by omega, by omega⟩) (fun  u25 H locs hu25 hP hD hS => ?_)
      obtain ⟨s26, pl⟩ := u25
      obtain ⟨⟨eq25, hFc25, -⟩, hO⟩ := hu25
      have hO : okn g T s26 pl := hO
      have hP : va_P g.1 vcl ([] ++ pl) _ := hP
      have hD : va_D _ ([] ++ pl) := hD
      have hFc25 : frm (M_RG_addProduct_8 (115 + rw)) s25 s26 := hFc25
      replace hR := bnd_step hR eq25
      have hF := frm_tr hF hFc25 (fun k hk => by unfold M_RG_addProduct_8 at hk; unfold M_DA_rebuildRow_2; omega)
      refine W.widen (k := 0) (n := 0) (by omega) (by omega) ?_
      refine lv_aload_n hx hb dDA_rebuildRow_99 rfl (lv_at hl 1 rfl) ?_
      refine nw_get (C := "LatticeKeys$Dsa") (TT := T_DA) (N := 17) hx hb hts (wg_ft i_DA) hown hK hO k_h0 (kn := 39) (ci := 6) (fl := [(3, 16), (3, 22), (3, 37), (3, 40), (3, 97), (3, 105), (3, 114), (3, 123), (3, 131), (3, 140), (3, 141), (3, 142), (3, 143), (3, 144), (3, 145), (3, 146), (3, 147)]) rfl hP rfl 1 (by decide) (hts _ (wg_t kw_166)) (fun _ h9 => h9) (cd := (3, 22)) rfl dDA_rebuildRow_100 (fun v30 hv30 => ?_)
      obtain ⟨r32, rfl, kr32⟩ := (show ∃ r : Nat, v30 = .ref r ∧ T r = some 22 from hv30)
      refine lv_aload_n hx hb dDA_rebuildRow_103 rfl (lv_at hl 1 rfl) ?_
      refine nw_get (C := "LatticeKeys$Dsa") (TT := T_DA) (N := 17) hx hb hts (wg_ft i_DA) hown hK hO k_h0 (kn := 39) (ci := 6) (fl := [(3, 16), (3, 22), (3, 37), (3, 40), (3, 97), (3, 105), (3, 114), (3, 123), (3, 131), (3, 140), (3, 141), (3, 142), (3, 143), (3, 144), (3, 145), (3, 146), (3, 147)]) rfl hP rfl 8 (by decide) (hts _ (wg_t kw_173)) (fun _ h9 => h9) (cd := (3, 131)) rfl dDA_rebuildRow_104 (fun v31 hv31 => ?_)
      obtain ⟨r33, rfl, kr33⟩ := (show ∃ r : Nat, v31 = .ref r ∧ T r = some 131 from hv31)
      refine lv_iload_n hx hb dDA_rebuildRow_107 rfl (lv_at hl 2 rfl) ?_
      refine nw_aald3 hx hb hK hO kr33 (k := 131) (b := 132) rfl hP (by omega) (by omega) dDA_rebuildRow_108 (fun r34 kr34 => ?_)
      have hn23 : nsp (132 + rw) = (0, 256, []) := rows_ok 132 8 (by decide) _ (by omega)
      refine lv_aload_n hx hb dDA_rebuildRow_109 rfl (lv_at hl 1 rfl) ?_
      refine nw_get (C := "LatticeKeys$Dsa") (TT := T_DA) (N := 17) hx hb hts (wg_ft i_DA) hown hK hO k_h0 (kn := 39) (ci := 6) (fl := [(3, 16), (3, 22), (3, 37), (3, 40), (3, 97), (3, 105), (3, 114), (3, 123), (3, 131), (3, 140), (3, 141), (3, 142), (3, 143), (3, 144), (3, 145), (3, 146), (3, 147)]) rfl hP rfl 6 (by decide) (hts _ (wg_t kw_171)) (fun _ h9 => h9) (cd := (3, 114)) rfl dDA_rebuildRow_110 (fun v32 hv32 => ?_)
      obtain ⟨r35, rfl, kr35⟩ := (show ∃ r : Nat, v32 = .ref r ∧ T r = some 114 from hv32)
      refine lv_iload_n hx hb dDA_rebuildRow_113 rfl (lv_at hl 2 rfl) ?_
      refine nw_aald3 hx hb hK hO kr35 (k := 114) (b := 115) rfl hP (by omega) (by omega) dDA_rebuildRow_114 (fun r36 kr36 => ?_)
      have hn24 : nsp (115 + rw) = (0, 256, []) := rows_ok 115 8 (by decide) _ (by omega)
      refine mp_v (cx := []) (wr := []) hP hD hS hA [] [] rfl rfl rfl (by decide) (va_runV (As := [.ref r34, .ref r36]) (rest := []) F (N_RG_subtract_8 l g _ T s26 pl hO hU r32 r34 r36 (132 + rw) (115 + rw) kr32 kr34 hn23 kr36 hn24) (cwV 2 hts (wg_app (wg_c kw_1236 (wg_c kw_1155 (wg_c kw_1156 (wg_c kw_4 wg_n)))) kw_1157) rfl rfl rfl (by decide +kernel) ⟨by decide, by decide⟩) (pn_W "LatticeKeys$Ring" (en_ok g) (ci := 4) (kn := 22) (fl := [(1, 8380417), (1, 8), (1, 8347681), (3, 23)]) hK hO kr32 rfl hP hD hS hA hE [] rfl rfl rfl) rfl rfl hl.1 rfl (lv_room (Nat.le_of_ble_eq_true rfl)) dDA_rebuildRow_115 ⟨by omega, by omega⟩) (fun  u26 H locs hu26 hP hD hS => ?_)
      obtain ⟨s27, pl⟩ := u26
      obtain ⟨⟨eq26, hFc26, -⟩, hO⟩ := hu26
      have hO : okn g T s27 pl := hO
      have hP : va_P g.1 vcl ([] ++ pl) _ := hP
      have hD : va_D _ ([] ++ pl) := hD
      have hFc26 : frm (M_RG_subtract_8 (132 + rw)) s26 s27 := hFc26
      replace hR := bnd_step hR eq26
      have hF := frm_tr hF hFc26 (fun k hk => by unfold M_RG_subtract_8 at hk; unfold M_DA_rebuildRow_2; omega)
      refine W.widen (k := 0) (n := 0) (by omega) (by omega) ?_
      refine lv_aload_n hx hb dDA_rebuildRow_118 rfl (lv_at hl 1 rfl) ?_
      refine nw_get (C := "LatticeKeys$Dsa") (TT := T_DA) (N := 17) hx hb hts (wg_ft i_DA) hown hK hO k_h0 (kn := 39) (ci := 6) (fl := [(3, 16), (3, 22), (3, 37), (3, 40), (3, 97), (3, 105), (3, 114), (3, 123), (3, 131), (3, 140), (3, 141), (3, 142), (3, 143), (3, 144), (3, 145), (3, 146), (3, 147)]) rfl hP rfl 1 (by decide) (hts _ (wg_t kw_166)) (fun _ h9 => h9) (cd := (3, 22)) rfl dDA_rebuildRow_119 (fun v33 hv33 => ?_)
      obtain ⟨r37, rfl, kr37⟩ := (show ∃ r : Nat, v33 = .ref r ∧ T r = some 22 from hv33)
      refine lv_aload_n hx hb dDA_rebuildRow_122 rfl (lv_at hl 1 rfl) ?_
      refine nw_get (C := "LatticeKeys$Dsa") (TT := T_DA) (N := 17) hx hb hts (wg_ft i_DA) hown hK hO k_h0 (kn := 39) (ci := 6) (fl := [(3, 16), (3, 22), (3, 37), (3, 40), (3, 97), (3, 105), (3, 114), (3, 123), (3, 131), (3, 140), (3, 141), (3, 142), (3, 143), (3, 144), (3, 145), (3, 146), (3, 147)]) rfl hP rfl 8 (by decide) (hts _ (wg_t kw_173)) (fun _ h9 => h9) (cd := (3, 131)) rfl dDA_rebuildRow_123 (fun v34 hv34 => ?_)
      obtain ⟨r38, rfl, kr38⟩ := (show ∃ r : Nat, v34 = .ref r ∧ T r = some 131 from hv34)
      refine lv_iload_n hx hb dDA_rebuildRow_126 rfl (lv_at hl 2 rfl) ?_
      refine nw_aald3 hx hb hK hO kr38 (k := 131) (b := 132) rfl hP (by omega) (by omega) dDA_rebuildRow_127 (fun r39 kr39 => ?_)
      have hn25 : nsp (132 + rw) = (0, 256, []) := rows_ok 132 8 (by decide) _ (by omega)
      refine mp_v (cx := []) (wr := []) hP hD hS hA [] [] rfl rfl rfl (by decide) (va_runV (As := [.ref r39]) (rest := []) F (N_RG_restore_8 l g _ T s27 pl hO hU r37 r39 (132 + rw) kr37 kr39 hn25) (cwV 1 hts (wg_app (wg_c kw_720 (wg_c kw_721 (wg_c kw_722 (wg_c kw_4 wg_n)))) kw_723) rfl rfl rfl (by decide +kernel) ⟨by decide, by decide⟩) (pn_W "LatticeKeys$Ring" (en_ok g) (ci := 4) (kn := 22) (fl := [(1, 8380417), (1, 8), (1, 8347681), (3, 23)]) hK hO kr37 rfl hP hD hS hA hE [] rfl rfl rfl) rfl rfl hl.1 rfl (lv_room (Nat.le_of_ble_eq_true rfl)) dDA_rebuildRow_128 ⟨by omega, by omega⟩) (fun  u27 H locs hu27 hP hD hS => ?_)
      obtain ⟨s28, pl⟩ := u27
      obtain ⟨⟨eq27, hFc27, -⟩, hO⟩ := hu27
      have hO : okn g T s28 pl := hO
      have hP : va_P g.1 vcl ([] ++ pl) _ := hP
      have hD : va_D _ ([] ++ pl) := hD
      have hFc27 : frm (M_RG_restore_8 (132 + rw)) s27 s28 := hFc27
      replace hR := bnd_step hR eq27
      have hF := frm_tr hF hFc27 (fun k hk => by unfold M_RG_restore_8 at hk; unfold M_DA_rebuildRow_2; omega)
      refine W.widen (k := 0) (n := 0) (by omega) (by omega) ?_
      exact mp_vret hx hb hr hlk hP hD hS (s28, pl) ⟨⟨hR.symm, hF, trivial⟩, hO⟩ [] rfl rfl rfl (by omega) (by omega) dDA_rebuildRow_131
    | succ n21 ih21 =>
      intro i21 s23 pl ls H locs hm21 hF hR hl hO hP hD hS
      refine lv_iload hx hb dDA_rebuildRow_31 (lv_at hl 0 rfl) ?_
      refine lv_sipush (v := nI 256) hx hb dDA_rebuildRow_33 (by decide) ?_
      refine mi_ge (tgt := 57) hx hb dDA_rebuildRow_36 (by decide) (by omega) (by omega) (fun h22 => absurd h22 (by omega)) (fun h22 => ?_)
      refine lv_aload_n hx hb dDA_rebuildRow_39 rfl (lv_at hl 1 rfl) ?_
      refine nw_get (C := "LatticeKeys$Dsa") (TT := T_DA) (N := 17) hx hb hts (wg_ft i_DA) hown hK hO k_h0 (kn := 39) (ci := 6) (fl := [(3, 16), (3, 22), (3, 37), (3, 40), (3, 97), (3, 105), (3, 114), (3, 123), (3, 131), (3, 140), (3, 141), (3, 142), (3, 143), (3, 144), (3, 145), (3, 146), (3, 147)]) rfl hP rfl 10 (by decide) (hts _ (wg_t kw_175)) (fun _ h9 => h9) (cd := (3, 141)) rfl dDA_rebuildRow_40 (fun v35 hv35 => ?_)
      obtain ⟨r40, rfl, kr40⟩ := (show ∃ r : Nat, v35 = .ref r ∧ T r = some 141 from hv35)
      refine lv_iload hx hb dDA_rebuildRow_43 (lv_at hl 0 rfl) ?_
      refine lv_dup2_11 hx hb dDA_rebuildRow_45 rfl rfl ?_
      refine nw_iald hx hb hK hO kr40 (k := 141) rfl hP (by omega) (by omega) dDA_rebuildRow_46 ?_
      refine lv_bipush (v := nI 13) hx hb dDA_rebuildRow_47 (by decide) ?_
      refine lv_ishl hx hb dDA_rebuildRow_49 ?_
      refine nw_iast hx hb hK hO hU kr40 (k := 141) rfl hP hD hS (by omega) (by omega) dDA_rebuildRow_50 (fun s29 pl H locs es21 hO hP hD hS => ?_)
      replace hR := bnd_step hR es21
      have hF := frm_sI hF es21 (by unfold M_DA_rebuildRow_2; omega)
      refine mi_iinc (k := 0) (x := i21) (d := 1) (y := i21 + 1) (lv' := [(4, .int (nI (i21 + 1))), (0, .ref h0), (3, .int (nI rw))]) hx hb dDA_rebuildRow_51 hl rfl (by decide) rfl (by decide) rfl (fun ls hl => ?_)
      refine lv_goto (tgt := 31) hx hb dDA_rebuildRow_54 (by decide) ?_
      exact ih21 (i21 + 1) s29 pl ls H locs (by omega) hF hR (lv_sub hl [0, 1, 2] rfl) hO hP hD hS
  exact lp21 256 0 s22 pl ls _ _ (by omega) hF hR (lv_sub hl [0, 1, 4] rfl) hO hP hD hS
def M_DA_challengesAgree_0 (k : Nat) : Prop := (0 : Nat) = 1
noncomputable def F_DA_challengesAgree_0_L0 : Nat → Nat → Sto → Int32 × Sto
  | 0, i21, s21 => (nI 1, s21)
  | n21 + 1, i21, s21 => if (s21.1 144 i21) = (s21.1 145 i21) then F_DA_challengesAgree_0_L0  n21 (i21 + 1) s21 else (nI 0, s21)
noncomputable def F_DA_challengesAgree_0 (s : Sto) : Int32 × Sto := F_DA_challengesAgree_0_L0 32 0 s
set_option maxHeartbeats 8000000 in
set_option maxRecDepth 100000 in
theorem N_DA_challengesAgree_0 (l : Launch) (g : Gd) (sz : Nat) (T : TyN) (s : Sto) (pl : va_W) (hO : okn g T s pl) (hU : inj T) (h0 st : Nat) (k_h0 : T h0 = some 39) (k_st : T st = some 9)  : Met l y_DA_challengesAgree w_DA_challengesAgree ({ frames := 0, cells := 0, slots := 0, locals := 0 } : Room) (va_Pc [.ref h0, .ref st] (pr (en g) g.1 vcl sz ([] ++ pl))) (va_Qi (fun (r : Int32) (u : (Int32 × Sto) × va_W) => (u.1 = F_DA_challengesAgree_0 s ∧ r = u.1.1 ∧ frm (M_DA_challengesAgree_0) s u.1.2 ∧ (∃ x : Nat, u.1.1 = nI x ∧ x < 2) ∧ True) ∧ okn g T u.1.2 u.2) (po g.1 vcl (va_A ([] ++ pl) sz) (fun (u : (Int32 × Sto) × va_W) => [] ++ u.2)) (va_A ([] ++ pl) sz)) 0 0 (va_A ([] ++ pl) sz) := by
  refine mc_entry (cc := c_DA_challengesAgree) (maxL := 3) (ret := (some .boolean)) (by decide) rfl (Nat.le_of_ble_eq_true rfl) ?_
  intro p e s0 m args below meth c ls F hr hlk hnm hsz hP hD hE hA hl
  obtain ⟨hx, hb, hml, hown, hts⟩ := id F
  have hK := hE.1
  generalize va_A ([] ++ pl) sz = A at hD hE hA ⊢
  have hS : va_S A s0.heap s0.heap [] := va_S.rf
  have hl : lv_has ls 3 [(0, .ref h0), (1, .ref st)] := hl
  have hR : F_DA_challengesAgree_0 s = F_DA_challengesAgree_0 s := rfl
  have hF : frm (M_DA_challengesAgree_0) s s := frm_rf
  refine lv_iconst (v := nI 0) hx hb dDA_challengesAgree_0 (by decide) ?_
  refine lv_istore_n (lv' := [(2, .int (nI 0)), (0, .ref h0), (1, .ref st)]) hx hb dDA_challengesAgree_1 rfl hl (by decide) rfl (fun ls hl => ?_)
  have lp21 : ∀ (n21 : Nat) (i21 : Nat) (s21 : Sto) (pl : va_W) (ls : Array Slot) (H : Heap) (locs : List Loc), n21 + i21 = 32 → frm (M_DA_challengesAgree_0) s s21 → F_DA_challengesAgree_0 s = F_DA_challengesAgree_0_L0 n21 i21 s21 → lv_has ls 3 [(2, .int (nI i21)), (0, .ref h0), (1, .ref st)] → okn g T s21 pl → va_P g.1 vcl ([] ++ pl) H → va_D A ([] ++ pl) → va_S A s0.heap H locs → W p l e ({ frames := 0, cells := 0, slots := 0, locals := 0 } : Room) s0 m args below meth c H locs 0 0 (MQ below (va_Qi (fun (r : Int32) (u : (Int32 × Sto) × va_W) => (u.1 = F_DA_challengesAgree_0 s ∧ r = u.1.1 ∧ frm (M_DA_challengesAgree_0) s u.1.2 ∧ (∃ x : Nat, u.1.1 = nI x ∧ x < 2) ∧ True) ∧ okn g T u.1.2 u.2) (po g.1 vcl A (fun (u : (Int32 × Sto) × va_W) => [] ++ u.2)) A) args s0 0 0 A) (F0 m 2 ls []) := by
    intro n21
    induction n21 with
    | zero =>
      intro i21 s21 pl ls H locs hm21 hF hR hl hO hP hD hS
      refine lv_iload_n hx hb dDA_challengesAgree_2 rfl (lv_at hl 0 rfl) ?_
      refine lv_aload_n hx hb dDA_challengesAgree_3 rfl (lv_at hl 2 rfl) ?_
      refine nw_get (C := "LatticeKeys$DsaSet") (TT := T_DS) (N := 17) hx hb hts (wg_ft i_DS) hown hK hO k_st (kn := 9) (ci := 2) (fl := [(1, 4), (1, 4), (1, 2), (1, 3), (1, 39), (1, 32), (1, 18), (1, 131072), (1, 44), (1, 6), (1, 95232), (1, 80), (1, 78), (1, 1312), (1, 2560), (1, 2336), (1, 2420)]) rfl hP rfl 5 (by decide) (hts _ (wg_t kw_315)) (fun _ h9 => h9) (cd := (1, 32)) rfl dDA_challengesAgree_4 (fun v21 hv21 => ?_)
      obtain rfl := (show v21 = .int (nI 32) from hv21)
      refine mi_ge (tgt := 33) hx hb dDA_challengesAgree_7 (by decide) (by omega) (by omega) (fun h21 => ?_) (fun h21 => absurd h21 (by omega))
      refine lv_iconst (v := nI 1) hx hb dDA_challengesAgree_33 (by decide) ?_
      exact mp_zret hx hb hr hlk rfl hP hD hS ((nI 1, s21), pl) ⟨⟨hR.symm, rfl, hF, ⟨1, rfl, by omega⟩, trivial⟩, hO⟩ [] rfl rfl rfl (by omega) (by omega) dDA_challengesAgree_34
    | succ n21 ih21 =>
      intro i21 s21 pl ls H locs hm21 hF hR hl hO hP hD hS
      refine lv_iload_n hx hb dDA_challengesAgree_2 rfl (lv_at hl 0 rfl) ?_
      refine lv_aload_n hx hb dDA_challengesAgree_3 rfl (lv_at hl 2 rfl) ?_
      refine nw_get (C := "LatticeKeys$DsaSet") (TT := T_DS) (N := 17) hx hb hts (wg_ft i_DS) hown hK hO k_st (kn := 9) (ci := 2) (fl := [(1, 4), (1, 4), (1, 2), (1, 3), (1, 39), (1, 32), (1, 18), (1, 131072), (1, 44), (1, 6), (1, 95232), (1, 80), (1, 78), (1, 1312), (1, 2560), (1, 2336), (1, 2420)]) rfl hP rfl 5 (by decide) (hts _ (wg_t kw_315)) (fun _ h9 => h9) (cd := (1, 32)) rfl dDA_challengesAgree_4 (fun v22 hv22 => ?_)
      obtain rfl := (show v22 = .int (nI 32) from hv22)
      refine mi_ge (tgt := 33) hx hb dDA_challengesAgree_7 (by decide) (by omega) (by omega) (fun h22 => absurd h22 (by omega)) (fun h22 => ?_)
      refine lv_aload_n hx hb dDA_challengesAgree_10 rfl (lv_at hl 1 rfl) ?_
      refine nw_get (C := "LatticeKeys$Dsa") (TT := T_DA) (N := 17) hx hb hts (wg_ft i_DA) hown hK hO k_h0 (kn := 39) (ci := 6) (fl := [(3, 16), (3, 22), (3, 37), (3, 40), (3, 97), (3, 105), (3, 114), (3, 123), (3, 131), (3, 140), (3, 141), (3, 142), (3, 143), (3, 144), (3, 145), (3, 146), (3, 147)]) rfl hP rfl 13 (by decide) (hts _ (wg_t kw_178)) (fun _ h9 => h9) (cd := (3, 144)) rfl dDA_challengesAgree_11 (fun v23 hv23 => ?_)
      obtain ⟨r21, rfl, kr21⟩ := (show ∃ r : Nat, v23 = .ref r ∧ T r = some 144 from hv23)
      refine lv_iload_n hx hb dDA_challengesAgree_14 rfl (lv_at hl 0 rfl) ?_
      refine nw_bald hx hb hK hO kr21 (k := 144) rfl hP (by omega) (by omega) dDA_challengesAgree_15 ?_
      refine lv_aload_n hx hb dDA_challengesAgree_16 rfl (lv_at hl 1 rfl) ?_
      refine nw_get (C := "LatticeKeys$Dsa") (TT := T_DA) (N := 17) hx hb hts (wg_ft i_DA) hown hK hO k_h0 (kn := 39) (ci := 6) (fl := [(3, 16), (3, 22), (3, 37), (3, 40), (3, 97), (3, 105), (3, 114), (3, 123), (3, 131), (3, 140), (3, 141), (3, 142), (3, 143), (3, 144), (3, 145), (3, 146), (3, 147)]) rfl hP rfl 14 (by decide) (hts _ (wg_t kw_179)) (fun _ h9 => h9) (cd := (3, 145)) rfl dDA_challengesAgree_17 (fun v24 hv24 => ?_)
      obtain ⟨r22, rfl, kr22⟩ := (show ∃ r : Nat, v24 = .ref r ∧ T r = some 145 from hv24)
      refine lv_iload_n hx hb dDA_challengesAgree_20 rfl (lv_at hl 0 rfl) ?_
      refine nw_bald hx hb hK hO kr22 (k := 145) rfl hP (by omega) (by omega) dDA_challengesAgree_21 ?_
      refine lv_icmp_eq (tgt := 27) hx hb dDA_challengesAgree_22 (by decide) (fun h23 => ?_) (fun h23 => ?_)
      · replace hR := hR.trans (if_pos h23)
        refine mi_iinc (k := 0) (x := i21) (d := 1) (y := i21 + 1) (lv' := [(2, .int (nI (i21 + 1))), (0, .ref h0), (1, .ref st)]) hx hb dDA_challengesAgree_27 hl rfl (by decide) rfl (by decide) rfl (fun ls hl => ?_)
        refine lv_goto (tgt := 2) hx hb dDA_challengesAgree_30 (by decide) ?_
        exact ih21 (i21 + 1) s21 pl ls H locs (by omega) hF hR (lv_sub hl [0, 1, 2] rfl) hO hP hD hS
      · replace hR := hR.trans (if_neg h23)
        refine lv_iconst (v := nI 0) hx hb dDA_challengesAgree_25 (by decide) ?_
        exact mp_zret hx hb hr hlk rfl hP hD hS ((nI 0, s21), pl) ⟨⟨hR.symm, rfl, hF, ⟨0, rfl, by omega⟩, trivial⟩, hO⟩ [] rfl rfl rfl (by omega) (by omega) dDA_challengesAgree_26
  exact lp21 32 0 s pl ls _ _ (by omega) hF hR (lv_sub hl [0, 1, 2] rfl) hO hP hD hS
def M_DA_challengesAgree_1 (k : Nat) : Prop := (0 : Nat) = 1
noncomputable def F_DA_challengesAgree_1_L0 : Nat → Nat → Sto → Int32 × Sto
  | 0, i21, s21 => (nI 1, s21)
  | n21 + 1, i21, s21 => if (s21.1 144 i21) = (s21.1 145 i21) then F_DA_challengesAgree_1_L0  n21 (i21 + 1) s21 else (nI 0, s21)
noncomputable def F_DA_challengesAgree_1 (s : Sto) : Int32 × Sto := F_DA_challengesAgree_1_L0 48 0 s
set_option maxHeartbeats 8000000 in
set_option maxRecDepth 100000 in
theorem N_DA_challengesAgree_1 (l : Launch) (g : Gd) (sz : Nat) (T : TyN) (s : Sto) (pl : va_W) (hO : okn g T s pl) (hU : inj T) (h0 st : Nat) (k_h0 : T h0 = some 39) (k_st : T st = some 10)  : Met l y_DA_challengesAgree w_DA_challengesAgree ({ frames := 0, cells := 0, slots := 0, locals := 0 } : Room) (va_Pc [.ref h0, .ref st] (pr (en g) g.1 vcl sz ([] ++ pl))) (va_Qi (fun (r : Int32) (u : (Int32 × Sto) × va_W) => (u.1 = F_DA_challengesAgree_1 s ∧ r = u.1.1 ∧ frm (M_DA_challengesAgree_1) s u.1.2 ∧ (∃ x : Nat, u.1.1 = nI x ∧ x < 2) ∧ True) ∧ okn g T u.1.2 u.2) (po g.1 vcl (va_A ([] ++ pl) sz) (fun (u : (Int32 × Sto) × va_W) => [] ++ u.2)) (va_A ([] ++ pl) sz)) 0 0 (va_A ([] ++ pl) sz) := by
  refine mc_entry (cc := c_DA_challengesAgree) (maxL := 3) (ret := (some .boolean)) (by decide) rfl (Nat.le_of_ble_eq_true rfl) ?_
  intro p e s0 m args below meth c ls F hr hlk hnm hsz hP hD hE hA hl
  obtain ⟨hx, hb, hml, hown, hts⟩ := id F
  have hK := hE.1
  generalize va_A ([] ++ pl) sz = A at hD hE hA ⊢
  have hS : va_S A s0.heap s0.heap [] := va_S.rf
  have hl : lv_has ls 3 [(0, .ref h0), (1, .ref st)] := hl
  have hR : F_DA_challengesAgree_1 s = F_DA_challengesAgree_1 s := rfl
  have hF : frm (M_DA_challengesAgree_1) s s := frm_rf
  refine lv_iconst (v := nI 0) hx hb dDA_challengesAgree_0 (by decide) ?_
  refine lv_istore_n (lv' := [(2, .int (nI 0)), (0, .ref h0), (1, .ref st)]) hx hb dDA_challengesAgree_1 rfl hl (by decide) rfl (fun ls hl => ?_)
  have lp21 : ∀ (n21 : Nat) (i21 : Nat) (s21 : Sto) (pl : va_W) (ls : Array Slot) (H : Heap) (locs : List Loc), n21 + i21 = 48 → frm (M_DA_challengesAgree_1) s s21 → F_DA_challengesAgree_1 s = F_DA_challengesAgree_1_L0 n21 i21 s21 → lv_has ls 3 [(2, .int (nI i21)), (0, .ref h0), (1, .ref st)] → okn g T s21 pl → va_P g.1 vcl ([] ++ pl) H → va_D A ([] ++ pl) → va_S A s0.heap H locs → W p l e ({ frames := 0, cells := 0, slots := 0, locals := 0 } : Room) s0 m args below meth c H locs 0 0 (MQ below (va_Qi (fun (r : Int32) (u : (Int32 × Sto) × va_W) => (u.1 = F_DA_challengesAgree_1 s ∧ r = u.1.1 ∧ frm (M_DA_challengesAgree_1) s u.1.2 ∧ (∃ x : Nat, u.1.1 = nI x ∧ x < 2) ∧ True) ∧ okn g T u.1.2 u.2) (po g.1 vcl A (fun (u : (Int32 × Sto) × va_W) => [] ++ u.2)) A) args s0 0 0 A) (F0 m 2 ls []) := by
    intro n21
    induction n21 with
    | zero =>
      intro i21 s21 pl ls H locs hm21 hF hR hl hO hP hD hS
      refine lv_iload_n hx hb dDA_challengesAgree_2 rfl (lv_at hl 0 rfl) ?_
      refine lv_aload_n hx hb dDA_challengesAgree_3 rfl (lv_at hl 2 rfl) ?_
      refine nw_get (C := "LatticeKeys$DsaSet") (TT := T_DS) (N := 17) hx hb hts (wg_ft i_DS) hown hK hO k_st (kn := 10) (ci := 2) (fl := [(1, 6), (1, 5), (1, 4), (1, 4), (1, 49), (1, 48), (1, 20), (1, 524288), (1, 16), (1, 4), (1, 261888), (1, 55), (1, 196), (1, 1952), (1, 4032), (1, 3248), (1, 3309)]) rfl hP rfl 5 (by decide) (hts _ (wg_t kw_315)) (fun _ h9 => h9) (cd := (1, 48)) rfl dDA_challengesAgree_4 (fun v21 hv21 => ?_)
      obtain rfl := (show v21 = .int (nI 48) from hv21)
      refine mi_ge (tgt := 33) hx hb dDA_challengesAgree_7 (by decide) (by omega) (by omega) (fun h21 => ?_) (fun h21 => absurd h21 (by omega))
      refine lv_iconst (v := nI 1) hx hb dDA_challengesAgree_33 (by decide) ?_
      exact mp_zret hx hb hr hlk rfl hP hD hS ((nI 1, s21), pl) ⟨⟨hR.symm, rfl, hF, ⟨1, rfl, by omega⟩, trivial⟩, hO⟩ [] rfl rfl rfl (by omega) (by omega) dDA_challengesAgree_34
    | succ n21 ih21 =>
      intro i21 s21 pl ls H locs hm21 hF hR hl hO hP hD hS
      refine lv_iload_n hx hb dDA_challengesAgree_2 rfl (lv_at hl 0 rfl) ?_
      refine lv_aload_n hx hb dDA_challengesAgree_3 rfl (lv_at hl 2 rfl) ?_
      refine nw_get (C := "LatticeKeys$DsaSet") (TT := T_DS) (N := 17) hx hb hts (wg_ft i_DS) hown hK hO k_st (kn := 10) (ci := 2) (fl := [(1, 6), (1, 5), (1, 4), (1, 4), (1, 49), (1, 48), (1, 20), (1, 524288), (1, 16), (1, 4), (1, 261888), (1, 55), (1, 196), (1, 1952), (1, 4032), (1, 3248), (1, 3309)]) rfl hP rfl 5 (by decide) (hts _ (wg_t kw_315)) (fun _ h9 => h9) (cd := (1, 48)) rfl dDA_challengesAgree_4 (fun v22 hv22 => ?_)
      obtain rfl := (show v22 = .int (nI 48) from hv22)
      refine mi_ge (tgt := 33) hx hb dDA_challengesAgree_7 (by decide) (by omega) (by omega) (fun h22 => absurd h22 (by omega)) (fun h22 => ?_)
      refine lv_aload_n hx hb dDA_challengesAgree_10 rfl (lv_at hl 1 rfl) ?_
      refine nw_get (C := "LatticeKeys$Dsa") (TT := T_DA) (N := 17) hx hb hts (wg_ft i_DA) hown hK hO k_h0 (kn := 39) (ci := 6) (fl := [(3, 16), (3, 22), (3, 37), (3, 40), (3, 97), (3, 105), (3, 114), (3, 123), (3, 131), (3, 140), (3, 141), (3, 142), (3, 143), (3, 144), (3, 145), (3, 146), (3, 147)]) rfl hP rfl 13 (by decide) (hts _ (wg_t kw_178)) (fun _ h9 => h9) (cd := (3, 144)) rfl dDA_challengesAgree_11 (fun v23 hv23 => ?_)
      obtain ⟨r21, rfl, kr21⟩ := (show ∃ r : Nat, v23 = .ref r ∧ T r = some 144 from hv23)
      refine lv_iload_n hx hb dDA_challengesAgree_14 rfl (lv_at hl 0 rfl) ?_
      refine nw_bald hx hb hK hO kr21 (k := 144) rfl hP (by omega) (by omega) dDA_challengesAgree_15 ?_
      refine lv_aload_n hx hb dDA_challengesAgree_16 rfl (lv_at hl 1 rfl) ?_
      refine nw_get (C := "LatticeKeys$Dsa") (TT := T_DA) (N := 17) hx hb hts (wg_ft i_DA) hown hK hO k_h0 (kn := 39) (ci := 6) (fl := [(3, 16), (3, 22), (3, 37), (3, 40), (3, 97), (3, 105), (3, 114), (3, 123), (3, 131), (3, 140), (3, 141), (3, 142), (3, 143), (3, 144), (3, 145), (3, 146), (3, 147)]) rfl hP rfl 14 (by decide) (hts _ (wg_t kw_179)) (fun _ h9 => h9) (cd := (3, 145)) rfl dDA_challengesAgree_17 (fun v24 hv24 => ?_)
      obtain ⟨r22, rfl, kr22⟩ := (show ∃ r : Nat, v24 = .ref r ∧ T r = some 145 from hv24)
      refine lv_iload_n hx hb dDA_challengesAgree_20 rfl (lv_at hl 0 rfl) ?_
      refine nw_bald hx hb hK hO kr22 (k := 145) rfl hP (by omega) (by omega) dDA_challengesAgree_21 ?_
      refine lv_icmp_eq (tgt := 27) hx hb dDA_challengesAgree_22 (by decide) (fun h23 => ?_) (fun h23 => ?_)
      · replace hR := hR.trans (if_pos h23)
        refine mi_iinc (k := 0) (x := i21) (d := 1) (y := i21 + 1) (lv' := [(2, .int (nI (i21 + 1))), (0, .ref h0), (1, .ref st)]) hx hb dDA_challengesAgree_27 hl rfl (by decide) rfl (by decide) rfl (fun ls hl => ?_)
        refine lv_goto (tgt := 2) hx hb dDA_challengesAgree_30 (by decide) ?_
        exact ih21 (i21 + 1) s21 pl ls H locs (by omega) hF hR (lv_sub hl [0, 1, 2] rfl) hO hP hD hS
      · replace hR := hR.trans (if_neg h23)
        refine lv_iconst (v := nI 0) hx hb dDA_challengesAgree_25 (by decide) ?_
        exact mp_zret hx hb hr hlk rfl hP hD hS ((nI 0, s21), pl) ⟨⟨hR.symm, rfl, hF, ⟨0, rfl, by omega⟩, trivial⟩, hO⟩ [] rfl rfl rfl (by omega) (by omega) dDA_challengesAgree_26
  exact lp21 48 0 s pl ls _ _ (by omega) hF hR (lv_sub hl [0, 1, 2] rfl) hO hP hD hS
def M_DA_challengesAgree_2 (k : Nat) : Prop := (0 : Nat) = 1
noncomputable def F_DA_challengesAgree_2_L0 : Nat → Nat → Sto → Int32 × Sto
  | 0, i21, s21 => (nI 1, s21)
  | n21 + 1, i21, s21 => if (s21.1 144 i21) = (s21.1 145 i21) then F_DA_challengesAgree_2_L0  n21 (i21 + 1) s21 else (nI 0, s21)
noncomputable def F_DA_challengesAgree_2 (s : Sto) : Int32 × Sto := F_DA_challengesAgree_2_L0 64 0 s
set_option maxHeartbeats 8000000 in
set_option maxRecDepth 100000 in
theorem N_DA_challengesAgree_2 (l : Launch) (g : Gd) (sz : Nat) (T : TyN) (s : Sto) (pl : va_W) (hO : okn g T s pl) (hU : inj T) (h0 st : Nat) (k_h0 : T h0 = some 39) (k_st : T st = some 11)  : Met l y_DA_challengesAgree w_DA_challengesAgree ({ frames := 0, cells := 0, slots := 0, locals := 0 } : Room) (va_Pc [.ref h0, .ref st] (pr (en g) g.1 vcl sz ([] ++ pl))) (va_Qi (fun (r : Int32) (u : (Int32 × Sto) × va_W) => (u.1 = F_DA_challengesAgree_2 s ∧ r = u.1.1 ∧ frm (M_DA_challengesAgree_2) s u.1.2 ∧ (∃ x : Nat, u.1.1 = nI x ∧ x < 2) ∧ True) ∧ okn g T u.1.2 u.2) (po g.1 vcl (va_A ([] ++ pl) sz) (fun (u : (Int32 × Sto) × va_W) => [] ++ u.2)) (va_A ([] ++ pl) sz)) 0 0 (va_A ([] ++ pl) sz) := by
  refine mc_entry (cc := c_DA_challengesAgree) (maxL := 3) (ret := (some .boolean)) (by decide) rfl (Nat.le_of_ble_eq_true rfl) ?_
  intro p e s0 m args below meth c ls F hr hlk hnm hsz hP hD hE hA hl
  obtain ⟨hx, hb, hml, hown, hts⟩ := id F
  have hK := hE.1
  generalize va_A ([] ++ pl) sz = A at hD hE hA ⊢
  have hS : va_S A s0.heap s0.heap [] := va_S.rf
  have hl : lv_has ls 3 [(0, .ref h0), (1, .ref st)] := hl
  have hR : F_DA_challengesAgree_2 s = F_DA_challengesAgree_2 s := rfl
  have hF : frm (M_DA_challengesAgree_2) s s := frm_rf
  refine lv_iconst (v := nI 0) hx hb dDA_challengesAgree_0 (by decide) ?_
  refine lv_istore_n (lv' := [(2, .int (nI 0)), (0, .ref h0), (1, .ref st)]) hx hb dDA_challengesAgree_1 rfl hl (by decide) rfl (fun ls hl => ?_)
  have lp21 : ∀ (n21 : Nat) (i21 : Nat) (s21 : Sto) (pl : va_W) (ls : Array Slot) (H : Heap) (locs : List Loc), n21 + i21 = 64 → frm (M_DA_challengesAgree_2) s s21 → F_DA_challengesAgree_2 s = F_DA_challengesAgree_2_L0 n21 i21 s21 → lv_has ls 3 [(2, .int (nI i21)), (0, .ref h0), (1, .ref st)] → okn g T s21 pl → va_P g.1 vcl ([] ++ pl) H → va_D A ([] ++ pl) → va_S A s0.heap H locs → W p l e ({ frames := 0, cells := 0, slots := 0, locals := 0 } : Room) s0 m args below meth c H locs 0 0 (MQ below (va_Qi (fun (r : Int32) (u : (Int32 × Sto) × va_W) => (u.1 = F_DA_challengesAgree_2 s ∧ r = u.1.1 ∧ frm (M_DA_challengesAgree_2) s u.1.2 ∧ (∃ x : Nat, u.1.1 = nI x ∧ x < 2) ∧ True) ∧ okn g T u.1.2 u.2) (po g.1 vcl A (fun (u : (Int32 × Sto) × va_W) => [] ++ u.2)) A) args s0 0 0 A) (F0 m 2 ls []) := by
    intro n21
    induction n21 with
    | zero =>
      intro i21 s21 pl ls H locs hm21 hF hR hl hO hP hD hS
      refine lv_iload_n hx hb dDA_challengesAgree_2 rfl (lv_at hl 0 rfl) ?_
      refine lv_aload_n hx hb dDA_challengesAgree_3 rfl (lv_at hl 2 rfl) ?_
      refine nw_get (C := "LatticeKeys$DsaSet") (TT := T_DS) (N := 17) hx hb hts (wg_ft i_DS) hown hK hO k_st (kn := 11) (ci := 2) (fl := [(1, 8), (1, 7), (1, 2), (1, 3), (1, 60), (1, 64), (1, 20), (1, 524288), (1, 16), (1, 4), (1, 261888), (1, 75), (1, 120), (1, 2592), (1, 4896), (1, 4544), (1, 4627)]) rfl hP rfl 5 (by decide) (hts _ (wg_t kw_315)) (fun _ h9 => h9) (cd := (1, 64)) rfl dDA_challengesAgree_4 (fun v21 hv21 => ?_)
      obtain rfl := (show v21 = .int (nI 64) from hv21)
      refine mi_ge (tgt := 33) hx hb dDA_challengesAgree_7 (by decide) (by omega) (by omega) (fun h21 => ?_) (fun h21 => absurd h21 (by omega))
      refine lv_iconst (v := nI 1) hx hb dDA_challengesAgree_33 (by decide) ?_
      exact mp_zret hx hb hr hlk rfl hP hD hS ((nI 1, s21), pl) ⟨⟨hR.symm, rfl, hF, ⟨1, rfl, by omega⟩, trivial⟩, hO⟩ [] rfl rfl rfl (by omega) (by omega) dDA_challengesAgree_34
    | succ n21 ih21 =>
      intro i21 s21 pl ls H locs hm21 hF hR hl hO hP hD hS
      refine lv_iload_n hx hb dDA_challengesAgree_2 rfl (lv_at hl 0 rfl) ?_
      refine lv_aload_n hx hb dDA_challengesAgree_3 rfl (lv_at hl 2 rfl) ?_
      refine nw_get (C := "LatticeKeys$DsaSet") (TT := T_DS) (N := 17) hx hb hts (wg_ft i_DS) hown hK hO k_st (kn := 11) (ci := 2) (fl := [(1, 8), (1, 7), (1, 2), (1, 3), (1, 60), (1, 64), (1, 20), (1, 524288), (1, 16), (1, 4), (1, 261888), (1, 75), (1, 120), (1, 2592), (1, 4896), (1, 4544), (1, 4627)]) rfl hP rfl 5 (by decide) (hts _ (wg_t kw_315)) (fun _ h9 => h9) (cd := (1, 64)) rfl dDA_challengesAgree_4 (fun v22 hv22 => ?_)
      obtain rfl := (show v22 = .int (nI 64) from hv22)
      refine mi_ge (tgt := 33) hx hb dDA_challengesAgree_7 (by decide) (by omega) (by omega) (fun h22 => absurd h22 (by omega)) (fun h22 => ?_)
      refine lv_aload_n hx hb dDA_challengesAgree_10 rfl (lv_at hl 1 rfl) ?_
      refine nw_get (C := "LatticeKeys$Dsa") (TT := T_DA) (N := 17) hx hb hts (wg_ft i_DA) hown hK hO k_h0 (kn := 39) (ci := 6) (fl := [(3, 16), (3, 22), (3, 37), (3, 40), (3, 97), (3, 105), (3, 114), (3, 123), (3, 131), (3, 140), (3, 141), (3, 142), (3, 143), (3, 144), (3, 145), (3, 146), (3, 147)]) rfl hP rfl 13 (by decide) (hts _ (wg_t kw_178)) (fun _ h9 => h9) (cd := (3, 144)) rfl dDA_challengesAgree_11 (fun v23 hv23 => ?_)
      obtain ⟨r21, rfl, kr21⟩ := (show ∃ r : Nat, v23 = .ref r ∧ T r = some 144 from hv23)
      refine lv_iload_n hx hb dDA_challengesAgree_14 rfl (lv_at hl 0 rfl) ?_
      refine nw_bald hx hb hK hO kr21 (k := 144) rfl hP (by omega) (by omega) dDA_challengesAgree_15 ?_
      refine lv_aload_n hx hb dDA_challengesAgree_16 rfl (lv_at hl 1 rfl) ?_
      refine nw_get (C := "LatticeKeys$Dsa") (TT := T_DA) (N := 17) hx hb hts (wg_ft i_DA) hown hK hO k_h0 (kn := 39) (ci := 6) (fl := [(3, 16), (3, 22), (3, 37), (3, 40), (3, 97), (3, 105), (3, 114), (3, 123), (3, 131), (3, 140), (3, 141), (3, 142), (3, 143), (3, 144), (3, 145), (3, 146), (3, 147)]) rfl hP rfl 14 (by decide) (hts _ (wg_t kw_179)) (fun _ h9 => h9) (cd := (3, 145)) rfl dDA_challengesAgree_17 (fun v24 hv24 => ?_)
      obtain ⟨r22, rfl, kr22⟩ := (show ∃ r : Nat, v24 = .ref r ∧ T r = some 145 from hv24)
      refine lv_iload_n hx hb dDA_challengesAgree_20 rfl (lv_at hl 0 rfl) ?_
      refine nw_bald hx hb hK hO kr22 (k := 145) rfl hP (by omega) (by omega) dDA_challengesAgree_21 ?_
      refine lv_icmp_eq (tgt := 27) hx hb dDA_challengesAgree_22 (by decide) (fun h23 => ?_) (fun h23 => ?_)
      · replace hR := hR.trans (if_pos h23)
        refine mi_iinc (k := 0) (x := i21) (d := 1) (y := i21 + 1) (lv' := [(2, .int (nI (i21 + 1))), (0, .ref h0), (1, .ref st)]) hx hb dDA_challengesAgree_27 hl rfl (by decide) rfl (by decide) rfl (fun ls hl => ?_)
        refine lv_goto (tgt := 2) hx hb dDA_challengesAgree_30 (by decide) ?_
        exact ih21 (i21 + 1) s21 pl ls H locs (by omega) hF hR (lv_sub hl [0, 1, 2] rfl) hO hP hD hS
      · replace hR := hR.trans (if_neg h23)
        refine lv_iconst (v := nI 0) hx hb dDA_challengesAgree_25 (by decide) ?_
        exact mp_zret hx hb hr hlk rfl hP hD hS ((nI 0, s21), pl) ⟨⟨hR.symm, rfl, hF, ⟨0, rfl, by omega⟩, trivial⟩, hO⟩ [] rfl rfl rfl (by omega) (by omega) dDA_challengesAgree_26
  exact lp21 64 0 s pl ls _ _ (by omega) hF hR (lv_sub hl [0, 1, 2] rfl) hO hP hD hS
