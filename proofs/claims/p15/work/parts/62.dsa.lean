abbrev c_DA_answerIsShort : ByteArray := prog_3_method_15_code
abbrev y_DA_answerIsShort : MethodName := ⟨"LatticeKeys$Dsa", "answerIsShort", "(LLatticeKeys$DsaSet;)Z"⟩
abbrev w_DA_answerIsShort : List Cond := Cond.code y_DA_answerIsShort c_DA_answerIsShort 3 (some .boolean) :: WG
theorem dDA_answerIsShort_0 : decode c_DA_answerIsShort 0 = .ok (.iconst 0, 1) := by decide +kernel
theorem dDA_answerIsShort_1 : decode c_DA_answerIsShort 1 = .ok (.istore_n 2, 1) := by decide +kernel
theorem dDA_answerIsShort_2 : decode c_DA_answerIsShort 2 = .ok (.iload_n 2, 1) := by decide +kernel
theorem dDA_answerIsShort_3 : decode c_DA_answerIsShort 3 = .ok (.aload_n 1, 1) := by decide +kernel
theorem dDA_answerIsShort_4 : decode c_DA_answerIsShort 4 = .ok (.getfield 96, 3) := by decide +kernel
theorem dDA_answerIsShort_7 : decode c_DA_answerIsShort 7 = .ok (.if_icmp .ge 63, 3) := by decide +kernel
theorem dDA_answerIsShort_10 : decode c_DA_answerIsShort 10 = .ok (.aload_n 0, 1) := by decide +kernel
theorem dDA_answerIsShort_11 : decode c_DA_answerIsShort 11 = .ok (.aload_n 0, 1) := by decide +kernel
theorem dDA_answerIsShort_12 : decode c_DA_answerIsShort 12 = .ok (.getfield 38, 3) := by decide +kernel
theorem dDA_answerIsShort_15 : decode c_DA_answerIsShort 15 = .ok (.iload_n 2, 1) := by decide +kernel
theorem dDA_answerIsShort_16 : decode c_DA_answerIsShort 16 = .ok (.aaload, 1) := by decide +kernel
theorem dDA_answerIsShort_17 : decode c_DA_answerIsShort 17 = .ok (.invokevirtual 230, 3) := by decide +kernel
theorem dDA_answerIsShort_20 : decode c_DA_answerIsShort 20 = .ok (.aload_n 0, 1) := by decide +kernel
theorem dDA_answerIsShort_21 : decode c_DA_answerIsShort 21 = .ok (.getfield 22, 3) := by decide +kernel
theorem dDA_answerIsShort_24 : decode c_DA_answerIsShort 24 = .ok (.aload_n 0, 1) := by decide +kernel
theorem dDA_answerIsShort_25 : decode c_DA_answerIsShort 25 = .ok (.getfield 47, 3) := by decide +kernel
theorem dDA_answerIsShort_28 : decode c_DA_answerIsShort 28 = .ok (.iload_n 2, 1) := by decide +kernel
theorem dDA_answerIsShort_29 : decode c_DA_answerIsShort 29 = .ok (.aaload, 1) := by decide +kernel
theorem dDA_answerIsShort_30 : decode c_DA_answerIsShort 30 = .ok (.aload_n 0, 1) := by decide +kernel
theorem dDA_answerIsShort_31 : decode c_DA_answerIsShort 31 = .ok (.getfield 57, 3) := by decide +kernel
theorem dDA_answerIsShort_34 : decode c_DA_answerIsShort 34 = .ok (.invokevirtual 133, 3) := by decide +kernel
theorem dDA_answerIsShort_37 : decode c_DA_answerIsShort 37 = .ok (.aload_n 0, 1) := by decide +kernel
theorem dDA_answerIsShort_38 : decode c_DA_answerIsShort 38 = .ok (.getfield 22, 3) := by decide +kernel
theorem dDA_answerIsShort_41 : decode c_DA_answerIsShort 41 = .ok (.aload_n 0, 1) := by decide +kernel
theorem dDA_answerIsShort_42 : decode c_DA_answerIsShort 42 = .ok (.getfield 47, 3) := by decide +kernel
theorem dDA_answerIsShort_45 : decode c_DA_answerIsShort 45 = .ok (.iload_n 2, 1) := by decide +kernel
theorem dDA_answerIsShort_46 : decode c_DA_answerIsShort 46 = .ok (.aaload, 1) := by decide +kernel
theorem dDA_answerIsShort_47 : decode c_DA_answerIsShort 47 = .ok (.aload_n 1, 1) := by decide +kernel
theorem dDA_answerIsShort_48 : decode c_DA_answerIsShort 48 = .ok (.getfield 202, 3) := by decide +kernel
theorem dDA_answerIsShort_51 : decode c_DA_answerIsShort 51 = .ok (.aload_n 1, 1) := by decide +kernel
theorem dDA_answerIsShort_52 : decode c_DA_answerIsShort 52 = .ok (.getfield 233, 3) := by decide +kernel
theorem dDA_answerIsShort_55 : decode c_DA_answerIsShort 55 = .ok (.isub, 1) := by decide +kernel
theorem dDA_answerIsShort_56 : decode c_DA_answerIsShort 56 = .ok (.invokevirtual 236, 3) := by decide +kernel
theorem dDA_answerIsShort_59 : decode c_DA_answerIsShort 59 = .ok (.ifCond .ne 5, 3) := by decide +kernel
theorem dDA_answerIsShort_62 : decode c_DA_answerIsShort 62 = .ok (.iconst 0, 1) := by decide +kernel
theorem dDA_answerIsShort_63 : decode c_DA_answerIsShort 63 = .ok (.ireturn, 1) := by decide +kernel
theorem dDA_answerIsShort_64 : decode c_DA_answerIsShort 64 = .ok (.iinc 2 1, 3) := by decide +kernel
theorem dDA_answerIsShort_67 : decode c_DA_answerIsShort 67 = .ok (.goto (-65), 3) := by decide +kernel
theorem dDA_answerIsShort_70 : decode c_DA_answerIsShort 70 = .ok (.iconst 1, 1) := by decide +kernel
theorem dDA_answerIsShort_71 : decode c_DA_answerIsShort 71 = .ok (.ireturn, 1) := by decide +kernel
abbrev c_DA_restIsShort : ByteArray := prog_3_method_16_code
abbrev y_DA_restIsShort : MethodName := ⟨"LatticeKeys$Dsa", "restIsShort", "(LLatticeKeys$DsaSet;)Z"⟩
abbrev w_DA_restIsShort : List Cond := Cond.code y_DA_restIsShort c_DA_restIsShort 6 (some .boolean) :: WG
theorem dDA_restIsShort_0 : decode c_DA_restIsShort 0 = .ok (.aload_n 1, 1) := by decide +kernel
theorem dDA_restIsShort_1 : decode c_DA_restIsShort 1 = .ok (.getfield 240, 3) := by decide +kernel
theorem dDA_restIsShort_4 : decode c_DA_restIsShort 4 = .ok (.aload_n 1, 1) := by decide +kernel
theorem dDA_restIsShort_5 : decode c_DA_restIsShort 5 = .ok (.getfield 233, 3) := by decide +kernel
theorem dDA_restIsShort_8 : decode c_DA_restIsShort 8 = .ok (.isub, 1) := by decide +kernel
theorem dDA_restIsShort_9 : decode c_DA_restIsShort 9 = .ok (.istore_n 2, 1) := by decide +kernel
theorem dDA_restIsShort_10 : decode c_DA_restIsShort 10 = .ok (.iconst 0, 1) := by decide +kernel
theorem dDA_restIsShort_11 : decode c_DA_restIsShort 11 = .ok (.istore_n 3, 1) := by decide +kernel
theorem dDA_restIsShort_12 : decode c_DA_restIsShort 12 = .ok (.iload_n 3, 1) := by decide +kernel
theorem dDA_restIsShort_13 : decode c_DA_restIsShort 13 = .ok (.aload_n 1, 1) := by decide +kernel
theorem dDA_restIsShort_14 : decode c_DA_restIsShort 14 = .ok (.getfield 87, 3) := by decide +kernel
theorem dDA_restIsShort_17 : decode c_DA_restIsShort 17 = .ok (.if_icmp .ge 83, 3) := by decide +kernel
theorem dDA_restIsShort_20 : decode c_DA_restIsShort 20 = .ok (.aload_n 0, 1) := by decide +kernel
theorem dDA_restIsShort_21 : decode c_DA_restIsShort 21 = .ok (.aload_n 0, 1) := by decide +kernel
theorem dDA_restIsShort_22 : decode c_DA_restIsShort 22 = .ok (.getfield 41, 3) := by decide +kernel
theorem dDA_restIsShort_25 : decode c_DA_restIsShort 25 = .ok (.iload_n 3, 1) := by decide +kernel
theorem dDA_restIsShort_26 : decode c_DA_restIsShort 26 = .ok (.aaload, 1) := by decide +kernel
theorem dDA_restIsShort_27 : decode c_DA_restIsShort 27 = .ok (.invokevirtual 230, 3) := by decide +kernel
theorem dDA_restIsShort_30 : decode c_DA_restIsShort 30 = .ok (.aload_n 0, 1) := by decide +kernel
theorem dDA_restIsShort_31 : decode c_DA_restIsShort 31 = .ok (.getfield 22, 3) := by decide +kernel
theorem dDA_restIsShort_34 : decode c_DA_restIsShort 34 = .ok (.aload_n 0, 1) := by decide +kernel
theorem dDA_restIsShort_35 : decode c_DA_restIsShort 35 = .ok (.getfield 50, 3) := by decide +kernel
theorem dDA_restIsShort_38 : decode c_DA_restIsShort 38 = .ok (.iload_n 3, 1) := by decide +kernel
theorem dDA_restIsShort_39 : decode c_DA_restIsShort 39 = .ok (.aaload, 1) := by decide +kernel
theorem dDA_restIsShort_40 : decode c_DA_restIsShort 40 = .ok (.aload_n 0, 1) := by decide +kernel
theorem dDA_restIsShort_41 : decode c_DA_restIsShort 41 = .ok (.getfield 57, 3) := by decide +kernel
theorem dDA_restIsShort_44 : decode c_DA_restIsShort 44 = .ok (.invokevirtual 243, 3) := by decide +kernel
theorem dDA_restIsShort_47 : decode c_DA_restIsShort 47 = .ok (.iconst 0, 1) := by decide +kernel
theorem dDA_restIsShort_48 : decode c_DA_restIsShort 48 = .ok (.istore 4, 2) := by decide +kernel
theorem dDA_restIsShort_50 : decode c_DA_restIsShort 50 = .ok (.iload 4, 2) := by decide +kernel
theorem dDA_restIsShort_52 : decode c_DA_restIsShort 52 = .ok (.sipush 256, 3) := by decide +kernel
theorem dDA_restIsShort_55 : decode c_DA_restIsShort 55 = .ok (.if_icmp .ge 39, 3) := by decide +kernel
theorem dDA_restIsShort_58 : decode c_DA_restIsShort 58 = .ok (.aload_n 1, 1) := by decide +kernel
theorem dDA_restIsShort_59 : decode c_DA_restIsShort 59 = .ok (.aload_n 0, 1) := by decide +kernel
theorem dDA_restIsShort_60 : decode c_DA_restIsShort 60 = .ok (.getfield 50, 3) := by decide +kernel
theorem dDA_restIsShort_63 : decode c_DA_restIsShort 63 = .ok (.iload_n 3, 1) := by decide +kernel
theorem dDA_restIsShort_64 : decode c_DA_restIsShort 64 = .ok (.aaload, 1) := by decide +kernel
theorem dDA_restIsShort_65 : decode c_DA_restIsShort 65 = .ok (.iload 4, 2) := by decide +kernel
theorem dDA_restIsShort_67 : decode c_DA_restIsShort 67 = .ok (.iaload, 1) := by decide +kernel
theorem dDA_restIsShort_68 : decode c_DA_restIsShort 68 = .ok (.invokevirtual 246, 3) := by decide +kernel
theorem dDA_restIsShort_71 : decode c_DA_restIsShort 71 = .ok (.istore 5, 2) := by decide +kernel
theorem dDA_restIsShort_73 : decode c_DA_restIsShort 73 = .ok (.iload 5, 2) := by decide +kernel
theorem dDA_restIsShort_75 : decode c_DA_restIsShort 75 = .ok (.iload_n 2, 1) := by decide +kernel
theorem dDA_restIsShort_76 : decode c_DA_restIsShort 76 = .ok (.if_icmp .ge 10, 3) := by decide +kernel
theorem dDA_restIsShort_79 : decode c_DA_restIsShort 79 = .ok (.iload 5, 2) := by decide +kernel
theorem dDA_restIsShort_81 : decode c_DA_restIsShort 81 = .ok (.iload_n 2, 1) := by decide +kernel
theorem dDA_restIsShort_82 : decode c_DA_restIsShort 82 = .ok (.ineg, 1) := by decide +kernel
theorem dDA_restIsShort_83 : decode c_DA_restIsShort 83 = .ok (.if_icmp .gt 5, 3) := by decide +kernel
theorem dDA_restIsShort_86 : decode c_DA_restIsShort 86 = .ok (.iconst 0, 1) := by decide +kernel
theorem dDA_restIsShort_87 : decode c_DA_restIsShort 87 = .ok (.ireturn, 1) := by decide +kernel
theorem dDA_restIsShort_88 : decode c_DA_restIsShort 88 = .ok (.iinc 4 1, 3) := by decide +kernel
theorem dDA_restIsShort_91 : decode c_DA_restIsShort 91 = .ok (.goto (-41), 3) := by decide +kernel
theorem dDA_restIsShort_94 : decode c_DA_restIsShort 94 = .ok (.iinc 3 1, 3) := by decide +kernel
theorem dDA_restIsShort_97 : decode c_DA_restIsShort 97 = .ok (.goto (-85), 3) := by decide +kernel
theorem dDA_restIsShort_100 : decode c_DA_restIsShort 100 = .ok (.iconst 1, 1) := by decide +kernel
theorem dDA_restIsShort_101 : decode c_DA_restIsShort 101 = .ok (.ireturn, 1) := by decide +kernel
abbrev c_DA_makeHints : ByteArray := prog_3_method_17_code
abbrev y_DA_makeHints : MethodName := ⟨"LatticeKeys$Dsa", "makeHints", "(LLatticeKeys$DsaSet;)Z"⟩
abbrev w_DA_makeHints : List Cond := Cond.code y_DA_makeHints c_DA_makeHints 5 (some .boolean) :: WG
theorem dDA_makeHints_0 : decode c_DA_makeHints 0 = .ok (.aload_n 0, 1) := by decide +kernel
theorem dDA_makeHints_1 : decode c_DA_makeHints 1 = .ok (.getfield 73, 3) := by decide +kernel
theorem dDA_makeHints_4 : decode c_DA_makeHints 4 = .ok (.iconst 0, 1) := by decide +kernel
theorem dDA_makeHints_5 : decode c_DA_makeHints 5 = .ok (.invokestatic 249, 3) := by decide +kernel
theorem dDA_makeHints_8 : decode c_DA_makeHints 8 = .ok (.iconst 0, 1) := by decide +kernel
theorem dDA_makeHints_9 : decode c_DA_makeHints 9 = .ok (.istore_n 2, 1) := by decide +kernel
theorem dDA_makeHints_10 : decode c_DA_makeHints 10 = .ok (.iconst 0, 1) := by decide +kernel
theorem dDA_makeHints_11 : decode c_DA_makeHints 11 = .ok (.istore_n 3, 1) := by decide +kernel
theorem dDA_makeHints_12 : decode c_DA_makeHints 12 = .ok (.iload_n 3, 1) := by decide +kernel
theorem dDA_makeHints_13 : decode c_DA_makeHints 13 = .ok (.aload_n 1, 1) := by decide +kernel
theorem dDA_makeHints_14 : decode c_DA_makeHints 14 = .ok (.getfield 87, 3) := by decide +kernel
theorem dDA_makeHints_17 : decode c_DA_makeHints 17 = .ok (.if_icmp .ge 135, 3) := by decide +kernel
theorem dDA_makeHints_20 : decode c_DA_makeHints 20 = .ok (.aload_n 0, 1) := by decide +kernel
theorem dDA_makeHints_21 : decode c_DA_makeHints 21 = .ok (.aload_n 0, 1) := by decide +kernel
theorem dDA_makeHints_22 : decode c_DA_makeHints 22 = .ok (.getfield 44, 3) := by decide +kernel
theorem dDA_makeHints_25 : decode c_DA_makeHints 25 = .ok (.iload_n 3, 1) := by decide +kernel
theorem dDA_makeHints_26 : decode c_DA_makeHints 26 = .ok (.aaload, 1) := by decide +kernel
theorem dDA_makeHints_27 : decode c_DA_makeHints 27 = .ok (.invokevirtual 230, 3) := by decide +kernel
theorem dDA_makeHints_30 : decode c_DA_makeHints 30 = .ok (.aload_n 0, 1) := by decide +kernel
theorem dDA_makeHints_31 : decode c_DA_makeHints 31 = .ok (.getfield 22, 3) := by decide +kernel
theorem dDA_makeHints_34 : decode c_DA_makeHints 34 = .ok (.aload_n 0, 1) := by decide +kernel
theorem dDA_makeHints_35 : decode c_DA_makeHints 35 = .ok (.getfield 57, 3) := by decide +kernel
theorem dDA_makeHints_38 : decode c_DA_makeHints 38 = .ok (.aload_n 1, 1) := by decide +kernel
theorem dDA_makeHints_39 : decode c_DA_makeHints 39 = .ok (.getfield 240, 3) := by decide +kernel
theorem dDA_makeHints_42 : decode c_DA_makeHints 42 = .ok (.invokevirtual 236, 3) := by decide +kernel
theorem dDA_makeHints_45 : decode c_DA_makeHints 45 = .ok (.ifCond .ne 5, 3) := by decide +kernel
theorem dDA_makeHints_48 : decode c_DA_makeHints 48 = .ok (.iconst 0, 1) := by decide +kernel
theorem dDA_makeHints_49 : decode c_DA_makeHints 49 = .ok (.ireturn, 1) := by decide +kernel
theorem dDA_makeHints_50 : decode c_DA_makeHints 50 = .ok (.aload_n 0, 1) := by decide +kernel
theorem dDA_makeHints_51 : decode c_DA_makeHints 51 = .ok (.getfield 22, 3) := by decide +kernel
theorem dDA_makeHints_54 : decode c_DA_makeHints 54 = .ok (.aload_n 0, 1) := by decide +kernel
theorem dDA_makeHints_55 : decode c_DA_makeHints 55 = .ok (.getfield 57, 3) := by decide +kernel
theorem dDA_makeHints_58 : decode c_DA_makeHints 58 = .ok (.aload_n 0, 1) := by decide +kernel
theorem dDA_makeHints_59 : decode c_DA_makeHints 59 = .ok (.getfield 50, 3) := by decide +kernel
theorem dDA_makeHints_62 : decode c_DA_makeHints 62 = .ok (.iload_n 3, 1) := by decide +kernel
theorem dDA_makeHints_63 : decode c_DA_makeHints 63 = .ok (.aaload, 1) := by decide +kernel
theorem dDA_makeHints_64 : decode c_DA_makeHints 64 = .ok (.invokevirtual 133, 3) := by decide +kernel
theorem dDA_makeHints_67 : decode c_DA_makeHints 67 = .ok (.iconst 0, 1) := by decide +kernel
theorem dDA_makeHints_68 : decode c_DA_makeHints 68 = .ok (.istore 4, 2) := by decide +kernel
theorem dDA_makeHints_70 : decode c_DA_makeHints 70 = .ok (.iload 4, 2) := by decide +kernel
theorem dDA_makeHints_72 : decode c_DA_makeHints 72 = .ok (.sipush 256, 3) := by decide +kernel
theorem dDA_makeHints_75 : decode c_DA_makeHints 75 = .ok (.if_icmp .ge 58, 3) := by decide +kernel
theorem dDA_makeHints_78 : decode c_DA_makeHints 78 = .ok (.aload_n 1, 1) := by decide +kernel
theorem dDA_makeHints_79 : decode c_DA_makeHints 79 = .ok (.aload_n 0, 1) := by decide +kernel
theorem dDA_makeHints_80 : decode c_DA_makeHints 80 = .ok (.getfield 57, 3) := by decide +kernel
theorem dDA_makeHints_83 : decode c_DA_makeHints 83 = .ok (.iload 4, 2) := by decide +kernel
theorem dDA_makeHints_85 : decode c_DA_makeHints 85 = .ok (.iaload, 1) := by decide +kernel
theorem dDA_makeHints_86 : decode c_DA_makeHints 86 = .ok (.invokevirtual 212, 3) := by decide +kernel
theorem dDA_makeHints_89 : decode c_DA_makeHints 89 = .ok (.aload_n 1, 1) := by decide +kernel
theorem dDA_makeHints_90 : decode c_DA_makeHints 90 = .ok (.aload_n 0, 1) := by decide +kernel
theorem dDA_makeHints_91 : decode c_DA_makeHints 91 = .ok (.getfield 50, 3) := by decide +kernel
theorem dDA_makeHints_94 : decode c_DA_makeHints 94 = .ok (.iload_n 3, 1) := by decide +kernel
theorem dDA_makeHints_95 : decode c_DA_makeHints 95 = .ok (.aaload, 1) := by decide +kernel
theorem dDA_makeHints_96 : decode c_DA_makeHints 96 = .ok (.iload 4, 2) := by decide +kernel
theorem dDA_makeHints_98 : decode c_DA_makeHints 98 = .ok (.iaload, 1) := by decide +kernel
theorem dDA_makeHints_99 : decode c_DA_makeHints 99 = .ok (.invokevirtual 212, 3) := by decide +kernel
theorem dDA_makeHints_102 : decode c_DA_makeHints 102 = .ok (.if_icmp .eq 25, 3) := by decide +kernel
theorem dDA_makeHints_105 : decode c_DA_makeHints 105 = .ok (.iload_n 2, 1) := by decide +kernel
theorem dDA_makeHints_106 : decode c_DA_makeHints 106 = .ok (.aload_n 1, 1) := by decide +kernel
theorem dDA_makeHints_107 : decode c_DA_makeHints 107 = .ok (.getfield 252, 3) := by decide +kernel
theorem dDA_makeHints_110 : decode c_DA_makeHints 110 = .ok (.if_icmp .lt 5, 3) := by decide +kernel
theorem dDA_makeHints_113 : decode c_DA_makeHints 113 = .ok (.iconst 0, 1) := by decide +kernel
theorem dDA_makeHints_114 : decode c_DA_makeHints 114 = .ok (.ireturn, 1) := by decide +kernel
theorem dDA_makeHints_115 : decode c_DA_makeHints 115 = .ok (.aload_n 0, 1) := by decide +kernel
theorem dDA_makeHints_116 : decode c_DA_makeHints 116 = .ok (.getfield 73, 3) := by decide +kernel
theorem dDA_makeHints_119 : decode c_DA_makeHints 119 = .ok (.iload_n 2, 1) := by decide +kernel
theorem dDA_makeHints_120 : decode c_DA_makeHints 120 = .ok (.iload 4, 2) := by decide +kernel
theorem dDA_makeHints_122 : decode c_DA_makeHints 122 = .ok (.i2b, 1) := by decide +kernel
theorem dDA_makeHints_123 : decode c_DA_makeHints 123 = .ok (.bastore, 1) := by decide +kernel
theorem dDA_makeHints_124 : decode c_DA_makeHints 124 = .ok (.iinc 2 1, 3) := by decide +kernel
theorem dDA_makeHints_127 : decode c_DA_makeHints 127 = .ok (.iinc 4 1, 3) := by decide +kernel
theorem dDA_makeHints_130 : decode c_DA_makeHints 130 = .ok (.goto (-60), 3) := by decide +kernel
theorem dDA_makeHints_133 : decode c_DA_makeHints 133 = .ok (.aload_n 0, 1) := by decide +kernel
theorem dDA_makeHints_134 : decode c_DA_makeHints 134 = .ok (.getfield 73, 3) := by decide +kernel
theorem dDA_makeHints_137 : decode c_DA_makeHints 137 = .ok (.aload_n 1, 1) := by decide +kernel
theorem dDA_makeHints_138 : decode c_DA_makeHints 138 = .ok (.getfield 252, 3) := by decide +kernel
theorem dDA_makeHints_141 : decode c_DA_makeHints 141 = .ok (.iload_n 3, 1) := by decide +kernel
theorem dDA_makeHints_142 : decode c_DA_makeHints 142 = .ok (.iadd, 1) := by decide +kernel
theorem dDA_makeHints_143 : decode c_DA_makeHints 143 = .ok (.iload_n 2, 1) := by decide +kernel
theorem dDA_makeHints_144 : decode c_DA_makeHints 144 = .ok (.i2b, 1) := by decide +kernel
theorem dDA_makeHints_145 : decode c_DA_makeHints 145 = .ok (.bastore, 1) := by decide +kernel
theorem dDA_makeHints_146 : decode c_DA_makeHints 146 = .ok (.iinc 3 1, 3) := by decide +kernel
theorem dDA_makeHints_149 : decode c_DA_makeHints 149 = .ok (.goto (-137), 3) := by decide +kernel
theorem dDA_makeHints_152 : decode c_DA_makeHints 152 = .ok (.iconst 1, 1) := by decide +kernel
theorem dDA_makeHints_153 : decode c_DA_makeHints 153 = .ok (.ireturn, 1) := by decide +kernel
abbrev c_DA_writeSignature : ByteArray := prog_3_method_18_code
abbrev y_DA_writeSignature : MethodName := ⟨"LatticeKeys$Dsa", "writeSignature", "(LLatticeKeys$DsaSet;[B)V"⟩
abbrev w_DA_writeSignature : List Cond := Cond.code y_DA_writeSignature c_DA_writeSignature 4 none :: WG
theorem dDA_writeSignature_0 : decode c_DA_writeSignature 0 = .ok (.aload_n 0, 1) := by decide +kernel
theorem dDA_writeSignature_1 : decode c_DA_writeSignature 1 = .ok (.getfield 67, 3) := by decide +kernel
theorem dDA_writeSignature_4 : decode c_DA_writeSignature 4 = .ok (.iconst 0, 1) := by decide +kernel
theorem dDA_writeSignature_5 : decode c_DA_writeSignature 5 = .ok (.aload_n 2, 1) := by decide +kernel
theorem dDA_writeSignature_6 : decode c_DA_writeSignature 6 = .ok (.iconst 0, 1) := by decide +kernel
theorem dDA_writeSignature_7 : decode c_DA_writeSignature 7 = .ok (.aload_n 1, 1) := by decide +kernel
theorem dDA_writeSignature_8 : decode c_DA_writeSignature 8 = .ok (.getfield 220, 3) := by decide +kernel
theorem dDA_writeSignature_11 : decode c_DA_writeSignature 11 = .ok (.invokestatic 105, 3) := by decide +kernel
theorem dDA_writeSignature_14 : decode c_DA_writeSignature 14 = .ok (.iconst 0, 1) := by decide +kernel
theorem dDA_writeSignature_15 : decode c_DA_writeSignature 15 = .ok (.istore_n 3, 1) := by decide +kernel
theorem dDA_writeSignature_16 : decode c_DA_writeSignature 16 = .ok (.iload_n 3, 1) := by decide +kernel
theorem dDA_writeSignature_17 : decode c_DA_writeSignature 17 = .ok (.aload_n 1, 1) := by decide +kernel
theorem dDA_writeSignature_18 : decode c_DA_writeSignature 18 = .ok (.getfield 96, 3) := by decide +kernel
theorem dDA_writeSignature_21 : decode c_DA_writeSignature 21 = .ok (.if_icmp .ge 56, 3) := by decide +kernel
theorem dDA_writeSignature_24 : decode c_DA_writeSignature 24 = .ok (.aload_n 0, 1) := by decide +kernel
theorem dDA_writeSignature_25 : decode c_DA_writeSignature 25 = .ok (.getfield 22, 3) := by decide +kernel
theorem dDA_writeSignature_28 : decode c_DA_writeSignature 28 = .ok (.aload_n 0, 1) := by decide +kernel
theorem dDA_writeSignature_29 : decode c_DA_writeSignature 29 = .ok (.getfield 47, 3) := by decide +kernel
theorem dDA_writeSignature_32 : decode c_DA_writeSignature 32 = .ok (.iload_n 3, 1) := by decide +kernel
theorem dDA_writeSignature_33 : decode c_DA_writeSignature 33 = .ok (.aaload, 1) := by decide +kernel
theorem dDA_writeSignature_34 : decode c_DA_writeSignature 34 = .ok (.aload_n 1, 1) := by decide +kernel
theorem dDA_writeSignature_35 : decode c_DA_writeSignature 35 = .ok (.getfield 202, 3) := by decide +kernel
theorem dDA_writeSignature_38 : decode c_DA_writeSignature 38 = .ok (.aload_n 0, 1) := by decide +kernel
theorem dDA_writeSignature_39 : decode c_DA_writeSignature 39 = .ok (.getfield 57, 3) := by decide +kernel
theorem dDA_writeSignature_42 : decode c_DA_writeSignature 42 = .ok (.invokevirtual 157, 3) := by decide +kernel
theorem dDA_writeSignature_45 : decode c_DA_writeSignature 45 = .ok (.aload_n 0, 1) := by decide +kernel
theorem dDA_writeSignature_46 : decode c_DA_writeSignature 46 = .ok (.getfield 57, 3) := by decide +kernel
theorem dDA_writeSignature_49 : decode c_DA_writeSignature 49 = .ok (.aload_n 1, 1) := by decide +kernel
theorem dDA_writeSignature_50 : decode c_DA_writeSignature 50 = .ok (.getfield 255, 3) := by decide +kernel
theorem dDA_writeSignature_53 : decode c_DA_writeSignature 53 = .ok (.aload_n 2, 1) := by decide +kernel
theorem dDA_writeSignature_54 : decode c_DA_writeSignature 54 = .ok (.aload_n 1, 1) := by decide +kernel
theorem dDA_writeSignature_55 : decode c_DA_writeSignature 55 = .ok (.getfield 220, 3) := by decide +kernel
theorem dDA_writeSignature_58 : decode c_DA_writeSignature 58 = .ok (.bipush 32, 2) := by decide +kernel
theorem dDA_writeSignature_60 : decode c_DA_writeSignature 60 = .ok (.aload_n 1, 1) := by decide +kernel
theorem dDA_writeSignature_61 : decode c_DA_writeSignature 61 = .ok (.getfield 255, 3) := by decide +kernel
theorem dDA_writeSignature_64 : decode c_DA_writeSignature 64 = .ok (.imul, 1) := by decide +kernel
theorem dDA_writeSignature_65 : decode c_DA_writeSignature 65 = .ok (.iload_n 3, 1) := by decide +kernel
theorem dDA_writeSignature_66 : decode c_DA_writeSignature 66 = .ok (.imul, 1) := by decide +kernel
theorem dDA_writeSignature_67 : decode c_DA_writeSignature 67 = .ok (.iadd, 1) := by decide +kernel
theorem dDA_writeSignature_68 : decode c_DA_writeSignature 68 = .ok (.invokestatic 140, 3) := by decide +kernel
theorem dDA_writeSignature_71 : decode c_DA_writeSignature 71 = .ok (.iinc 3 1, 3) := by decide +kernel
theorem dDA_writeSignature_74 : decode c_DA_writeSignature 74 = .ok (.goto (-58), 3) := by decide +kernel
theorem dDA_writeSignature_77 : decode c_DA_writeSignature 77 = .ok (.aload_n 0, 1) := by decide +kernel
theorem dDA_writeSignature_78 : decode c_DA_writeSignature 78 = .ok (.getfield 73, 3) := by decide +kernel
theorem dDA_writeSignature_81 : decode c_DA_writeSignature 81 = .ok (.iconst 0, 1) := by decide +kernel
theorem dDA_writeSignature_82 : decode c_DA_writeSignature 82 = .ok (.aload_n 2, 1) := by decide +kernel
theorem dDA_writeSignature_83 : decode c_DA_writeSignature 83 = .ok (.aload_n 1, 1) := by decide +kernel
theorem dDA_writeSignature_84 : decode c_DA_writeSignature 84 = .ok (.getfield 258, 3) := by decide +kernel
theorem dDA_writeSignature_87 : decode c_DA_writeSignature 87 = .ok (.aload_n 1, 1) := by decide +kernel
theorem dDA_writeSignature_88 : decode c_DA_writeSignature 88 = .ok (.getfield 252, 3) := by decide +kernel
theorem dDA_writeSignature_91 : decode c_DA_writeSignature 91 = .ok (.aload_n 1, 1) := by decide +kernel
theorem dDA_writeSignature_92 : decode c_DA_writeSignature 92 = .ok (.getfield 87, 3) := by decide +kernel
theorem dDA_writeSignature_95 : decode c_DA_writeSignature 95 = .ok (.iadd, 1) := by decide +kernel
theorem dDA_writeSignature_96 : decode c_DA_writeSignature 96 = .ok (.invokestatic 105, 3) := by decide +kernel
theorem dDA_writeSignature_99 : decode c_DA_writeSignature 99 = .ok (.return_, 1) := by decide +kernel
abbrev c_DA_startChallenge : ByteArray := prog_3_method_11_code
abbrev y_DA_startChallenge : MethodName := ⟨"LatticeKeys$Dsa", "startChallenge", "()V"⟩
abbrev w_DA_startChallenge : List Cond := Cond.code y_DA_startChallenge c_DA_startChallenge 1 none :: WG
theorem dDA_startChallenge_0 : decode c_DA_startChallenge 0 = .ok (.aload_n 0, 1) := by decide +kernel
theorem dDA_startChallenge_1 : decode c_DA_startChallenge 1 = .ok (.getfield 10, 3) := by decide +kernel
theorem dDA_startChallenge_4 : decode c_DA_startChallenge 4 = .ok (.iconst 3, 1) := by decide +kernel
theorem dDA_startChallenge_5 : decode c_DA_startChallenge 5 = .ok (.invokevirtual 79, 3) := by decide +kernel
theorem dDA_startChallenge_8 : decode c_DA_startChallenge 8 = .ok (.aload_n 0, 1) := by decide +kernel
theorem dDA_startChallenge_9 : decode c_DA_startChallenge 9 = .ok (.getfield 10, 3) := by decide +kernel
theorem dDA_startChallenge_12 : decode c_DA_startChallenge 12 = .ok (.aload_n 0, 1) := by decide +kernel
theorem dDA_startChallenge_13 : decode c_DA_startChallenge 13 = .ok (.getfield 64, 3) := by decide +kernel
theorem dDA_startChallenge_16 : decode c_DA_startChallenge 16 = .ok (.iconst 0, 1) := by decide +kernel
theorem dDA_startChallenge_17 : decode c_DA_startChallenge 17 = .ok (.bipush 64, 2) := by decide +kernel
theorem dDA_startChallenge_19 : decode c_DA_startChallenge 19 = .ok (.invokevirtual 83, 3) := by decide +kernel
theorem dDA_startChallenge_22 : decode c_DA_startChallenge 22 = .ok (.return_, 1) := by decide +kernel
abbrev c_DA_absorbHigh : ByteArray := prog_3_method_12_code
abbrev y_DA_absorbHigh : MethodName := ⟨"LatticeKeys$Dsa", "absorbHigh", "(LLatticeKeys$DsaSet;)V"⟩
abbrev w_DA_absorbHigh : List Cond := Cond.code y_DA_absorbHigh c_DA_absorbHigh 2 none :: WG
theorem dDA_absorbHigh_0 : decode c_DA_absorbHigh 0 = .ok (.aload_n 0, 1) := by decide +kernel
theorem dDA_absorbHigh_1 : decode c_DA_absorbHigh 1 = .ok (.getfield 57, 3) := by decide +kernel
theorem dDA_absorbHigh_4 : decode c_DA_absorbHigh 4 = .ok (.aload_n 1, 1) := by decide +kernel
theorem dDA_absorbHigh_5 : decode c_DA_absorbHigh 5 = .ok (.getfield 227, 3) := by decide +kernel
theorem dDA_absorbHigh_8 : decode c_DA_absorbHigh 8 = .ok (.aload_n 0, 1) := by decide +kernel
theorem dDA_absorbHigh_9 : decode c_DA_absorbHigh 9 = .ok (.getfield 76, 3) := by decide +kernel
theorem dDA_absorbHigh_12 : decode c_DA_absorbHigh 12 = .ok (.iconst 0, 1) := by decide +kernel
theorem dDA_absorbHigh_13 : decode c_DA_absorbHigh 13 = .ok (.invokestatic 140, 3) := by decide +kernel
theorem dDA_absorbHigh_16 : decode c_DA_absorbHigh 16 = .ok (.aload_n 0, 1) := by decide +kernel
theorem dDA_absorbHigh_17 : decode c_DA_absorbHigh 17 = .ok (.getfield 10, 3) := by decide +kernel
theorem dDA_absorbHigh_20 : decode c_DA_absorbHigh 20 = .ok (.aload_n 0, 1) := by decide +kernel
theorem dDA_absorbHigh_21 : decode c_DA_absorbHigh 21 = .ok (.getfield 76, 3) := by decide +kernel
theorem dDA_absorbHigh_24 : decode c_DA_absorbHigh 24 = .ok (.iconst 0, 1) := by decide +kernel
theorem dDA_absorbHigh_25 : decode c_DA_absorbHigh 25 = .ok (.bipush 32, 2) := by decide +kernel
theorem dDA_absorbHigh_27 : decode c_DA_absorbHigh 27 = .ok (.aload_n 1, 1) := by decide +kernel
theorem dDA_absorbHigh_28 : decode c_DA_absorbHigh 28 = .ok (.getfield 227, 3) := by decide +kernel
theorem dDA_absorbHigh_31 : decode c_DA_absorbHigh 31 = .ok (.imul, 1) := by decide +kernel
theorem dDA_absorbHigh_32 : decode c_DA_absorbHigh 32 = .ok (.invokevirtual 83, 3) := by decide +kernel
theorem dDA_absorbHigh_35 : decode c_DA_absorbHigh 35 = .ok (.return_, 1) := by decide +kernel
abbrev c_DA_commit : ByteArray := prog_3_method_10_code
abbrev y_DA_commit : MethodName := ⟨"LatticeKeys$Dsa", "commit", "(LLatticeKeys$DsaSet;I)V"⟩
abbrev w_DA_commit : List Cond := Cond.code y_DA_commit c_DA_commit 5 none :: WG
theorem dDA_commit_0 : decode c_DA_commit 0 = .ok (.iconst 0, 1) := by decide +kernel
theorem dDA_commit_1 : decode c_DA_commit 1 = .ok (.istore_n 3, 1) := by decide +kernel
theorem dDA_commit_2 : decode c_DA_commit 2 = .ok (.iload_n 3, 1) := by decide +kernel
theorem dDA_commit_3 : decode c_DA_commit 3 = .ok (.aload_n 1, 1) := by decide +kernel
theorem dDA_commit_4 : decode c_DA_commit 4 = .ok (.getfield 87, 3) := by decide +kernel
theorem dDA_commit_7 : decode c_DA_commit 7 = .ok (.if_icmp .ge 19, 3) := by decide +kernel
theorem dDA_commit_10 : decode c_DA_commit 10 = .ok (.aload_n 0, 1) := by decide +kernel
theorem dDA_commit_11 : decode c_DA_commit 11 = .ok (.getfield 50, 3) := by decide +kernel
theorem dDA_commit_14 : decode c_DA_commit 14 = .ok (.iload_n 3, 1) := by decide +kernel
theorem dDA_commit_15 : decode c_DA_commit 15 = .ok (.aaload, 1) := by decide +kernel
theorem dDA_commit_16 : decode c_DA_commit 16 = .ok (.iconst 0, 1) := by decide +kernel
theorem dDA_commit_17 : decode c_DA_commit 17 = .ok (.invokestatic 192, 3) := by decide +kernel
theorem dDA_commit_20 : decode c_DA_commit 20 = .ok (.iinc 3 1, 3) := by decide +kernel
theorem dDA_commit_23 : decode c_DA_commit 23 = .ok (.goto (-21), 3) := by decide +kernel
theorem dDA_commit_26 : decode c_DA_commit 26 = .ok (.iconst 0, 1) := by decide +kernel
theorem dDA_commit_27 : decode c_DA_commit 27 = .ok (.istore_n 3, 1) := by decide +kernel
theorem dDA_commit_28 : decode c_DA_commit 28 = .ok (.iload_n 3, 1) := by decide +kernel
theorem dDA_commit_29 : decode c_DA_commit 29 = .ok (.aload_n 1, 1) := by decide +kernel
theorem dDA_commit_30 : decode c_DA_commit 30 = .ok (.getfield 96, 3) := by decide +kernel
theorem dDA_commit_33 : decode c_DA_commit 33 = .ok (.if_icmp .ge 132, 3) := by decide +kernel
theorem dDA_commit_36 : decode c_DA_commit 36 = .ok (.aload_n 0, 1) := by decide +kernel
theorem dDA_commit_37 : decode c_DA_commit 37 = .ok (.getfield 29, 3) := by decide +kernel
theorem dDA_commit_40 : decode c_DA_commit 40 = .ok (.aload_n 1, 1) := by decide +kernel
theorem dDA_commit_41 : decode c_DA_commit 41 = .ok (.aload_n 0, 1) := by decide +kernel
theorem dDA_commit_42 : decode c_DA_commit 42 = .ok (.getfield 47, 3) := by decide +kernel
theorem dDA_commit_45 : decode c_DA_commit 45 = .ok (.iload_n 3, 1) := by decide +kernel
theorem dDA_commit_46 : decode c_DA_commit 46 = .ok (.aaload, 1) := by decide +kernel
theorem dDA_commit_47 : decode c_DA_commit 47 = .ok (.aload_n 0, 1) := by decide +kernel
theorem dDA_commit_48 : decode c_DA_commit 48 = .ok (.getfield 60, 3) := by decide +kernel
theorem dDA_commit_51 : decode c_DA_commit 51 = .ok (.iload_n 2, 1) := by decide +kernel
theorem dDA_commit_52 : decode c_DA_commit 52 = .ok (.iload_n 3, 1) := by decide +kernel
theorem dDA_commit_53 : decode c_DA_commit 53 = .ok (.iadd, 1) := by decide +kernel
theorem dDA_commit_54 : decode c_DA_commit 54 = .ok (.invokevirtual 198, 3) := by decide +kernel
theorem dDA_commit_57 : decode c_DA_commit 57 = .ok (.aload_n 0, 1) := by decide +kernel
theorem dDA_commit_58 : decode c_DA_commit 58 = .ok (.getfield 22, 3) := by decide +kernel
theorem dDA_commit_61 : decode c_DA_commit 61 = .ok (.aload_n 0, 1) := by decide +kernel
theorem dDA_commit_62 : decode c_DA_commit 62 = .ok (.getfield 47, 3) := by decide +kernel
theorem dDA_commit_65 : decode c_DA_commit 65 = .ok (.iload_n 3, 1) := by decide +kernel
theorem dDA_commit_66 : decode c_DA_commit 66 = .ok (.aaload, 1) := by decide +kernel
theorem dDA_commit_67 : decode c_DA_commit 67 = .ok (.aload_n 1, 1) := by decide +kernel
theorem dDA_commit_68 : decode c_DA_commit 68 = .ok (.getfield 202, 3) := by decide +kernel
theorem dDA_commit_71 : decode c_DA_commit 71 = .ok (.aload_n 0, 1) := by decide +kernel
theorem dDA_commit_72 : decode c_DA_commit 72 = .ok (.getfield 47, 3) := by decide +kernel
theorem dDA_commit_75 : decode c_DA_commit 75 = .ok (.iload_n 3, 1) := by decide +kernel
theorem dDA_commit_76 : decode c_DA_commit 76 = .ok (.aaload, 1) := by decide +kernel
theorem dDA_commit_77 : decode c_DA_commit 77 = .ok (.invokevirtual 157, 3) := by decide +kernel
theorem dDA_commit_80 : decode c_DA_commit 80 = .ok (.aload_n 0, 1) := by decide +kernel
theorem dDA_commit_81 : decode c_DA_commit 81 = .ok (.getfield 47, 3) := by decide +kernel
theorem dDA_commit_84 : decode c_DA_commit 84 = .ok (.iload_n 3, 1) := by decide +kernel
theorem dDA_commit_85 : decode c_DA_commit 85 = .ok (.aaload, 1) := by decide +kernel
theorem dDA_commit_86 : decode c_DA_commit 86 = .ok (.iconst 0, 1) := by decide +kernel
theorem dDA_commit_87 : decode c_DA_commit 87 = .ok (.aload_n 0, 1) := by decide +kernel
theorem dDA_commit_88 : decode c_DA_commit 88 = .ok (.getfield 57, 3) := by decide +kernel
theorem dDA_commit_91 : decode c_DA_commit 91 = .ok (.iconst 0, 1) := by decide +kernel
theorem dDA_commit_92 : decode c_DA_commit 92 = .ok (.sipush 256, 3) := by decide +kernel
theorem dDA_commit_95 : decode c_DA_commit 95 = .ok (.invokestatic 105, 3) := by decide +kernel
theorem dDA_commit_98 : decode c_DA_commit 98 = .ok (.aload_n 0, 1) := by decide +kernel
theorem dDA_commit_99 : decode c_DA_commit 99 = .ok (.getfield 22, 3) := by decide +kernel
theorem dDA_commit_102 : decode c_DA_commit 102 = .ok (.aload_n 0, 1) := by decide +kernel
theorem dDA_commit_103 : decode c_DA_commit 103 = .ok (.getfield 57, 3) := by decide +kernel
theorem dDA_commit_106 : decode c_DA_commit 106 = .ok (.invokevirtual 119, 3) := by decide +kernel
theorem dDA_commit_109 : decode c_DA_commit 109 = .ok (.iconst 0, 1) := by decide +kernel
theorem dDA_commit_110 : decode c_DA_commit 110 = .ok (.istore 4, 2) := by decide +kernel
theorem dDA_commit_112 : decode c_DA_commit 112 = .ok (.iload 4, 2) := by decide +kernel
theorem dDA_commit_114 : decode c_DA_commit 114 = .ok (.aload_n 1, 1) := by decide +kernel
theorem dDA_commit_115 : decode c_DA_commit 115 = .ok (.getfield 87, 3) := by decide +kernel
theorem dDA_commit_118 : decode c_DA_commit 118 = .ok (.if_icmp .ge 41, 3) := by decide +kernel
theorem dDA_commit_121 : decode c_DA_commit 121 = .ok (.aload_n 0, 1) := by decide +kernel
theorem dDA_commit_122 : decode c_DA_commit 122 = .ok (.getfield 22, 3) := by decide +kernel
theorem dDA_commit_125 : decode c_DA_commit 125 = .ok (.aload_n 0, 1) := by decide +kernel
theorem dDA_commit_126 : decode c_DA_commit 126 = .ok (.getfield 50, 3) := by decide +kernel
theorem dDA_commit_129 : decode c_DA_commit 129 = .ok (.iload 4, 2) := by decide +kernel
theorem dDA_commit_131 : decode c_DA_commit 131 = .ok (.aaload, 1) := by decide +kernel
theorem dDA_commit_132 : decode c_DA_commit 132 = .ok (.aload_n 0, 1) := by decide +kernel
theorem dDA_commit_133 : decode c_DA_commit 133 = .ok (.getfield 35, 3) := by decide +kernel
theorem dDA_commit_136 : decode c_DA_commit 136 = .ok (.aload_n 1, 1) := by decide +kernel
theorem dDA_commit_137 : decode c_DA_commit 137 = .ok (.getfield 96, 3) := by decide +kernel
theorem dDA_commit_140 : decode c_DA_commit 140 = .ok (.iload 4, 2) := by decide +kernel
theorem dDA_commit_142 : decode c_DA_commit 142 = .ok (.imul, 1) := by decide +kernel
theorem dDA_commit_143 : decode c_DA_commit 143 = .ok (.iload_n 3, 1) := by decide +kernel
theorem dDA_commit_144 : decode c_DA_commit 144 = .ok (.iadd, 1) := by decide +kernel
theorem dDA_commit_145 : decode c_DA_commit 145 = .ok (.aaload, 1) := by decide +kernel
theorem dDA_commit_146 : decode c_DA_commit 146 = .ok (.aload_n 0, 1) := by decide +kernel
theorem dDA_commit_147 : decode c_DA_commit 147 = .ok (.getfield 57, 3) := by decide +kernel
theorem dDA_commit_150 : decode c_DA_commit 150 = .ok (.invokevirtual 205, 3) := by decide +kernel
theorem dDA_commit_153 : decode c_DA_commit 153 = .ok (.iinc 4 1, 3) := by decide +kernel
theorem dDA_commit_156 : decode c_DA_commit 156 = .ok (.goto (-44), 3) := by decide +kernel
theorem dDA_commit_159 : decode c_DA_commit 159 = .ok (.iinc 3 1, 3) := by decide +kernel
theorem dDA_commit_162 : decode c_DA_commit 162 = .ok (.goto (-134), 3) := by decide +kernel
theorem dDA_commit_165 : decode c_DA_commit 165 = .ok (.aload_n 0, 1) := by decide +kernel
theorem dDA_commit_166 : decode c_DA_commit 166 = .ok (.invokevirtual 209, 3) := by decide +kernel
theorem dDA_commit_169 : decode c_DA_commit 169 = .ok (.iconst 0, 1) := by decide +kernel
theorem dDA_commit_170 : decode c_DA_commit 170 = .ok (.istore_n 3, 1) := by decide +kernel
theorem dDA_commit_171 : decode c_DA_commit 171 = .ok (.iload_n 3, 1) := by decide +kernel
theorem dDA_commit_172 : decode c_DA_commit 172 = .ok (.aload_n 1, 1) := by decide +kernel
theorem dDA_commit_173 : decode c_DA_commit 173 = .ok (.getfield 87, 3) := by decide +kernel
theorem dDA_commit_176 : decode c_DA_commit 176 = .ok (.if_icmp .ge 64, 3) := by decide +kernel
theorem dDA_commit_179 : decode c_DA_commit 179 = .ok (.aload_n 0, 1) := by decide +kernel
theorem dDA_commit_180 : decode c_DA_commit 180 = .ok (.getfield 22, 3) := by decide +kernel
theorem dDA_commit_183 : decode c_DA_commit 183 = .ok (.aload_n 0, 1) := by decide +kernel
theorem dDA_commit_184 : decode c_DA_commit 184 = .ok (.getfield 50, 3) := by decide +kernel
theorem dDA_commit_187 : decode c_DA_commit 187 = .ok (.iload_n 3, 1) := by decide +kernel
theorem dDA_commit_188 : decode c_DA_commit 188 = .ok (.aaload, 1) := by decide +kernel
theorem dDA_commit_189 : decode c_DA_commit 189 = .ok (.invokevirtual 130, 3) := by decide +kernel
theorem dDA_commit_192 : decode c_DA_commit 192 = .ok (.iconst 0, 1) := by decide +kernel
theorem dDA_commit_193 : decode c_DA_commit 193 = .ok (.istore 4, 2) := by decide +kernel
theorem dDA_commit_195 : decode c_DA_commit 195 = .ok (.iload 4, 2) := by decide +kernel
theorem dDA_commit_197 : decode c_DA_commit 197 = .ok (.sipush 256, 3) := by decide +kernel
theorem dDA_commit_200 : decode c_DA_commit 200 = .ok (.if_icmp .ge 29, 3) := by decide +kernel
theorem dDA_commit_203 : decode c_DA_commit 203 = .ok (.aload_n 0, 1) := by decide +kernel
theorem dDA_commit_204 : decode c_DA_commit 204 = .ok (.getfield 57, 3) := by decide +kernel
theorem dDA_commit_207 : decode c_DA_commit 207 = .ok (.iload 4, 2) := by decide +kernel
theorem dDA_commit_209 : decode c_DA_commit 209 = .ok (.aload_n 1, 1) := by decide +kernel
theorem dDA_commit_210 : decode c_DA_commit 210 = .ok (.aload_n 0, 1) := by decide +kernel
theorem dDA_commit_211 : decode c_DA_commit 211 = .ok (.getfield 50, 3) := by decide +kernel
theorem dDA_commit_214 : decode c_DA_commit 214 = .ok (.iload_n 3, 1) := by decide +kernel
theorem dDA_commit_215 : decode c_DA_commit 215 = .ok (.aaload, 1) := by decide +kernel
theorem dDA_commit_216 : decode c_DA_commit 216 = .ok (.iload 4, 2) := by decide +kernel
theorem dDA_commit_218 : decode c_DA_commit 218 = .ok (.iaload, 1) := by decide +kernel
theorem dDA_commit_219 : decode c_DA_commit 219 = .ok (.invokevirtual 212, 3) := by decide +kernel
theorem dDA_commit_222 : decode c_DA_commit 222 = .ok (.iastore, 1) := by decide +kernel
theorem dDA_commit_223 : decode c_DA_commit 223 = .ok (.iinc 4 1, 3) := by decide +kernel
theorem dDA_commit_226 : decode c_DA_commit 226 = .ok (.goto (-31), 3) := by decide +kernel
theorem dDA_commit_229 : decode c_DA_commit 229 = .ok (.aload_n 0, 1) := by decide +kernel
theorem dDA_commit_230 : decode c_DA_commit 230 = .ok (.aload_n 1, 1) := by decide +kernel
theorem dDA_commit_231 : decode c_DA_commit 231 = .ok (.invokevirtual 216, 3) := by decide +kernel
theorem dDA_commit_234 : decode c_DA_commit 234 = .ok (.iinc 3 1, 3) := by decide +kernel
theorem dDA_commit_237 : decode c_DA_commit 237 = .ok (.goto (-66), 3) := by decide +kernel
theorem dDA_commit_240 : decode c_DA_commit 240 = .ok (.aload_n 0, 1) := by decide +kernel
theorem dDA_commit_241 : decode c_DA_commit 241 = .ok (.getfield 10, 3) := by decide +kernel
theorem dDA_commit_244 : decode c_DA_commit 244 = .ok (.invokevirtual 99, 3) := by decide +kernel
theorem dDA_commit_247 : decode c_DA_commit 247 = .ok (.aload_n 0, 1) := by decide +kernel
theorem dDA_commit_248 : decode c_DA_commit 248 = .ok (.getfield 10, 3) := by decide +kernel
theorem dDA_commit_251 : decode c_DA_commit 251 = .ok (.aload_n 0, 1) := by decide +kernel
theorem dDA_commit_252 : decode c_DA_commit 252 = .ok (.getfield 67, 3) := by decide +kernel
theorem dDA_commit_255 : decode c_DA_commit 255 = .ok (.iconst 0, 1) := by decide +kernel
theorem dDA_commit_256 : decode c_DA_commit 256 = .ok (.aload_n 1, 1) := by decide +kernel
theorem dDA_commit_257 : decode c_DA_commit 257 = .ok (.getfield 220, 3) := by decide +kernel
theorem dDA_commit_260 : decode c_DA_commit 260 = .ok (.invokevirtual 102, 3) := by decide +kernel
theorem dDA_commit_263 : decode c_DA_commit 263 = .ok (.aload_n 0, 1) := by decide +kernel
theorem dDA_commit_264 : decode c_DA_commit 264 = .ok (.getfield 29, 3) := by decide +kernel
theorem dDA_commit_267 : decode c_DA_commit 267 = .ok (.aload_n 1, 1) := by decide +kernel
theorem dDA_commit_268 : decode c_DA_commit 268 = .ok (.aload_n 0, 1) := by decide +kernel
theorem dDA_commit_269 : decode c_DA_commit 269 = .ok (.getfield 53, 3) := by decide +kernel
theorem dDA_commit_272 : decode c_DA_commit 272 = .ok (.aload_n 0, 1) := by decide +kernel
theorem dDA_commit_273 : decode c_DA_commit 273 = .ok (.getfield 67, 3) := by decide +kernel
theorem dDA_commit_276 : decode c_DA_commit 276 = .ok (.invokevirtual 223, 3) := by decide +kernel
theorem dDA_commit_279 : decode c_DA_commit 279 = .ok (.aload_n 0, 1) := by decide +kernel
theorem dDA_commit_280 : decode c_DA_commit 280 = .ok (.getfield 22, 3) := by decide +kernel
theorem dDA_commit_283 : decode c_DA_commit 283 = .ok (.aload_n 0, 1) := by decide +kernel
theorem dDA_commit_284 : decode c_DA_commit 284 = .ok (.getfield 53, 3) := by decide +kernel
theorem dDA_commit_287 : decode c_DA_commit 287 = .ok (.invokevirtual 119, 3) := by decide +kernel
theorem dDA_commit_290 : decode c_DA_commit 290 = .ok (.return_, 1) := by decide +kernel
abbrev c_DA_makeSignature : ByteArray := prog_3_method_5_code
abbrev y_DA_makeSignature : MethodName := ⟨"LatticeKeys$Dsa", "makeSignature", "(LLatticeKeys$DsaSet;[B[BII[B)I"⟩
abbrev w_DA_makeSignature : List Cond := Cond.code y_DA_makeSignature c_DA_makeSignature 8 (some .int) :: WG
theorem dDA_makeSignature_0 : decode c_DA_makeSignature 0 = .ok (.aload_n 0, 1) := by decide +kernel
theorem dDA_makeSignature_1 : decode c_DA_makeSignature 1 = .ok (.aload_n 1, 1) := by decide +kernel
theorem dDA_makeSignature_2 : decode c_DA_makeSignature 2 = .ok (.aload_n 2, 1) := by decide +kernel
theorem dDA_makeSignature_3 : decode c_DA_makeSignature 3 = .ok (.invokevirtual 161, 3) := by decide +kernel
theorem dDA_makeSignature_6 : decode c_DA_makeSignature 6 = .ok (.aload_n 2, 1) := by decide +kernel
theorem dDA_makeSignature_7 : decode c_DA_makeSignature 7 = .ok (.bipush 64, 2) := by decide +kernel
theorem dDA_makeSignature_9 : decode c_DA_makeSignature 9 = .ok (.aload_n 0, 1) := by decide +kernel
theorem dDA_makeSignature_10 : decode c_DA_makeSignature 10 = .ok (.getfield 64, 3) := by decide +kernel
theorem dDA_makeSignature_13 : decode c_DA_makeSignature 13 = .ok (.iconst 0, 1) := by decide +kernel
theorem dDA_makeSignature_14 : decode c_DA_makeSignature 14 = .ok (.bipush 64, 2) := by decide +kernel
theorem dDA_makeSignature_16 : decode c_DA_makeSignature 16 = .ok (.invokestatic 105, 3) := by decide +kernel
theorem dDA_makeSignature_19 : decode c_DA_makeSignature 19 = .ok (.aload_n 0, 1) := by decide +kernel
theorem dDA_makeSignature_20 : decode c_DA_makeSignature 20 = .ok (.aload_n 3, 1) := by decide +kernel
theorem dDA_makeSignature_21 : decode c_DA_makeSignature 21 = .ok (.bipush 32, 2) := by decide +kernel
theorem dDA_makeSignature_23 : decode c_DA_makeSignature 23 = .ok (.iload 4, 2) := by decide +kernel
theorem dDA_makeSignature_25 : decode c_DA_makeSignature 25 = .ok (.iload 5, 2) := by decide +kernel
theorem dDA_makeSignature_27 : decode c_DA_makeSignature 27 = .ok (.invokevirtual 164, 3) := by decide +kernel
theorem dDA_makeSignature_30 : decode c_DA_makeSignature 30 = .ok (.aload_n 0, 1) := by decide +kernel
theorem dDA_makeSignature_31 : decode c_DA_makeSignature 31 = .ok (.getfield 10, 3) := by decide +kernel
theorem dDA_makeSignature_34 : decode c_DA_makeSignature 34 = .ok (.iconst 3, 1) := by decide +kernel
theorem dDA_makeSignature_35 : decode c_DA_makeSignature 35 = .ok (.invokevirtual 79, 3) := by decide +kernel
theorem dDA_makeSignature_38 : decode c_DA_makeSignature 38 = .ok (.aload_n 0, 1) := by decide +kernel
theorem dDA_makeSignature_39 : decode c_DA_makeSignature 39 = .ok (.getfield 10, 3) := by decide +kernel
theorem dDA_makeSignature_42 : decode c_DA_makeSignature 42 = .ok (.aload_n 2, 1) := by decide +kernel
theorem dDA_makeSignature_43 : decode c_DA_makeSignature 43 = .ok (.bipush 32, 2) := by decide +kernel
theorem dDA_makeSignature_45 : decode c_DA_makeSignature 45 = .ok (.bipush 32, 2) := by decide +kernel
theorem dDA_makeSignature_47 : decode c_DA_makeSignature 47 = .ok (.invokevirtual 83, 3) := by decide +kernel
theorem dDA_makeSignature_50 : decode c_DA_makeSignature 50 = .ok (.aload_n 0, 1) := by decide +kernel
theorem dDA_makeSignature_51 : decode c_DA_makeSignature 51 = .ok (.getfield 10, 3) := by decide +kernel
theorem dDA_makeSignature_54 : decode c_DA_makeSignature 54 = .ok (.aload_n 3, 1) := by decide +kernel
theorem dDA_makeSignature_55 : decode c_DA_makeSignature 55 = .ok (.iconst 0, 1) := by decide +kernel
theorem dDA_makeSignature_56 : decode c_DA_makeSignature 56 = .ok (.bipush 32, 2) := by decide +kernel
theorem dDA_makeSignature_58 : decode c_DA_makeSignature 58 = .ok (.invokevirtual 83, 3) := by decide +kernel
theorem dDA_makeSignature_61 : decode c_DA_makeSignature 61 = .ok (.aload_n 0, 1) := by decide +kernel
theorem dDA_makeSignature_62 : decode c_DA_makeSignature 62 = .ok (.getfield 10, 3) := by decide +kernel
theorem dDA_makeSignature_65 : decode c_DA_makeSignature 65 = .ok (.aload_n 0, 1) := by decide +kernel
theorem dDA_makeSignature_66 : decode c_DA_makeSignature 66 = .ok (.getfield 64, 3) := by decide +kernel
theorem dDA_makeSignature_69 : decode c_DA_makeSignature 69 = .ok (.iconst 0, 1) := by decide +kernel
theorem dDA_makeSignature_70 : decode c_DA_makeSignature 70 = .ok (.bipush 64, 2) := by decide +kernel
theorem dDA_makeSignature_72 : decode c_DA_makeSignature 72 = .ok (.invokevirtual 83, 3) := by decide +kernel
theorem dDA_makeSignature_75 : decode c_DA_makeSignature 75 = .ok (.aload_n 0, 1) := by decide +kernel
theorem dDA_makeSignature_76 : decode c_DA_makeSignature 76 = .ok (.getfield 10, 3) := by decide +kernel
theorem dDA_makeSignature_79 : decode c_DA_makeSignature 79 = .ok (.invokevirtual 99, 3) := by decide +kernel
theorem dDA_makeSignature_82 : decode c_DA_makeSignature 82 = .ok (.aload_n 0, 1) := by decide +kernel
theorem dDA_makeSignature_83 : decode c_DA_makeSignature 83 = .ok (.getfield 10, 3) := by decide +kernel
theorem dDA_makeSignature_86 : decode c_DA_makeSignature 86 = .ok (.aload_n 0, 1) := by decide +kernel
theorem dDA_makeSignature_87 : decode c_DA_makeSignature 87 = .ok (.getfield 60, 3) := by decide +kernel
theorem dDA_makeSignature_90 : decode c_DA_makeSignature 90 = .ok (.iconst 0, 1) := by decide +kernel
theorem dDA_makeSignature_91 : decode c_DA_makeSignature 91 = .ok (.bipush 64, 2) := by decide +kernel
theorem dDA_makeSignature_93 : decode c_DA_makeSignature 93 = .ok (.invokevirtual 102, 3) := by decide +kernel
theorem dDA_makeSignature_96 : decode c_DA_makeSignature 96 = .ok (.iconst 1, 1) := by decide +kernel
theorem dDA_makeSignature_97 : decode c_DA_makeSignature 97 = .ok (.istore 7, 2) := by decide +kernel
theorem dDA_makeSignature_99 : decode c_DA_makeSignature 99 = .ok (.iload 7, 2) := by decide +kernel
theorem dDA_makeSignature_101 : decode c_DA_makeSignature 101 = .ok (.sipush 200, 3) := by decide +kernel
theorem dDA_makeSignature_104 : decode c_DA_makeSignature 104 = .ok (.if_icmp .gt 57, 3) := by decide +kernel
theorem dDA_makeSignature_107 : decode c_DA_makeSignature 107 = .ok (.aload_n 0, 1) := by decide +kernel
theorem dDA_makeSignature_108 : decode c_DA_makeSignature 108 = .ok (.aload_n 1, 1) := by decide +kernel
theorem dDA_makeSignature_109 : decode c_DA_makeSignature 109 = .ok (.aload_n 1, 1) := by decide +kernel
theorem dDA_makeSignature_110 : decode c_DA_makeSignature 110 = .ok (.getfield 96, 3) := by decide +kernel
theorem dDA_makeSignature_113 : decode c_DA_makeSignature 113 = .ok (.iload 7, 2) := by decide +kernel
theorem dDA_makeSignature_115 : decode c_DA_makeSignature 115 = .ok (.iconst 1, 1) := by decide +kernel
theorem dDA_makeSignature_116 : decode c_DA_makeSignature 116 = .ok (.isub, 1) := by decide +kernel
theorem dDA_makeSignature_117 : decode c_DA_makeSignature 117 = .ok (.imul, 1) := by decide +kernel
theorem dDA_makeSignature_118 : decode c_DA_makeSignature 118 = .ok (.invokevirtual 168, 3) := by decide +kernel
theorem dDA_makeSignature_121 : decode c_DA_makeSignature 121 = .ok (.aload_n 0, 1) := by decide +kernel
theorem dDA_makeSignature_122 : decode c_DA_makeSignature 122 = .ok (.aload_n 1, 1) := by decide +kernel
theorem dDA_makeSignature_123 : decode c_DA_makeSignature 123 = .ok (.invokevirtual 172, 3) := by decide +kernel
theorem dDA_makeSignature_126 : decode c_DA_makeSignature 126 = .ok (.ifCond .eq 29, 3) := by decide +kernel
theorem dDA_makeSignature_129 : decode c_DA_makeSignature 129 = .ok (.aload_n 0, 1) := by decide +kernel
theorem dDA_makeSignature_130 : decode c_DA_makeSignature 130 = .ok (.aload_n 1, 1) := by decide +kernel
theorem dDA_makeSignature_131 : decode c_DA_makeSignature 131 = .ok (.invokevirtual 176, 3) := by decide +kernel
theorem dDA_makeSignature_134 : decode c_DA_makeSignature 134 = .ok (.ifCond .eq 21, 3) := by decide +kernel
theorem dDA_makeSignature_137 : decode c_DA_makeSignature 137 = .ok (.aload_n 0, 1) := by decide +kernel
theorem dDA_makeSignature_138 : decode c_DA_makeSignature 138 = .ok (.aload_n 1, 1) := by decide +kernel
theorem dDA_makeSignature_139 : decode c_DA_makeSignature 139 = .ok (.invokevirtual 179, 3) := by decide +kernel
theorem dDA_makeSignature_142 : decode c_DA_makeSignature 142 = .ok (.ifCond .eq 13, 3) := by decide +kernel
theorem dDA_makeSignature_145 : decode c_DA_makeSignature 145 = .ok (.aload_n 0, 1) := by decide +kernel
theorem dDA_makeSignature_146 : decode c_DA_makeSignature 146 = .ok (.aload_n 1, 1) := by decide +kernel
theorem dDA_makeSignature_147 : decode c_DA_makeSignature 147 = .ok (.aload 6, 2) := by decide +kernel
theorem dDA_makeSignature_149 : decode c_DA_makeSignature 149 = .ok (.invokevirtual 182, 3) := by decide +kernel
theorem dDA_makeSignature_152 : decode c_DA_makeSignature 152 = .ok (.iload 7, 2) := by decide +kernel
theorem dDA_makeSignature_154 : decode c_DA_makeSignature 154 = .ok (.ireturn, 1) := by decide +kernel
theorem dDA_makeSignature_155 : decode c_DA_makeSignature 155 = .ok (.iinc 7 1, 3) := by decide +kernel
theorem dDA_makeSignature_158 : decode c_DA_makeSignature 158 = .ok (.goto (-59), 3) := by decide +kernel
theorem dDA_makeSignature_161 : decode c_DA_makeSignature 161 = .ok (.iconst 0, 1) := by decide +kernel
theorem dDA_makeSignature_162 : decode c_DA_makeSignature 162 = .ok (.ireturn, 1) := by decide +kernel
set_option maxHeartbeats 400000 in
set_option maxRecDepth 100000 in
theorem t_DA_answerIsShort_0 (l : Launch) (g : Gd) (sz : Nat) (T : Ty) (xs : List Nat) (pl : va_W) (hO : okx g T xs pl) (hU : uni T) (hc0 : clo T xs 0) (h0 st : Nat) (k_h0 : T h0 = some (15, 0)) (k_st : T st = some (43, 0))  : Met l y_DA_answerIsShort w_DA_answerIsShort ({ frames := 3, cells := 0, slots := 0, locals := 74 } : Room) (va_Pc [.ref h0, .ref st] (pr (en g) g.1 vcl sz ([] ++ pl))) (va_Qi (fun (r : Int32) (u : va_W) => (r = nI 0 ∨ r = nI 1) ∧ okx g T xs u) (po g.1 vcl (va_A ([] ++ pl) sz) (fun (u : va_W) => [] ++ u)) (va_A ([] ++ pl) sz)) 0 0 (va_A ([] ++ pl) sz) := by
  refine mc_entry (cc := c_DA_answerIsShort) (maxL := 3) (ret := (some .boolean)) (by decide) rfl (Nat.le_of_ble_eq_true rfl) ?_
  intro p e s m args below meth c ls F hr hlk hnm hsz hP hD hE hA hl
  obtain ⟨hx, hb, hml, hown, hts⟩ := id F
  have hK := hE.1
  generalize va_A ([] ++ pl) sz = A at hD hE hA ⊢
  have hS : va_S A s.heap s.heap [] := va_S.rf
  have hl : lv_has ls 3 [(0, .ref h0), (1, .ref st)] := hl
  refine lv_iconst (v := nI 0) hx hb dDA_answerIsShort_0 (by decide) ?_
  refine lv_istore_n (lv' := [(2, .int (nI 0)), (0, .ref h0), (1, .ref st)]) hx hb dDA_answerIsShort_1 rfl hl (by decide) rfl (fun ls hl => ?_)
  have lp21 : ∀ (n21 : Nat) (i21 : Nat) (pl : va_W) (ls : Array Slot) (H : Heap) (locs : List Loc), n21 + i21 = 4 → lv_has ls 3 [(2, .int (nI i21)), (0, .ref h0), (1, .ref st)] → okx g T xs pl → va_P g.1 vcl ([] ++ pl) H → va_D A ([] ++ pl) → va_S A s.heap H locs → W p l e ({ frames := 3, cells := 0, slots := 0, locals := 74 } : Room) s m args below meth c H locs 0 0 (MQ below (va_Qi (fun (r : Int32) (u : va_W) => (r = nI 0 ∨ r = nI 1) ∧ okx g T xs u) (po g.1 vcl A (fun (u : va_W) => [] ++ u)) A) args s 0 0 A) (F0 m 2 ls []) := by
    intro n21
    induction n21 with
    | zero =>
      intro i21 pl ls H locs hm21  hl hO hP hD hS
      refine lv_iload_n hx hb dDA_answerIsShort_2 rfl (lv_at hl 0 rfl) ?_
      refine lv_aload_n hx hb dDA_answerIsShort_3 rfl (lv_at hl 2 rfl) ?_
      refine ty_get (ci := 2) (C := "LatticeKeys$DsaSet") (TT := T_DS) (N := 17) (kd := (43, 0)) hx hb hts (wg_ft i_DS) hown hK hO k_st (nxg hc0 k_st rfl) hP (fun _ h9 => h9) rfl 1 (by decide) (hts _ (wg_t kw_305)) (fun _ h9 => h9) (cd := (1, 0, 4)) rfl dDA_answerIsShort_4 (fun v21 hv21 => ?_)
      obtain rfl := (show v21 = .int (nI 4) from hv21)
      refine mi_ge (tgt := 70) hx hb dDA_answerIsShort_7 (by decide) (by omega) (by omega) (fun h21 => ?_) (fun h21 => absurd h21 (by omega))
      refine lv_iconst (v := nI 1) hx hb dDA_answerIsShort_70 (by decide) ?_
      exact mp_zret hx hb hr hlk rfl hP hD hS pl ⟨(Or.inr rfl), hO⟩ [] rfl rfl rfl (by omega) (by omega) dDA_answerIsShort_71
    | succ n21 ih21 =>
      intro i21 pl ls H locs hm21  hl hO hP hD hS
      refine lv_iload_n hx hb dDA_answerIsShort_2 rfl (lv_at hl 0 rfl) ?_
      refine lv_aload_n hx hb dDA_answerIsShort_3 rfl (lv_at hl 2 rfl) ?_
      refine ty_get (ci := 2) (C := "LatticeKeys$DsaSet") (TT := T_DS) (N := 17) (kd := (43, 0)) hx hb hts (wg_ft i_DS) hown hK hO k_st (nxg hc0 k_st rfl) hP (fun _ h9 => h9) rfl 1 (by decide) (hts _ (wg_t kw_305)) (fun _ h9 => h9) (cd := (1, 0, 4)) rfl dDA_answerIsShort_4 (fun v22 hv22 => ?_)
      obtain rfl := (show v22 = .int (nI 4) from hv22)
      refine mi_ge (tgt := 70) hx hb dDA_answerIsShort_7 (by decide) (by omega) (by omega) (fun h22 => absurd h22 (by omega)) (fun h22 => ?_)
      refine lv_aload_n hx hb dDA_answerIsShort_10 rfl (lv_at hl 1 rfl) ?_
      refine lv_aload_n hx hb dDA_answerIsShort_11 rfl (lv_at hl 1 rfl) ?_
      refine ty_get (ci := 6) (C := "LatticeKeys$Dsa") (TT := T_DA) (N := 17) (kd := (15, 0)) hx hb hts (wg_ft i_DA) hown hK hO k_h0 (nxg hc0 k_h0 rfl) hP (fun _ h9 => h9) rfl 4 (by decide) (hts _ (wg_t kw_169)) (fun _ h9 => h9) (cd := (3, 3, 7)) rfl dDA_answerIsShort_12 (fun v23 hv23 => ?_)
      obtain ⟨r21, rfl, kr21⟩ := (show ∃ r : Nat, v23 = .ref r ∧ T r = some (3, 7) from hv23)
      refine lv_iload_n hx hb dDA_answerIsShort_15 rfl (lv_at hl 0 rfl) ?_
      refine ty_aald3 hx hb hK hO kr21 (nxg hc0 kr21 rfl) hP (by omega) (by decide) dDA_answerIsShort_16 (fun r22 kr22 => ?_)
      refine mp_v (cx := []) (wr := []) hP hD hS hA [] [] rfl rfl rfl (by decide) (va_runV (As := [.ref r22]) (rest := []) F (t_DA_multiplyBall l g _ T xs pl hO hU hc0 h0 r22 k_h0 kr22) (cwV 1 hts (wg_app (wg_c kw_1224 (wg_c kw_1226 (wg_c ks_41 (wg_c kw_5 wg_n)))) kw_1227) rfl rfl rfl (by decide +kernel) ⟨by decide, by decide⟩) (pp_VT (en_ok g) (ci := 6) (kd := (15, 0)) hK hO k_h0 (nxg hc0 k_h0 rfl) (fun _ h9 => ko1 h9) hP hD hS hA hE [] rfl rfl rfl) rfl rfl hl.1 rfl (lv_room (Nat.le_of_ble_eq_true rfl)) dDA_answerIsShort_17 ⟨by omega, by omega⟩) (fun  pl H locs hu21 hP hD hS => ?_)
      obtain ⟨hq21, hO⟩ := hu21
      have hP : va_P g.1 vcl ([] ++ pl) _ := hP
      have hD : va_D _ ([] ++ pl) := hD
      refine W.widen (k := 0) (n := 0) (by omega) (by omega) ?_
      refine lv_aload_n hx hb dDA_answerIsShort_20 rfl (lv_at hl 1 rfl) ?_
      refine ty_get (ci := 6) (C := "LatticeKeys$Dsa") (TT := T_DA) (N := 17) (kd := (15, 0)) hx hb hts (wg_ft i_DA) hown hK hO k_h0 (nxg hc0 k_h0 rfl) hP (fun _ h9 => h9) rfl 1 (by decide) (hts _ (wg_t kw_166)) (fun _ h9 => h9) (cd := (3, 12, 0)) rfl dDA_answerIsShort_21 (fun v24 hv24 => ?_)
      obtain ⟨r23, rfl, kr23⟩ := (show ∃ r : Nat, v24 = .ref r ∧ T r = some (12, 0) from hv24)
      refine lv_aload_n hx hb dDA_answerIsShort_24 rfl (lv_at hl 1 rfl) ?_
      refine ty_get (ci := 6) (C := "LatticeKeys$Dsa") (TT := T_DA) (N := 17) (kd := (15, 0)) hx hb hts (wg_ft i_DA) hown hK hO k_h0 (nxg hc0 k_h0 rfl) hP (fun _ h9 => h9) rfl 7 (by decide) (hts _ (wg_t kw_172)) (fun _ h9 => h9) (cd := (3, 3, 7)) rfl dDA_answerIsShort_25 (fun v25 hv25 => ?_)
      obtain ⟨r24, rfl, kr24⟩ := (show ∃ r : Nat, v25 = .ref r ∧ T r = some (3, 7) from hv25)
      refine lv_iload_n hx hb dDA_answerIsShort_28 rfl (lv_at hl 0 rfl) ?_
      refine ty_aald3 hx hb hK hO kr24 (nxg hc0 kr24 rfl) hP (by omega) (by decide) dDA_answerIsShort_29 (fun r25 kr25 => ?_)
      refine lv_aload_n hx hb dDA_answerIsShort_30 rfl (lv_at hl 1 rfl) ?_
      refine ty_get (ci := 6) (C := "LatticeKeys$Dsa") (TT := T_DA) (N := 17) (kd := (15, 0)) hx hb hts (wg_ft i_DA) hown hK hO k_h0 (nxg hc0 k_h0 rfl) hP (fun _ h9 => h9) rfl 10 (by decide) (hts _ (wg_t kw_175)) (fun _ h9 => h9) (cd := (3, 0, 256)) rfl dDA_answerIsShort_31 (fun v26 hv26 => ?_)
      obtain ⟨r26, rfl, kr26⟩ := (show ∃ r : Nat, v26 = .ref r ∧ T r = some (0, 256) from hv26)
      refine mp_v (cx := []) (wr := []) hP hD hS hA [] [] rfl rfl rfl (by decide) (va_runV (As := [.ref r25, .ref r26]) (rest := []) F (t_RG_add_12 l g _ T xs pl hO hU hc0 r23 r25 r26 kr23 kr25 kr26) (cwV 2 hts (wg_app (wg_c kw_728 (wg_c kw_729 (wg_c kw_730 (wg_c kw_4 wg_n)))) kw_731) rfl rfl rfl (by decide +kernel) ⟨by decide, by decide⟩) (pp_VT (en_ok g) (ci := 4) (kd := (12, 0)) hK hO kr23 (nxg hc0 kr23 rfl) (fun _ h9 => ko1 h9) hP hD hS hA hE [] rfl rfl rfl) rfl rfl hl.1 rfl (lv_room (Nat.le_of_ble_eq_true rfl)) dDA_answerIsShort_34 ⟨by omega, by omega⟩) (fun  pl H locs hu22 hP hD hS => ?_)
      obtain ⟨hq22, hO⟩ := hu22
      have hP : va_P g.1 vcl ([] ++ pl) _ := hP
      have hD : va_D _ ([] ++ pl) := hD
      refine W.widen (k := 0) (n := 0) (by omega) (by omega) ?_
      refine lv_aload_n hx hb dDA_answerIsShort_37 rfl (lv_at hl 1 rfl) ?_
      refine ty_get (ci := 6) (C := "LatticeKeys$Dsa") (TT := T_DA) (N := 17) (kd := (15, 0)) hx hb hts (wg_ft i_DA) hown hK hO k_h0 (nxg hc0 k_h0 rfl) hP (fun _ h9 => h9) rfl 1 (by decide) (hts _ (wg_t kw_166)) (fun _ h9 => h9) (cd := (3, 12, 0)) rfl dDA_answerIsShort_38 (fun v27 hv27 => ?_)
      obtain ⟨r27, rfl, kr27⟩ := (show ∃ r : Nat, v27 = .ref r ∧ T r = some (12, 0) from hv27)
      refine lv_aload_n hx hb dDA_answerIsShort_41 rfl (lv_at hl 1 rfl) ?_
      refine ty_get (ci := 6) (C := "LatticeKeys$Dsa") (TT := T_DA) (N := 17) (kd := (15, 0)) hx hb hts (wg_ft i_DA) hown hK hO k_h0 (nxg hc0 k_h0 rfl) hP (fun _ h9 => h9) rfl 7 (by decide) (hts _ (wg_t kw_172)) (fun _ h9 => h9) (cd := (3, 3, 7)) rfl dDA_answerIsShort_42 (fun v28 hv28 => ?_)
      obtain ⟨r28, rfl, kr28⟩ := (show ∃ r : Nat, v28 = .ref r ∧ T r = some (3, 7) from hv28)
      refine lv_iload_n hx hb dDA_answerIsShort_45 rfl (lv_at hl 0 rfl) ?_
      refine ty_aald3 hx hb hK hO kr28 (nxg hc0 kr28 rfl) hP (by omega) (by decide) dDA_answerIsShort_46 (fun r29 kr29 => ?_)
      refine lv_aload_n hx hb dDA_answerIsShort_47 rfl (lv_at hl 2 rfl) ?_
      refine ty_get (ci := 2) (C := "LatticeKeys$DsaSet") (TT := T_DS) (N := 17) (kd := (43, 0)) hx hb hts (wg_ft i_DS) hown hK hO k_st (nxg hc0 k_st rfl) hP (fun _ h9 => h9) rfl 7 (by decide) (hts _ (wg_t kw_320)) (fun _ h9 => h9) (cd := (1, 0, 131072)) rfl dDA_answerIsShort_48 (fun v29 hv29 => ?_)
      obtain rfl := (show v29 = .int (nI 131072) from hv29)
      refine lv_aload_n hx hb dDA_answerIsShort_51 rfl (lv_at hl 2 rfl) ?_
      refine ty_get (ci := 2) (C := "LatticeKeys$DsaSet") (TT := T_DS) (N := 17) (kd := (43, 0)) hx hb hts (wg_ft i_DS) hown hK hO k_st (nxg hc0 k_st rfl) hP (fun _ h9 => h9) rfl 12 (by decide) (hts _ (wg_t kw_329)) (fun _ h9 => h9) (cd := (1, 0, 78)) rfl dDA_answerIsShort_52 (fun v30 hv30 => ?_)
      obtain rfl := (show v30 = .int (nI 78) from hv30)
      refine mi_isub hx hb dDA_answerIsShort_55 (by omega) ?_
      refine mi_as (show nI (131072 - 78) = nI 130994 from rfl) ?_
      refine mp_i (cx := []) (wr := []) hP hD hS hA [] [] rfl rfl rfl (by decide) (va_runV (As := [.ref r29, .int (nI 130994)]) (rest := []) F (t_RG_isShort_12 l g _ T xs pl hO hU hc0 r27 r29 (nI 130994) kr27 kr29) (cwV 2 hts (wg_app (wg_c kw_1228 (wg_c kw_1229 (wg_c kw_1230 (wg_c kw_4 wg_n)))) kw_1231) rfl rfl rfl (by decide +kernel) ⟨by decide, by decide⟩) (pp_VT (en_ok g) (ci := 4) (kd := (12, 0)) hK hO kr27 (nxg hc0 kr27 rfl) (fun _ h9 => ko1 h9) hP hD hS hA hE [] rfl rfl rfl) rfl rfl hl.1 rfl (lv_room (Nat.le_of_ble_eq_true rfl)) dDA_answerIsShort_56 ⟨by omega, by omega⟩) (fun r30 pl H locs hu23 hP hD hS => ?_)
      obtain ⟨hq23, hO⟩ := hu23
      have hP : va_P g.1 vcl ([] ++ pl) _ := hP
      have hD : va_D _ ([] ++ pl) := hD
      refine W.widen (k := 0) (n := 0) (by omega) (by omega) ?_
      refine lv_if_ne (tgt := 64) hx hb dDA_answerIsShort_59 (by decide) (fun h23 => ?_) (fun h23 => ?_)
      · refine mi_iinc (k := 0) (x := i21) (d := 1) (y := i21 + 1) (lv' := [(2, .int (nI (i21 + 1))), (0, .ref h0), (1, .ref st)]) hx hb dDA_answerIsShort_64 hl rfl (by decide) rfl (by decide) rfl (fun ls hl => ?_)
        refine lv_goto (tgt := 2) hx hb dDA_answerIsShort_67 (by decide) ?_
        exact ih21 (i21 + 1) pl ls H locs (by omega) (lv_sub hl [0, 1, 2] rfl) hO hP hD hS
      · refine lv_iconst (v := nI 0) hx hb dDA_answerIsShort_62 (by decide) ?_
        exact mp_zret hx hb hr hlk rfl hP hD hS pl ⟨(Or.inl rfl), hO⟩ [] rfl rfl rfl (by omega) (by omega) dDA_answerIsShort_63
  exact lp21 4 0 pl ls _ _ (by omega) (lv_sub hl [0, 1, 2] rfl) hO hP hD hS
set_option maxHeartbeats 400000 in
set_option maxRecDepth 100000 in
theorem t_DA_answerIsShort_1 (l : Launch) (g : Gd) (sz : Nat) (T : Ty) (xs : List Nat) (pl : va_W) (hO : okx g T xs pl) (hU : uni T) (hc0 : clo T xs 0) (h0 st : Nat) (k_h0 : T h0 = some (15, 0)) (k_st : T st = some (44, 0))  : Met l y_DA_answerIsShort w_DA_answerIsShort ({ frames := 3, cells := 0, slots := 0, locals := 74 } : Room) (va_Pc [.ref h0, .ref st] (pr (en g) g.1 vcl sz ([] ++ pl))) (va_Qi (fun (r : Int32) (u : va_W) => (r = nI 0 ∨ r = nI 1) ∧ okx g T xs u) (po g.1 vcl (va_A ([] ++ pl) sz) (fun (u : va_W) => [] ++ u)) (va_A ([] ++ pl) sz)) 0 0 (va_A ([] ++ pl) sz) := by
  refine mc_entry (cc := c_DA_answerIsShort) (maxL := 3) (ret := (some .boolean)) (by decide) rfl (Nat.le_of_ble_eq_true rfl) ?_
  intro p e s m args below meth c ls F hr hlk hnm hsz hP hD hE hA hl
  obtain ⟨hx, hb, hml, hown, hts⟩ := id F
  have hK := hE.1
  generalize va_A ([] ++ pl) sz = A at hD hE hA ⊢
  have hS : va_S A s.heap s.heap [] := va_S.rf
  have hl : lv_has ls 3 [(0, .ref h0), (1, .ref st)] := hl
  refine lv_iconst (v := nI 0) hx hb dDA_answerIsShort_0 (by decide) ?_
  refine lv_istore_n (lv' := [(2, .int (nI 0)), (0, .ref h0), (1, .ref st)]) hx hb dDA_answerIsShort_1 rfl hl (by decide) rfl (fun ls hl => ?_)
  have lp21 : ∀ (n21 : Nat) (i21 : Nat) (pl : va_W) (ls : Array Slot) (H : Heap) (locs : List Loc), n21 + i21 = 5 → lv_has ls 3 [(2, .int (nI i21)), (0, .ref h0), (1, .ref st)] → okx g T xs pl → va_P g.1 vcl ([] ++ pl) H → va_D A ([] ++ pl) → va_S A s.heap H locs → W p l e ({ frames := 3, cells := 0, slots := 0, locals := 74 } : Room) s m args below meth c H locs 0 0 (MQ below (va_Qi (fun (r : Int32) (u : va_W) => (r = nI 0 ∨ r = nI 1) ∧ okx g T xs u) (po g.1 vcl A (fun (u : va_W) => [] ++ u)) A) args s 0 0 A) (F0 m 2 ls []) := by
    intro n21
    induction n21 with
    | zero =>
      intro i21 pl ls H locs hm21  hl hO hP hD hS
      refine lv_iload_n hx hb dDA_answerIsShort_2 rfl (lv_at hl 0 rfl) ?_
      refine lv_aload_n hx hb dDA_answerIsShort_3 rfl (lv_at hl 2 rfl) ?_
      refine ty_get (ci := 2) (C := "LatticeKeys$DsaSet") (TT := T_DS) (N := 17) (kd := (44, 0)) hx hb hts (wg_ft i_DS) hown hK hO k_st (nxg hc0 k_st rfl) hP (fun _ h9 => h9) rfl 1 (by decide) (hts _ (wg_t kw_305)) (fun _ h9 => h9) (cd := (1, 0, 5)) rfl dDA_answerIsShort_4 (fun v21 hv21 => ?_)
      obtain rfl := (show v21 = .int (nI 5) from hv21)
      refine mi_ge (tgt := 70) hx hb dDA_answerIsShort_7 (by decide) (by omega) (by omega) (fun h21 => ?_) (fun h21 => absurd h21 (by omega))
      refine lv_iconst (v := nI 1) hx hb dDA_answerIsShort_70 (by decide) ?_
      exact mp_zret hx hb hr hlk rfl hP hD hS pl ⟨(Or.inr rfl), hO⟩ [] rfl rfl rfl (by omega) (by omega) dDA_answerIsShort_71
    | succ n21 ih21 =>
      intro i21 pl ls H locs hm21  hl hO hP hD hS
      refine lv_iload_n hx hb dDA_answerIsShort_2 rfl (lv_at hl 0 rfl) ?_
      refine lv_aload_n hx hb dDA_answerIsShort_3 rfl (lv_at hl 2 rfl) ?_
      refine ty_get (ci := 2) (C := "LatticeKeys$DsaSet") (TT := T_DS) (N := 17) (kd := (44, 0)) hx hb hts (wg_ft i_DS) hown hK hO k_st (nxg hc0 k_st rfl) hP (fun _ h9 => h9) rfl 1 (by decide) (hts _ (wg_t kw_305)) (fun _ h9 => h9) (cd := (1, 0, 5)) rfl dDA_answerIsShort_4 (fun v22 hv22 => ?_)
      obtain rfl := (show v22 = .int (nI 5) from hv22)
      refine mi_ge (tgt := 70) hx hb dDA_answerIsShort_7 (by decide) (by omega) (by omega) (fun h22 => absurd h22 (by omega)) (fun h22 => ?_)
      refine lv_aload_n hx hb dDA_answerIsShort_10 rfl (lv_at hl 1 rfl) ?_
      refine lv_aload_n hx hb dDA_answerIsShort_11 rfl (lv_at hl 1 rfl) ?_
      refine ty_get (ci := 6) (C := "LatticeKeys$Dsa") (TT := T_DA) (N := 17) (kd := (15, 0)) hx hb hts (wg_ft i_DA) hown hK hO k_h0 (nxg hc0 k_h0 rfl) hP (fun _ h9 => h9) rfl 4 (by decide) (hts _ (wg_t kw_169)) (fun _ h9 => h9) (cd := (3, 3, 7)) rfl dDA_answerIsShort_12 (fun v23 hv23 => ?_)
      obtain ⟨r21, rfl, kr21⟩ := (show ∃ r : Nat, v23 = .ref r ∧ T r = some (3, 7) from hv23)
      refine lv_iload_n hx hb dDA_answerIsShort_15 rfl (lv_at hl 0 rfl) ?_
      refine ty_aald3 hx hb hK hO kr21 (nxg hc0 kr21 rfl) hP (by omega) (by decide) dDA_answerIsShort_16 (fun r22 kr22 => ?_)
      refine mp_v (cx := []) (wr := []) hP hD hS hA [] [] rfl rfl rfl (by decide) (va_runV (As := [.ref r22]) (rest := []) F (t_DA_multiplyBall l g _ T xs pl hO hU hc0 h0 r22 k_h0 kr22) (cwV 1 hts (wg_app (wg_c kw_1224 (wg_c kw_1226 (wg_c ks_41 (wg_c kw_5 wg_n)))) kw_1227) rfl rfl rfl (by decide +kernel) ⟨by decide, by decide⟩) (pp_VT (en_ok g) (ci := 6) (kd := (15, 0)) hK hO k_h0 (nxg hc0 k_h0 rfl) (fun _ h9 => ko1 h9) hP hD hS hA hE [] rfl rfl rfl) rfl rfl hl.1 rfl (lv_room (Nat.le_of_ble_eq_true rfl)) dDA_answerIsShort_17 ⟨by omega, by omega⟩) (fun  pl H locs hu21 hP hD hS => ?_)
      obtain ⟨hq21, hO⟩ := hu21
      have hP : va_P g.1 vcl ([] ++ pl) _ := hP
      have hD : va_D _ ([] ++ pl) := hD
      refine W.widen (k := 0) (n := 0) (by omega) (by omega) ?_
      refine lv_aload_n hx hb dDA_answerIsShort_20 rfl (lv_at hl 1 rfl) ?_
      refine ty_get (ci := 6) (C := "LatticeKeys$Dsa") (TT := T_DA) (N := 17) (kd := (15, 0)) hx hb hts (wg_ft i_DA) hown hK hO k_h0 (nxg hc0 k_h0 rfl) hP (fun _ h9 => h9) rfl 1 (by decide) (hts _ (wg_t kw_166)) (fun _ h9 => h9) (cd := (3, 12, 0)) rfl dDA_answerIsShort_21 (fun v24 hv24 => ?_)
      obtain ⟨r23, rfl, kr23⟩ := (show ∃ r : Nat, v24 = .ref r ∧ T r = some (12, 0) from hv24)
      refine lv_aload_n hx hb dDA_answerIsShort_24 rfl (lv_at hl 1 rfl) ?_
      refine ty_get (ci := 6) (C := "LatticeKeys$Dsa") (TT := T_DA) (N := 17) (kd := (15, 0)) hx hb hts (wg_ft i_DA) hown hK hO k_h0 (nxg hc0 k_h0 rfl) hP (fun _ h9 => h9) rfl 7 (by decide) (hts _ (wg_t kw_172)) (fun _ h9 => h9) (cd := (3, 3, 7)) rfl dDA_answerIsShort_25 (fun v25 hv25 => ?_)
      obtain ⟨r24, rfl, kr24⟩ := (show ∃ r : Nat, v25 = .ref r ∧ T r = some (3, 7) from hv25)
      refine lv_iload_n hx hb dDA_answerIsShort_28 rfl (lv_at hl 0 rfl) ?_
      refine ty_aald3 hx hb hK hO kr24 (nxg hc0 kr24 rfl) hP (by omega) (by decide) dDA_answerIsShort_29 (fun r25 kr25 => ?_)
      refine lv_aload_n hx hb dDA_answerIsShort_30 rfl (lv_at hl 1 rfl) ?_
      refine ty_get (ci := 6) (C := "LatticeKeys$Dsa") (TT := T_DA) (N := 17) (kd := (15, 0)) hx hb hts (wg_ft i_DA) hown hK hO k_h0 (nxg hc0 k_h0 rfl) hP (fun _ h9 => h9) rfl 10 (by decide) (hts _ (wg_t kw_175)) (fun _ h9 => h9) (cd := (3, 0, 256)) rfl dDA_answerIsShort_31 (fun v26 hv26 => ?_)
      obtain ⟨r26, rfl, kr26⟩ := (show ∃ r : Nat, v26 = .ref r ∧ T r = some (0, 256) from hv26)
      refine mp_v (cx := []) (wr := []) hP hD hS hA [] [] rfl rfl rfl (by decide) (va_runV (As := [.ref r25, .ref r26]) (rest := []) F (t_RG_add_12 l g _ T xs pl hO hU hc0 r23 r25 r26 kr23 kr25 kr26) (cwV 2 hts (wg_app (wg_c kw_728 (wg_c kw_729 (wg_c kw_730 (wg_c kw_4 wg_n)))) kw_731) rfl rfl rfl (by decide +kernel) ⟨by decide, by decide⟩) (pp_VT (en_ok g) (ci := 4) (kd := (12, 0)) hK hO kr23 (nxg hc0 kr23 rfl) (fun _ h9 => ko1 h9) hP hD hS hA hE [] rfl rfl rfl) rfl rfl hl.1 rfl (lv_room (Nat.le_of_ble_eq_true rfl)) dDA_answerIsShort_34 ⟨by omega, by omega⟩) (fun  pl H locs hu22 hP hD hS => ?_)
      obtain ⟨hq22, hO⟩ := hu22
      have hP : va_P g.1 vcl ([] ++ pl) _ := hP
      have hD : va_D _ ([] ++ pl) := hD
      refine W.widen (k := 0) (n := 0) (by omega) (by omega) ?_
      refine lv_aload_n hx hb dDA_answerIsShort_37 rfl (lv_at hl 1 rfl) ?_
      refine ty_get (ci := 6) (C := "LatticeKeys$Dsa") (TT := T_DA) (N := 17) (kd := (15, 0)) hx hb hts (wg_ft i_DA) hown hK hO k_h0 (nxg hc0 k_h0 rfl) hP (fun _ h9 => h9) rfl 1 (by decide) (hts _ (wg_t kw_166)) (fun _ h9 => h9) (cd := (3, 12, 0)) rfl dDA_answerIsShort_38 (fun v27 hv27 => ?_)
      obtain ⟨r27, rfl, kr27⟩ := (show ∃ r : Nat, v27 = .ref r ∧ T r = some (12, 0) from hv27)
      refine lv_aload_n hx hb dDA_answerIsShort_41 rfl (lv_at hl 1 rfl) ?_
      refine ty_get (ci := 6) (C := "LatticeKeys$Dsa") (TT := T_DA) (N := 17) (kd := (15, 0)) hx hb hts (wg_ft i_DA) hown hK hO k_h0 (nxg hc0 k_h0 rfl) hP (fun _ h9 => h9) rfl 7 (by decide) (hts _ (wg_t kw_172)) (fun _ h9 => h9) (cd := (3, 3, 7)) rfl dDA_answerIsShort_42 (fun v28 hv28 => ?_)
      obtain ⟨r28, rfl, kr28⟩ := (show ∃ r : Nat, v28 = .ref r ∧ T r = some (3, 7) from hv28)
      refine lv_iload_n hx hb dDA_answerIsShort_45 rfl (lv_at hl 0 rfl) ?_
      refine ty_aald3 hx hb hK hO kr28 (nxg hc0 kr28 rfl) hP (by omega) (by decide) dDA_answerIsShort_46 (fun r29 kr29 => ?_)
      refine lv_aload_n hx hb dDA_answerIsShort_47 rfl (lv_at hl 2 rfl) ?_
      refine ty_get (ci := 2) (C := "LatticeKeys$DsaSet") (TT := T_DS) (N := 17) (kd := (44, 0)) hx hb hts (wg_ft i_DS) hown hK hO k_st (nxg hc0 k_st rfl) hP (fun _ h9 => h9) rfl 7 (by decide) (hts _ (wg_t kw_320)) (fun _ h9 => h9) (cd := (1, 0, 524288)) rfl dDA_answerIsShort_48 (fun v29 hv29 => ?_)
      obtain rfl := (show v29 = .int (nI 524288) from hv29)
      refine lv_aload_n hx hb dDA_answerIsShort_51 rfl (lv_at hl 2 rfl) ?_
      refine ty_get (ci := 2) (C := "LatticeKeys$DsaSet") (TT := T_DS) (N := 17) (kd := (44, 0)) hx hb hts (wg_ft i_DS) hown hK hO k_st (nxg hc0 k_st rfl) hP (fun _ h9 => h9) rfl 12 (by decide) (hts _ (wg_t kw_329)) (fun _ h9 => h9) (cd := (1, 0, 196)) rfl dDA_answerIsShort_52 (fun v30 hv30 => ?_)
      obtain rfl := (show v30 = .int (nI 196) from hv30)
      refine mi_isub hx hb dDA_answerIsShort_55 (by omega) ?_
      refine mi_as (show nI (524288 - 196) = nI 524092 from rfl) ?_
      refine mp_i (cx := []) (wr := []) hP hD hS hA [] [] rfl rfl rfl (by decide) (va_runV (As := [.ref r29, .int (nI 524092)]) (rest := []) F (t_RG_isShort_12 l g _ T xs pl hO hU hc0 r27 r29 (nI 524092) kr27 kr29) (cwV 2 hts (wg_app (wg_c kw_1228 (wg_c kw_1229 (wg_c kw_1230 (wg_c kw_4 wg_n)))) kw_1231) rfl rfl rfl (by decide +kernel) ⟨by decide, by decide⟩) (pp_VT (en_ok g) (ci := 4) (kd := (12, 0)) hK hO kr27 (nxg hc0 kr27 rfl) (fun _ h9 => ko1 h9) hP hD hS hA hE [] rfl rfl rfl) rfl rfl hl.1 rfl (lv_room (Nat.le_of_ble_eq_true rfl)) dDA_answerIsShort_56 ⟨by omega, by omega⟩) (fun r30 pl H locs hu23 hP hD hS => ?_)
      obtain ⟨hq23, hO⟩ := hu23
      have hP : va_P g.1 vcl ([] ++ pl) _ := hP
      have hD : va_D _ ([] ++ pl) := hD
      refine W.widen (k := 0) (n := 0) (by omega) (by omega) ?_
      refine lv_if_ne (tgt := 64) hx hb dDA_answerIsShort_59 (by decide) (fun h23 => ?_) (fun h23 => ?_)
      · refine mi_iinc (k := 0) (x := i21) (d := 1) (y := i21 + 1) (lv' := [(2, .int (nI (i21 + 1))), (0, .ref h0), (1, .ref st)]) hx hb dDA_answerIsShort_64 hl rfl (by decide) rfl (by decide) rfl (fun ls hl => ?_)
        refine lv_goto (tgt := 2) hx hb dDA_answerIsShort_67 (by decide) ?_
        exact ih21 (i21 + 1) pl ls H locs (by omega) (lv_sub hl [0, 1, 2] rfl) hO hP hD hS
      · refine lv_iconst (v := nI 0) hx hb dDA_answerIsShort_62 (by decide) ?_
        exact mp_zret hx hb hr hlk rfl hP hD hS pl ⟨(Or.inl rfl), hO⟩ [] rfl rfl rfl (by omega) (by omega) dDA_answerIsShort_63
  exact lp21 5 0 pl ls _ _ (by omega) (lv_sub hl [0, 1, 2] rfl) hO hP hD hS
set_option maxHeartbeats 400000 in
set_option maxRecDepth 100000 in
theorem t_DA_answerIsShort_2 (l : Launch) (g : Gd) (sz : Nat) (T : Ty) (xs : List Nat) (pl : va_W) (hO : okx g T xs pl) (hU : uni T) (hc0 : clo T xs 0) (h0 st : Nat) (k_h0 : T h0 = some (15, 0)) (k_st : T st = some (45, 0))  : Met l y_DA_answerIsShort w_DA_answerIsShort ({ frames := 3, cells := 0, slots := 0, locals := 74 } : Room) (va_Pc [.ref h0, .ref st] (pr (en g) g.1 vcl sz ([] ++ pl))) (va_Qi (fun (r : Int32) (u : va_W) => (r = nI 0 ∨ r = nI 1) ∧ okx g T xs u) (po g.1 vcl (va_A ([] ++ pl) sz) (fun (u : va_W) => [] ++ u)) (va_A ([] ++ pl) sz)) 0 0 (va_A ([] ++ pl) sz) := by
  refine mc_entry (cc := c_DA_answerIsShort) (maxL := 3) (ret := (some .boolean)) (by decide) rfl (Nat.le_of_ble_eq_true rfl) ?_
  intro p e s m args below meth c ls F hr hlk hnm hsz hP hD hE hA hl
  obtain ⟨hx, hb, hml, hown, hts⟩ := id F
  have hK := hE.1
  generalize va_A ([] ++ pl) sz = A at hD hE hA ⊢
  have hS : va_S A s.heap s.heap [] := va_S.rf
  have hl : lv_has ls 3 [(0, .ref h0), (1, .ref st)] := hl
  refine lv_iconst (v := nI 0) hx hb dDA_answerIsShort_0 (by decide) ?_
  refine lv_istore_n (lv' := [(2, .int (nI 0)), (0, .ref h0), (1, .ref st)]) hx hb dDA_answerIsShort_1 rfl hl (by decide) rfl (fun ls hl => ?_)
  have lp21 : ∀ (n21 : Nat) (i21 : Nat) (pl : va_W) (ls : Array Slot) (H : Heap) (locs : List Loc), n21 + i21 = 7 → lv_has ls 3 [(2, .int (nI i21)), (0, .ref h0), (1, .ref st)] → okx g T xs pl → va_P g.1 vcl ([] ++ pl) H → va_D A ([] ++ pl) → va_S A s.heap H locs → W p l e ({ frames := 3, cells := 0, slots := 0, locals := 74 } : Room) s m args below meth c H locs 0 0 (MQ below (va_Qi (fun (r : Int32) (u : va_W) => (r = nI 0 ∨ r = nI 1) ∧ okx g T xs u) (po g.1 vcl A (fun (u : va_W) => [] ++ u)) A) args s 0 0 A) (F0 m 2 ls []) := by
    intro n21
    induction n21 with
    | zero =>
      intro i21 pl ls H locs hm21  hl hO hP hD hS
      refine lv_iload_n hx hb dDA_answerIsShort_2 rfl (lv_at hl 0 rfl) ?_
      refine lv_aload_n hx hb dDA_answerIsShort_3 rfl (lv_at hl 2 rfl) ?_
      refine ty_get (ci := 2) (C := "LatticeKeys$DsaSet") (TT := T_DS) (N := 17) (kd := (45, 0)) hx hb hts (wg_ft i_DS) hown hK hO k_st (nxg hc0 k_st rfl) hP (fun _ h9 => h9) rfl 1 (by decide) (hts _ (wg_t kw_305)) (fun _ h9 => h9) (cd := (1, 0, 7)) rfl dDA_answerIsShort_4 (fun v21 hv21 => ?_)
      obtain rfl := (show v21 = .int (nI 7) from hv21)
      refine mi_ge (tgt := 70) hx hb dDA_answerIsShort_7 (by decide) (by omega) (by omega) (fun h21 => ?_) (fun h21 => absurd h21 (by omega))
      refine lv_iconst (v := nI 1) hx hb dDA_answerIsShort_70 (by decide) ?_
      exact mp_zret hx hb hr hlk rfl hP hD hS pl ⟨(Or.inr rfl), hO⟩ [] rfl rfl rfl (by omega) (by omega) dDA_answerIsShort_71
    | succ n21 ih21 =>
      intro i21 pl ls H locs hm21  hl hO hP hD hS
      refine lv_iload_n hx hb dDA_answerIsShort_2 rfl (lv_at hl 0 rfl) ?_
      refine lv_aload_n hx hb dDA_answerIsShort_3 rfl (lv_at hl 2 rfl) ?_
      refine ty_get (ci := 2) (C := "LatticeKeys$DsaSet") (TT := T_DS) (N := 17) (kd := (45, 0)) hx hb hts (wg_ft i_DS) hown hK hO k_st (nxg hc0 k_st rfl) hP (fun _ h9 => h9) rfl 1 (by decide) (hts _ (wg_t kw_305)) (fun _ h9 => h9) (cd := (1, 0, 7)) rfl dDA_answerIsShort_4 (fun v22 hv22 => ?_)
      obtain rfl := (show v22 = .int (nI 7) from hv22)
      refine mi_ge (tgt := 70) hx hb dDA_answerIsShort_7 (by decide) (by omega) (by omega) (fun h22 => absurd h22 (by omega)) (fun h22 => ?_)
      refine lv_aload_n hx hb dDA_answerIsShort_10 rfl (lv_at hl 1 rfl) ?_
      refine lv_aload_n hx hb dDA_answerIsShort_11 rfl (lv_at hl 1 rfl) ?_
      refine ty_get (ci := 6) (C := "LatticeKeys$Dsa") (TT := T_DA) (N := 17) (kd := (15, 0)) hx hb hts (wg_ft i_DA) hown hK hO k_h0 (nxg hc0 k_h0 rfl) hP (fun _ h9 => h9) rfl 4 (by decide) (hts _ (wg_t kw_169)) (fun _ h9 => h9) (cd := (3, 3, 7)) rfl dDA_answerIsShort_12 (fun v23 hv23 => ?_)
      obtain ⟨r21, rfl, kr21⟩ := (show ∃ r : Nat, v23 = .ref r ∧ T r = some (3, 7) from hv23)
      refine lv_iload_n hx hb dDA_answerIsShort_15 rfl (lv_at hl 0 rfl) ?_
      refine ty_aald3 hx hb hK hO kr21 (nxg hc0 kr21 rfl) hP (by omega) (by decide) dDA_answerIsShort_16 (fun r22 kr22 => ?_)
      refine mp_v (cx := []) (wr := []) hP hD hS hA [] [] rfl rfl rfl (by decide) (va_runV (As := [.ref r22]) (rest := []) F (t_DA_multiplyBall l g _ T xs pl hO hU hc0 h0 r22 k_h0 kr22) (cwV 1 hts (wg_app (wg_c kw_1224 (wg_c kw_1226 (wg_c ks_41 (wg_c kw_5 wg_n)))) kw_1227) rfl rfl rfl (by decide +kernel) ⟨by decide, by decide⟩) (pp_VT (en_ok g) (ci := 6) (kd := (15, 0)) hK hO k_h0 (nxg hc0 k_h0 rfl) (fun _ h9 => ko1 h9) hP hD hS hA hE [] rfl rfl rfl) rfl rfl hl.1 rfl (lv_room (Nat.le_of_ble_eq_true rfl)) dDA_answerIsShort_17 ⟨by omega, by omega⟩) (fun  pl H locs hu21 hP hD hS => ?_)
      obtain ⟨hq21, hO⟩ := hu21
      have hP : va_P g.1 vcl ([] ++ pl) _ := hP
      have hD : va_D _ ([] ++ pl) := hD
      refine W.widen (k := 0) (n := 0) (by omega) (by omega) ?_
      refine lv_aload_n hx hb dDA_answerIsShort_20 rfl (lv_at hl 1 rfl) ?_
      refine ty_get (ci := 6) (C := "LatticeKeys$Dsa") (TT := T_DA) (N := 17) (kd := (15, 0)) hx hb hts (wg_ft i_DA) hown hK hO k_h0 (nxg hc0 k_h0 rfl) hP (fun _ h9 => h9) rfl 1 (by decide) (hts _ (wg_t kw_166)) (fun _ h9 => h9) (cd := (3, 12, 0)) rfl dDA_answerIsShort_21 (fun v24 hv24 => ?_)
      obtain ⟨r23, rfl, kr23⟩ := (show ∃ r : Nat, v24 = .ref r ∧ T r = some (12, 0) from hv24)
      refine lv_aload_n hx hb dDA_answerIsShort_24 rfl (lv_at hl 1 rfl) ?_
      refine ty_get (ci := 6) (C := "LatticeKeys$Dsa") (TT := T_DA) (N := 17) (kd := (15, 0)) hx hb hts (wg_ft i_DA) hown hK hO k_h0 (nxg hc0 k_h0 rfl) hP (fun _ h9 => h9) rfl 7 (by decide) (hts _ (wg_t kw_172)) (fun _ h9 => h9) (cd := (3, 3, 7)) rfl dDA_answerIsShort_25 (fun v25 hv25 => ?_)
      obtain ⟨r24, rfl, kr24⟩ := (show ∃ r : Nat, v25 = .ref r ∧ T r = some (3, 7) from hv25)
      refine lv_iload_n hx hb dDA_answerIsShort_28 rfl (lv_at hl 0 rfl) ?_
      refine ty_aald3 hx hb hK hO kr24 (nxg hc0 kr24 rfl) hP (by omega) (by decide) dDA_answerIsShort_29 (fun r25 kr25 => ?_)
      refine lv_aload_n hx hb dDA_answerIsShort_30 rfl (lv_at hl 1 rfl) ?_
      refine ty_get (ci := 6) (C := "LatticeKeys$Dsa") (TT := T_DA) (N := 17) (kd := (15, 0)) hx hb hts (wg_ft i_DA) hown hK hO k_h0 (nxg hc0 k_h0 rfl) hP (fun _ h9 => h9) rfl 10 (by decide) (hts _ (wg_t kw_175)) (fun _ h9 => h9) (cd := (3, 0, 256)) rfl dDA_answerIsShort_31 (fun v26 hv26 => ?_)
      obtain ⟨r26, rfl, kr26⟩ := (show ∃ r : Nat, v26 = .ref r ∧ T r = some (0, 256) from hv26)
      refine mp_v (cx := []) (wr := []) hP hD hS hA [] [] rfl rfl rfl (by decide) (va_runV (As := [.ref r25, .ref r26]) (rest := []) F (t_RG_add_12 l g _ T xs pl hO hU hc0 r23 r25 r26 kr23 kr25 kr26) (cwV 2 hts (wg_app (wg_c kw_728 (wg_c kw_729 (wg_c kw_730 (wg_c kw_4 wg_n)))) kw_731) rfl rfl rfl (by decide +kernel) ⟨by decide, by decide⟩) (pp_VT (en_ok g) (ci := 4) (kd := (12, 0)) hK hO kr23 (nxg hc0 kr23 rfl) (fun _ h9 => ko1 h9) hP hD hS hA hE [] rfl rfl rfl) rfl rfl hl.1 rfl (lv_room (Nat.le_of_ble_eq_true rfl)) dDA_answerIsShort_34 ⟨by omega, by omega⟩) (fun  pl H locs hu22 hP hD hS => ?_)
      obtain ⟨hq22, hO⟩ := hu22
      have hP : va_P g.1 vcl ([] ++ pl) _ := hP
      have hD : va_D _ ([] ++ pl) := hD
      refine W.widen (k := 0) (n := 0) (by omega) (by omega) ?_
      refine lv_aload_n hx hb dDA_answerIsShort_37 rfl (lv_at hl 1 rfl) ?_
      refine ty_get (ci := 6) (C := "LatticeKeys$Dsa") (TT := T_DA) (N := 17) (kd := (15, 0)) hx hb hts (wg_ft i_DA) hown hK hO k_h0 (nxg hc0 k_h0 rfl) hP (fun _ h9 => h9) rfl 1 (by decide) (hts _ (wg_t kw_166)) (fun _ h9 => h9) (cd := (3, 12, 0)) rfl dDA_answerIsShort_38 (fun v27 hv27 => ?_)
      obtain ⟨r27, rfl, kr27⟩ := (show ∃ r : Nat, v27 = .ref r ∧ T r = some (12, 0) from hv27)
      refine lv_aload_n hx hb dDA_answerIsShort_41 rfl (lv_at hl 1 rfl) ?_
      refine ty_get (ci := 6) (C := "LatticeKeys$Dsa") (TT := T_DA) (N := 17) (kd := (15, 0)) hx hb hts (wg_ft i_DA) hown hK hO k_h0 (nxg hc0 k_h0 rfl) hP (fun _ h9 => h9) rfl 7 (by decide) (hts _ (wg_t kw_172)) (fun _ h9 => h9) (cd := (3, 3, 7)) rfl dDA_answerIsShort_42 (fun v28 hv28 => ?_)
      obtain ⟨r28, rfl, kr28⟩ := (show ∃ r : Nat, v28 = .ref r ∧ T r = some (3, 7) from hv28)
      refine lv_iload_n hx hb dDA_answerIsShort_45 rfl (lv_at hl 0 rfl) ?_
      refine ty_aald3 hx hb hK hO kr28 (nxg hc0 kr28 rfl) hP (by omega) (by decide) dDA_answerIsShort_46 (fun r29 kr29 => ?_)
      refine lv_aload_n hx hb dDA_answerIsShort_47 rfl (lv_at hl 2 rfl) ?_
      refine ty_get (ci := 2) (C := "LatticeKeys$DsaSet") (TT := T_DS) (N := 17) (kd := (45, 0)) hx hb hts (wg_ft i_DS) hown hK hO k_st (nxg hc0 k_st rfl) hP (fun _ h9 => h9) rfl 7 (by decide) (hts _ (wg_t kw_320)) (fun _ h9 => h9) (cd := (1, 0, 524288)) rfl dDA_answerIsShort_48 (fun v29 hv29 => ?_)
      obtain rfl := (show v29 = .int (nI 524288) from hv29)
      refine lv_aload_n hx hb dDA_answerIsShort_51 rfl (lv_at hl 2 rfl) ?_
      refine ty_get (ci := 2) (C := "LatticeKeys$DsaSet") (TT := T_DS) (N := 17) (kd := (45, 0)) hx hb hts (wg_ft i_DS) hown hK hO k_st (nxg hc0 k_st rfl) hP (fun _ h9 => h9) rfl 12 (by decide) (hts _ (wg_t kw_329)) (fun _ h9 => h9) (cd := (1, 0, 120)) rfl dDA_answerIsShort_52 (fun v30 hv30 => ?_)
      obtain rfl := (show v30 = .int (nI 120) from hv30)
      refine mi_isub hx hb dDA_answerIsShort_55 (by omega) ?_
      refine mi_as (show nI (524288 - 120) = nI 524168 from rfl) ?_
      refine mp_i (cx := []) (wr := []) hP hD hS hA [] [] rfl rfl rfl (by decide) (va_runV (As := [.ref r29, .int (nI 524168)]) (rest := []) F (t_RG_isShort_12 l g _ T xs pl hO hU hc0 r27 r29 (nI 524168) kr27 kr29) (cwV 2 hts (wg_app (wg_c kw_1228 (wg_c kw_1229 (wg_c kw_1230 (wg_c kw_4 wg_n)))) kw_1231) rfl rfl rfl (by decide +kernel) ⟨by decide, by decide⟩) (pp_VT (en_ok g) (ci := 4) (kd := (12, 0)) hK hO kr27 (nxg hc0 kr27 rfl) (fun _ h9 => ko1 h9) hP hD hS hA hE [] rfl rfl rfl) rfl rfl hl.1 rfl (lv_room (Nat.le_of_ble_eq_true rfl)) dDA_answerIsShort_56 ⟨by omega, by omega⟩) (fun r30 pl H locs hu23 hP hD hS => ?_)
      obtain ⟨hq23, hO⟩ := hu23
      have hP : va_P g.1 vcl ([] ++ pl) _ := hP
      have hD : va_D _ ([] ++ pl) := hD
      refine W.widen (k := 0) (n := 0) (by omega) (by omega) ?_
      refine lv_if_ne (tgt := 64) hx hb dDA_answerIsShort_59 (by decide) (fun h23 => ?_) (fun h23 => ?_)
      · refine mi_iinc (k := 0) (x := i21) (d := 1) (y := i21 + 1) (lv' := [(2, .int (nI (i21 + 1))), (0, .ref h0), (1, .ref st)]) hx hb dDA_answerIsShort_64 hl rfl (by decide) rfl (by decide) rfl (fun ls hl => ?_)
        refine lv_goto (tgt := 2) hx hb dDA_answerIsShort_67 (by decide) ?_
        exact ih21 (i21 + 1) pl ls H locs (by omega) (lv_sub hl [0, 1, 2] rfl) hO hP hD hS
      · refine lv_iconst (v := nI 0) hx hb dDA_answerIsShort_62 (by decide) ?_
        exact mp_zret hx hb hr hlk rfl hP hD hS pl ⟨(Or.inl rfl), hO⟩ [] rfl rfl rfl (by omega) (by omega) dDA_answerIsShort_63
  exact lp21 7 0 pl ls _ _ (by omega) (lv_sub hl [0, 1, 2] rfl) hO hP hD hS
set_option maxHeartbeats 400000 in
set_option maxRecDepth 100000 in
theorem t_DA_restIsShort_0 (l : Launch) (g : Gd) (sz : Nat) (T : Ty) (xs : List Nat) (pl : va_W) (hO : okx g T xs pl) (hU : uni T) (hc0 : clo T xs 0) (h0 st : Nat) (k_h0 : T h0 = some (15, 0)) (k_st : T st = some (43, 0))  : Met l y_DA_restIsShort w_DA_restIsShort ({ frames := 3, cells := 0, slots := 0, locals := 74 } : Room) (va_Pc [.ref h0, .ref st] (pr (en g) g.1 vcl sz ([] ++ pl))) (va_Qi (fun (r : Int32) (u : va_W) => (r = nI 0 ∨ r = nI 1) ∧ okx g T xs u) (po g.1 vcl (va_A ([] ++ pl) sz) (fun (u : va_W) => [] ++ u)) (va_A ([] ++ pl) sz)) 0 0 (va_A ([] ++ pl) sz) := by
  refine mc_entry (cc := c_DA_restIsShort) (maxL := 6) (ret := (some .boolean)) (by decide) rfl (Nat.le_of_ble_eq_true rfl) ?_
  intro p e s m args below meth c ls F hr hlk hnm hsz hP hD hE hA hl
  obtain ⟨hx, hb, hml, hown, hts⟩ := id F
  have hK := hE.1
  generalize va_A ([] ++ pl) sz = A at hD hE hA ⊢
  have hS : va_S A s.heap s.heap [] := va_S.rf
  have hl : lv_has ls 6 [(0, .ref h0), (1, .ref st)] := hl
  refine lv_aload_n hx hb dDA_restIsShort_0 rfl (lv_at hl 1 rfl) ?_
  refine ty_get (ci := 2) (C := "LatticeKeys$DsaSet") (TT := T_DS) (N := 17) (kd := (43, 0)) hx hb hts (wg_ft i_DS) hown hK hO k_st (nxg hc0 k_st rfl) hP (fun _ h9 => h9) rfl 10 (by decide) (hts _ (wg_t kw_325)) (fun _ h9 => h9) (cd := (1, 0, 95232)) rfl dDA_restIsShort_1 (fun v21 hv21 => ?_)
  obtain rfl := (show v21 = .int (nI 95232) from hv21)
  refine lv_aload_n hx hb dDA_restIsShort_4 rfl (lv_at hl 1 rfl) ?_
  refine ty_get (ci := 2) (C := "LatticeKeys$DsaSet") (TT := T_DS) (N := 17) (kd := (43, 0)) hx hb hts (wg_ft i_DS) hown hK hO k_st (nxg hc0 k_st rfl) hP (fun _ h9 => h9) rfl 12 (by decide) (hts _ (wg_t kw_329)) (fun _ h9 => h9) (cd := (1, 0, 78)) rfl dDA_restIsShort_5 (fun v22 hv22 => ?_)
  obtain rfl := (show v22 = .int (nI 78) from hv22)
  refine mi_isub hx hb dDA_restIsShort_8 (by omega) ?_
  refine mi_as (show nI (95232 - 78) = nI 95154 from rfl) ?_
  refine lv_istore_n (lv' := [(2, .int (nI 95154)), (0, .ref h0), (1, .ref st)]) hx hb dDA_restIsShort_9 rfl hl (by decide) rfl (fun ls hl => ?_)
  refine lv_iconst (v := nI 0) hx hb dDA_restIsShort_10 (by decide) ?_
  refine lv_istore_n (lv' := [(3, .int (nI 0)), (2, .int (nI 95154)), (0, .ref h0), (1, .ref st)]) hx hb dDA_restIsShort_11 rfl hl (by decide) rfl (fun ls hl => ?_)
  have lp21 : ∀ (n21 : Nat) (i21 : Nat) (pl : va_W) (ls : Array Slot) (H : Heap) (locs : List Loc), n21 + i21 = 4 → lv_has ls 6 [(3, .int (nI i21)), (2, .int (nI 95154)), (0, .ref h0), (1, .ref st)] → okx g T xs pl → va_P g.1 vcl ([] ++ pl) H → va_D A ([] ++ pl) → va_S A s.heap H locs → W p l e ({ frames := 3, cells := 0, slots := 0, locals := 74 } : Room) s m args below meth c H locs 0 0 (MQ below (va_Qi (fun (r : Int32) (u : va_W) => (r = nI 0 ∨ r = nI 1) ∧ okx g T xs u) (po g.1 vcl A (fun (u : va_W) => [] ++ u)) A) args s 0 0 A) (F0 m 12 ls []) := by
    intro n21
    induction n21 with
    | zero =>
      intro i21 pl ls H locs hm21  hl hO hP hD hS
      refine lv_iload_n hx hb dDA_restIsShort_12 rfl (lv_at hl 0 rfl) ?_
      refine lv_aload_n hx hb dDA_restIsShort_13 rfl (lv_at hl 3 rfl) ?_
      refine ty_get (ci := 2) (C := "LatticeKeys$DsaSet") (TT := T_DS) (N := 17) (kd := (43, 0)) hx hb hts (wg_ft i_DS) hown hK hO k_st (nxg hc0 k_st rfl) hP (fun _ h9 => h9) rfl 0 (by decide) (hts _ (wg_t kw_302)) (fun _ h9 => h9) (cd := (1, 0, 4)) rfl dDA_restIsShort_14 (fun v23 hv23 => ?_)
      obtain rfl := (show v23 = .int (nI 4) from hv23)
      refine mi_ge (tgt := 100) hx hb dDA_restIsShort_17 (by decide) (by omega) (by omega) (fun h21 => ?_) (fun h21 => absurd h21 (by omega))
      refine lv_iconst (v := nI 1) hx hb dDA_restIsShort_100 (by decide) ?_
      exact mp_zret hx hb hr hlk rfl hP hD hS pl ⟨(Or.inr rfl), hO⟩ [] rfl rfl rfl (by omega) (by omega) dDA_restIsShort_101
    | succ n21 ih21 =>
      intro i21 pl ls H locs hm21  hl hO hP hD hS
      refine lv_iload_n hx hb dDA_restIsShort_12 rfl (lv_at hl 0 rfl) ?_
      refine lv_aload_n hx hb dDA_restIsShort_13 rfl (lv_at hl 3 rfl) ?_
      refine ty_get (ci := 2) (C := "LatticeKeys$DsaSet") (TT := T_DS) (N := 17) (kd := (43, 0)) hx hb hts (wg_ft i_DS) hown hK hO k_st (nxg hc0 k_st rfl) hP (fun _ h9 => h9) rfl 0 (by decide) (hts _ (wg_t kw_302)) (fun _ h9 => h9) (cd := (1, 0, 4)) rfl dDA_restIsShort_14 (fun v24 hv24 => ?_)
      obtain rfl := (show v24 = .int (nI 4) from hv24)
      refine mi_ge (tgt := 100) hx hb dDA_restIsShort_17 (by decide) (by omega) (by omega) (fun h22 => absurd h22 (by omega)) (fun h22 => ?_)
      refine lv_aload_n hx hb dDA_restIsShort_20 rfl (lv_at hl 2 rfl) ?_
      refine lv_aload_n hx hb dDA_restIsShort_21 rfl (lv_at hl 2 rfl) ?_
      refine ty_get (ci := 6) (C := "LatticeKeys$Dsa") (TT := T_DA) (N := 17) (kd := (15, 0)) hx hb hts (wg_ft i_DA) hown hK hO k_h0 (nxg hc0 k_h0 rfl) hP (fun _ h9 => h9) rfl 5 (by decide) (hts _ (wg_t kw_170)) (fun _ h9 => h9) (cd := (3, 3, 8)) rfl dDA_restIsShort_22 (fun v25 hv25 => ?_)
      obtain ⟨r21, rfl, kr21⟩ := (show ∃ r : Nat, v25 = .ref r ∧ T r = some (3, 8) from hv25)
      refine lv_iload_n hx hb dDA_restIsShort_25 rfl (lv_at hl 0 rfl) ?_
      refine ty_aald3 hx hb hK hO kr21 (nxg hc0 kr21 rfl) hP (by omega) (by decide) dDA_restIsShort_26 (fun r22 kr22 => ?_)
      refine mp_v (cx := []) (wr := []) hP hD hS hA [] [] rfl rfl rfl (by decide) (va_runV (As := [.ref r22]) (rest := []) F (t_DA_multiplyBall l g _ T xs pl hO hU hc0 h0 r22 k_h0 kr22) (cwV 1 hts (wg_app (wg_c kw_1224 (wg_c kw_1226 (wg_c ks_41 (wg_c kw_5 wg_n)))) kw_1227) rfl rfl rfl (by decide +kernel) ⟨by decide, by decide⟩) (pp_VT (en_ok g) (ci := 6) (kd := (15, 0)) hK hO k_h0 (nxg hc0 k_h0 rfl) (fun _ h9 => ko1 h9) hP hD hS hA hE [] rfl rfl rfl) rfl rfl hl.1 rfl (lv_room (Nat.le_of_ble_eq_true rfl)) dDA_restIsShort_27 ⟨by omega, by omega⟩) (fun  pl H locs hu21 hP hD hS => ?_)
      obtain ⟨hq21, hO⟩ := hu21
      have hP : va_P g.1 vcl ([] ++ pl) _ := hP
      have hD : va_D _ ([] ++ pl) := hD
      refine W.widen (k := 0) (n := 0) (by omega) (by omega) ?_
      refine lv_aload_n hx hb dDA_restIsShort_30 rfl (lv_at hl 2 rfl) ?_
      refine ty_get (ci := 6) (C := "LatticeKeys$Dsa") (TT := T_DA) (N := 17) (kd := (15, 0)) hx hb hts (wg_ft i_DA) hown hK hO k_h0 (nxg hc0 k_h0 rfl) hP (fun _ h9 => h9) rfl 1 (by decide) (hts _ (wg_t kw_166)) (fun _ h9 => h9) (cd := (3, 12, 0)) rfl dDA_restIsShort_31 (fun v26 hv26 => ?_)
      obtain ⟨r23, rfl, kr23⟩ := (show ∃ r : Nat, v26 = .ref r ∧ T r = some (12, 0) from hv26)
      refine lv_aload_n hx hb dDA_restIsShort_34 rfl (lv_at hl 2 rfl) ?_
      refine ty_get (ci := 6) (C := "LatticeKeys$Dsa") (TT := T_DA) (N := 17) (kd := (15, 0)) hx hb hts (wg_ft i_DA) hown hK hO k_h0 (nxg hc0 k_h0 rfl) hP (fun _ h9 => h9) rfl 8 (by decide) (hts _ (wg_t kw_173)) (fun _ h9 => h9) (cd := (3, 3, 8)) rfl dDA_restIsShort_35 (fun v27 hv27 => ?_)
      obtain ⟨r24, rfl, kr24⟩ := (show ∃ r : Nat, v27 = .ref r ∧ T r = some (3, 8) from hv27)
      refine lv_iload_n hx hb dDA_restIsShort_38 rfl (lv_at hl 0 rfl) ?_
      refine ty_aald3 hx hb hK hO kr24 (nxg hc0 kr24 rfl) hP (by omega) (by decide) dDA_restIsShort_39 (fun r25 kr25 => ?_)
      refine lv_aload_n hx hb dDA_restIsShort_40 rfl (lv_at hl 2 rfl) ?_
      refine ty_get (ci := 6) (C := "LatticeKeys$Dsa") (TT := T_DA) (N := 17) (kd := (15, 0)) hx hb hts (wg_ft i_DA) hown hK hO k_h0 (nxg hc0 k_h0 rfl) hP (fun _ h9 => h9) rfl 10 (by decide) (hts _ (wg_t kw_175)) (fun _ h9 => h9) (cd := (3, 0, 256)) rfl dDA_restIsShort_41 (fun v28 hv28 => ?_)
      obtain ⟨r26, rfl, kr26⟩ := (show ∃ r : Nat, v28 = .ref r ∧ T r = some (0, 256) from hv28)
      refine mp_v (cx := []) (wr := []) hP hD hS hA [] [] rfl rfl rfl (by decide) (va_runV (As := [.ref r25, .ref r26]) (rest := []) F (t_RG_subtract_12 l g _ T xs pl hO hU hc0 r23 r25 r26 kr23 kr25 kr26) (cwV 2 hts (wg_app (wg_c kw_1236 (wg_c kw_1155 (wg_c kw_1156 (wg_c kw_4 wg_n)))) kw_1157) rfl rfl rfl (by decide +kernel) ⟨by decide, by decide⟩) (pp_VT (en_ok g) (ci := 4) (kd := (12, 0)) hK hO kr23 (nxg hc0 kr23 rfl) (fun _ h9 => ko1 h9) hP hD hS hA hE [] rfl rfl rfl) rfl rfl hl.1 rfl (lv_room (Nat.le_of_ble_eq_true rfl)) dDA_restIsShort_44 ⟨by omega, by omega⟩) (fun  pl H locs hu22 hP hD hS => ?_)
      obtain ⟨hq22, hO⟩ := hu22
      have hP : va_P g.1 vcl ([] ++ pl) _ := hP
      have hD : va_D _ ([] ++ pl) := hD
      refine W.widen (k := 0) (n := 0) (by omega) (by omega) ?_
      refine lv_iconst (v := nI 0) hx hb dDA_restIsShort_47 (by decide) ?_
      refine lv_istore (lv' := [(4, .int (nI 0)), (3, .int (nI i21)), (2, .int (nI 95154)), (0, .ref h0), (1, .ref st)]) hx hb dDA_restIsShort_48 hl (by decide) rfl (fun ls hl => ?_)
      have lp22 : ∀ (n22 : Nat) (i22 : Nat) (pl : va_W) (ls : Array Slot) (H : Heap) (locs : List Loc), n22 + i22 = 256 → lv_has ls 6 [(4, .int (nI i22)), (3, .int (nI i21)), (2, .int (nI 95154)), (0, .ref h0), (1, .ref st)] → okx g T xs pl → va_P g.1 vcl ([] ++ pl) H → va_D A ([] ++ pl) → va_S A s.heap H locs → W p l e ({ frames := 3, cells := 0, slots := 0, locals := 74 } : Room) s m args below meth c H locs 0 0 (MQ below (va_Qi (fun (r : Int32) (u : va_W) => (r = nI 0 ∨ r = nI 1) ∧ okx g T xs u) (po g.1 vcl A (fun (u : va_W) => [] ++ u)) A) args s 0 0 A) (F0 m 50 ls []) := by
        intro n22
        induction n22 with
        | zero =>
          intro i22 pl ls H locs hm22  hl hO hP hD hS
          refine lv_iload hx hb dDA_restIsShort_50 (lv_at hl 0 rfl) ?_
          refine lv_sipush (v := nI 256) hx hb dDA_restIsShort_52 (by decide) ?_
          refine mi_ge (tgt := 94) hx hb dDA_restIsShort_55 (by decide) (by omega) (by omega) (fun h23 => ?_) (fun h23 => absurd h23 (by omega))
          refine mi_iinc (k := 1) (x := i21) (d := 1) (y := i21 + 1) (lv' := [(3, .int (nI (i21 + 1))), (4, .int (nI i22)), (2, .int (nI 95154)), (0, .ref h0), (1, .ref st)]) hx hb dDA_restIsShort_94 hl rfl (by decide) rfl (by decide) rfl (fun ls hl => ?_)
          refine lv_goto (tgt := 12) hx hb dDA_restIsShort_97 (by decide) ?_
          exact ih21 (i21 + 1) pl ls H locs (by omega) (lv_sub hl [0, 2, 3, 4] rfl) hO hP hD hS
        | succ n22 ih22 =>
          intro i22 pl ls H locs hm22  hl hO hP hD hS
          refine lv_iload hx hb dDA_restIsShort_50 (lv_at hl 0 rfl) ?_
          refine lv_sipush (v := nI 256) hx hb dDA_restIsShort_52 (by decide) ?_
          refine mi_ge (tgt := 94) hx hb dDA_restIsShort_55 (by decide) (by omega) (by omega) (fun h24 => absurd h24 (by omega)) (fun h24 => ?_)
          refine lv_aload_n hx hb dDA_restIsShort_58 rfl (lv_at hl 4 rfl) ?_
          refine lv_aload_n hx hb dDA_restIsShort_59 rfl (lv_at hl 3 rfl) ?_
          refine ty_get (ci := 6) (C := "LatticeKeys$Dsa") (TT := T_DA) (N := 17) (kd := (15, 0)) hx hb hts (wg_ft i_DA) hown hK hO k_h0 (nxg hc0 k_h0 rfl) hP (fun _ h9 => h9) rfl 8 (by decide) (hts _ (wg_t kw_173)) (fun _ h9 => h9) (cd := (3, 3, 8)) rfl dDA_restIsShort_60 (fun v29 hv29 => ?_)
          obtain ⟨r27, rfl, kr27⟩ := (show ∃ r : Nat, v29 = .ref r ∧ T r = some (3, 8) from hv29)
          refine lv_iload_n hx hb dDA_restIsShort_63 rfl (lv_at hl 1 rfl) ?_
          refine ty_aald3 hx hb hK hO kr27 (nxg hc0 kr27 rfl) hP (by omega) (by decide) dDA_restIsShort_64 (fun r28 kr28 => ?_)
          refine lv_iload hx hb dDA_restIsShort_65 (lv_at hl 0 rfl) ?_
          refine ty_iald hx hb hK hO kr28 (nxg hc0 kr28 rfl) hP (vp_in_nI (by omega) (by decide)) dDA_restIsShort_67 (fun z21 => ?_)
          refine mp_i (cx := []) (wr := []) hP hD hS hA [] [] rfl rfl rfl (by decide) (va_runV (As := [.int z21]) (rest := []) F (t_DS_low_0 l g _ T xs pl hO hU hc0 st z21 k_st) (cwV 1 hts (wg_app (wg_c kw_1237 (wg_c kw_1238 (wg_c kw_1239 (wg_c kw_8 wg_n)))) kw_1240) rfl rfl rfl (by decide +kernel) ⟨by decide, by decide⟩) (pp_VT (en_ok g) (ci := 2) (kd := (43, 0)) hK hO k_st (nxg hc0 k_st rfl) (fun _ h9 => ko1 h9) hP hD hS hA hE [] rfl rfl rfl) rfl rfl hl.1 rfl (lv_room (Nat.le_of_ble_eq_true rfl)) dDA_restIsShort_68 ⟨by omega, by omega⟩) (fun r29 pl H locs hu23 hP hD hS => ?_)
          obtain ⟨hq23, hO⟩ := hu23
          have hP : va_P g.1 vcl ([] ++ pl) _ := hP
          have hD : va_D _ ([] ++ pl) := hD
          refine W.widen (k := 0) (n := 0) (by omega) (by omega) ?_
          refine lv_istore (lv' := [(5, .int r29), (4, .int (nI i22)), (3, .int (nI i21)), (2, .int (nI 95154)), (0, .ref h0), (1, .ref st)]) hx hb dDA_restIsShort_71 hl (by decide) rfl (fun ls hl => ?_)
          refine lv_iload hx hb dDA_restIsShort_73 (lv_at hl 0 rfl) ?_
          refine lv_iload_n hx hb dDA_restIsShort_75 rfl (lv_at hl 3 rfl) ?_
          refine lv_icmp_ge (tgt := 86) hx hb dDA_restIsShort_76 (by decide) (fun h25 => ?_) (fun h25 => ?_)
          · refine lv_iconst (v := nI 0) hx hb dDA_restIsShort_86 (by decide) ?_
            exact mp_zret hx hb hr hlk rfl hP hD hS pl ⟨(Or.inl rfl), hO⟩ [] rfl rfl rfl (by omega) (by omega) dDA_restIsShort_87
          · refine lv_iload hx hb dDA_restIsShort_79 (lv_at hl 0 rfl) ?_
            refine lv_iload_n hx hb dDA_restIsShort_81 rfl (lv_at hl 3 rfl) ?_
            refine lv_ineg hx hb dDA_restIsShort_82 ?_
            refine mi_any (fun z22 => ?_)
            refine lv_icmp_gt (tgt := 88) hx hb dDA_restIsShort_83 (by decide) (fun h26 => ?_) (fun h26 => ?_)
            · refine mi_iinc (k := 1) (x := i22) (d := 1) (y := i22 + 1) (lv' := [(4, .int (nI (i22 + 1))), (5, .int r29), (3, .int (nI i21)), (2, .int (nI 95154)), (0, .ref h0), (1, .ref st)]) hx hb dDA_restIsShort_88 hl rfl (by decide) rfl (by decide) rfl (fun ls hl => ?_)
              refine lv_goto (tgt := 50) hx hb dDA_restIsShort_91 (by decide) ?_
              exact ih22 (i22 + 1) pl ls H locs (by omega) (lv_sub hl [0, 2, 3, 4, 5] rfl) hO hP hD hS
            · refine lv_iconst (v := nI 0) hx hb dDA_restIsShort_86 (by decide) ?_
              exact mp_zret hx hb hr hlk rfl hP hD hS pl ⟨(Or.inl rfl), hO⟩ [] rfl rfl rfl (by omega) (by omega) dDA_restIsShort_87
      exact lp22 256 0 pl ls _ _ (by omega) (lv_sub hl [0, 1, 2, 3, 4] rfl) hO hP hD hS
  exact lp21 4 0 pl ls _ _ (by omega) (lv_sub hl [0, 1, 2, 3] rfl) hO hP hD hS
set_option maxHeartbeats 400000 in
set_option maxRecDepth 100000 in
theorem t_DA_restIsShort_1 (l : Launch) (g : Gd) (sz : Nat) (T : Ty) (xs : List Nat) (pl : va_W) (hO : okx g T xs pl) (hU : uni T) (hc0 : clo T xs 0) (h0 st : Nat) (k_h0 : T h0 = some (15, 0)) (k_st : T st = some (44, 0))  : Met l y_DA_restIsShort w_DA_restIsShort ({ frames := 3, cells := 0, slots := 0, locals := 74 } : Room) (va_Pc [.ref h0, .ref st] (pr (en g) g.1 vcl sz ([] ++ pl))) (va_Qi (fun (r : Int32) (u : va_W) => (r = nI 0 ∨ r = nI 1) ∧ okx g T xs u) (po g.1 vcl (va_A ([] ++ pl) sz) (fun (u : va_W) => [] ++ u)) (va_A ([] ++ pl) sz)) 0 0 (va_A ([] ++ pl) sz) := by
  refine mc_entry (cc := c_DA_restIsShort) (maxL := 6) (ret := (some .boolean)) (by decide) rfl (Nat.le_of_ble_eq_true rfl) ?_
  intro p e s m args below meth c ls F hr hlk hnm hsz hP hD hE hA hl
  obtain ⟨hx, hb, hml, hown, hts⟩ := id F
  have hK := hE.1
  generalize va_A ([] ++ pl) sz = A at hD hE hA ⊢
  have hS : va_S A s.heap s.heap [] := va_S.rf
  have hl : lv_has ls 6 [(0, .ref h0), (1, .ref st)] := hl
  refine lv_aload_n hx hb dDA_restIsShort_0 rfl (lv_at hl 1 rfl) ?_
  refine ty_get (ci := 2) (C := "LatticeKeys$DsaSet") (TT := T_DS) (N := 17) (kd := (44, 0)) hx hb hts (wg_ft i_DS) hown hK hO k_st (nxg hc0 k_st rfl) hP (fun _ h9 => h9) rfl 10 (by decide) (hts _ (wg_t kw_325)) (fun _ h9 => h9) (cd := (1, 0, 261888)) rfl dDA_restIsShort_1 (fun v21 hv21 => ?_)
  obtain rfl := (show v21 = .int (nI 261888) from hv21)
  refine lv_aload_n hx hb dDA_restIsShort_4 rfl (lv_at hl 1 rfl) ?_
  refine ty_get (ci := 2) (C := "LatticeKeys$DsaSet") (TT := T_DS) (N := 17) (kd := (44, 0)) hx hb hts (wg_ft i_DS) hown hK hO k_st (nxg hc0 k_st rfl) hP (fun _ h9 => h9) rfl 12 (by decide) (hts _ (wg_t kw_329)) (fun _ h9 => h9) (cd := (1, 0, 196)) rfl dDA_restIsShort_5 (fun v22 hv22 => ?_)
  obtain rfl := (show v22 = .int (nI 196) from hv22)
  refine mi_isub hx hb dDA_restIsShort_8 (by omega) ?_
  refine mi_as (show nI (261888 - 196) = nI 261692 from rfl) ?_
  refine lv_istore_n (lv' := [(2, .int (nI 261692)), (0, .ref h0), (1, .ref st)]) hx hb dDA_restIsShort_9 rfl hl (by decide) rfl (fun ls hl => ?_)
  refine lv_iconst (v := nI 0) hx hb dDA_restIsShort_10 (by decide) ?_
  refine lv_istore_n (lv' := [(3, .int (nI 0)), (2, .int (nI 261692)), (0, .ref h0), (1, .ref st)]) hx hb dDA_restIsShort_11 rfl hl (by decide) rfl (fun ls hl => ?_)
  have lp21 : ∀ (n21 : Nat) (i21 : Nat) (pl : va_W) (ls : Array Slot) (H : Heap) (locs : List Loc), n21 + i21 = 6 → lv_has ls 6 [(3, .int (nI i21)), (2, .int (nI 261692)), (0, .ref h0), (1, .ref st)] → okx g T xs pl → va_P g.1 vcl ([] ++ pl) H → va_D A ([] ++ pl) → va_S A s.heap H locs → W p l e ({ frames := 3, cells := 0, slots := 0, locals := 74 } : Room) s m args below meth c H locs 0 0 (MQ below (va_Qi (fun (r : Int32) (u : va_W) => (r = nI 0 ∨ r = nI 1) ∧ okx g T xs u) (po g.1 vcl A (fun (u : va_W) => [] ++ u)) A) args s 0 0 A) (F0 m 12 ls []) := by
    intro n21
    induction n21 with
    | zero =>
      intro i21 pl ls H locs hm21  hl hO hP hD hS
      refine lv_iload_n hx hb dDA_restIsShort_12 rfl (lv_at hl 0 rfl) ?_
      refine lv_aload_n hx hb dDA_restIsShort_13 rfl (lv_at hl 3 rfl) ?_
      refine ty_get (ci := 2) (C := "LatticeKeys$DsaSet") (TT := T_DS) (N := 17) (kd := (44, 0)) hx hb hts (wg_ft i_DS) hown hK hO k_st (nxg hc0 k_st rfl) hP (fun _ h9 => h9) rfl 0 (by decide) (hts _ (wg_t kw_302)) (fun _ h9 => h9) (cd := (1, 0, 6)) rfl dDA_restIsShort_14 (fun v23 hv23 => ?_)
      obtain rfl := (show v23 = .int (nI 6) from hv23)
      refine mi_ge (tgt := 100) hx hb dDA_restIsShort_17 (by decide) (by omega) (by omega) (fun h21 => ?_) (fun h21 => absurd h21 (by omega))
      refine lv_iconst (v := nI 1) hx hb dDA_restIsShort_100 (by decide) ?_
      exact mp_zret hx hb hr hlk rfl hP hD hS pl ⟨(Or.inr rfl), hO⟩ [] rfl rfl rfl (by omega) (by omega) dDA_restIsShort_101
    | succ n21 ih21 =>
      intro i21 pl ls H locs hm21  hl hO hP hD hS
      refine lv_iload_n hx hb dDA_restIsShort_12 rfl (lv_at hl 0 rfl) ?_
      refine lv_aload_n hx hb dDA_restIsShort_13 rfl (lv_at hl 3 rfl) ?_
      refine ty_get (ci := 2) (C := "LatticeKeys$DsaSet") (TT := T_DS) (N := 17) (kd := (44, 0)) hx hb hts (wg_ft i_DS) hown hK hO k_st (nxg hc0 k_st rfl) hP (fun _ h9 => h9) rfl 0 (by decide) (hts _ (wg_t kw_302)) (fun _ h9 => h9) (cd := (1, 0, 6)) rfl dDA_restIsShort_14 (fun v24 hv24 => ?_)
      obtain rfl := (show v24 = .int (nI 6) from hv24)
      refine mi_ge (tgt := 100) hx hb dDA_restIsShort_17 (by decide) (by omega) (by omega) (fun h22 => absurd h22 (by omega)) (fun h22 => ?_)
      refine lv_aload_n hx hb dDA_restIsShort_20 rfl (lv_at hl 2 rfl) ?_
      refine lv_aload_n hx hb dDA_restIsShort_21 rfl (lv_at hl 2 rfl) ?_
      refine ty_get (ci := 6) (C := "LatticeKeys$Dsa") (TT := T_DA) (N := 17) (kd := (15, 0)) hx hb hts (wg_ft i_DA) hown hK hO k_h0 (nxg hc0 k_h0 rfl) hP (fun _ h9 => h9) rfl 5 (by decide) (hts _ (wg_t kw_170)) (fun _ h9 => h9) (cd := (3, 3, 8)) rfl dDA_restIsShort_22 (fun v25 hv25 => ?_)
      obtain ⟨r21, rfl, kr21⟩ := (show ∃ r : Nat, v25 = .ref r ∧ T r = some (3, 8) from hv25)
      refine lv_iload_n hx hb dDA_restIsShort_25 rfl (lv_at hl 0 rfl) ?_
      refine ty_aald3 hx hb hK hO kr21 (nxg hc0 kr21 rfl) hP (by omega) (by decide) dDA_restIsShort_26 (fun r22 kr22 => ?_)
      refine mp_v (cx := []) (wr := []) hP hD hS hA [] [] rfl rfl rfl (by decide) (va_runV (As := [.ref r22]) (rest := []) F (t_DA_multiplyBall l g _ T xs pl hO hU hc0 h0 r22 k_h0 kr22) (cwV 1 hts (wg_app (wg_c kw_1224 (wg_c kw_1226 (wg_c ks_41 (wg_c kw_5 wg_n)))) kw_1227) rfl rfl rfl (by decide +kernel) ⟨by decide, by decide⟩) (pp_VT (en_ok g) (ci := 6) (kd := (15, 0)) hK hO k_h0 (nxg hc0 k_h0 rfl) (fun _ h9 => ko1 h9) hP hD hS hA hE [] rfl rfl rfl) rfl rfl hl.1 rfl (lv_room (Nat.le_of_ble_eq_true rfl)) dDA_restIsShort_27 ⟨by omega, by omega⟩) (fun  pl H locs hu21 hP hD hS => ?_)
      obtain ⟨hq21, hO⟩ := hu21
      have hP : va_P g.1 vcl ([] ++ pl) _ := hP
      have hD : va_D _ ([] ++ pl) := hD
      refine W.widen (k := 0) (n := 0) (by omega) (by omega) ?_
      refine lv_aload_n hx hb dDA_restIsShort_30 rfl (lv_at hl 2 rfl) ?_
      refine ty_get (ci := 6) (C := "LatticeKeys$Dsa") (TT := T_DA) (N := 17) (kd := (15, 0)) hx hb hts (wg_ft i_DA) hown hK hO k_h0 (nxg hc0 k_h0 rfl) hP (fun _ h9 => h9) rfl 1 (by decide) (hts _ (wg_t kw_166)) (fun _ h9 => h9) (cd := (3, 12, 0)) rfl dDA_restIsShort_31 (fun v26 hv26 => ?_)
      obtain ⟨r23, rfl, kr23⟩ := (show ∃ r : Nat, v26 = .ref r ∧ T r = some (12, 0) from hv26)
      refine lv_aload_n hx hb dDA_restIsShort_34 rfl (lv_at hl 2 rfl) ?_
      refine ty_get (ci := 6) (C := "LatticeKeys$Dsa") (TT := T_DA) (N := 17) (kd := (15, 0)) hx hb hts (wg_ft i_DA) hown hK hO k_h0 (nxg hc0 k_h0 rfl) hP (fun _ h9 => h9) rfl 8 (by decide) (hts _ (wg_t kw_173)) (fun _ h9 => h9) (cd := (3, 3, 8)) rfl dDA_restIsShort_35 (fun v27 hv27 => ?_)
      obtain ⟨r24, rfl, kr24⟩ := (show ∃ r : Nat, v27 = .ref r ∧ T r = some (3, 8) from hv27)
      refine lv_iload_n hx hb dDA_restIsShort_38 rfl (lv_at hl 0 rfl) ?_
      refine ty_aald3 hx hb hK hO kr24 (nxg hc0 kr24 rfl) hP (by omega) (by decide) dDA_restIsShort_39 (fun r25 kr25 => ?_)
      refine lv_aload_n hx hb dDA_restIsShort_40 rfl (lv_at hl 2 rfl) ?_
      refine ty_get (ci := 6) (C := "LatticeKeys$Dsa") (TT := T_DA) (N := 17) (kd := (15, 0)) hx hb hts (wg_ft i_DA) hown hK hO k_h0 (nxg hc0 k_h0 rfl) hP (fun _ h9 => h9) rfl 10 (by decide) (hts _ (wg_t kw_175)) (fun _ h9 => h9) (cd := (3, 0, 256)) rfl dDA_restIsShort_41 (fun v28 hv28 => ?_)
      obtain ⟨r26, rfl, kr26⟩ := (show ∃ r : Nat, v28 = .ref r ∧ T r = some (0, 256) from hv28)
      refine mp_v (cx := []) (wr := []) hP hD hS hA [] [] rfl rfl rfl (by decide) (va_runV (As := [.ref r25, .ref r26]) (rest := []) F (t_RG_subtract_12 l g _ T xs pl hO hU hc0 r23 r25 r26 kr23 kr25 kr26) (cwV 2 hts (wg_app (wg_c kw_1236 (wg_c kw_1155 (wg_c kw_1156 (wg_c kw_4 wg_n)))) kw_1157) rfl rfl rfl (by decide +kernel) ⟨by decide, by decide⟩) (pp_VT (en_ok g) (ci := 4) (kd := (12, 0)) hK hO kr23 (nxg hc0 kr23 rfl) (fun _ h9 => ko1 h9) hP hD hS hA hE [] rfl rfl rfl) rfl rfl hl.1 rfl (lv_room (Nat.le_of_ble_eq_true rfl)) dDA_restIsShort_44 ⟨by omega, by omega⟩) (fun  pl H locs hu22 hP hD hS => ?_)
      obtain ⟨hq22, hO⟩ := hu22
      have hP : va_P g.1 vcl ([] ++ pl) _ := hP
      have hD : va_D _ ([] ++ pl) := hD
      refine W.widen (k := 0) (n := 0) (by omega) (by omega) ?_
      refine lv_iconst (v := nI 0) hx hb dDA_restIsShort_47 (by decide) ?_
      refine lv_istore (lv' := [(4, .int (nI 0)), (3, .int (nI i21)), (2, .int (nI 261692)), (0, .ref h0), (1, .ref st)]) hx hb dDA_restIsShort_48 hl (by decide) rfl (fun ls hl => ?_)
      have lp22 : ∀ (n22 : Nat) (i22 : Nat) (pl : va_W) (ls : Array Slot) (H : Heap) (locs : List Loc), n22 + i22 = 256 → lv_has ls 6 [(4, .int (nI i22)), (3, .int (nI i21)), (2, .int (nI 261692)), (0, .ref h0), (1, .ref st)] → okx g T xs pl → va_P g.1 vcl ([] ++ pl) H → va_D A ([] ++ pl) → va_S A s.heap H locs → W p l e ({ frames := 3, cells := 0, slots := 0, locals := 74 } : Room) s m args below meth c H locs 0 0 (MQ below (va_Qi (fun (r : Int32) (u : va_W) => (r = nI 0 ∨ r = nI 1) ∧ okx g T xs u) (po g.1 vcl A (fun (u : va_W) => [] ++ u)) A) args s 0 0 A) (F0 m 50 ls []) := by
        intro n22
        induction n22 with
        | zero =>
          intro i22 pl ls H locs hm22  hl hO hP hD hS
          refine lv_iload hx hb dDA_restIsShort_50 (lv_at hl 0 rfl) ?_
          refine lv_sipush (v := nI 256) hx hb dDA_restIsShort_52 (by decide) ?_
          refine mi_ge (tgt := 94) hx hb dDA_restIsShort_55 (by decide) (by omega) (by omega) (fun h23 => ?_) (fun h23 => absurd h23 (by omega))
          refine mi_iinc (k := 1) (x := i21) (d := 1) (y := i21 + 1) (lv' := [(3, .int (nI (i21 + 1))), (4, .int (nI i22)), (2, .int (nI 261692)), (0, .ref h0), (1, .ref st)]) hx hb dDA_restIsShort_94 hl rfl (by decide) rfl (by decide) rfl (fun ls hl => ?_)
          refine lv_goto (tgt := 12) hx hb dDA_restIsShort_97 (by decide) ?_
          exact ih21 (i21 + 1) pl ls H locs (by omega) (lv_sub hl [0, 2, 3, 4] rfl) hO hP hD hS
        | succ n22 ih22 =>
          intro i22 pl ls H locs hm22  hl hO hP hD hS
          refine lv_iload hx hb dDA_restIsShort_50 (lv_at hl 0 rfl) ?_
          refine lv_sipush (v := nI 256) hx hb dDA_restIsShort_52 (by decide) ?_
          refine mi_ge (tgt := 94) hx hb dDA_restIsShort_55 (by decide) (by omega) (by omega) (fun h24 => absurd h24 (by omega)) (fun h24 => ?_)
          refine lv_aload_n hx hb dDA_restIsShort_58 rfl (lv_at hl 4 rfl) ?_
          refine lv_aload_n hx hb dDA_restIsShort_59 rfl (lv_at hl 3 rfl) ?_
          refine ty_get (ci := 6) (C := "LatticeKeys$Dsa") (TT := T_DA) (N := 17) (kd := (15, 0)) hx hb hts (wg_ft i_DA) hown hK hO k_h0 (nxg hc0 k_h0 rfl) hP (fun _ h9 => h9) rfl 8 (by decide) (hts _ (wg_t kw_173)) (fun _ h9 => h9) (cd := (3, 3, 8)) rfl dDA_restIsShort_60 (fun v29 hv29 => ?_)
          obtain ⟨r27, rfl, kr27⟩ := (show ∃ r : Nat, v29 = .ref r ∧ T r = some (3, 8) from hv29)
          refine lv_iload_n hx hb dDA_restIsShort_63 rfl (lv_at hl 1 rfl) ?_
          refine ty_aald3 hx hb hK hO kr27 (nxg hc0 kr27 rfl) hP (by omega) (by decide) dDA_restIsShort_64 (fun r28 kr28 => ?_)
          refine lv_iload hx hb dDA_restIsShort_65 (lv_at hl 0 rfl) ?_
          refine ty_iald hx hb hK hO kr28 (nxg hc0 kr28 rfl) hP (vp_in_nI (by omega) (by decide)) dDA_restIsShort_67 (fun z21 => ?_)
          refine mp_i (cx := []) (wr := []) hP hD hS hA [] [] rfl rfl rfl (by decide) (va_runV (As := [.int z21]) (rest := []) F (t_DS_low_1 l g _ T xs pl hO hU hc0 st z21 k_st) (cwV 1 hts (wg_app (wg_c kw_1237 (wg_c kw_1238 (wg_c kw_1239 (wg_c kw_8 wg_n)))) kw_1240) rfl rfl rfl (by decide +kernel) ⟨by decide, by decide⟩) (pp_VT (en_ok g) (ci := 2) (kd := (44, 0)) hK hO k_st (nxg hc0 k_st rfl) (fun _ h9 => ko1 h9) hP hD hS hA hE [] rfl rfl rfl) rfl rfl hl.1 rfl (lv_room (Nat.le_of_ble_eq_true rfl)) dDA_restIsShort_68 ⟨by omega, by omega⟩) (fun r29 pl H locs hu23 hP hD hS => ?_)
          obtain ⟨hq23, hO⟩ := hu23
          have hP : va_P g.1 vcl ([] ++ pl) _ := hP
          have hD : va_D _ ([] ++ pl) := hD
          refine W.widen (k := 0) (n := 0) (by omega) (by omega) ?_
          refine lv_istore (lv' := [(5, .int r29), (4, .int (nI i22)), (3, .int (nI i21)), (2, .int (nI 261692)), (0, .ref h0), (1, .ref st)]) hx hb dDA_restIsShort_71 hl (by decide) rfl (fun ls hl => ?_)
          refine lv_iload hx hb dDA_restIsShort_73 (lv_at hl 0 rfl) ?_
          refine lv_iload_n hx hb dDA_restIsShort_75 rfl (lv_at hl 3 rfl) ?_
          refine lv_icmp_ge (tgt := 86) hx hb dDA_restIsShort_76 (by decide) (fun h25 => ?_) (fun h25 => ?_)
          · refine lv_iconst (v := nI 0) hx hb dDA_restIsShort_86 (by decide) ?_
            exact mp_zret hx hb hr hlk rfl hP hD hS pl ⟨(Or.inl rfl), hO⟩ [] rfl rfl rfl (by omega) (by omega) dDA_restIsShort_87
          · refine lv_iload hx hb dDA_restIsShort_79 (lv_at hl 0 rfl) ?_
            refine lv_iload_n hx hb dDA_restIsShort_81 rfl (lv_at hl 3 rfl) ?_
            refine lv_ineg hx hb dDA_restIsShort_82 ?_
            refine mi_any (fun z22 => ?_)
            refine lv_icmp_gt (tgt := 88) hx hb dDA_restIsShort_83 (by decide) (fun h26 => ?_) (fun h26 => ?_)
            · refine mi_iinc (k := 1) (x := i22) (d := 1) (y := i22 + 1) (lv' := [(4, .int (nI (i22 + 1))), (5, .int r29), (3, .int (nI i21)), (2, .int (nI 261692)), (0, .ref h0), (1, .ref st)]) hx hb dDA_restIsShort_88 hl rfl (by decide) rfl (by decide) rfl (fun ls hl => ?_)
              refine lv_goto (tgt := 50) hx hb dDA_restIsShort_91 (by decide) ?_
              exact ih22 (i22 + 1) pl ls H locs (by omega) (lv_sub hl [0, 2, 3, 4, 5] rfl) hO hP hD hS
            · refine lv_iconst (v := nI 0) hx hb dDA_restIsShort_86 (by decide) ?_
              exact mp_zret hx hb hr hlk rfl hP hD hS pl ⟨(Or.inl rfl), hO⟩ [] rfl rfl rfl (by omega) (by omega) dDA_restIsShort_87
      exact lp22 256 0 pl ls _ _ (by omega) (lv_sub hl [0, 1, 2, 3, 4] rfl) hO hP hD hS
  exact lp21 6 0 pl ls _ _ (by omega) (lv_sub hl [0, 1, 2, 3] rfl) hO hP hD hS
set_option maxHeartbeats 400000 in
set_option maxRecDepth 100000 in
theorem t_DA_restIsShort_2 (l : Launch) (g : Gd) (sz : Nat) (T : Ty) (xs : List Nat) (pl : va_W) (hO : okx g T xs pl) (hU : uni T) (hc0 : clo T xs 0) (h0 st : Nat) (k_h0 : T h0 = some (15, 0)) (k_st : T st = some (45, 0))  : Met l y_DA_restIsShort w_DA_restIsShort ({ frames := 3, cells := 0, slots := 0, locals := 74 } : Room) (va_Pc [.ref h0, .ref st] (pr (en g) g.1 vcl sz ([] ++ pl))) (va_Qi (fun (r : Int32) (u : va_W) => (r = nI 0 ∨ r = nI 1) ∧ okx g T xs u) (po g.1 vcl (va_A ([] ++ pl) sz) (fun (u : va_W) => [] ++ u)) (va_A ([] ++ pl) sz)) 0 0 (va_A ([] ++ pl) sz) := by
  refine mc_entry (cc := c_DA_restIsShort) (maxL := 6) (ret := (some .boolean)) (by decide) rfl (Nat.le_of_ble_eq_true rfl) ?_
  intro p e s m args below meth c ls F hr hlk hnm hsz hP hD hE hA hl
  obtain ⟨hx, hb, hml, hown, hts⟩ := id F
  have hK := hE.1
  generalize va_A ([] ++ pl) sz = A at hD hE hA ⊢
  have hS : va_S A s.heap s.heap [] := va_S.rf
  have hl : lv_has ls 6 [(0, .ref h0), (1, .ref st)] := hl
  refine lv_aload_n hx hb dDA_restIsShort_0 rfl (lv_at hl 1 rfl) ?_
  refine ty_get (ci := 2) (C := "LatticeKeys$DsaSet") (TT := T_DS) (N := 17) (kd := (45, 0)) hx hb hts (wg_ft i_DS) hown hK hO k_st (nxg hc0 k_st rfl) hP (fun _ h9 => h9) rfl 10 (by decide) (hts _ (wg_t kw_325)) (fun _ h9 => h9) (cd := (1, 0, 261888)) rfl dDA_restIsShort_1 (fun v21 hv21 => ?_)
  obtain rfl := (show v21 = .int (nI 261888) from hv21)
  refine lv_aload_n hx hb dDA_restIsShort_4 rfl (lv_at hl 1 rfl) ?_
  refine ty_get (ci := 2) (C := "LatticeKeys$DsaSet") (TT := T_DS) (N := 17) (kd := (45, 0)) hx hb hts (wg_ft i_DS) hown hK hO k_st (nxg hc0 k_st rfl) hP (fun _ h9 => h9) rfl 12 (by decide) (hts _ (wg_t kw_329)) (fun _ h9 => h9) (cd := (1, 0, 120)) rfl dDA_restIsShort_5 (fun v22 hv22 => ?_)
  obtain rfl := (show v22 = .int (nI 120) from hv22)
  refine mi_isub hx hb dDA_restIsShort_8 (by omega) ?_
  refine mi_as (show nI (261888 - 120) = nI 261768 from rfl) ?_
  refine lv_istore_n (lv' := [(2, .int (nI 261768)), (0, .ref h0), (1, .ref st)]) hx hb dDA_restIsShort_9 rfl hl (by decide) rfl (fun ls hl => ?_)
  refine lv_iconst (v := nI 0) hx hb dDA_restIsShort_10 (by decide) ?_
  refine lv_istore_n (lv' := [(3, .int (nI 0)), (2, .int (nI 261768)), (0, .ref h0), (1, .ref st)]) hx hb dDA_restIsShort_11 rfl hl (by decide) rfl (fun ls hl => ?_)
  have lp21 : ∀ (n21 : Nat) (i21 : Nat) (pl : va_W) (ls : Array Slot) (H : Heap) (locs : List Loc), n21 + i21 = 8 → lv_has ls 6 [(3, .int (nI i21)), (2, .int (nI 261768)), (0, .ref h0), (1, .ref st)] → okx g T xs pl → va_P g.1 vcl ([] ++ pl) H → va_D A ([] ++ pl) → va_S A s.heap H locs → W p l e ({ frames := 3, cells := 0, slots := 0, locals := 74 } : Room) s m args below meth c H locs 0 0 (MQ below (va_Qi (fun (r : Int32) (u : va_W) => (r = nI 0 ∨ r = nI 1) ∧ okx g T xs u) (po g.1 vcl A (fun (u : va_W) => [] ++ u)) A) args s 0 0 A) (F0 m 12 ls []) := by
    intro n21
    induction n21 with
    | zero =>
      intro i21 pl ls H locs hm21  hl hO hP hD hS
      refine lv_iload_n hx hb dDA_restIsShort_12 rfl (lv_at hl 0 rfl) ?_
      refine lv_aload_n hx hb dDA_restIsShort_13 rfl (lv_at hl 3 rfl) ?_
      refine ty_get (ci := 2) (C := "LatticeKeys$DsaSet") (TT := T_DS) (N := 17) (kd := (45, 0)) hx hb hts (wg_ft i_DS) hown hK hO k_st (nxg hc0 k_st rfl) hP (fun _ h9 => h9) rfl 0 (by decide) (hts _ (wg_t kw_302)) (fun _ h9 => h9) (cd := (1, 0, 8)) rfl dDA_restIsShort_14 (fun v23 hv23 => ?_)
      obtain rfl := (show v23 = .int (nI 8) from hv23)
      refine mi_ge (tgt := 100) hx hb dDA_restIsShort_17 (by decide) (by omega) (by omega) (fun h21 => ?_) (fun h21 => absurd h21 (by omega))
      refine lv_iconst (v := nI 1) hx hb dDA_restIsShort_100 (by decide) ?_
      exact mp_zret hx hb hr hlk rfl hP hD hS pl ⟨(Or.inr rfl), hO⟩ [] rfl rfl rfl (by omega) (by omega) dDA_restIsShort_101
    | succ n21 ih21 =>
      intro i21 pl ls H locs hm21  hl hO hP hD hS
      refine lv_iload_n hx hb dDA_restIsShort_12 rfl (lv_at hl 0 rfl) ?_
      refine lv_aload_n hx hb dDA_restIsShort_13 rfl (lv_at hl 3 rfl) ?_
      refine ty_get (ci := 2) (C := "LatticeKeys$DsaSet") (TT := T_DS) (N := 17) (kd := (45, 0)) hx hb hts (wg_ft i_DS) hown hK hO k_st (nxg hc0 k_st rfl) hP (fun _ h9 => h9) rfl 0 (by decide) (hts _ (wg_t kw_302)) (fun _ h9 => h9) (cd := (1, 0, 8)) rfl dDA_restIsShort_14 (fun v24 hv24 => ?_)
      obtain rfl := (show v24 = .int (nI 8) from hv24)
      refine mi_ge (tgt := 100) hx hb dDA_restIsShort_17 (by decide) (by omega) (by omega) (fun h22 => absurd h22 (by omega)) (fun h22 => ?_)
      refine lv_aload_n hx hb dDA_restIsShort_20 rfl (lv_at hl 2 rfl) ?_
      refine lv_aload_n hx hb dDA_restIsShort_21 rfl (lv_at hl 2 rfl) ?_
      refine ty_get (ci := 6) (C := "LatticeKeys$Dsa") (TT := T_DA) (N := 17) (kd := (15, 0)) hx hb hts (wg_ft i_DA) hown hK hO k_h0 (nxg hc0 k_h0 rfl) hP (fun _ h9 => h9) rfl 5 (by decide) (hts _ (wg_t kw_170)) (fun _ h9 => h9) (cd := (3, 3, 8)) rfl dDA_restIsShort_22 (fun v25 hv25 => ?_)
      obtain ⟨r21, rfl, kr21⟩ := (show ∃ r : Nat, v25 = .ref r ∧ T r = some (3, 8) from hv25)
      refine lv_iload_n hx hb dDA_restIsShort_25 rfl (lv_at hl 0 rfl) ?_
      refine ty_aald3 hx hb hK hO kr21 (nxg hc0 kr21 rfl) hP (by omega) (by decide) dDA_restIsShort_26 (fun r22 kr22 => ?_)
      refine mp_v (cx := []) (wr := []) hP hD hS hA [] [] rfl rfl rfl (by decide) (va_runV (As := [.ref r22]) (rest := []) F (t_DA_multiplyBall l g _ T xs pl hO hU hc0 h0 r22 k_h0 kr22) (cwV 1 hts (wg_app (wg_c kw_1224 (wg_c kw_1226 (wg_c ks_41 (wg_c kw_5 wg_n)))) kw_1227) rfl rfl rfl (by decide +kernel) ⟨by decide, by decide⟩) (pp_VT (en_ok g) (ci := 6) (kd := (15, 0)) hK hO k_h0 (nxg hc0 k_h0 rfl) (fun _ h9 => ko1 h9) hP hD hS hA hE [] rfl rfl rfl) rfl rfl hl.1 rfl (lv_room (Nat.le_of_ble_eq_true rfl)) dDA_restIsShort_27 ⟨by omega, by omega⟩) (fun  pl H locs hu21 hP hD hS => ?_)
      obtain ⟨hq21, hO⟩ := hu21
      have hP : va_P g.1 vcl ([] ++ pl) _ := hP
      have hD : va_D _ ([] ++ pl) := hD
      refine W.widen (k := 0) (n := 0) (by omega) (by omega) ?_
      refine lv_aload_n hx hb dDA_restIsShort_30 rfl (lv_at hl 2 rfl) ?_
      refine ty_get (ci := 6) (C := "LatticeKeys$Dsa") (TT := T_DA) (N := 17) (kd := (15, 0)) hx hb hts (wg_ft i_DA) hown hK hO k_h0 (nxg hc0 k_h0 rfl) hP (fun _ h9 => h9) rfl 1 (by decide) (hts _ (wg_t kw_166)) (fun _ h9 => h9) (cd := (3, 12, 0)) rfl dDA_restIsShort_31 (fun v26 hv26 => ?_)
      obtain ⟨r23, rfl, kr23⟩ := (show ∃ r : Nat, v26 = .ref r ∧ T r = some (12, 0) from hv26)
      refine lv_aload_n hx hb dDA_restIsShort_34 rfl (lv_at hl 2 rfl) ?_
      refine ty_get (ci := 6) (C := "LatticeKeys$Dsa") (TT := T_DA) (N := 17) (kd := (15, 0)) hx hb hts (wg_ft i_DA) hown hK hO k_h0 (nxg hc0 k_h0 rfl) hP (fun _ h9 => h9) rfl 8 (by decide) (hts _ (wg_t kw_173)) (fun _ h9 => h9) (cd := (3, 3, 8)) rfl dDA_restIsShort_35 (fun v27 hv27 => ?_)
      obtain ⟨r24, rfl, kr24⟩ := (show ∃ r : Nat, v27 = .ref r ∧ T r = some (3, 8) from hv27)
      refine lv_iload_n hx hb dDA_restIsShort_38 rfl (lv_at hl 0 rfl) ?_
      refine ty_aald3 hx hb hK hO kr24 (nxg hc0 kr24 rfl) hP (by omega) (by decide) dDA_restIsShort_39 (fun r25 kr25 => ?_)
      refine lv_aload_n hx hb dDA_restIsShort_40 rfl (lv_at hl 2 rfl) ?_
      refine ty_get (ci := 6) (C := "LatticeKeys$Dsa") (TT := T_DA) (N := 17) (kd := (15, 0)) hx hb hts (wg_ft i_DA) hown hK hO k_h0 (nxg hc0 k_h0 rfl) hP (fun _ h9 => h9) rfl 10 (by decide) (hts _ (wg_t kw_175)) (fun _ h9 => h9) (cd := (3, 0, 256)) rfl dDA_restIsShort_41 (fun v28 hv28 => ?_)
      obtain ⟨r26, rfl, kr26⟩ := (show ∃ r : Nat, v28 = .ref r ∧ T r = some (0, 256) from hv28)
      refine mp_v (cx := []) (wr := []) hP hD hS hA [] [] rfl rfl rfl (by decide) (va_runV (As := [.ref r25, .ref r26]) (rest := []) F (t_RG_subtract_12 l g _ T xs pl hO hU hc0 r23 r25 r26 kr23 kr25 kr26) (cwV 2 hts (wg_app (wg_c kw_1236 (wg_c kw_1155 (wg_c kw_1156 (wg_c kw_4 wg_n)))) kw_1157) rfl rfl rfl (by decide +kernel) ⟨by decide, by decide⟩) (pp_VT (en_ok g) (ci := 4) (kd := (12, 0)) hK hO kr23 (nxg hc0 kr23 rfl) (fun _ h9 => ko1 h9) hP hD hS hA hE [] rfl rfl rfl) rfl rfl hl.1 rfl (lv_room (Nat.le_of_ble_eq_true rfl)) dDA_restIsShort_44 ⟨by omega, by omega⟩) (fun  pl H locs hu22 hP hD hS => ?_)
      obtain ⟨hq22, hO⟩ := hu22
      have hP : va_P g.1 vcl ([] ++ pl) _ := hP
      have hD : va_D _ ([] ++ pl) := hD
      refine W.widen (k := 0) (n := 0) (by omega) (by omega) ?_
      refine lv_iconst (v := nI 0) hx hb dDA_restIsShort_47 (by decide) ?_
      refine lv_istore (lv' := [(4, .int (nI 0)), (3, .int (nI i21)), (2, .int (nI 261768)), (0, .ref h0), (1, .ref st)]) hx hb dDA_restIsShort_48 hl (by decide) rfl (fun ls hl => ?_)
      have lp22 : ∀ (n22 : Nat) (i22 : Nat) (pl : va_W) (ls : Array Slot) (H : Heap) (locs : List Loc), n22 + i22 = 256 → lv_has ls 6 [(4, .int (nI i22)), (3, .int (nI i21)), (2, .int (nI 261768)), (0, .ref h0), (1, .ref st)] → okx g T xs pl → va_P g.1 vcl ([] ++ pl) H → va_D A ([] ++ pl) → va_S A s.heap H locs → W p l e ({ frames := 3, cells := 0, slots := 0, locals := 74 } : Room) s m args below meth c H locs 0 0 (MQ below (va_Qi (fun (r : Int32) (u : va_W) => (r = nI 0 ∨ r = nI 1) ∧ okx g T xs u) (po g.1 vcl A (fun (u : va_W) => [] ++ u)) A) args s 0 0 A) (F0 m 50 ls []) := by
        intro n22
        induction n22 with
        | zero =>
          intro i22 pl ls H locs hm22  hl hO hP hD hS
          refine lv_iload hx hb dDA_restIsShort_50 (lv_at hl 0 rfl) ?_
          refine lv_sipush (v := nI 256) hx hb dDA_restIsShort_52 (by decide) ?_
          refine mi_ge (tgt := 94) hx hb dDA_restIsShort_55 (by decide) (by omega) (by omega) (fun h23 => ?_) (fun h23 => absurd h23 (by omega))
          refine mi_iinc (k := 1) (x := i21) (d := 1) (y := i21 + 1) (lv' := [(3, .int (nI (i21 + 1))), (4, .int (nI i22)), (2, .int (nI 261768)), (0, .ref h0), (1, .ref st)]) hx hb dDA_restIsShort_94 hl rfl (by decide) rfl (by decide) rfl (fun ls hl => ?_)
          refine lv_goto (tgt := 12) hx hb dDA_restIsShort_97 (by decide) ?_
          exact ih21 (i21 + 1) pl ls H locs (by omega) (lv_sub hl [0, 2, 3, 4] rfl) hO hP hD hS
        | succ n22 ih22 =>
          intro i22 pl ls H locs hm22  hl hO hP hD hS
          refine lv_iload hx hb dDA_restIsShort_50 (lv_at hl 0 rfl) ?_
          refine lv_sipush (v := nI 256) hx hb dDA_restIsShort_52 (by decide) ?_
          refine mi_ge (tgt := 94) hx hb dDA_restIsShort_55 (by decide) (by omega) (by omega) (fun h24 => absurd h24 (by omega)) (fun h24 => ?_)
          refine lv_aload_n hx hb dDA_restIsShort_58 rfl (lv_at hl 4 rfl) ?_
          refine lv_aload_n hx hb dDA_restIsShort_59 rfl (lv_at hl 3 rfl) ?_
          refine ty_get (ci := 6) (C := "LatticeKeys$Dsa") (TT := T_DA) (N := 17) (kd := (15, 0)) hx hb hts (wg_ft i_DA) hown hK hO k_h0 (nxg hc0 k_h0 rfl) hP (fun _ h9 => h9) rfl 8 (by decide) (hts _ (wg_t kw_173)) (fun _ h9 => h9) (cd := (3, 3, 8)) rfl dDA_restIsShort_60 (fun v29 hv29 => ?_)
          obtain ⟨r27, rfl, kr27⟩ := (show ∃ r : Nat, v29 = .ref r ∧ T r = some (3, 8) from hv29)
          refine lv_iload_n hx hb dDA_restIsShort_63 rfl (lv_at hl 1 rfl) ?_
          refine ty_aald3 hx hb hK hO kr27 (nxg hc0 kr27 rfl) hP (by omega) (by decide) dDA_restIsShort_64 (fun r28 kr28 => ?_)
          refine lv_iload hx hb dDA_restIsShort_65 (lv_at hl 0 rfl) ?_
          refine ty_iald hx hb hK hO kr28 (nxg hc0 kr28 rfl) hP (vp_in_nI (by omega) (by decide)) dDA_restIsShort_67 (fun z21 => ?_)
          refine mp_i (cx := []) (wr := []) hP hD hS hA [] [] rfl rfl rfl (by decide) (va_runV (As := [.int z21]) (rest := []) F (t_DS_low_2 l g _ T xs pl hO hU hc0 st z21 k_st) (cwV 1 hts (wg_app (wg_c kw_1237 (wg_c kw_1238 (wg_c kw_1239 (wg_c kw_8 wg_n)))) kw_1240) rfl rfl rfl (by decide +kernel) ⟨by decide, by decide⟩) (pp_VT (en_ok g) (ci := 2) (kd := (45, 0)) hK hO k_st (nxg hc0 k_st rfl) (fun _ h9 => ko1 h9) hP hD hS hA hE [] rfl rfl rfl) rfl rfl hl.1 rfl (lv_room (Nat.le_of_ble_eq_true rfl)) dDA_restIsShort_68 ⟨by omega, by omega⟩) (fun r29 pl H locs hu23 hP hD hS => ?_)
          obtain ⟨hq23, hO⟩ := hu23
          have hP : va_P g.1 vcl ([] ++ pl) _ := hP
          have hD : va_D _ ([] ++ pl) := hD
          refine W.widen (k := 0) (n := 0) (by omega) (by omega) ?_
          refine lv_istore (lv' := [(5, .int r29), (4, .int (nI i22)), (3, .int (nI i21)), (2, .int (nI 261768)), (0, .ref h0), (1, .ref st)]) hx hb dDA_restIsShort_71 hl (by decide) rfl (fun ls hl => ?_)
          refine lv_iload hx hb dDA_restIsShort_73 (lv_at hl 0 rfl) ?_
          refine lv_iload_n hx hb dDA_restIsShort_75 rfl (lv_at hl 3 rfl) ?_
          refine lv_icmp_ge (tgt := 86) hx hb dDA_restIsShort_76 (by decide) (fun h25 => ?_) (fun h25 => ?_)
          · refine lv_iconst (v := nI 0) hx hb dDA_restIsShort_86 (by decide) ?_
            exact mp_zret hx hb hr hlk rfl hP hD hS pl ⟨(Or.inl rfl), hO⟩ [] rfl rfl rfl (by omega) (by omega) dDA_restIsShort_87
          · refine lv_iload hx hb dDA_restIsShort_79 (lv_at hl 0 rfl) ?_
            refine lv_iload_n hx hb dDA_restIsShort_81 rfl (lv_at hl 3 rfl) ?_
            refine lv_ineg hx hb dDA_restIsShort_82 ?_
            refine mi_any (fun z22 => ?_)
            refine lv_icmp_gt (tgt := 88) hx hb dDA_restIsShort_83 (by decide) (fun h26 => ?_) (fun h26 => ?_)
            · refine mi_iinc (k := 1) (x := i22) (d := 1) (y := i22 + 1) (lv' := [(4, .int (nI (i22 + 1))), (5, .int r29), (3, .int (nI i21)), (2, .int (nI 261768)), (0, .ref h0), (1, .ref st)]) hx hb dDA_restIsShort_88 hl rfl (by decide) rfl (by decide) rfl (fun ls hl => ?_)
              refine lv_goto (tgt := 50) hx hb dDA_restIsShort_91 (by decide) ?_
              exact ih22 (i22 + 1) pl ls H locs (by omega) (lv_sub hl [0, 2, 3, 4, 5] rfl) hO hP hD hS
            · refine lv_iconst (v := nI 0) hx hb dDA_restIsShort_86 (by decide) ?_
              exact mp_zret hx hb hr hlk rfl hP hD hS pl ⟨(Or.inl rfl), hO⟩ [] rfl rfl rfl (by omega) (by omega) dDA_restIsShort_87
      exact lp22 256 0 pl ls _ _ (by omega) (lv_sub hl [0, 1, 2, 3, 4] rfl) hO hP hD hS
  exact lp21 8 0 pl ls _ _ (by omega) (lv_sub hl [0, 1, 2, 3] rfl) hO hP hD hS
set_option maxHeartbeats 400000 in
set_option maxRecDepth 100000 in
theorem t_DA_makeHints_0 (l : Launch) (g : Gd) (sz : Nat) (T : Ty) (xs : List Nat) (pl : va_W) (hO : okx g T xs pl) (hU : uni T) (hc0 : clo T xs 0) (hc20 : clo T xs 20) (h0 st : Nat) (k_h0 : T h0 = some (15, 0)) (k_st : T st = some (43, 0))  : Met l y_DA_makeHints w_DA_makeHints ({ frames := 3, cells := 0, slots := 0, locals := 74 } : Room) (va_Pc [.ref h0, .ref st] (pr (en g) g.1 vcl sz ([] ++ pl))) (va_Qi (fun (r : Int32) (u : va_W) => (r = nI 0 ∨ r = nI 1) ∧ okx g T xs u) (po g.1 vcl (va_A ([] ++ pl) sz) (fun (u : va_W) => [] ++ u)) (va_A ([] ++ pl) sz)) 0 0 (va_A ([] ++ pl) sz) := by
  refine mc_entry (cc := c_DA_makeHints) (maxL := 5) (ret := (some .boolean)) (by decide) rfl (Nat.le_of_ble_eq_true rfl) ?_
  intro p e s m args below meth c ls F hr hlk hnm hsz hP hD hE hA hl
  obtain ⟨hx, hb, hml, hown, hts⟩ := id F
  have hK := hE.1
  generalize va_A ([] ++ pl) sz = A at hD hE hA ⊢
  have hS : va_S A s.heap s.heap [] := va_S.rf
  have hl : lv_has ls 5 [(0, .ref h0), (1, .ref st)] := hl
  refine lv_aload_n hx hb dDA_makeHints_0 rfl (lv_at hl 0 rfl) ?_
  refine ty_get (ci := 6) (C := "LatticeKeys$Dsa") (TT := T_DA) (N := 17) (kd := (15, 0)) hx hb hts (wg_ft i_DA) hown hK hO k_h0 (nxg hc0 k_h0 rfl) hP (fun _ h9 => h9) rfl 15 (by decide) (hts _ (wg_t kw_180)) (fun _ h9 => h9) (cd := (3, 8, 84)) rfl dDA_makeHints_1 (fun v21 hv21 => ?_)
  obtain ⟨r21, rfl, kr21⟩ := (show ∃ r : Nat, v21 = .ref r ∧ T r = some (8, 84) from hv21)
  refine lv_iconst (v := nI 0) hx hb dDA_makeHints_4 (by decide) ?_
  refine mp_v (cx := []) (wr := []) hP hD hS hA [] [] rfl rfl rfl (by decide) (va_runS (As := [.ref r21, .int (nI 0)]) (rest := []) F (t_fillB l g _ T xs pl hO hU hc20 r21 (nI 0) kr21) (va_cwS 2 hts (wg_app (wg_c kw_1245 (wg_c kw_1246 (wg_c kw_21 wg_n))) kw_1247) rfl rfl rfl (by decide +kernel) ⟨by decide, by decide⟩) (pp_S (en_ok g) hP hD hS hA hE [] rfl rfl) rfl rfl hl.1 rfl (lv_room (Nat.le_of_ble_eq_true rfl)) dDA_makeHints_5 ⟨by omega, by omega⟩) (fun  pl H locs hu21 hP hD hS => ?_)
  obtain ⟨hq21, hO⟩ := hu21
  have hP : va_P g.1 vcl ([] ++ pl) _ := hP
  have hD : va_D _ ([] ++ pl) := hD
  refine W.widen (k := 0) (n := 0) (by omega) (by omega) ?_
  refine lv_iconst (v := nI 0) hx hb dDA_makeHints_8 (by decide) ?_
  refine lv_istore_n (lv' := [(2, .int (nI 0)), (0, .ref h0), (1, .ref st)]) hx hb dDA_makeHints_9 rfl hl (by decide) rfl (fun ls hl => ?_)
  refine lv_iconst (v := nI 0) hx hb dDA_makeHints_10 (by decide) ?_
  refine lv_istore_n (lv' := [(3, .int (nI 0)), (2, .int (nI 0)), (0, .ref h0), (1, .ref st)]) hx hb dDA_makeHints_11 rfl hl (by decide) rfl (fun ls hl => ?_)
  have lp21 : ∀ (n21 : Nat) (i21 : Nat) (cn21 : Nat) (pl : va_W) (ls : Array Slot) (H : Heap) (locs : List Loc), n21 + i21 = 4 → (cn21 ≤ 80) → lv_has ls 5 [(3, .int (nI i21)), (2, .int (nI cn21)), (0, .ref h0), (1, .ref st)] → okx g T xs pl → va_P g.1 vcl ([] ++ pl) H → va_D A ([] ++ pl) → va_S A s.heap H locs → W p l e ({ frames := 3, cells := 0, slots := 0, locals := 74 } : Room) s m args below meth c H locs 0 0 (MQ below (va_Qi (fun (r : Int32) (u : va_W) => (r = nI 0 ∨ r = nI 1) ∧ okx g T xs u) (po g.1 vcl A (fun (u : va_W) => [] ++ u)) A) args s 0 0 A) (F0 m 12 ls []) := by
    intro n21
    induction n21 with
    | zero =>
      intro i21 cn21 pl ls H locs hm21 hi21 hl hO hP hD hS
      refine lv_iload_n hx hb dDA_makeHints_12 rfl (lv_at hl 0 rfl) ?_
      refine lv_aload_n hx hb dDA_makeHints_13 rfl (lv_at hl 3 rfl) ?_
      refine ty_get (ci := 2) (C := "LatticeKeys$DsaSet") (TT := T_DS) (N := 17) (kd := (43, 0)) hx hb hts (wg_ft i_DS) hown hK hO k_st (nxg hc0 k_st rfl) hP (fun _ h9 => h9) rfl 0 (by decide) (hts _ (wg_t kw_302)) (fun _ h9 => h9) (cd := (1, 0, 4)) rfl dDA_makeHints_14 (fun v22 hv22 => ?_)
      obtain rfl := (show v22 = .int (nI 4) from hv22)
      refine mi_ge (tgt := 152) hx hb dDA_makeHints_17 (by decide) (by omega) (by omega) (fun h21 => ?_) (fun h21 => absurd h21 (by omega))
      refine lv_iconst (v := nI 1) hx hb dDA_makeHints_152 (by decide) ?_
      exact mp_zret hx hb hr hlk rfl hP hD hS pl ⟨(Or.inr rfl), hO⟩ [] rfl rfl rfl (by omega) (by omega) dDA_makeHints_153
    | succ n21 ih21 =>
      intro i21 cn21 pl ls H locs hm21 hi21 hl hO hP hD hS
      refine lv_iload_n hx hb dDA_makeHints_12 rfl (lv_at hl 0 rfl) ?_
      refine lv_aload_n hx hb dDA_makeHints_13 rfl (lv_at hl 3 rfl) ?_
      refine ty_get (ci := 2) (C := "LatticeKeys$DsaSet") (TT := T_DS) (N := 17) (kd := (43, 0)) hx hb hts (wg_ft i_DS) hown hK hO k_st (nxg hc0 k_st rfl) hP (fun _ h9 => h9) rfl 0 (by decide) (hts _ (wg_t kw_302)) (fun _ h9 => h9) (cd := (1, 0, 4)) rfl dDA_makeHints_14 (fun v23 hv23 => ?_)
      obtain rfl := (show v23 = .int (nI 4) from hv23)
      refine mi_ge (tgt := 152) hx hb dDA_makeHints_17 (by decide) (by omega) (by omega) (fun h22 => absurd h22 (by omega)) (fun h22 => ?_)
      refine lv_aload_n hx hb dDA_makeHints_20 rfl (lv_at hl 2 rfl) ?_
      refine lv_aload_n hx hb dDA_makeHints_21 rfl (lv_at hl 2 rfl) ?_
      refine ty_get (ci := 6) (C := "LatticeKeys$Dsa") (TT := T_DA) (N := 17) (kd := (15, 0)) hx hb hts (wg_ft i_DA) hown hK hO k_h0 (nxg hc0 k_h0 rfl) hP (fun _ h9 => h9) rfl 6 (by decide) (hts _ (wg_t kw_171)) (fun _ h9 => h9) (cd := (3, 3, 8)) rfl dDA_makeHints_22 (fun v24 hv24 => ?_)
      obtain ⟨r22, rfl, kr22⟩ := (show ∃ r : Nat, v24 = .ref r ∧ T r = some (3, 8) from hv24)
      refine lv_iload_n hx hb dDA_makeHints_25 rfl (lv_at hl 0 rfl) ?_
      refine ty_aald3 hx hb hK hO kr22 (nxg hc0 kr22 rfl) hP (by omega) (by decide) dDA_makeHints_26 (fun r23 kr23 => ?_)
      refine mp_v (cx := []) (wr := []) hP hD hS hA [] [] rfl rfl rfl (by decide) (va_runV (As := [.ref r23]) (rest := []) F (t_DA_multiplyBall l g _ T xs pl hO hU hc0 h0 r23 k_h0 kr23) (cwV 1 hts (wg_app (wg_c kw_1224 (wg_c kw_1226 (wg_c ks_41 (wg_c kw_5 wg_n)))) kw_1227) rfl rfl rfl (by decide +kernel) ⟨by decide, by decide⟩) (pp_VT (en_ok g) (ci := 6) (kd := (15, 0)) hK hO k_h0 (nxg hc0 k_h0 rfl) (fun _ h9 => ko1 h9) hP hD hS hA hE [] rfl rfl rfl) rfl rfl hl.1 rfl (lv_room (Nat.le_of_ble_eq_true rfl)) dDA_makeHints_27 ⟨by omega, by omega⟩) (fun  pl H locs hu22 hP hD hS => ?_)
      obtain ⟨hq22, hO⟩ := hu22
      have hP : va_P g.1 vcl ([] ++ pl) _ := hP
      have hD : va_D _ ([] ++ pl) := hD
      refine W.widen (k := 0) (n := 0) (by omega) (by omega) ?_
      refine lv_aload_n hx hb dDA_makeHints_30 rfl (lv_at hl 2 rfl) ?_
      refine ty_get (ci := 6) (C := "LatticeKeys$Dsa") (TT := T_DA) (N := 17) (kd := (15, 0)) hx hb hts (wg_ft i_DA) hown hK hO k_h0 (nxg hc0 k_h0 rfl) hP (fun _ h9 => h9) rfl 1 (by decide) (hts _ (wg_t kw_166)) (fun _ h9 => h9) (cd := (3, 12, 0)) rfl dDA_makeHints_31 (fun v25 hv25 => ?_)
      obtain ⟨r24, rfl, kr24⟩ := (show ∃ r : Nat, v25 = .ref r ∧ T r = some (12, 0) from hv25)
      refine lv_aload_n hx hb dDA_makeHints_34 rfl (lv_at hl 2 rfl) ?_
      refine ty_get (ci := 6) (C := "LatticeKeys$Dsa") (TT := T_DA) (N := 17) (kd := (15, 0)) hx hb hts (wg_ft i_DA) hown hK hO k_h0 (nxg hc0 k_h0 rfl) hP (fun _ h9 => h9) rfl 10 (by decide) (hts _ (wg_t kw_175)) (fun _ h9 => h9) (cd := (3, 0, 256)) rfl dDA_makeHints_35 (fun v26 hv26 => ?_)
      obtain ⟨r25, rfl, kr25⟩ := (show ∃ r : Nat, v26 = .ref r ∧ T r = some (0, 256) from hv26)
      refine lv_aload_n hx hb dDA_makeHints_38 rfl (lv_at hl 3 rfl) ?_
      refine ty_get (ci := 2) (C := "LatticeKeys$DsaSet") (TT := T_DS) (N := 17) (kd := (43, 0)) hx hb hts (wg_ft i_DS) hown hK hO k_st (nxg hc0 k_st rfl) hP (fun _ h9 => h9) rfl 10 (by decide) (hts _ (wg_t kw_325)) (fun _ h9 => h9) (cd := (1, 0, 95232)) rfl dDA_makeHints_39 (fun v27 hv27 => ?_)
      obtain rfl := (show v27 = .int (nI 95232) from hv27)
      refine mp_i (cx := []) (wr := []) hP hD hS hA [] [] rfl rfl rfl (by decide) (va_runV (As := [.ref r25, .int (nI 95232)]) (rest := []) F (t_RG_isShort_12 l g _ T xs pl hO hU hc0 r24 r25 (nI 95232) kr24 kr25) (cwV 2 hts (wg_app (wg_c kw_1228 (wg_c kw_1229 (wg_c kw_1230 (wg_c kw_4 wg_n)))) kw_1231) rfl rfl rfl (by decide +kernel) ⟨by decide, by decide⟩) (pp_VT (en_ok g) (ci := 4) (kd := (12, 0)) hK hO kr24 (nxg hc0 kr24 rfl) (fun _ h9 => ko1 h9) hP hD hS hA hE [] rfl rfl rfl) rfl rfl hl.1 rfl (lv_room (Nat.le_of_ble_eq_true rfl)) dDA_makeHints_42 ⟨by omega, by omega⟩) (fun r26 pl H locs hu23 hP hD hS => ?_)
      obtain ⟨hq23, hO⟩ := hu23
      have hP : va_P g.1 vcl ([] ++ pl) _ := hP
      have hD : va_D _ ([] ++ pl) := hD
      refine W.widen (k := 0) (n := 0) (by omega) (by omega) ?_
      refine lv_if_ne (tgt := 50) hx hb dDA_makeHints_45 (by decide) (fun h23 => ?_) (fun h23 => ?_)
      · refine lv_aload_n hx hb dDA_makeHints_50 rfl (lv_at hl 2 rfl) ?_
        refine ty_get (ci := 6) (C := "LatticeKeys$Dsa") (TT := T_DA) (N := 17) (kd := (15, 0)) hx hb hts (wg_ft i_DA) hown hK hO k_h0 (nxg hc0 k_h0 rfl) hP (fun _ h9 => h9) rfl 1 (by decide) (hts _ (wg_t kw_166)) (fun _ h9 => h9) (cd := (3, 12, 0)) rfl dDA_makeHints_51 (fun v28 hv28 => ?_)
        obtain ⟨r27, rfl, kr26⟩ := (show ∃ r : Nat, v28 = .ref r ∧ T r = some (12, 0) from hv28)
        refine lv_aload_n hx hb dDA_makeHints_54 rfl (lv_at hl 2 rfl) ?_
        refine ty_get (ci := 6) (C := "LatticeKeys$Dsa") (TT := T_DA) (N := 17) (kd := (15, 0)) hx hb hts (wg_ft i_DA) hown hK hO k_h0 (nxg hc0 k_h0 rfl) hP (fun _ h9 => h9) rfl 10 (by decide) (hts _ (wg_t kw_175)) (fun _ h9 => h9) (cd := (3, 0, 256)) rfl dDA_makeHints_55 (fun v29 hv29 => ?_)
        obtain ⟨r28, rfl, kr27⟩ := (show ∃ r : Nat, v29 = .ref r ∧ T r = some (0, 256) from hv29)
        refine lv_aload_n hx hb dDA_makeHints_58 rfl (lv_at hl 2 rfl) ?_
        refine ty_get (ci := 6) (C := "LatticeKeys$Dsa") (TT := T_DA) (N := 17) (kd := (15, 0)) hx hb hts (wg_ft i_DA) hown hK hO k_h0 (nxg hc0 k_h0 rfl) hP (fun _ h9 => h9) rfl 8 (by decide) (hts _ (wg_t kw_173)) (fun _ h9 => h9) (cd := (3, 3, 8)) rfl dDA_makeHints_59 (fun v30 hv30 => ?_)
        obtain ⟨r29, rfl, kr28⟩ := (show ∃ r : Nat, v30 = .ref r ∧ T r = some (3, 8) from hv30)
        refine lv_iload_n hx hb dDA_makeHints_62 rfl (lv_at hl 0 rfl) ?_
        refine ty_aald3 hx hb hK hO kr28 (nxg hc0 kr28 rfl) hP (by omega) (by decide) dDA_makeHints_63 (fun r30 kr29 => ?_)
        refine mp_v (cx := []) (wr := []) hP hD hS hA [] [] rfl rfl rfl (by decide) (va_runV (As := [.ref r28, .ref r30]) (rest := []) F (t_RG_add_12 l g _ T xs pl hO hU hc0 r27 r28 r30 kr26 kr27 kr29) (cwV 2 hts (wg_app (wg_c kw_728 (wg_c kw_729 (wg_c kw_730 (wg_c kw_4 wg_n)))) kw_731) rfl rfl rfl (by decide +kernel) ⟨by decide, by decide⟩) (pp_VT (en_ok g) (ci := 4) (kd := (12, 0)) hK hO kr26 (nxg hc0 kr26 rfl) (fun _ h9 => ko1 h9) hP hD hS hA hE [] rfl rfl rfl) rfl rfl hl.1 rfl (lv_room (Nat.le_of_ble_eq_true rfl)) dDA_makeHints_64 ⟨by omega, by omega⟩) (fun  pl H locs hu24 hP hD hS => ?_)
        obtain ⟨hq24, hO⟩ := hu24
        have hP : va_P g.1 vcl ([] ++ pl) _ := hP
        have hD : va_D _ ([] ++ pl) := hD
        refine W.widen (k := 0) (n := 0) (by omega) (by omega) ?_
        refine lv_iconst (v := nI 0) hx hb dDA_makeHints_67 (by decide) ?_
        refine lv_istore (lv' := [(4, .int (nI 0)), (3, .int (nI i21)), (2, .int (nI cn21)), (0, .ref h0), (1, .ref st)]) hx hb dDA_makeHints_68 hl (by decide) rfl (fun ls hl => ?_)
        have lp22 : ∀ (n22 : Nat) (i22 : Nat) (cn22 : Nat) (pl : va_W) (ls : Array Slot) (H : Heap) (locs : List Loc), n22 + i22 = 256 → (cn22 ≤ 80) → lv_has ls 5 [(4, .int (nI i22)), (3, .int (nI i21)), (2, .int (nI cn22)), (0, .ref h0), (1, .ref st)] → okx g T xs pl → va_P g.1 vcl ([] ++ pl) H → va_D A ([] ++ pl) → va_S A s.heap H locs → W p l e ({ frames := 3, cells := 0, slots := 0, locals := 74 } : Room) s m args below meth c H locs 0 0 (MQ below (va_Qi (fun (r : Int32) (u : va_W) => (r = nI 0 ∨ r = nI 1) ∧ okx g T xs u) (po g.1 vcl A (fun (u : va_W) => [] ++ u)) A) args s 0 0 A) (F0 m 70 ls []) := by
          intro n22
          induction n22 with
          | zero =>
            intro i22 cn22 pl ls H locs hm22 hi22 hl hO hP hD hS
            refine lv_iload hx hb dDA_makeHints_70 (lv_at hl 0 rfl) ?_
            refine lv_sipush (v := nI 256) hx hb dDA_makeHints_72 (by decide) ?_
            refine mi_ge (tgt := 133) hx hb dDA_makeHints_75 (by decide) (by omega) (by omega) (fun h24 => ?_) (fun h24 => absurd h24 (by omega))
            refine lv_aload_n hx hb dDA_makeHints_133 rfl (lv_at hl 3 rfl) ?_
            refine ty_get (ci := 6) (C := "LatticeKeys$Dsa") (TT := T_DA) (N := 17) (kd := (15, 0)) hx hb hts (wg_ft i_DA) hown hK hO k_h0 (nxg hc0 k_h0 rfl) hP (fun _ h9 => h9) rfl 15 (by decide) (hts _ (wg_t kw_180)) (fun _ h9 => h9) (cd := (3, 8, 84)) rfl dDA_makeHints_134 (fun v31 hv31 => ?_)
            obtain ⟨r31, rfl, kr30⟩ := (show ∃ r : Nat, v31 = .ref r ∧ T r = some (8, 84) from hv31)
            obtain rfl : r21 = r31 := hU _ _ _ (by decide) kr21 kr30
            refine lv_aload_n hx hb dDA_makeHints_137 rfl (lv_at hl 4 rfl) ?_
            refine ty_get (ci := 2) (C := "LatticeKeys$DsaSet") (TT := T_DS) (N := 17) (kd := (43, 0)) hx hb hts (wg_ft i_DS) hown hK hO k_st (nxg hc0 k_st rfl) hP (fun _ h9 => h9) rfl 11 (by decide) (hts _ (wg_t kw_327)) (fun _ h9 => h9) (cd := (1, 0, 80)) rfl dDA_makeHints_138 (fun v32 hv32 => ?_)
            obtain rfl := (show v32 = .int (nI 80) from hv32)
            refine lv_iload_n hx hb dDA_makeHints_141 rfl (lv_at hl 1 rfl) ?_
            refine mi_iadd hx hb dDA_makeHints_142 ?_
            refine lv_iload_n hx hb dDA_makeHints_143 rfl (lv_at hl 2 rfl) ?_
            refine lv_i2b hx hb dDA_makeHints_144 rfl ?_
            refine mi_any (fun z21 => ?_)
            refine ty_bast8 hx hb hK hO kr21 (nxg hc20 kr21 rfl) hP hD hS (vp_in_nI (by omega) (by decide)) dDA_makeHints_145 (fun pl H locs hO hP hD hS => ?_)
            refine mi_iinc (k := 1) (x := i21) (d := 1) (y := i21 + 1) (lv' := [(3, .int (nI (i21 + 1))), (4, .int (nI i22)), (2, .int (nI cn22)), (0, .ref h0), (1, .ref st)]) hx hb dDA_makeHints_146 hl rfl (by decide) rfl (by decide) rfl (fun ls hl => ?_)
            refine lv_goto (tgt := 12) hx hb dDA_makeHints_149 (by decide) ?_
            exact ih21 (i21 + 1) cn22 pl ls H locs (by omega) (by omega) (lv_sub hl [0, 2, 3, 4] rfl) hO hP hD hS
          | succ n22 ih22 =>
            intro i22 cn22 pl ls H locs hm22 hi22 hl hO hP hD hS
            refine lv_iload hx hb dDA_makeHints_70 (lv_at hl 0 rfl) ?_
            refine lv_sipush (v := nI 256) hx hb dDA_makeHints_72 (by decide) ?_
            refine mi_ge (tgt := 133) hx hb dDA_makeHints_75 (by decide) (by omega) (by omega) (fun h25 => absurd h25 (by omega)) (fun h25 => ?_)
            refine lv_aload_n hx hb dDA_makeHints_78 rfl (lv_at hl 4 rfl) ?_
            refine lv_aload_n hx hb dDA_makeHints_79 rfl (lv_at hl 3 rfl) ?_
            refine ty_get (ci := 6) (C := "LatticeKeys$Dsa") (TT := T_DA) (N := 17) (kd := (15, 0)) hx hb hts (wg_ft i_DA) hown hK hO k_h0 (nxg hc0 k_h0 rfl) hP (fun _ h9 => h9) rfl 10 (by decide) (hts _ (wg_t kw_175)) (fun _ h9 => h9) (cd := (3, 0, 256)) rfl dDA_makeHints_80 (fun v33 hv33 => ?_)
            obtain ⟨r32, rfl, kr31⟩ := (show ∃ r : Nat, v33 = .ref r ∧ T r = some (0, 256) from hv33)
            refine lv_iload hx hb dDA_makeHints_83 (lv_at hl 0 rfl) ?_
            refine ty_iald hx hb hK hO kr31 (nxg hc0 kr31 rfl) hP (vp_in_nI (by omega) (by decide)) dDA_makeHints_85 (fun z22 => ?_)
            refine mp_i (cx := []) (wr := []) hP hD hS hA [] [] rfl rfl rfl (by decide) (va_runV (As := [.int z22]) (rest := []) F (t_DS_high_0 l g _ T xs pl hO hU hc0 st z22 k_st) (cwV 1 hts (wg_app (wg_c kw_1206 (wg_c kw_1207 (wg_c kw_1208 (wg_c kw_8 wg_n)))) kw_1209) rfl rfl rfl (by decide +kernel) ⟨by decide, by decide⟩) (pp_VT (en_ok g) (ci := 2) (kd := (43, 0)) hK hO k_st (nxg hc0 k_st rfl) (fun _ h9 => ko1 h9) hP hD hS hA hE [] rfl rfl rfl) rfl rfl hl.1 rfl (lv_room (Nat.le_of_ble_eq_true rfl)) dDA_makeHints_86 ⟨by omega, by omega⟩) (fun r33 pl H locs hu25 hP hD hS => ?_)
            obtain ⟨hq25, hO⟩ := hu25
            have hP : va_P g.1 vcl ([] ++ pl) _ := hP
            have hD : va_D _ ([] ++ pl) := hD
            refine W.widen (k := 0) (n := 0) (by omega) (by omega) ?_
            refine lv_aload_n hx hb dDA_makeHints_89 rfl (lv_at hl 4 rfl) ?_
            refine lv_aload_n hx hb dDA_makeHints_90 rfl (lv_at hl 3 rfl) ?_
            refine ty_get (ci := 6) (C := "LatticeKeys$Dsa") (TT := T_DA) (N := 17) (kd := (15, 0)) hx hb hts (wg_ft i_DA) hown hK hO k_h0 (nxg hc0 k_h0 rfl) hP (fun _ h9 => h9) rfl 8 (by decide) (hts _ (wg_t kw_173)) (fun _ h9 => h9) (cd := (3, 3, 8)) rfl dDA_makeHints_91 (fun v34 hv34 => ?_)
            obtain ⟨r34, rfl, kr32⟩ := (show ∃ r : Nat, v34 = .ref r ∧ T r = some (3, 8) from hv34)
            refine lv_iload_n hx hb dDA_makeHints_94 rfl (lv_at hl 1 rfl) ?_
            refine ty_aald3 hx hb hK hO kr32 (nxg hc0 kr32 rfl) hP (by omega) (by decide) dDA_makeHints_95 (fun r35 kr33 => ?_)
            refine lv_iload hx hb dDA_makeHints_96 (lv_at hl 0 rfl) ?_
            refine ty_iald hx hb hK hO kr33 (nxg hc0 kr33 rfl) hP (vp_in_nI (by omega) (by decide)) dDA_makeHints_98 (fun z23 => ?_)
            refine mp_i (cx := []) (wr := []) hP hD hS hA [] [] rfl rfl rfl (by decide) (va_runV (As := [.int z23]) (rest := [.int r33]) F (t_DS_high_0 l g _ T xs pl hO hU hc0 st z23 k_st) (cwV 1 hts (wg_app (wg_c kw_1206 (wg_c kw_1207 (wg_c kw_1208 (wg_c kw_8 wg_n)))) kw_1209) rfl rfl rfl (by decide +kernel) ⟨by decide, by decide⟩) (pp_VT (en_ok g) (ci := 2) (kd := (43, 0)) hK hO k_st (nxg hc0 k_st rfl) (fun _ h9 => ko1 h9) hP hD hS hA hE [] rfl rfl rfl) rfl rfl hl.1 rfl (lv_room (Nat.le_of_ble_eq_true rfl)) dDA_makeHints_99 ⟨by omega, by omega⟩) (fun r36 pl H locs hu26 hP hD hS => ?_)
            obtain ⟨hq26, hO⟩ := hu26
            have hP : va_P g.1 vcl ([] ++ pl) _ := hP
            have hD : va_D _ ([] ++ pl) := hD
            refine W.widen (k := 0) (n := 0) (by omega) (by omega) ?_
            refine lv_icmp_eq (tgt := 127) hx hb dDA_makeHints_102 (by decide) (fun h26 => ?_) (fun h26 => ?_)
            · refine mi_iinc (k := 0) (x := i22) (d := 1) (y := i22 + 1) (lv' := [(4, .int (nI (i22 + 1))), (3, .int (nI i21)), (2, .int (nI cn22)), (0, .ref h0), (1, .ref st)]) hx hb dDA_makeHints_127 hl rfl (by decide) rfl (by decide) rfl (fun ls hl => ?_)
              refine lv_goto (tgt := 70) hx hb dDA_makeHints_130 (by decide) ?_
              exact ih22 (i22 + 1) cn22 pl ls H locs (by omega) (by omega) (lv_sub hl [0, 1, 2, 3, 4] rfl) hO hP hD hS
            · refine lv_iload_n hx hb dDA_makeHints_105 rfl (lv_at hl 2 rfl) ?_
              refine lv_aload_n hx hb dDA_makeHints_106 rfl (lv_at hl 4 rfl) ?_
              refine ty_get (ci := 2) (C := "LatticeKeys$DsaSet") (TT := T_DS) (N := 17) (kd := (43, 0)) hx hb hts (wg_ft i_DS) hown hK hO k_st (nxg hc0 k_st rfl) hP (fun _ h9 => h9) rfl 11 (by decide) (hts _ (wg_t kw_327)) (fun _ h9 => h9) (cd := (1, 0, 80)) rfl dDA_makeHints_107 (fun v35 hv35 => ?_)
              obtain rfl := (show v35 = .int (nI 80) from hv35)
              refine mi_lt (tgt := 115) hx hb dDA_makeHints_110 (by decide) (by omega) (by omega) (fun h27 => ?_) (fun h27 => ?_)
              · refine lv_aload_n hx hb dDA_makeHints_115 rfl (lv_at hl 3 rfl) ?_
                refine ty_get (ci := 6) (C := "LatticeKeys$Dsa") (TT := T_DA) (N := 17) (kd := (15, 0)) hx hb hts (wg_ft i_DA) hown hK hO k_h0 (nxg hc0 k_h0 rfl) hP (fun _ h9 => h9) rfl 15 (by decide) (hts _ (wg_t kw_180)) (fun _ h9 => h9) (cd := (3, 8, 84)) rfl dDA_makeHints_116 (fun v36 hv36 => ?_)
                obtain ⟨r37, rfl, kr34⟩ := (show ∃ r : Nat, v36 = .ref r ∧ T r = some (8, 84) from hv36)
                obtain rfl : r21 = r37 := hU _ _ _ (by decide) kr21 kr34
                refine lv_iload_n hx hb dDA_makeHints_119 rfl (lv_at hl 2 rfl) ?_
                refine lv_iload hx hb dDA_makeHints_120 (lv_at hl 0 rfl) ?_
                refine lv_i2b hx hb dDA_makeHints_122 rfl ?_
                refine mi_any (fun z24 => ?_)
                refine ty_bast8 hx hb hK hO kr21 (nxg hc20 kr21 rfl) hP hD hS (vp_in_nI (by omega) (by decide)) dDA_makeHints_123 (fun pl H locs hO hP hD hS => ?_)
                refine mi_iinc (k := 2) (x := cn22) (d := 1) (y := cn22 + 1) (lv' := [(2, .int (nI (cn22 + 1))), (4, .int (nI i22)), (3, .int (nI i21)), (0, .ref h0), (1, .ref st)]) hx hb dDA_makeHints_124 hl rfl (by decide) rfl (by decide) rfl (fun ls hl => ?_)
                refine mi_iinc (k := 1) (x := i22) (d := 1) (y := i22 + 1) (lv' := [(4, .int (nI (i22 + 1))), (2, .int (nI (cn22 + 1))), (3, .int (nI i21)), (0, .ref h0), (1, .ref st)]) hx hb dDA_makeHints_127 hl rfl (by decide) rfl (by decide) rfl (fun ls hl => ?_)
                refine lv_goto (tgt := 70) hx hb dDA_makeHints_130 (by decide) ?_
                exact ih22 (i22 + 1) (cn22 + 1) pl ls H locs (by omega) (by omega) (lv_sub hl [0, 2, 1, 3, 4] rfl) hO hP hD hS
              · refine lv_iconst (v := nI 0) hx hb dDA_makeHints_113 (by decide) ?_
                exact mp_zret hx hb hr hlk rfl hP hD hS pl ⟨(Or.inl rfl), hO⟩ [] rfl rfl rfl (by omega) (by omega) dDA_makeHints_114
        exact lp22 256 0 cn21 pl ls _ _ (by omega) (by omega) (lv_sub hl [0, 1, 2, 3, 4] rfl) hO hP hD hS
      · refine lv_iconst (v := nI 0) hx hb dDA_makeHints_48 (by decide) ?_
        exact mp_zret hx hb hr hlk rfl hP hD hS pl ⟨(Or.inl rfl), hO⟩ [] rfl rfl rfl (by omega) (by omega) dDA_makeHints_49
  exact lp21 4 0 0 pl ls _ _ (by omega) (by omega) (lv_sub hl [0, 1, 2, 3] rfl) hO hP hD hS
set_option maxHeartbeats 400000 in
set_option maxRecDepth 100000 in
theorem t_DA_makeHints_1 (l : Launch) (g : Gd) (sz : Nat) (T : Ty) (xs : List Nat) (pl : va_W) (hO : okx g T xs pl) (hU : uni T) (hc0 : clo T xs 0) (hc20 : clo T xs 20) (h0 st : Nat) (k_h0 : T h0 = some (15, 0)) (k_st : T st = some (44, 0))  : Met l y_DA_makeHints w_DA_makeHints ({ frames := 3, cells := 0, slots := 0, locals := 74 } : Room) (va_Pc [.ref h0, .ref st] (pr (en g) g.1 vcl sz ([] ++ pl))) (va_Qi (fun (r : Int32) (u : va_W) => (r = nI 0 ∨ r = nI 1) ∧ okx g T xs u) (po g.1 vcl (va_A ([] ++ pl) sz) (fun (u : va_W) => [] ++ u)) (va_A ([] ++ pl) sz)) 0 0 (va_A ([] ++ pl) sz) := by
  refine mc_entry (cc := c_DA_makeHints) (maxL := 5) (ret := (some .boolean)) (by decide) rfl (Nat.le_of_ble_eq_true rfl) ?_
  intro p e s m args below meth c ls F hr hlk hnm hsz hP hD hE hA hl
  obtain ⟨hx, hb, hml, hown, hts⟩ := id F
  have hK := hE.1
  generalize va_A ([] ++ pl) sz = A at hD hE hA ⊢
  have hS : va_S A s.heap s.heap [] := va_S.rf
  have hl : lv_has ls 5 [(0, .ref h0), (1, .ref st)] := hl
  refine lv_aload_n hx hb dDA_makeHints_0 rfl (lv_at hl 0 rfl) ?_
  refine ty_get (ci := 6) (C := "LatticeKeys$Dsa") (TT := T_DA) (N := 17) (kd := (15, 0)) hx hb hts (wg_ft i_DA) hown hK hO k_h0 (nxg hc0 k_h0 rfl) hP (fun _ h9 => h9) rfl 15 (by decide) (hts _ (wg_t kw_180)) (fun _ h9 => h9) (cd := (3, 8, 84)) rfl dDA_makeHints_1 (fun v21 hv21 => ?_)
  obtain ⟨r21, rfl, kr21⟩ := (show ∃ r : Nat, v21 = .ref r ∧ T r = some (8, 84) from hv21)
  refine lv_iconst (v := nI 0) hx hb dDA_makeHints_4 (by decide) ?_
  refine mp_v (cx := []) (wr := []) hP hD hS hA [] [] rfl rfl rfl (by decide) (va_runS (As := [.ref r21, .int (nI 0)]) (rest := []) F (t_fillB l g _ T xs pl hO hU hc20 r21 (nI 0) kr21) (va_cwS 2 hts (wg_app (wg_c kw_1245 (wg_c kw_1246 (wg_c kw_21 wg_n))) kw_1247) rfl rfl rfl (by decide +kernel) ⟨by decide, by decide⟩) (pp_S (en_ok g) hP hD hS hA hE [] rfl rfl) rfl rfl hl.1 rfl (lv_room (Nat.le_of_ble_eq_true rfl)) dDA_makeHints_5 ⟨by omega, by omega⟩) (fun  pl H locs hu21 hP hD hS => ?_)
  obtain ⟨hq21, hO⟩ := hu21
  have hP : va_P g.1 vcl ([] ++ pl) _ := hP
  have hD : va_D _ ([] ++ pl) := hD
  refine W.widen (k := 0) (n := 0) (by omega) (by omega) ?_
  refine lv_iconst (v := nI 0) hx hb dDA_makeHints_8 (by decide) ?_
  refine lv_istore_n (lv' := [(2, .int (nI 0)), (0, .ref h0), (1, .ref st)]) hx hb dDA_makeHints_9 rfl hl (by decide) rfl (fun ls hl => ?_)
  refine lv_iconst (v := nI 0) hx hb dDA_makeHints_10 (by decide) ?_
  refine lv_istore_n (lv' := [(3, .int (nI 0)), (2, .int (nI 0)), (0, .ref h0), (1, .ref st)]) hx hb dDA_makeHints_11 rfl hl (by decide) rfl (fun ls hl => ?_)
  have lp21 : ∀ (n21 : Nat) (i21 : Nat) (cn21 : Nat) (pl : va_W) (ls : Array Slot) (H : Heap) (locs : List Loc), n21 + i21 = 6 → (cn21 ≤ 55) → lv_has ls 5 [(3, .int (nI i21)), (2, .int (nI cn21)), (0, .ref h0), (1, .ref st)] → okx g T xs pl → va_P g.1 vcl ([] ++ pl) H → va_D A ([] ++ pl) → va_S A s.heap H locs → W p l e ({ frames := 3, cells := 0, slots := 0, locals := 74 } : Room) s m args below meth c H locs 0 0 (MQ below (va_Qi (fun (r : Int32) (u : va_W) => (r = nI 0 ∨ r = nI 1) ∧ okx g T xs u) (po g.1 vcl A (fun (u : va_W) => [] ++ u)) A) args s 0 0 A) (F0 m 12 ls []) := by
    intro n21
    induction n21 with
    | zero =>
      intro i21 cn21 pl ls H locs hm21 hi21 hl hO hP hD hS
      refine lv_iload_n hx hb dDA_makeHints_12 rfl (lv_at hl 0 rfl) ?_
      refine lv_aload_n hx hb dDA_makeHints_13 rfl (lv_at hl 3 rfl) ?_
      refine ty_get (ci := 2) (C := "LatticeKeys$DsaSet") (TT := T_DS) (N := 17) (kd := (44, 0)) hx hb hts (wg_ft i_DS) hown hK hO k_st (nxg hc0 k_st rfl) hP (fun _ h9 => h9) rfl 0 (by decide) (hts _ (wg_t kw_302)) (fun _ h9 => h9) (cd := (1, 0, 6)) rfl dDA_makeHints_14 (fun v22 hv22 => ?_)
      obtain rfl := (show v22 = .int (nI 6) from hv22)
      refine mi_ge (tgt := 152) hx hb dDA_makeHints_17 (by decide) (by omega) (by omega) (fun h21 => ?_) (fun h21 => absurd h21 (by omega))
      refine lv_iconst (v := nI 1) hx hb dDA_makeHints_152 (by decide) ?_
      exact mp_zret hx hb hr hlk rfl hP hD hS pl ⟨(Or.inr rfl), hO⟩ [] rfl rfl rfl (by omega) (by omega) dDA_makeHints_153
    | succ n21 ih21 =>
      intro i21 cn21 pl ls H locs hm21 hi21 hl hO hP hD hS
      refine lv_iload_n hx hb dDA_makeHints_12 rfl (lv_at hl 0 rfl) ?_
      refine lv_aload_n hx hb dDA_makeHints_13 rfl (lv_at hl 3 rfl) ?_
      refine ty_get (ci := 2) (C := "LatticeKeys$DsaSet") (TT := T_DS) (N := 17) (kd := (44, 0)) hx hb hts (wg_ft i_DS) hown hK hO k_st (nxg hc0 k_st rfl) hP (fun _ h9 => h9) rfl 0 (by decide) (hts _ (wg_t kw_302)) (fun _ h9 => h9) (cd := (1, 0, 6)) rfl dDA_makeHints_14 (fun v23 hv23 => ?_)
      obtain rfl := (show v23 = .int (nI 6) from hv23)
      refine mi_ge (tgt := 152) hx hb dDA_makeHints_17 (by decide) (by omega) (by omega) (fun h22 => absurd h22 (by omega)) (fun h22 => ?_)
      refine lv_aload_n hx hb dDA_makeHints_20 rfl (lv_at hl 2 rfl) ?_
      refine lv_aload_n hx hb dDA_makeHints_21 rfl (lv_at hl 2 rfl) ?_
      refine ty_get (ci := 6) (C := "LatticeKeys$Dsa") (TT := T_DA) (N := 17) (kd := (15, 0)) hx hb hts (wg_ft i_DA) hown hK hO k_h0 (nxg hc0 k_h0 rfl) hP (fun _ h9 => h9) rfl 6 (by decide) (hts _ (wg_t kw_171)) (fun _ h9 => h9) (cd := (3, 3, 8)) rfl dDA_makeHints_22 (fun v24 hv24 => ?_)
      obtain ⟨r22, rfl, kr22⟩ := (show ∃ r : Nat, v24 = .ref r ∧ T r = some (3, 8) from hv24)
      refine lv_iload_n hx hb dDA_makeHints_25 rfl (lv_at hl 0 rfl) ?_
      refine ty_aald3 hx hb hK hO kr22 (nxg hc0 kr22 rfl) hP (by omega) (by decide) dDA_makeHints_26 (fun r23 kr23 => ?_)
      refine mp_v (cx := []) (wr := []) hP hD hS hA [] [] rfl rfl rfl (by decide) (va_runV (As := [.ref r23]) (rest := []) F (t_DA_multiplyBall l g _ T xs pl hO hU hc0 h0 r23 k_h0 kr23) (cwV 1 hts (wg_app (wg_c kw_1224 (wg_c kw_1226 (wg_c ks_41 (wg_c kw_5 wg_n)))) kw_1227) rfl rfl rfl (by decide +kernel) ⟨by decide, by decide⟩) (pp_VT (en_ok g) (ci := 6) (kd := (15, 0)) hK hO k_h0 (nxg hc0 k_h0 rfl) (fun _ h9 => ko1 h9) hP hD hS hA hE [] rfl rfl rfl) rfl rfl hl.1 rfl (lv_room (Nat.le_of_ble_eq_true rfl)) dDA_makeHints_27 ⟨by omega, by omega⟩) (fun  pl H locs hu22 hP hD hS => ?_)
      obtain ⟨hq22, hO⟩ := hu22
      have hP : va_P g.1 vcl ([] ++ pl) _ := hP
      have hD : va_D _ ([] ++ pl) := hD
      refine W.widen (k := 0) (n := 0) (by omega) (by omega) ?_
      refine lv_aload_n hx hb dDA_makeHints_30 rfl (lv_at hl 2 rfl) ?_
      refine ty_get (ci := 6) (C := "LatticeKeys$Dsa") (TT := T_DA) (N := 17) (kd := (15, 0)) hx hb hts (wg_ft i_DA) hown hK hO k_h0 (nxg hc0 k_h0 rfl) hP (fun _ h9 => h9) rfl 1 (by decide) (hts _ (wg_t kw_166)) (fun _ h9 => h9) (cd := (3, 12, 0)) rfl dDA_makeHints_31 (fun v25 hv25 => ?_)
      obtain ⟨r24, rfl, kr24⟩ := (show ∃ r : Nat, v25 = .ref r ∧ T r = some (12, 0) from hv25)
      refine lv_aload_n hx hb dDA_makeHints_34 rfl (lv_at hl 2 rfl) ?_
      refine ty_get (ci := 6) (C := "LatticeKeys$Dsa") (TT := T_DA) (N := 17) (kd := (15, 0)) hx hb hts (wg_ft i_DA) hown hK hO k_h0 (nxg hc0 k_h0 rfl) hP (fun _ h9 => h9) rfl 10 (by decide) (hts _ (wg_t kw_175)) (fun _ h9 => h9) (cd := (3, 0, 256)) rfl dDA_makeHints_35 (fun v26 hv26 => ?_)
      obtain ⟨r25, rfl, kr25⟩ := (show ∃ r : Nat, v26 = .ref r ∧ T r = some (0, 256) from hv26)
      refine lv_aload_n hx hb dDA_makeHints_38 rfl (lv_at hl 3 rfl) ?_
      refine ty_get (ci := 2) (C := "LatticeKeys$DsaSet") (TT := T_DS) (N := 17) (kd := (44, 0)) hx hb hts (wg_ft i_DS) hown hK hO k_st (nxg hc0 k_st rfl) hP (fun _ h9 => h9) rfl 10 (by decide) (hts _ (wg_t kw_325)) (fun _ h9 => h9) (cd := (1, 0, 261888)) rfl dDA_makeHints_39 (fun v27 hv27 => ?_)
      obtain rfl := (show v27 = .int (nI 261888) from hv27)
      refine mp_i (cx := []) (wr := []) hP hD hS hA [] [] rfl rfl rfl (by decide) (va_runV (As := [.ref r25, .int (nI 261888)]) (rest := []) F (t_RG_isShort_12 l g _ T xs pl hO hU hc0 r24 r25 (nI 261888) kr24 kr25) (cwV 2 hts (wg_app (wg_c kw_1228 (wg_c kw_1229 (wg_c kw_1230 (wg_c kw_4 wg_n)))) kw_1231) rfl rfl rfl (by decide +kernel) ⟨by decide, by decide⟩) (pp_VT (en_ok g) (ci := 4) (kd := (12, 0)) hK hO kr24 (nxg hc0 kr24 rfl) (fun _ h9 => ko1 h9) hP hD hS hA hE [] rfl rfl rfl) rfl rfl hl.1 rfl (lv_room (Nat.le_of_ble_eq_true rfl)) dDA_makeHints_42 ⟨by omega, by omega⟩) (fun r26 pl H locs hu23 hP hD hS => ?_)
      obtain ⟨hq23, hO⟩ := hu23
      have hP : va_P g.1 vcl ([] ++ pl) _ := hP
      have hD : va_D _ ([] ++ pl) := hD
      refine W.widen (k := 0) (n := 0) (by omega) (by omega) ?_
      refine lv_if_ne (tgt := 50) hx hb dDA_makeHints_45 (by decide) (fun h23 => ?_) (fun h23 => ?_)
      · refine lv_aload_n hx hb dDA_makeHints_50 rfl (lv_at hl 2 rfl) ?_
        refine ty_get (ci := 6) (C := "LatticeKeys$Dsa") (TT := T_DA) (N := 17) (kd := (15, 0)) hx hb hts (wg_ft i_DA) hown hK hO k_h0 (nxg hc0 k_h0 rfl) hP (fun _ h9 => h9) rfl 1 (by decide) (hts _ (wg_t kw_166)) (fun _ h9 => h9) (cd := (3, 12, 0)) rfl dDA_makeHints_51 (fun v28 hv28 => ?_)
        obtain ⟨r27, rfl, kr26⟩ := (show ∃ r : Nat, v28 = .ref r ∧ T r = some (12, 0) from hv28)
        refine lv_aload_n hx hb dDA_makeHints_54 rfl (lv_at hl 2 rfl) ?_
        refine ty_get (ci := 6) (C := "LatticeKeys$Dsa") (TT := T_DA) (N := 17) (kd := (15, 0)) hx hb hts (wg_ft i_DA) hown hK hO k_h0 (nxg hc0 k_h0 rfl) hP (fun _ h9 => h9) rfl 10 (by decide) (hts _ (wg_t kw_175)) (fun _ h9 => h9) (cd := (3, 0, 256)) rfl dDA_makeHints_55 (fun v29 hv29 => ?_)
        obtain ⟨r28, rfl, kr27⟩ := (show ∃ r : Nat, v29 = .ref r ∧ T r = some (0, 256) from hv29)
        refine lv_aload_n hx hb dDA_makeHints_58 rfl (lv_at hl 2 rfl) ?_
        refine ty_get (ci := 6) (C := "LatticeKeys$Dsa") (TT := T_DA) (N := 17) (kd := (15, 0)) hx hb hts (wg_ft i_DA) hown hK hO k_h0 (nxg hc0 k_h0 rfl) hP (fun _ h9 => h9) rfl 8 (by decide) (hts _ (wg_t kw_173)) (fun _ h9 => h9) (cd := (3, 3, 8)) rfl dDA_makeHints_59 (fun v30 hv30 => ?_)
        obtain ⟨r29, rfl, kr28⟩ := (show ∃ r : Nat, v30 = .ref r ∧ T r = some (3, 8) from hv30)
        refine lv_iload_n hx hb dDA_makeHints_62 rfl (lv_at hl 0 rfl) ?_
        refine ty_aald3 hx hb hK hO kr28 (nxg hc0 kr28 rfl) hP (by omega) (by decide) dDA_makeHints_63 (fun r30 kr29 => ?_)
        refine mp_v (cx := []) (wr := []) hP hD hS hA [] [] rfl rfl rfl (by decide) (va_runV (As := [.ref r28, .ref r30]) (rest := []) F (t_RG_add_12 l g _ T xs pl hO hU hc0 r27 r28 r30 kr26 kr27 kr29) (cwV 2 hts (wg_app (wg_c kw_728 (wg_c kw_729 (wg_c kw_730 (wg_c kw_4 wg_n)))) kw_731) rfl rfl rfl (by decide +kernel) ⟨by decide, by decide⟩) (pp_VT (en_ok g) (ci := 4) (kd := (12, 0)) hK hO kr26 (nxg hc0 kr26 rfl) (fun _ h9 => ko1 h9) hP hD hS hA hE [] rfl rfl rfl) rfl rfl hl.1 rfl (lv_room (Nat.le_of_ble_eq_true rfl)) dDA_makeHints_64 ⟨by omega, by omega⟩) (fun  pl H locs hu24 hP hD hS => ?_)
        obtain ⟨hq24, hO⟩ := hu24
        have hP : va_P g.1 vcl ([] ++ pl) _ := hP
        have hD : va_D _ ([] ++ pl) := hD
        refine W.widen (k := 0) (n := 0) (by omega) (by omega) ?_
        refine lv_iconst (v := nI 0) hx hb dDA_makeHints_67 (by decide) ?_
        refine lv_istore (lv' := [(4, .int (nI 0)), (3, .int (nI i21)), (2, .int (nI cn21)), (0, .ref h0), (1, .ref st)]) hx hb dDA_makeHints_68 hl (by decide) rfl (fun ls hl => ?_)
        have lp22 : ∀ (n22 : Nat) (i22 : Nat) (cn22 : Nat) (pl : va_W) (ls : Array Slot) (H : Heap) (locs : List Loc), n22 + i22 = 256 → (cn22 ≤ 55) → lv_has ls 5 [(4, .int (nI i22)), (3, .int (nI i21)), (2, .int (nI cn22)), (0, .ref h0), (1, .ref st)] → okx g T xs pl → va_P g.1 vcl ([] ++ pl) H → va_D A ([] ++ pl) → va_S A s.heap H locs → W p l e ({ frames := 3, cells := 0, slots := 0, locals := 74 } : Room) s m args below meth c H locs 0 0 (MQ below (va_Qi (fun (r : Int32) (u : va_W) => (r = nI 0 ∨ r = nI 1) ∧ okx g T xs u) (po g.1 vcl A (fun (u : va_W) => [] ++ u)) A) args s 0 0 A) (F0 m 70 ls []) := by
          intro n22
          induction n22 with
          | zero =>
            intro i22 cn22 pl ls H locs hm22 hi22 hl hO hP hD hS
            refine lv_iload hx hb dDA_makeHints_70 (lv_at hl 0 rfl) ?_
            refine lv_sipush (v := nI 256) hx hb dDA_makeHints_72 (by decide) ?_
            refine mi_ge (tgt := 133) hx hb dDA_makeHints_75 (by decide) (by omega) (by omega) (fun h24 => ?_) (fun h24 => absurd h24 (by omega))
            refine lv_aload_n hx hb dDA_makeHints_133 rfl (lv_at hl 3 rfl) ?_
            refine ty_get (ci := 6) (C := "LatticeKeys$Dsa") (TT := T_DA) (N := 17) (kd := (15, 0)) hx hb hts (wg_ft i_DA) hown hK hO k_h0 (nxg hc0 k_h0 rfl) hP (fun _ h9 => h9) rfl 15 (by decide) (hts _ (wg_t kw_180)) (fun _ h9 => h9) (cd := (3, 8, 84)) rfl dDA_makeHints_134 (fun v31 hv31 => ?_)
            obtain ⟨r31, rfl, kr30⟩ := (show ∃ r : Nat, v31 = .ref r ∧ T r = some (8, 84) from hv31)
            obtain rfl : r21 = r31 := hU _ _ _ (by decide) kr21 kr30
            refine lv_aload_n hx hb dDA_makeHints_137 rfl (lv_at hl 4 rfl) ?_
            refine ty_get (ci := 2) (C := "LatticeKeys$DsaSet") (TT := T_DS) (N := 17) (kd := (44, 0)) hx hb hts (wg_ft i_DS) hown hK hO k_st (nxg hc0 k_st rfl) hP (fun _ h9 => h9) rfl 11 (by decide) (hts _ (wg_t kw_327)) (fun _ h9 => h9) (cd := (1, 0, 55)) rfl dDA_makeHints_138 (fun v32 hv32 => ?_)
            obtain rfl := (show v32 = .int (nI 55) from hv32)
            refine lv_iload_n hx hb dDA_makeHints_141 rfl (lv_at hl 1 rfl) ?_
            refine mi_iadd hx hb dDA_makeHints_142 ?_
            refine lv_iload_n hx hb dDA_makeHints_143 rfl (lv_at hl 2 rfl) ?_
            refine lv_i2b hx hb dDA_makeHints_144 rfl ?_
            refine mi_any (fun z21 => ?_)
            refine ty_bast8 hx hb hK hO kr21 (nxg hc20 kr21 rfl) hP hD hS (vp_in_nI (by omega) (by decide)) dDA_makeHints_145 (fun pl H locs hO hP hD hS => ?_)
            refine mi_iinc (k := 1) (x := i21) (d := 1) (y := i21 + 1) (lv' := [(3, .int (nI (i21 + 1))), (4, .int (nI i22)), (2, .int (nI cn22)), (0, .ref h0), (1, .ref st)]) hx hb dDA_makeHints_146 hl rfl (by decide) rfl (by decide) rfl (fun ls hl => ?_)
            refine lv_goto (tgt := 12) hx hb dDA_makeHints_149 (by decide) ?_
            exact ih21 (i21 + 1) cn22 pl ls H locs (by omega) (by omega) (lv_sub hl [0, 2, 3, 4] rfl) hO hP hD hS
          | succ n22 ih22 =>
            intro i22 cn22 pl ls H locs hm22 hi22 hl hO hP hD hS
            refine lv_iload hx hb dDA_makeHints_70 (lv_at hl 0 rfl) ?_
            refine lv_sipush (v := nI 256) hx hb dDA_makeHints_72 (by decide) ?_
            refine mi_ge (tgt := 133) hx hb dDA_makeHints_75 (by decide) (by omega) (by omega) (fun h25 => absurd h25 (by omega)) (fun h25 => ?_)
            refine lv_aload_n hx hb dDA_makeHints_78 rfl (lv_at hl 4 rfl) ?_
            refine lv_aload_n hx hb dDA_makeHints_79 rfl (lv_at hl 3 rfl) ?_
            refine ty_get (ci := 6) (C := "LatticeKeys$Dsa") (TT := T_DA) (N := 17) (kd := (15, 0)) hx hb hts (wg_ft i_DA) hown hK hO k_h0 (nxg hc0 k_h0 rfl) hP (fun _ h9 => h9) rfl 10 (by decide) (hts _ (wg_t kw_175)) (fun _ h9 => h9) (cd := (3, 0, 256)) rfl dDA_makeHints_80 (fun v33 hv33 => ?_)
            obtain ⟨r32, rfl, kr31⟩ := (show ∃ r : Nat, v33 = .ref r ∧ T r = some (0, 256) from hv33)
            refine lv_iload hx hb dDA_makeHints_83 (lv_at hl 0 rfl) ?_
            refine ty_iald hx hb hK hO kr31 (nxg hc0 kr31 rfl) hP (vp_in_nI (by omega) (by decide)) dDA_makeHints_85 (fun z22 => ?_)
            refine mp_i (cx := []) (wr := []) hP hD hS hA [] [] rfl rfl rfl (by decide) (va_runV (As := [.int z22]) (rest := []) F (t_DS_high_1 l g _ T xs pl hO hU hc0 st z22 k_st) (cwV 1 hts (wg_app (wg_c kw_1206 (wg_c kw_1207 (wg_c kw_1208 (wg_c kw_8 wg_n)))) kw_1209) rfl rfl rfl (by decide +kernel) ⟨by decide, by decide⟩) (pp_VT (en_ok g) (ci := 2) (kd := (44, 0)) hK hO k_st (nxg hc0 k_st rfl) (fun _ h9 => ko1 h9) hP hD hS hA hE [] rfl rfl rfl) rfl rfl hl.1 rfl (lv_room (Nat.le_of_ble_eq_true rfl)) dDA_makeHints_86 ⟨by omega, by omega⟩) (fun r33 pl H locs hu25 hP hD hS => ?_)
            obtain ⟨hq25, hO⟩ := hu25
            have hP : va_P g.1 vcl ([] ++ pl) _ := hP
            have hD : va_D _ ([] ++ pl) := hD
            refine W.widen (k := 0) (n := 0) (by omega) (by omega) ?_
            refine lv_aload_n hx hb dDA_makeHints_89 rfl (lv_at hl 4 rfl) ?_
            refine lv_aload_n hx hb dDA_makeHints_90 rfl (lv_at hl 3 rfl) ?_
            refine ty_get (ci := 6) (C := "LatticeKeys$Dsa") (TT := T_DA) (N := 17) (kd := (15, 0)) hx hb hts (wg_ft i_DA) hown hK hO k_h0 (nxg hc0 k_h0 rfl) hP (fun _ h9 => h9) rfl 8 (by decide) (hts _ (wg_t kw_173)) (fun _ h9 => h9) (cd := (3, 3, 8)) rfl dDA_makeHints_91 (fun v34 hv34 => ?_)
            obtain ⟨r34, rfl, kr32⟩ := (show ∃ r : Nat, v34 = .ref r ∧ T r = some (3, 8) from hv34)
            refine lv_iload_n hx hb dDA_makeHints_94 rfl (lv_at hl 1 rfl) ?_
            refine ty_aald3 hx hb hK hO kr32 (nxg hc0 kr32 rfl) hP (by omega) (by decide) dDA_makeHints_95 (fun r35 kr33 => ?_)
            refine lv_iload hx hb dDA_makeHints_96 (lv_at hl 0 rfl) ?_
            refine ty_iald hx hb hK hO kr33 (nxg hc0 kr33 rfl) hP (vp_in_nI (by omega) (by decide)) dDA_makeHints_98 (fun z23 => ?_)
            refine mp_i (cx := []) (wr := []) hP hD hS hA [] [] rfl rfl rfl (by decide) (va_runV (As := [.int z23]) (rest := [.int r33]) F (t_DS_high_1 l g _ T xs pl hO hU hc0 st z23 k_st) (cwV 1 hts (wg_app (wg_c kw_1206 (wg_c kw_1207 (wg_c kw_1208 (wg_c kw_8 wg_n)))) kw_1209) rfl rfl rfl (by decide +kernel) ⟨by decide, by decide⟩) (pp_VT (en_ok g) (ci := 2) (kd := (44, 0)) hK hO k_st (nxg hc0 k_st rfl) (fun _ h9 => ko1 h9) hP hD hS hA hE [] rfl rfl rfl) rfl rfl hl.1 rfl (lv_room (Nat.le_of_ble_eq_true rfl)) dDA_makeHints_99 ⟨by omega, by omega⟩) (fun r36 pl H locs hu26 hP hD hS => ?_)
            obtain ⟨hq26, hO⟩ := hu26
            have hP : va_P g.1 vcl ([] ++ pl) _ := hP
            have hD : va_D _ ([] ++ pl) := hD
            refine W.widen (k := 0) (n := 0) (by omega) (by omega) ?_
            refine lv_icmp_eq (tgt := 127) hx hb dDA_makeHints_102 (by decide) (fun h26 => ?_) (fun h26 => ?_)
            · refine mi_iinc (k := 0) (x := i22) (d := 1) (y := i22 + 1) (lv' := [(4, .int (nI (i22 + 1))), (3, .int (nI i21)), (2, .int (nI cn22)), (0, .ref h0), (1, .ref st)]) hx hb dDA_makeHints_127 hl rfl (by decide) rfl (by decide) rfl (fun ls hl => ?_)
              refine lv_goto (tgt := 70) hx hb dDA_makeHints_130 (by decide) ?_
              exact ih22 (i22 + 1) cn22 pl ls H locs (by omega) (by omega) (lv_sub hl [0, 1, 2, 3, 4] rfl) hO hP hD hS
            · refine lv_iload_n hx hb dDA_makeHints_105 rfl (lv_at hl 2 rfl) ?_
              refine lv_aload_n hx hb dDA_makeHints_106 rfl (lv_at hl 4 rfl) ?_
              refine ty_get (ci := 2) (C := "LatticeKeys$DsaSet") (TT := T_DS) (N := 17) (kd := (44, 0)) hx hb hts (wg_ft i_DS) hown hK hO k_st (nxg hc0 k_st rfl) hP (fun _ h9 => h9) rfl 11 (by decide) (hts _ (wg_t kw_327)) (fun _ h9 => h9) (cd := (1, 0, 55)) rfl dDA_makeHints_107 (fun v35 hv35 => ?_)
              obtain rfl := (show v35 = .int (nI 55) from hv35)
              refine mi_lt (tgt := 115) hx hb dDA_makeHints_110 (by decide) (by omega) (by omega) (fun h27 => ?_) (fun h27 => ?_)
              · refine lv_aload_n hx hb dDA_makeHints_115 rfl (lv_at hl 3 rfl) ?_
                refine ty_get (ci := 6) (C := "LatticeKeys$Dsa") (TT := T_DA) (N := 17) (kd := (15, 0)) hx hb hts (wg_ft i_DA) hown hK hO k_h0 (nxg hc0 k_h0 rfl) hP (fun _ h9 => h9) rfl 15 (by decide) (hts _ (wg_t kw_180)) (fun _ h9 => h9) (cd := (3, 8, 84)) rfl dDA_makeHints_116 (fun v36 hv36 => ?_)
                obtain ⟨r37, rfl, kr34⟩ := (show ∃ r : Nat, v36 = .ref r ∧ T r = some (8, 84) from hv36)
                obtain rfl : r21 = r37 := hU _ _ _ (by decide) kr21 kr34
                refine lv_iload_n hx hb dDA_makeHints_119 rfl (lv_at hl 2 rfl) ?_
                refine lv_iload hx hb dDA_makeHints_120 (lv_at hl 0 rfl) ?_
                refine lv_i2b hx hb dDA_makeHints_122 rfl ?_
                refine mi_any (fun z24 => ?_)
                refine ty_bast8 hx hb hK hO kr21 (nxg hc20 kr21 rfl) hP hD hS (vp_in_nI (by omega) (by decide)) dDA_makeHints_123 (fun pl H locs hO hP hD hS => ?_)
                refine mi_iinc (k := 2) (x := cn22) (d := 1) (y := cn22 + 1) (lv' := [(2, .int (nI (cn22 + 1))), (4, .int (nI i22)), (3, .int (nI i21)), (0, .ref h0), (1, .ref st)]) hx hb dDA_makeHints_124 hl rfl (by decide) rfl (by decide) rfl (fun ls hl => ?_)
                refine mi_iinc (k := 1) (x := i22) (d := 1) (y := i22 + 1) (lv' := [(4, .int (nI (i22 + 1))), (2, .int (nI (cn22 + 1))), (3, .int (nI i21)), (0, .ref h0), (1, .ref st)]) hx hb dDA_makeHints_127 hl rfl (by decide) rfl (by decide) rfl (fun ls hl => ?_)
                refine lv_goto (tgt := 70) hx hb dDA_makeHints_130 (by decide) ?_
                exact ih22 (i22 + 1) (cn22 + 1) pl ls H locs (by omega) (by omega) (lv_sub hl [0, 2, 1, 3, 4] rfl) hO hP hD hS
              · refine lv_iconst (v := nI 0) hx hb dDA_makeHints_113 (by decide) ?_
                exact mp_zret hx hb hr hlk rfl hP hD hS pl ⟨(Or.inl rfl), hO⟩ [] rfl rfl rfl (by omega) (by omega) dDA_makeHints_114
        exact lp22 256 0 cn21 pl ls _ _ (by omega) (by omega) (lv_sub hl [0, 1, 2, 3, 4] rfl) hO hP hD hS
      · refine lv_iconst (v := nI 0) hx hb dDA_makeHints_48 (by decide) ?_
        exact mp_zret hx hb hr hlk rfl hP hD hS pl ⟨(Or.inl rfl), hO⟩ [] rfl rfl rfl (by omega) (by omega) dDA_makeHints_49
  exact lp21 6 0 0 pl ls _ _ (by omega) (by omega) (lv_sub hl [0, 1, 2, 3] rfl) hO hP hD hS
set_option maxHeartbeats 400000 in
set_option maxRecDepth 100000 in
theorem t_DA_makeHints_2 (l : Launch) (g : Gd) (sz : Nat) (T : Ty) (xs : List Nat) (pl : va_W) (hO : okx g T xs pl) (hU : uni T) (hc0 : clo T xs 0) (hc20 : clo T xs 20) (h0 st : Nat) (k_h0 : T h0 = some (15, 0)) (k_st : T st = some (45, 0))  : Met l y_DA_makeHints w_DA_makeHints ({ frames := 3, cells := 0, slots := 0, locals := 74 } : Room) (va_Pc [.ref h0, .ref st] (pr (en g) g.1 vcl sz ([] ++ pl))) (va_Qi (fun (r : Int32) (u : va_W) => (r = nI 0 ∨ r = nI 1) ∧ okx g T xs u) (po g.1 vcl (va_A ([] ++ pl) sz) (fun (u : va_W) => [] ++ u)) (va_A ([] ++ pl) sz)) 0 0 (va_A ([] ++ pl) sz) := by
  refine mc_entry (cc := c_DA_makeHints) (maxL := 5) (ret := (some .boolean)) (by decide) rfl (Nat.le_of_ble_eq_true rfl) ?_
  intro p e s m args below meth c ls F hr hlk hnm hsz hP hD hE hA hl
  obtain ⟨hx, hb, hml, hown, hts⟩ := id F
  have hK := hE.1
  generalize va_A ([] ++ pl) sz = A at hD hE hA ⊢
  have hS : va_S A s.heap s.heap [] := va_S.rf
  have hl : lv_has ls 5 [(0, .ref h0), (1, .ref st)] := hl
  refine lv_aload_n hx hb dDA_makeHints_0 rfl (lv_at hl 0 rfl) ?_
  refine ty_get (ci := 6) (C := "LatticeKeys$Dsa") (TT := T_DA) (N := 17) (kd := (15, 0)) hx hb hts (wg_ft i_DA) hown hK hO k_h0 (nxg hc0 k_h0 rfl) hP (fun _ h9 => h9) rfl 15 (by decide) (hts _ (wg_t kw_180)) (fun _ h9 => h9) (cd := (3, 8, 84)) rfl dDA_makeHints_1 (fun v21 hv21 => ?_)
  obtain ⟨r21, rfl, kr21⟩ := (show ∃ r : Nat, v21 = .ref r ∧ T r = some (8, 84) from hv21)
  refine lv_iconst (v := nI 0) hx hb dDA_makeHints_4 (by decide) ?_
  refine mp_v (cx := []) (wr := []) hP hD hS hA [] [] rfl rfl rfl (by decide) (va_runS (As := [.ref r21, .int (nI 0)]) (rest := []) F (t_fillB l g _ T xs pl hO hU hc20 r21 (nI 0) kr21) (va_cwS 2 hts (wg_app (wg_c kw_1245 (wg_c kw_1246 (wg_c kw_21 wg_n))) kw_1247) rfl rfl rfl (by decide +kernel) ⟨by decide, by decide⟩) (pp_S (en_ok g) hP hD hS hA hE [] rfl rfl) rfl rfl hl.1 rfl (lv_room (Nat.le_of_ble_eq_true rfl)) dDA_makeHints_5 ⟨by omega, by omega⟩) (fun  pl H locs hu21 hP hD hS => ?_)
  obtain ⟨hq21, hO⟩ := hu21
  have hP : va_P g.1 vcl ([] ++ pl) _ := hP
  have hD : va_D _ ([] ++ pl) := hD
  refine W.widen (k := 0) (n := 0) (by omega) (by omega) ?_
  refine lv_iconst (v := nI 0) hx hb dDA_makeHints_8 (by decide) ?_
  refine lv_istore_n (lv' := [(2, .int (nI 0)), (0, .ref h0), (1, .ref st)]) hx hb dDA_makeHints_9 rfl hl (by decide) rfl (fun ls hl => ?_)
  refine lv_iconst (v := nI 0) hx hb dDA_makeHints_10 (by decide) ?_
  refine lv_istore_n (lv' := [(3, .int (nI 0)), (2, .int (nI 0)), (0, .ref h0), (1, .ref st)]) hx hb dDA_makeHints_11 rfl hl (by decide) rfl (fun ls hl => ?_)
  have lp21 : ∀ (n21 : Nat) (i21 : Nat) (cn21 : Nat) (pl : va_W) (ls : Array Slot) (H : Heap) (locs : List Loc), n21 + i21 = 8 → (cn21 ≤ 75) → lv_has ls 5 [(3, .int (nI i21)), (2, .int (nI cn21)), (0, .ref h0), (1, .ref st)] → okx g T xs pl → va_P g.1 vcl ([] ++ pl) H → va_D A ([] ++ pl) → va_S A s.heap H locs → W p l e ({ frames := 3, cells := 0, slots := 0, locals := 74 } : Room) s m args below meth c H locs 0 0 (MQ below (va_Qi (fun (r : Int32) (u : va_W) => (r = nI 0 ∨ r = nI 1) ∧ okx g T xs u) (po g.1 vcl A (fun (u : va_W) => [] ++ u)) A) args s 0 0 A) (F0 m 12 ls []) := by
    intro n21
    induction n21 with
    | zero =>
      intro i21 cn21 pl ls H locs hm21 hi21 hl hO hP hD hS
      refine lv_iload_n hx hb dDA_makeHints_12 rfl (lv_at hl 0 rfl) ?_
      refine lv_aload_n hx hb dDA_makeHints_13 rfl (lv_at hl 3 rfl) ?_
      refine ty_get (ci := 2) (C := "LatticeKeys$DsaSet") (TT := T_DS) (N := 17) (kd := (45, 0)) hx hb hts (wg_ft i_DS) hown hK hO k_st (nxg hc0 k_st rfl) hP (fun _ h9 => h9) rfl 0 (by decide) (hts _ (wg_t kw_302)) (fun _ h9 => h9) (cd := (1, 0, 8)) rfl dDA_makeHints_14 (fun v22 hv22 => ?_)
      obtain rfl := (show v22 = .int (nI 8) from hv22)
      refine mi_ge (tgt := 152) hx hb dDA_makeHints_17 (by decide) (by omega) (by omega) (fun h21 => ?_) (fun h21 => absurd h21 (by omega))
      refine lv_iconst (v := nI 1) hx hb dDA_makeHints_152 (by decide) ?_
      exact mp_zret hx hb hr hlk rfl hP hD hS pl ⟨(Or.inr rfl), hO⟩ [] rfl rfl rfl (by omega) (by omega) dDA_makeHints_153
    | succ n21 ih21 =>
      intro i21 cn21 pl ls H locs hm21 hi21 hl hO hP hD hS
      refine lv_iload_n hx hb dDA_makeHints_12 rfl (lv_at hl 0 rfl) ?_
      refine lv_aload_n hx hb dDA_makeHints_13 rfl (lv_at hl 3 rfl) ?_
      refine ty_get (ci := 2) (C := "LatticeKeys$DsaSet") (TT := T_DS) (N := 17) (kd := (45, 0)) hx hb hts (wg_ft i_DS) hown hK hO k_st (nxg hc0 k_st rfl) hP (fun _ h9 => h9) rfl 0 (by decide) (hts _ (wg_t kw_302)) (fun _ h9 => h9) (cd := (1, 0, 8)) rfl dDA_makeHints_14 (fun v23 hv23 => ?_)
      obtain rfl := (show v23 = .int (nI 8) from hv23)
      refine mi_ge (tgt := 152) hx hb dDA_makeHints_17 (by decide) (by omega) (by omega) (fun h22 => absurd h22 (by omega)) (fun h22 => ?_)
      refine lv_aload_n hx hb dDA_makeHints_20 rfl (lv_at hl 2 rfl) ?_
      refine lv_aload_n hx hb dDA_makeHints_21 rfl (lv_at hl 2 rfl) ?_
      refine ty_get (ci := 6) (C := "LatticeKeys$Dsa") (TT := T_DA) (N := 17) (kd := (15, 0)) hx hb hts (wg_ft i_DA) hown hK hO k_h0 (nxg hc0 k_h0 rfl) hP (fun _ h9 => h9) rfl 6 (by decide) (hts _ (wg_t kw_171)) (fun _ h9 => h9) (cd := (3, 3, 8)) rfl dDA_makeHints_22 (fun v24 hv24 => ?_)
      obtain ⟨r22, rfl, kr22⟩ := (show ∃ r : Nat, v24 = .ref r ∧ T r = some (3, 8) from hv24)
      refine lv_iload_n hx hb dDA_makeHints_25 rfl (lv_at hl 0 rfl) ?_
      refine ty_aald3 hx hb hK hO kr22 (nxg hc0 kr22 rfl) hP (by omega) (by decide) dDA_makeHints_26 (fun r23 kr23 => ?_)
      refine mp_v (cx := []) (wr := []) hP hD hS hA [] [] rfl rfl rfl (by decide) (va_runV (As := [.ref r23]) (rest := []) F (t_DA_multiplyBall l g _ T xs pl hO hU hc0 h0 r23 k_h0 kr23) (cwV 1 hts (wg_app (wg_c kw_1224 (wg_c kw_1226 (wg_c ks_41 (wg_c kw_5 wg_n)))) kw_1227) rfl rfl rfl (by decide +kernel) ⟨by decide, by decide⟩) (pp_VT (en_ok g) (ci := 6) (kd := (15, 0)) hK hO k_h0 (nxg hc0 k_h0 rfl) (fun _ h9 => ko1 h9) hP hD hS hA hE [] rfl rfl rfl) rfl rfl hl.1 rfl (lv_room (Nat.le_of_ble_eq_true rfl)) dDA_makeHints_27 ⟨by omega, by omega⟩) (fun  pl H locs hu22 hP hD hS => ?_)
      obtain ⟨hq22, hO⟩ := hu22
      have hP : va_P g.1 vcl ([] ++ pl) _ := hP
      have hD : va_D _ ([] ++ pl) := hD
      refine W.widen (k := 0) (n := 0) (by omega) (by omega) ?_
      refine lv_aload_n hx hb dDA_makeHints_30 rfl (lv_at hl 2 rfl) ?_
      refine ty_get (ci := 6) (C := "LatticeKeys$Dsa") (TT := T_DA) (N := 17) (kd := (15, 0)) hx hb hts (wg_ft i_DA) hown hK hO k_h0 (nxg hc0 k_h0 rfl) hP (fun _ h9 => h9) rfl 1 (by decide) (hts _ (wg_t kw_166)) (fun _ h9 => h9) (cd := (3, 12, 0)) rfl dDA_makeHints_31 (fun v25 hv25 => ?_)
      obtain ⟨r24, rfl, kr24⟩ := (show ∃ r : Nat, v25 = .ref r ∧ T r = some (12, 0) from hv25)
      refine lv_aload_n hx hb dDA_makeHints_34 rfl (lv_at hl 2 rfl) ?_
      refine ty_get (ci := 6) (C := "LatticeKeys$Dsa") (TT := T_DA) (N := 17) (kd := (15, 0)) hx hb hts (wg_ft i_DA) hown hK hO k_h0 (nxg hc0 k_h0 rfl) hP (fun _ h9 => h9) rfl 10 (by decide) (hts _ (wg_t kw_175)) (fun _ h9 => h9) (cd := (3, 0, 256)) rfl dDA_makeHints_35 (fun v26 hv26 => ?_)
      obtain ⟨r25, rfl, kr25⟩ := (show ∃ r : Nat, v26 = .ref r ∧ T r = some (0, 256) from hv26)
      refine lv_aload_n hx hb dDA_makeHints_38 rfl (lv_at hl 3 rfl) ?_
      refine ty_get (ci := 2) (C := "LatticeKeys$DsaSet") (TT := T_DS) (N := 17) (kd := (45, 0)) hx hb hts (wg_ft i_DS) hown hK hO k_st (nxg hc0 k_st rfl) hP (fun _ h9 => h9) rfl 10 (by decide) (hts _ (wg_t kw_325)) (fun _ h9 => h9) (cd := (1, 0, 261888)) rfl dDA_makeHints_39 (fun v27 hv27 => ?_)
      obtain rfl := (show v27 = .int (nI 261888) from hv27)
      refine mp_i (cx := []) (wr := []) hP hD hS hA [] [] rfl rfl rfl (by decide) (va_runV (As := [.ref r25, .int (nI 261888)]) (rest := []) F (t_RG_isShort_12 l g _ T xs pl hO hU hc0 r24 r25 (nI 261888) kr24 kr25) (cwV 2 hts (wg_app (wg_c kw_1228 (wg_c kw_1229 (wg_c kw_1230 (wg_c kw_4 wg_n)))) kw_1231) rfl rfl rfl (by decide +kernel) ⟨by decide, by decide⟩) (pp_VT (en_ok g) (ci := 4) (kd := (12, 0)) hK hO kr24 (nxg hc0 kr24 rfl) (fun _ h9 => ko1 h9) hP hD hS hA hE [] rfl rfl rfl) rfl rfl hl.1 rfl (lv_room (Nat.le_of_ble_eq_true rfl)) dDA_makeHints_42 ⟨by omega, by omega⟩) (fun r26 pl H locs hu23 hP hD hS => ?_)
      obtain ⟨hq23, hO⟩ := hu23
      have hP : va_P g.1 vcl ([] ++ pl) _ := hP
      have hD : va_D _ ([] ++ pl) := hD
      refine W.widen (k := 0) (n := 0) (by omega) (by omega) ?_
      refine lv_if_ne (tgt := 50) hx hb dDA_makeHints_45 (by decide) (fun h23 => ?_) (fun h23 => ?_)
      · refine lv_aload_n hx hb dDA_makeHints_50 rfl (lv_at hl 2 rfl) ?_
        refine ty_get (ci := 6) (C := "LatticeKeys$Dsa") (TT := T_DA) (N := 17) (kd := (15, 0)) hx hb hts (wg_ft i_DA) hown hK hO k_h0 (nxg hc0 k_h0 rfl) hP (fun _ h9 => h9) rfl 1 (by decide) (hts _ (wg_t kw_166)) (fun _ h9 => h9) (cd := (3, 12, 0)) rfl dDA_makeHints_51 (fun v28 hv28 => ?_)
        obtain ⟨r27, rfl, kr26⟩ := (show ∃ r : Nat, v28 = .ref r ∧ T r = some (12, 0) from hv28)
        refine lv_aload_n hx hb dDA_makeHints_54 rfl (lv_at hl 2 rfl) ?_
        refine ty_get (ci := 6) (C := "LatticeKeys$Dsa") (TT := T_DA) (N := 17) (kd := (15, 0)) hx hb hts (wg_ft i_DA) hown hK hO k_h0 (nxg hc0 k_h0 rfl) hP (fun _ h9 => h9) rfl 10 (by decide) (hts _ (wg_t kw_175)) (fun _ h9 => h9) (cd := (3, 0, 256)) rfl dDA_makeHints_55 (fun v29 hv29 => ?_)
        obtain ⟨r28, rfl, kr27⟩ := (show ∃ r : Nat, v29 = .ref r ∧ T r = some (0, 256) from hv29)
        refine lv_aload_n hx hb dDA_makeHints_58 rfl (lv_at hl 2 rfl) ?_
        refine ty_get (ci := 6) (C := "LatticeKeys$Dsa") (TT := T_DA) (N := 17) (kd := (15, 0)) hx hb hts (wg_ft i_DA) hown hK hO k_h0 (nxg hc0 k_h0 rfl) hP (fun _ h9 => h9) rfl 8 (by decide) (hts _ (wg_t kw_173)) (fun _ h9 => h9) (cd := (3, 3, 8)) rfl dDA_makeHints_59 (fun v30 hv30 => ?_)
        obtain ⟨r29, rfl, kr28⟩ := (show ∃ r : Nat, v30 = .ref r ∧ T r = some (3, 8) from hv30)
        refine lv_iload_n hx hb dDA_makeHints_62 rfl (lv_at hl 0 rfl) ?_
        refine ty_aald3 hx hb hK hO kr28 (nxg hc0 kr28 rfl) hP (by omega) (by decide) dDA_makeHints_63 (fun r30 kr29 => ?_)
        refine mp_v (cx := []) (wr := []) hP hD hS hA [] [] rfl rfl rfl (by decide) (va_runV (As := [.ref r28, .ref r30]) (rest := []) F (t_RG_add_12 l g _ T xs pl hO hU hc0 r27 r28 r30 kr26 kr27 kr29) (cwV 2 hts (wg_app (wg_c kw_728 (wg_c kw_729 (wg_c kw_730 (wg_c kw_4 wg_n)))) kw_731) rfl rfl rfl (by decide +kernel) ⟨by decide, by decide⟩) (pp_VT (en_ok g) (ci := 4) (kd := (12, 0)) hK hO kr26 (nxg hc0 kr26 rfl) (fun _ h9 => ko1 h9) hP hD hS hA hE [] rfl rfl rfl) rfl rfl hl.1 rfl (lv_room (Nat.le_of_ble_eq_true rfl)) dDA_makeHints_64 ⟨by omega, by omega⟩) (fun  pl H locs hu24 hP hD hS => ?_)
        obtain ⟨hq24, hO⟩ := hu24
        have hP : va_P g.1 vcl ([] ++ pl) _ := hP
        have hD : va_D _ ([] ++ pl) := hD
        refine W.widen (k := 0) (n := 0) (by omega) (by omega) ?_
        refine lv_iconst (v := nI 0) hx hb dDA_makeHints_67 (by decide) ?_
        refine lv_istore (lv' := [(4, .int (nI 0)), (3, .int (nI i21)), (2, .int (nI cn21)), (0, .ref h0), (1, .ref st)]) hx hb dDA_makeHints_68 hl (by decide) rfl (fun ls hl => ?_)
        have lp22 : ∀ (n22 : Nat) (i22 : Nat) (cn22 : Nat) (pl : va_W) (ls : Array Slot) (H : Heap) (locs : List Loc), n22 + i22 = 256 → (cn22 ≤ 75) → lv_has ls 5 [(4, .int (nI i22)), (3, .int (nI i21)), (2, .int (nI cn22)), (0, .ref h0), (1, .ref st)] → okx g T xs pl → va_P g.1 vcl ([] ++ pl) H → va_D A ([] ++ pl) → va_S A s.heap H locs → W p l e ({ frames := 3, cells := 0, slots := 0, locals := 74 } : Room) s m args below meth c H locs 0 0 (MQ below (va_Qi (fun (r : Int32) (u : va_W) => (r = nI 0 ∨ r = nI 1) ∧ okx g T xs u) (po g.1 vcl A (fun (u : va_W) => [] ++ u)) A) args s 0 0 A) (F0 m 70 ls []) := by
          intro n22
          induction n22 with
          | zero =>
            intro i22 cn22 pl ls H locs hm22 hi22 hl hO hP hD hS
            refine lv_iload hx hb dDA_makeHints_70 (lv_at hl 0 rfl) ?_
            refine lv_sipush (v := nI 256) hx hb dDA_makeHints_72 (by decide) ?_
            refine mi_ge (tgt := 133) hx hb dDA_makeHints_75 (by decide) (by omega) (by omega) (fun h24 => ?_) (fun h24 => absurd h24 (by omega))
            refine lv_aload_n hx hb dDA_makeHints_133 rfl (lv_at hl 3 rfl) ?_
            refine ty_get (ci := 6) (C := "LatticeKeys$Dsa") (TT := T_DA) (N := 17) (kd := (15, 0)) hx hb hts (wg_ft i_DA) hown hK hO k_h0 (nxg hc0 k_h0 rfl) hP (fun _ h9 => h9) rfl 15 (by decide) (hts _ (wg_t kw_180)) (fun _ h9 => h9) (cd := (3, 8, 84)) rfl dDA_makeHints_134 (fun v31 hv31 => ?_)
            obtain ⟨r31, rfl, kr30⟩ := (show ∃ r : Nat, v31 = .ref r ∧ T r = some (8, 84) from hv31)
            obtain rfl : r21 = r31 := hU _ _ _ (by decide) kr21 kr30
            refine lv_aload_n hx hb dDA_makeHints_137 rfl (lv_at hl 4 rfl) ?_
            refine ty_get (ci := 2) (C := "LatticeKeys$DsaSet") (TT := T_DS) (N := 17) (kd := (45, 0)) hx hb hts (wg_ft i_DS) hown hK hO k_st (nxg hc0 k_st rfl) hP (fun _ h9 => h9) rfl 11 (by decide) (hts _ (wg_t kw_327)) (fun _ h9 => h9) (cd := (1, 0, 75)) rfl dDA_makeHints_138 (fun v32 hv32 => ?_)
            obtain rfl := (show v32 = .int (nI 75) from hv32)
            refine lv_iload_n hx hb dDA_makeHints_141 rfl (lv_at hl 1 rfl) ?_
            refine mi_iadd hx hb dDA_makeHints_142 ?_
            refine lv_iload_n hx hb dDA_makeHints_143 rfl (lv_at hl 2 rfl) ?_
            refine lv_i2b hx hb dDA_makeHints_144 rfl ?_
            refine mi_any (fun z21 => ?_)
            refine ty_bast8 hx hb hK hO kr21 (nxg hc20 kr21 rfl) hP hD hS (vp_in_nI (by omega) (by decide)) dDA_makeHints_145 (fun pl H locs hO hP hD hS => ?_)
            refine mi_iinc (k := 1) (x := i21) (d := 1) (y := i21 + 1) (lv' := [(3, .int (nI (i21 + 1))), (4, .int (nI i22)), (2, .int (nI cn22)), (0, .ref h0), (1, .ref st)]) hx hb dDA_makeHints_146 hl rfl (by decide) rfl (by decide) rfl (fun ls hl => ?_)
            refine lv_goto (tgt := 12) hx hb dDA_makeHints_149 (by decide) ?_
            exact ih21 (i21 + 1) cn22 pl ls H locs (by omega) (by omega) (lv_sub hl [0, 2, 3, 4] rfl) hO hP hD hS
          | succ n22 ih22 =>
            intro i22 cn22 pl ls H locs hm22 hi22 hl hO hP hD hS
            refine lv_iload hx hb dDA_makeHints_70 (lv_at hl 0 rfl) ?_
            refine lv_sipush (v := nI 256) hx hb dDA_makeHints_72 (by decide) ?_
            refine mi_ge (tgt := 133) hx hb dDA_makeHints_75 (by decide) (by omega) (by omega) (fun h25 => absurd h25 (by omega)) (fun h25 => ?_)
            refine lv_aload_n hx hb dDA_makeHints_78 rfl (lv_at hl 4 rfl) ?_
            refine lv_aload_n hx hb dDA_makeHints_79 rfl (lv_at hl 3 rfl) ?_
            refine ty_get (ci := 6) (C := "LatticeKeys$Dsa") (TT := T_DA) (N := 17) (kd := (15, 0)) hx hb hts (wg_ft i_DA) hown hK hO k_h0 (nxg hc0 k_h0 rfl) hP (fun _ h9 => h9) rfl 10 (by decide) (hts _ (wg_t kw_175)) (fun _ h9 => h9) (cd := (3, 0, 256)) rfl dDA_makeHints_80 (fun v33 hv33 => ?_)
            obtain ⟨r32, rfl, kr31⟩ := (show ∃ r : Nat, v33 = .ref r ∧ T r = some (0, 256) from hv33)
            refine lv_iload hx hb dDA_makeHints_83 (lv_at hl 0 rfl) ?_
            refine ty_iald hx hb hK hO kr31 (nxg hc0 kr31 rfl) hP (vp_in_nI (by omega) (by decide)) dDA_makeHints_85 (fun z22 => ?_)
            refine mp_i (cx := []) (wr := []) hP hD hS hA [] [] rfl rfl rfl (by decide) (va_runV (As := [.int z22]) (rest := []) F (t_DS_high_2 l g _ T xs pl hO hU hc0 st z22 k_st) (cwV 1 hts (wg_app (wg_c kw_1206 (wg_c kw_1207 (wg_c kw_1208 (wg_c kw_8 wg_n)))) kw_1209) rfl rfl rfl (by decide +kernel) ⟨by decide, by decide⟩) (pp_VT (en_ok g) (ci := 2) (kd := (45, 0)) hK hO k_st (nxg hc0 k_st rfl) (fun _ h9 => ko1 h9) hP hD hS hA hE [] rfl rfl rfl) rfl rfl hl.1 rfl (lv_room (Nat.le_of_ble_eq_true rfl)) dDA_makeHints_86 ⟨by omega, by omega⟩) (fun r33 pl H locs hu25 hP hD hS => ?_)
            obtain ⟨hq25, hO⟩ := hu25
            have hP : va_P g.1 vcl ([] ++ pl) _ := hP
            have hD : va_D _ ([] ++ pl) := hD
            refine W.widen (k := 0) (n := 0) (by omega) (by omega) ?_
            refine lv_aload_n hx hb dDA_makeHints_89 rfl (lv_at hl 4 rfl) ?_
            refine lv_aload_n hx hb dDA_makeHints_90 rfl (lv_at hl 3 rfl) ?_
            refine ty_get (ci := 6) (C := "LatticeKeys$Dsa") (TT := T_DA) (N := 17) (kd := (15, 0)) hx hb hts (wg_ft i_DA) hown hK hO k_h0 (nxg hc0 k_h0 rfl) hP (fun _ h9 => h9) rfl 8 (by decide) (hts _ (wg_t kw_173)) (fun _ h9 => h9) (cd := (3, 3, 8)) rfl dDA_makeHints_91 (fun v34 hv34 => ?_)
            obtain ⟨r34, rfl, kr32⟩ := (show ∃ r : Nat, v34 = .ref r ∧ T r = some (3, 8) from hv34)
            refine lv_iload_n hx hb dDA_makeHints_94 rfl (lv_at hl 1 rfl) ?_
            refine ty_aald3 hx hb hK hO kr32 (nxg hc0 kr32 rfl) hP (by omega) (by decide) dDA_makeHints_95 (fun r35 kr33 => ?_)
            refine lv_iload hx hb dDA_makeHints_96 (lv_at hl 0 rfl) ?_
            refine ty_iald hx hb hK hO kr33 (nxg hc0 kr33 rfl) hP (vp_in_nI (by omega) (by decide)) dDA_makeHints_98 (fun z23 => ?_)
            refine mp_i (cx := []) (wr := []) hP hD hS hA [] [] rfl rfl rfl (by decide) (va_runV (As := [.int z23]) (rest := [.int r33]) F (t_DS_high_2 l g _ T xs pl hO hU hc0 st z23 k_st) (cwV 1 hts (wg_app (wg_c kw_1206 (wg_c kw_1207 (wg_c kw_1208 (wg_c kw_8 wg_n)))) kw_1209) rfl rfl rfl (by decide +kernel) ⟨by decide, by decide⟩) (pp_VT (en_ok g) (ci := 2) (kd := (45, 0)) hK hO k_st (nxg hc0 k_st rfl) (fun _ h9 => ko1 h9) hP hD hS hA hE [] rfl rfl rfl) rfl rfl hl.1 rfl (lv_room (Nat.le_of_ble_eq_true rfl)) dDA_makeHints_99 ⟨by omega, by omega⟩) (fun r36 pl H locs hu26 hP hD hS => ?_)
            obtain ⟨hq26, hO⟩ := hu26
            have hP : va_P g.1 vcl ([] ++ pl) _ := hP
            have hD : va_D _ ([] ++ pl) := hD
            refine W.widen (k := 0) (n := 0) (by omega) (by omega) ?_
            refine lv_icmp_eq (tgt := 127) hx hb dDA_makeHints_102 (by decide) (fun h26 => ?_) (fun h26 => ?_)
            · refine mi_iinc (k := 0) (x := i22) (d := 1) (y := i22 + 1) (lv' := [(4, .int (nI (i22 + 1))), (3, .int (nI i21)), (2, .int (nI cn22)), (0, .ref h0), (1, .ref st)]) hx hb dDA_makeHints_127 hl rfl (by decide) rfl (by decide) rfl (fun ls hl => ?_)
              refine lv_goto (tgt := 70) hx hb dDA_makeHints_130 (by decide) ?_
              exact ih22 (i22 + 1) cn22 pl ls H locs (by omega) (by omega) (lv_sub hl [0, 1, 2, 3, 4] rfl) hO hP hD hS
            · refine lv_iload_n hx hb dDA_makeHints_105 rfl (lv_at hl 2 rfl) ?_
              refine lv_aload_n hx hb dDA_makeHints_106 rfl (lv_at hl 4 rfl) ?_
              refine ty_get (ci := 2) (C := "LatticeKeys$DsaSet") (TT := T_DS) (N := 17) (kd := (45, 0)) hx hb hts (wg_ft i_DS) hown hK hO k_st (nxg hc0 k_st rfl) hP (fun _ h9 => h9) rfl 11 (by decide) (hts _ (wg_t kw_327)) (fun _ h9 => h9) (cd := (1, 0, 75)) rfl dDA_makeHints_107 (fun v35 hv35 => ?_)
              obtain rfl := (show v35 = .int (nI 75) from hv35)
              refine mi_lt (tgt := 115) hx hb dDA_makeHints_110 (by decide) (by omega) (by omega) (fun h27 => ?_) (fun h27 => ?_)
              · refine lv_aload_n hx hb dDA_makeHints_115 rfl (lv_at hl 3 rfl) ?_
                refine ty_get (ci := 6) (C := "LatticeKeys$Dsa") (TT := T_DA) (N := 17) (kd := (15, 0)) hx hb hts (wg_ft i_DA) hown hK hO k_h0 (nxg hc0 k_h0 rfl) hP (fun _ h9 => h9) rfl 15 (by decide) (hts _ (wg_t kw_180)) (fun _ h9 => h9) (cd := (3, 8, 84)) rfl dDA_makeHints_116 (fun v36 hv36 => ?_)
                obtain ⟨r37, rfl, kr34⟩ := (show ∃ r : Nat, v36 = .ref r ∧ T r = some (8, 84) from hv36)
                obtain rfl : r21 = r37 := hU _ _ _ (by decide) kr21 kr34
                refine lv_iload_n hx hb dDA_makeHints_119 rfl (lv_at hl 2 rfl) ?_
                refine lv_iload hx hb dDA_makeHints_120 (lv_at hl 0 rfl) ?_
                refine lv_i2b hx hb dDA_makeHints_122 rfl ?_
                refine mi_any (fun z24 => ?_)
                refine ty_bast8 hx hb hK hO kr21 (nxg hc20 kr21 rfl) hP hD hS (vp_in_nI (by omega) (by decide)) dDA_makeHints_123 (fun pl H locs hO hP hD hS => ?_)
                refine mi_iinc (k := 2) (x := cn22) (d := 1) (y := cn22 + 1) (lv' := [(2, .int (nI (cn22 + 1))), (4, .int (nI i22)), (3, .int (nI i21)), (0, .ref h0), (1, .ref st)]) hx hb dDA_makeHints_124 hl rfl (by decide) rfl (by decide) rfl (fun ls hl => ?_)
                refine mi_iinc (k := 1) (x := i22) (d := 1) (y := i22 + 1) (lv' := [(4, .int (nI (i22 + 1))), (2, .int (nI (cn22 + 1))), (3, .int (nI i21)), (0, .ref h0), (1, .ref st)]) hx hb dDA_makeHints_127 hl rfl (by decide) rfl (by decide) rfl (fun ls hl => ?_)
                refine lv_goto (tgt := 70) hx hb dDA_makeHints_130 (by decide) ?_
                exact ih22 (i22 + 1) (cn22 + 1) pl ls H locs (by omega) (by omega) (lv_sub hl [0, 2, 1, 3, 4] rfl) hO hP hD hS
              · refine lv_iconst (v := nI 0) hx hb dDA_makeHints_113 (by decide) ?_
                exact mp_zret hx hb hr hlk rfl hP hD hS pl ⟨(Or.inl rfl), hO⟩ [] rfl rfl rfl (by omega) (by omega) dDA_makeHints_114
        exact lp22 256 0 cn21 pl ls _ _ (by omega) (by omega) (lv_sub hl [0, 1, 2, 3, 4] rfl) hO hP hD hS
      · refine lv_iconst (v := nI 0) hx hb dDA_makeHints_48 (by decide) ?_
        exact mp_zret hx hb hr hlk rfl hP hD hS pl ⟨(Or.inl rfl), hO⟩ [] rfl rfl rfl (by omega) (by omega) dDA_makeHints_49
  exact lp21 8 0 0 pl ls _ _ (by omega) (by omega) (lv_sub hl [0, 1, 2, 3] rfl) hO hP hD hS
set_option maxHeartbeats 400000 in
set_option maxRecDepth 100000 in
theorem t_DA_writeSignature_0 (l : Launch) (g : Gd) (sz : Nat) (T : Ty) (xs : List Nat) (pl : va_W) (hO : okx g T xs pl) (hU : uni T) (hc0 : clo T xs 0) (hc20 : clo T xs 20) (h0 st to : Nat) (k_h0 : T h0 = some (15, 0)) (k_st : T st = some (43, 0)) (k_to : T to = some (1, 8192))  : Met l y_DA_writeSignature w_DA_writeSignature ({ frames := 1, cells := 0, slots := 0, locals := 60 } : Room) (va_Pc [.ref h0, .ref st, .ref to] (pr (en g) g.1 vcl sz ([] ++ pl))) (va_Qv (fun (u : va_W) => (True) ∧ okx g T xs u) (po g.1 vcl (va_A ([] ++ pl) sz) (fun (u : va_W) => [] ++ u)) (va_A ([] ++ pl) sz)) 0 0 (va_A ([] ++ pl) sz) := by
  refine mc_entry (cc := c_DA_writeSignature) (maxL := 4) (ret := none) (by decide) rfl (Nat.le_of_ble_eq_true rfl) ?_
  intro p e s m args below meth c ls F hr hlk hnm hsz hP hD hE hA hl
  obtain ⟨hx, hb, hml, hown, hts⟩ := id F
  have hK := hE.1
  generalize va_A ([] ++ pl) sz = A at hD hE hA ⊢
  have hS : va_S A s.heap s.heap [] := va_S.rf
  have hl : lv_has ls 4 [(0, .ref h0), (1, .ref st), (2, .ref to)] := hl
  refine lv_aload_n hx hb dDA_writeSignature_0 rfl (lv_at hl 0 rfl) ?_
  refine ty_get (ci := 6) (C := "LatticeKeys$Dsa") (TT := T_DA) (N := 17) (kd := (15, 0)) hx hb hts (wg_ft i_DA) hown hK hO k_h0 (nxg hc0 k_h0 rfl) hP (fun _ h9 => h9) rfl 13 (by decide) (hts _ (wg_t kw_178)) (fun _ h9 => h9) (cd := (3, 1, 64)) rfl dDA_writeSignature_1 (fun v21 hv21 => ?_)
  obtain ⟨r21, rfl, kr21⟩ := (show ∃ r : Nat, v21 = .ref r ∧ T r = some (1, 64) from hv21)
  refine lv_iconst (v := nI 0) hx hb dDA_writeSignature_4 (by decide) ?_
  refine lv_aload_n hx hb dDA_writeSignature_5 rfl (lv_at hl 2 rfl) ?_
  refine lv_iconst (v := nI 0) hx hb dDA_writeSignature_6 (by decide) ?_
  refine lv_aload_n hx hb dDA_writeSignature_7 rfl (lv_at hl 1 rfl) ?_
  refine ty_get (ci := 2) (C := "LatticeKeys$DsaSet") (TT := T_DS) (N := 17) (kd := (43, 0)) hx hb hts (wg_ft i_DS) hown hK hO k_st (nxg hc0 k_st rfl) hP (fun _ h9 => h9) rfl 5 (by decide) (hts _ (wg_t kw_315)) (fun _ h9 => h9) (cd := (1, 0, 32)) rfl dDA_writeSignature_8 (fun v22 hv22 => ?_)
  obtain rfl := (show v22 = .int (nI 32) from hv22)
  refine ty_copyb11 hx hb (hml.trans hl.1.symm) hown (hts _ (wg_t kw_674)) (hts _ (wg_t kw_526)) (hts _ (wg_t kw_525)) (hts _ (wg_t kw_19)) hK hO kr21 (nxg hc0 kr21 rfl) k_to (nxg hc0 k_to rfl) hP hD hS (sp := 0) (dp := 0) (n := 32) (by omega) (by omega) (by omega) (by decide) (Nat.le_of_ble_eq_true rfl) dDA_writeSignature_11 (fun pl H locs hO hP hD hS => ?_)
  refine lv_iconst (v := nI 0) hx hb dDA_writeSignature_14 (by decide) ?_
  refine lv_istore_n (lv' := [(3, .int (nI 0)), (0, .ref h0), (1, .ref st), (2, .ref to)]) hx hb dDA_writeSignature_15 rfl hl (by decide) rfl (fun ls hl => ?_)
  have lp21 : ∀ (n21 : Nat) (i21 : Nat) (pl : va_W) (ls : Array Slot) (H : Heap) (locs : List Loc), n21 + i21 = 4 → lv_has ls 4 [(3, .int (nI i21)), (0, .ref h0), (1, .ref st), (2, .ref to)] → okx g T xs pl → va_P g.1 vcl ([] ++ pl) H → va_D A ([] ++ pl) → va_S A s.heap H locs → W p l e ({ frames := 1, cells := 0, slots := 0, locals := 60 } : Room) s m args below meth c H locs 0 0 (MQ below (va_Qv (fun (u : va_W) => (True) ∧ okx g T xs u) (po g.1 vcl A (fun (u : va_W) => [] ++ u)) A) args s 0 0 A) (F0 m 16 ls []) := by
    intro n21
    induction n21 with
    | zero =>
      intro i21 pl ls H locs hm21  hl hO hP hD hS
      refine lv_iload_n hx hb dDA_writeSignature_16 rfl (lv_at hl 0 rfl) ?_
      refine lv_aload_n hx hb dDA_writeSignature_17 rfl (lv_at hl 2 rfl) ?_
      refine ty_get (ci := 2) (C := "LatticeKeys$DsaSet") (TT := T_DS) (N := 17) (kd := (43, 0)) hx hb hts (wg_ft i_DS) hown hK hO k_st (nxg hc0 k_st rfl) hP (fun _ h9 => h9) rfl 1 (by decide) (hts _ (wg_t kw_305)) (fun _ h9 => h9) (cd := (1, 0, 4)) rfl dDA_writeSignature_18 (fun v23 hv23 => ?_)
      obtain rfl := (show v23 = .int (nI 4) from hv23)
      refine mi_ge (tgt := 77) hx hb dDA_writeSignature_21 (by decide) (by omega) (by omega) (fun h21 => ?_) (fun h21 => absurd h21 (by omega))
      refine lv_aload_n hx hb dDA_writeSignature_77 rfl (lv_at hl 1 rfl) ?_
      refine ty_get (ci := 6) (C := "LatticeKeys$Dsa") (TT := T_DA) (N := 17) (kd := (15, 0)) hx hb hts (wg_ft i_DA) hown hK hO k_h0 (nxg hc0 k_h0 rfl) hP (fun _ h9 => h9) rfl 15 (by decide) (hts _ (wg_t kw_180)) (fun _ h9 => h9) (cd := (3, 8, 84)) rfl dDA_writeSignature_78 (fun v24 hv24 => ?_)
      obtain ⟨r22, rfl, kr22⟩ := (show ∃ r : Nat, v24 = .ref r ∧ T r = some (8, 84) from hv24)
      refine lv_iconst (v := nI 0) hx hb dDA_writeSignature_81 (by decide) ?_
      refine lv_aload_n hx hb dDA_writeSignature_82 rfl (lv_at hl 3 rfl) ?_
      refine lv_aload_n hx hb dDA_writeSignature_83 rfl (lv_at hl 2 rfl) ?_
      refine ty_get (ci := 2) (C := "LatticeKeys$DsaSet") (TT := T_DS) (N := 17) (kd := (43, 0)) hx hb hts (wg_ft i_DS) hown hK hO k_st (nxg hc0 k_st rfl) hP (fun _ h9 => h9) rfl 15 (by decide) (hts _ (wg_t kw_335)) (fun _ h9 => h9) (cd := (1, 0, 2336)) rfl dDA_writeSignature_84 (fun v25 hv25 => ?_)
      obtain rfl := (show v25 = .int (nI 2336) from hv25)
      refine lv_aload_n hx hb dDA_writeSignature_87 rfl (lv_at hl 2 rfl) ?_
      refine ty_get (ci := 2) (C := "LatticeKeys$DsaSet") (TT := T_DS) (N := 17) (kd := (43, 0)) hx hb hts (wg_ft i_DS) hown hK hO k_st (nxg hc0 k_st rfl) hP (fun _ h9 => h9) rfl 11 (by decide) (hts _ (wg_t kw_327)) (fun _ h9 => h9) (cd := (1, 0, 80)) rfl dDA_writeSignature_88 (fun v26 hv26 => ?_)
      obtain rfl := (show v26 = .int (nI 80) from hv26)
      refine lv_aload_n hx hb dDA_writeSignature_91 rfl (lv_at hl 2 rfl) ?_
      refine ty_get (ci := 2) (C := "LatticeKeys$DsaSet") (TT := T_DS) (N := 17) (kd := (43, 0)) hx hb hts (wg_ft i_DS) hown hK hO k_st (nxg hc0 k_st rfl) hP (fun _ h9 => h9) rfl 0 (by decide) (hts _ (wg_t kw_302)) (fun _ h9 => h9) (cd := (1, 0, 4)) rfl dDA_writeSignature_92 (fun v27 hv27 => ?_)
      obtain rfl := (show v27 = .int (nI 4) from hv27)
      refine mi_iadd hx hb dDA_writeSignature_95 ?_
      refine mi_as (show nI (80 + 4) = nI 84 from rfl) ?_
      refine ty_copyb81 hx hb (hml.trans hl.1.symm) hown (hts _ (wg_t kw_674)) (hts _ (wg_t kw_526)) (hts _ (wg_t kw_525)) (hts _ (wg_t kw_19)) hK hO kr22 (nxg hc20 kr22 rfl) k_to (nxg hc0 k_to rfl) hP hD hS (sp := 0) (dp := 2336) (n := 84) (by omega) (by omega) (by omega) (by decide) (Nat.le_of_ble_eq_true rfl) dDA_writeSignature_96 (fun pl H locs hO hP hD hS => ?_)
      exact mp_vret hx hb hr hlk hP hD hS pl ⟨trivial, hO⟩ [] rfl rfl rfl (by omega) (by omega) dDA_writeSignature_99
    | succ n21 ih21 =>
      intro i21 pl ls H locs hm21  hl hO hP hD hS
      refine lv_iload_n hx hb dDA_writeSignature_16 rfl (lv_at hl 0 rfl) ?_
      refine lv_aload_n hx hb dDA_writeSignature_17 rfl (lv_at hl 2 rfl) ?_
      refine ty_get (ci := 2) (C := "LatticeKeys$DsaSet") (TT := T_DS) (N := 17) (kd := (43, 0)) hx hb hts (wg_ft i_DS) hown hK hO k_st (nxg hc0 k_st rfl) hP (fun _ h9 => h9) rfl 1 (by decide) (hts _ (wg_t kw_305)) (fun _ h9 => h9) (cd := (1, 0, 4)) rfl dDA_writeSignature_18 (fun v28 hv28 => ?_)
      obtain rfl := (show v28 = .int (nI 4) from hv28)
      refine mi_ge (tgt := 77) hx hb dDA_writeSignature_21 (by decide) (by omega) (by omega) (fun h22 => absurd h22 (by omega)) (fun h22 => ?_)
      refine lv_aload_n hx hb dDA_writeSignature_24 rfl (lv_at hl 1 rfl) ?_
      refine ty_get (ci := 6) (C := "LatticeKeys$Dsa") (TT := T_DA) (N := 17) (kd := (15, 0)) hx hb hts (wg_ft i_DA) hown hK hO k_h0 (nxg hc0 k_h0 rfl) hP (fun _ h9 => h9) rfl 1 (by decide) (hts _ (wg_t kw_166)) (fun _ h9 => h9) (cd := (3, 12, 0)) rfl dDA_writeSignature_25 (fun v29 hv29 => ?_)
      obtain ⟨r23, rfl, kr23⟩ := (show ∃ r : Nat, v29 = .ref r ∧ T r = some (12, 0) from hv29)
      refine lv_aload_n hx hb dDA_writeSignature_28 rfl (lv_at hl 1 rfl) ?_
      refine ty_get (ci := 6) (C := "LatticeKeys$Dsa") (TT := T_DA) (N := 17) (kd := (15, 0)) hx hb hts (wg_ft i_DA) hown hK hO k_h0 (nxg hc0 k_h0 rfl) hP (fun _ h9 => h9) rfl 7 (by decide) (hts _ (wg_t kw_172)) (fun _ h9 => h9) (cd := (3, 3, 7)) rfl dDA_writeSignature_29 (fun v30 hv30 => ?_)
      obtain ⟨r24, rfl, kr24⟩ := (show ∃ r : Nat, v30 = .ref r ∧ T r = some (3, 7) from hv30)
      refine lv_iload_n hx hb dDA_writeSignature_32 rfl (lv_at hl 0 rfl) ?_
      refine ty_aald3 hx hb hK hO kr24 (nxg hc0 kr24 rfl) hP (by omega) (by decide) dDA_writeSignature_33 (fun r25 kr25 => ?_)
      refine lv_aload_n hx hb dDA_writeSignature_34 rfl (lv_at hl 2 rfl) ?_
      refine ty_get (ci := 2) (C := "LatticeKeys$DsaSet") (TT := T_DS) (N := 17) (kd := (43, 0)) hx hb hts (wg_ft i_DS) hown hK hO k_st (nxg hc0 k_st rfl) hP (fun _ h9 => h9) rfl 7 (by decide) (hts _ (wg_t kw_320)) (fun _ h9 => h9) (cd := (1, 0, 131072)) rfl dDA_writeSignature_35 (fun v31 hv31 => ?_)
      obtain rfl := (show v31 = .int (nI 131072) from hv31)
      refine lv_aload_n hx hb dDA_writeSignature_38 rfl (lv_at hl 1 rfl) ?_
      refine ty_get (ci := 6) (C := "LatticeKeys$Dsa") (TT := T_DA) (N := 17) (kd := (15, 0)) hx hb hts (wg_ft i_DA) hown hK hO k_h0 (nxg hc0 k_h0 rfl) hP (fun _ h9 => h9) rfl 10 (by decide) (hts _ (wg_t kw_175)) (fun _ h9 => h9) (cd := (3, 0, 256)) rfl dDA_writeSignature_39 (fun v32 hv32 => ?_)
      obtain ⟨r26, rfl, kr26⟩ := (show ∃ r : Nat, v32 = .ref r ∧ T r = some (0, 256) from hv32)
      refine mp_v (cx := []) (wr := []) hP hD hS hA [] [] rfl rfl rfl (by decide) (va_runV (As := [.ref r25, .int (nI 131072), .ref r26]) (rest := []) F (t_RG_flip_12 l g _ T xs pl hO hU hc0 r23 r25 r26 (nI 131072) kr23 kr25 kr26) (cwV 3 hts (wg_app (wg_c kw_698 (wg_c kw_699 (wg_c kw_700 (wg_c kw_4 wg_n)))) kw_701) rfl rfl rfl (by decide +kernel) ⟨by decide, by decide⟩) (pp_VT (en_ok g) (ci := 4) (kd := (12, 0)) hK hO kr23 (nxg hc0 kr23 rfl) (fun _ h9 => ko1 h9) hP hD hS hA hE [] rfl rfl rfl) rfl rfl hl.1 rfl (lv_room (Nat.le_of_ble_eq_true rfl)) dDA_writeSignature_42 ⟨by omega, by omega⟩) (fun  pl H locs hu21 hP hD hS => ?_)
      obtain ⟨hq21, hO⟩ := hu21
      have hP : va_P g.1 vcl ([] ++ pl) _ := hP
      have hD : va_D _ ([] ++ pl) := hD
      refine W.widen (k := 0) (n := 0) (by omega) (by omega) ?_
      refine lv_aload_n hx hb dDA_writeSignature_45 rfl (lv_at hl 1 rfl) ?_
      refine ty_get (ci := 6) (C := "LatticeKeys$Dsa") (TT := T_DA) (N := 17) (kd := (15, 0)) hx hb hts (wg_ft i_DA) hown hK hO k_h0 (nxg hc0 k_h0 rfl) hP (fun _ h9 => h9) rfl 10 (by decide) (hts _ (wg_t kw_175)) (fun _ h9 => h9) (cd := (3, 0, 256)) rfl dDA_writeSignature_46 (fun v33 hv33 => ?_)
      obtain ⟨r27, rfl, kr27⟩ := (show ∃ r : Nat, v33 = .ref r ∧ T r = some (0, 256) from hv33)
      refine lv_aload_n hx hb dDA_writeSignature_49 rfl (lv_at hl 2 rfl) ?_
      refine ty_get (ci := 2) (C := "LatticeKeys$DsaSet") (TT := T_DS) (N := 17) (kd := (43, 0)) hx hb hts (wg_ft i_DS) hown hK hO k_st (nxg hc0 k_st rfl) hP (fun _ h9 => h9) rfl 6 (by decide) (hts _ (wg_t kw_318)) (fun _ h9 => h9) (cd := (1, 0, 18)) rfl dDA_writeSignature_50 (fun v34 hv34 => ?_)
      obtain rfl := (show v34 = .int (nI 18) from hv34)
      refine lv_aload_n hx hb dDA_writeSignature_53 rfl (lv_at hl 3 rfl) ?_
      refine lv_aload_n hx hb dDA_writeSignature_54 rfl (lv_at hl 2 rfl) ?_
      refine ty_get (ci := 2) (C := "LatticeKeys$DsaSet") (TT := T_DS) (N := 17) (kd := (43, 0)) hx hb hts (wg_ft i_DS) hown hK hO k_st (nxg hc0 k_st rfl) hP (fun _ h9 => h9) rfl 5 (by decide) (hts _ (wg_t kw_315)) (fun _ h9 => h9) (cd := (1, 0, 32)) rfl dDA_writeSignature_55 (fun v35 hv35 => ?_)
      obtain rfl := (show v35 = .int (nI 32) from hv35)
      refine lv_bipush (v := nI 32) hx hb dDA_writeSignature_58 (by decide) ?_
      refine lv_aload_n hx hb dDA_writeSignature_60 rfl (lv_at hl 2 rfl) ?_
      refine ty_get (ci := 2) (C := "LatticeKeys$DsaSet") (TT := T_DS) (N := 17) (kd := (43, 0)) hx hb hts (wg_ft i_DS) hown hK hO k_st (nxg hc0 k_st rfl) hP (fun _ h9 => h9) rfl 6 (by decide) (hts _ (wg_t kw_318)) (fun _ h9 => h9) (cd := (1, 0, 18)) rfl dDA_writeSignature_61 (fun v36 hv36 => ?_)
      obtain rfl := (show v36 = .int (nI 18) from hv36)
      refine mi_imul hx hb dDA_writeSignature_64 ?_
      refine mi_as (show nI (32 * 18) = nI 576 from rfl) ?_
      refine lv_iload_n hx hb dDA_writeSignature_65 rfl (lv_at hl 0 rfl) ?_
      refine mi_imul hx hb dDA_writeSignature_66 ?_
      refine mi_iadd hx hb dDA_writeSignature_67 ?_
      refine mp_v (cx := []) (wr := []) hP hD hS hA [] [] rfl rfl rfl (by decide) (va_runS (As := [.ref r27, .int (nI 18), .ref to, .int (nI (32 + (576 * i21)))]) (rest := []) F (t_BT_pack l g _ T xs pl hO hU hc0 r27 to 8192 18 (32 + (576 * i21)) kr27 k_to (by omega) (by omega) (by omega)) (va_cwS 4 hts (wg_app (wg_c kw_702 (wg_c kw_645 (wg_c kw_22 wg_n))) kw_646) rfl rfl rfl (by decide +kernel) ⟨by decide, by decide⟩) (pp_S (en_ok g) hP hD hS hA hE [] rfl rfl) rfl rfl hl.1 rfl (lv_room (Nat.le_of_ble_eq_true rfl)) dDA_writeSignature_68 ⟨by omega, by omega⟩) (fun  pl H locs hu22 hP hD hS => ?_)
      obtain ⟨hq22, hO⟩ := hu22
      have hP : va_P g.1 vcl ([] ++ pl) _ := hP
      have hD : va_D _ ([] ++ pl) := hD
      refine W.widen (k := 0) (n := 0) (by omega) (by omega) ?_
      refine mi_iinc (k := 0) (x := i21) (d := 1) (y := i21 + 1) (lv' := [(3, .int (nI (i21 + 1))), (0, .ref h0), (1, .ref st), (2, .ref to)]) hx hb dDA_writeSignature_71 hl rfl (by decide) rfl (by decide) rfl (fun ls hl => ?_)
      refine lv_goto (tgt := 16) hx hb dDA_writeSignature_74 (by decide) ?_
      exact ih21 (i21 + 1) pl ls H locs (by omega) (lv_sub hl [0, 1, 2, 3] rfl) hO hP hD hS
  exact lp21 4 0 pl ls _ _ (by omega) (lv_sub hl [0, 1, 2, 3] rfl) hO hP hD hS
set_option maxHeartbeats 400000 in
set_option maxRecDepth 100000 in
theorem t_DA_writeSignature_1 (l : Launch) (g : Gd) (sz : Nat) (T : Ty) (xs : List Nat) (pl : va_W) (hO : okx g T xs pl) (hU : uni T) (hc0 : clo T xs 0) (hc20 : clo T xs 20) (h0 st to : Nat) (k_h0 : T h0 = some (15, 0)) (k_st : T st = some (44, 0)) (k_to : T to = some (1, 8192))  : Met l y_DA_writeSignature w_DA_writeSignature ({ frames := 1, cells := 0, slots := 0, locals := 60 } : Room) (va_Pc [.ref h0, .ref st, .ref to] (pr (en g) g.1 vcl sz ([] ++ pl))) (va_Qv (fun (u : va_W) => (True) ∧ okx g T xs u) (po g.1 vcl (va_A ([] ++ pl) sz) (fun (u : va_W) => [] ++ u)) (va_A ([] ++ pl) sz)) 0 0 (va_A ([] ++ pl) sz) := by
  refine mc_entry (cc := c_DA_writeSignature) (maxL := 4) (ret := none) (by decide) rfl (Nat.le_of_ble_eq_true rfl) ?_
  intro p e s m args below meth c ls F hr hlk hnm hsz hP hD hE hA hl
  obtain ⟨hx, hb, hml, hown, hts⟩ := id F
  have hK := hE.1
  generalize va_A ([] ++ pl) sz = A at hD hE hA ⊢
  have hS : va_S A s.heap s.heap [] := va_S.rf
  have hl : lv_has ls 4 [(0, .ref h0), (1, .ref st), (2, .ref to)] := hl
  refine lv_aload_n hx hb dDA_writeSignature_0 rfl (lv_at hl 0 rfl) ?_
  refine ty_get (ci := 6) (C := "LatticeKeys$Dsa") (TT := T_DA) (N := 17) (kd := (15, 0)) hx hb hts (wg_ft i_DA) hown hK hO k_h0 (nxg hc0 k_h0 rfl) hP (fun _ h9 => h9) rfl 13 (by decide) (hts _ (wg_t kw_178)) (fun _ h9 => h9) (cd := (3, 1, 64)) rfl dDA_writeSignature_1 (fun v21 hv21 => ?_)
  obtain ⟨r21, rfl, kr21⟩ := (show ∃ r : Nat, v21 = .ref r ∧ T r = some (1, 64) from hv21)
  refine lv_iconst (v := nI 0) hx hb dDA_writeSignature_4 (by decide) ?_
  refine lv_aload_n hx hb dDA_writeSignature_5 rfl (lv_at hl 2 rfl) ?_
  refine lv_iconst (v := nI 0) hx hb dDA_writeSignature_6 (by decide) ?_
  refine lv_aload_n hx hb dDA_writeSignature_7 rfl (lv_at hl 1 rfl) ?_
  refine ty_get (ci := 2) (C := "LatticeKeys$DsaSet") (TT := T_DS) (N := 17) (kd := (44, 0)) hx hb hts (wg_ft i_DS) hown hK hO k_st (nxg hc0 k_st rfl) hP (fun _ h9 => h9) rfl 5 (by decide) (hts _ (wg_t kw_315)) (fun _ h9 => h9) (cd := (1, 0, 48)) rfl dDA_writeSignature_8 (fun v22 hv22 => ?_)
  obtain rfl := (show v22 = .int (nI 48) from hv22)
  refine ty_copyb11 hx hb (hml.trans hl.1.symm) hown (hts _ (wg_t kw_674)) (hts _ (wg_t kw_526)) (hts _ (wg_t kw_525)) (hts _ (wg_t kw_19)) hK hO kr21 (nxg hc0 kr21 rfl) k_to (nxg hc0 k_to rfl) hP hD hS (sp := 0) (dp := 0) (n := 48) (by omega) (by omega) (by omega) (by decide) (Nat.le_of_ble_eq_true rfl) dDA_writeSignature_11 (fun pl H locs hO hP hD hS => ?_)
  refine lv_iconst (v := nI 0) hx hb dDA_writeSignature_14 (by decide) ?_
  refine lv_istore_n (lv' := [(3, .int (nI 0)), (0, .ref h0), (1, .ref st), (2, .ref to)]) hx hb dDA_writeSignature_15 rfl hl (by decide) rfl (fun ls hl => ?_)
  have lp21 : ∀ (n21 : Nat) (i21 : Nat) (pl : va_W) (ls : Array Slot) (H : Heap) (locs : List Loc), n21 + i21 = 5 → lv_has ls 4 [(3, .int (nI i21)), (0, .ref h0), (1, .ref st), (2, .ref to)] → okx g T xs pl → va_P g.1 vcl ([] ++ pl) H → va_D A ([] ++ pl) → va_S A s.heap H locs → W p l e ({ frames := 1, cells := 0, slots := 0, locals := 60 } : Room) s m args below meth c H locs 0 0 (MQ below (va_Qv (fun (u : va_W) => (True) ∧ okx g T xs u) (po g.1 vcl A (fun (u : va_W) => [] ++ u)) A) args s 0 0 A) (F0 m 16 ls []) := by
    intro n21
    induction n21 with
    | zero =>
      intro i21 pl ls H locs hm21  hl hO hP hD hS
      refine lv_iload_n hx hb dDA_writeSignature_16 rfl (lv_at hl 0 rfl) ?_
      refine lv_aload_n hx hb dDA_writeSignature_17 rfl (lv_at hl 2 rfl) ?_
      refine ty_get (ci := 2) (C := "LatticeKeys$DsaSet") (TT := T_DS) (N := 17) (kd := (44, 0)) hx hb hts (wg_ft i_DS) hown hK hO k_st (nxg hc0 k_st rfl) hP (fun _ h9 => h9) rfl 1 (by decide) (hts _ (wg_t kw_305)) (fun _ h9 => h9) (cd := (1, 0, 5)) rfl dDA_writeSignature_18 (fun v23 hv23 => ?_)
      obtain rfl := (show v23 = .int (nI 5) from hv23)
      refine mi_ge (tgt := 77) hx hb dDA_writeSignature_21 (by decide) (by omega) (by omega) (fun h21 => ?_) (fun h21 => absurd h21 (by omega))
      refine lv_aload_n hx hb dDA_writeSignature_77 rfl (lv_at hl 1 rfl) ?_
      refine ty_get (ci := 6) (C := "LatticeKeys$Dsa") (TT := T_DA) (N := 17) (kd := (15, 0)) hx hb hts (wg_ft i_DA) hown hK hO k_h0 (nxg hc0 k_h0 rfl) hP (fun _ h9 => h9) rfl 15 (by decide) (hts _ (wg_t kw_180)) (fun _ h9 => h9) (cd := (3, 8, 84)) rfl dDA_writeSignature_78 (fun v24 hv24 => ?_)
      obtain ⟨r22, rfl, kr22⟩ := (show ∃ r : Nat, v24 = .ref r ∧ T r = some (8, 84) from hv24)
      refine lv_iconst (v := nI 0) hx hb dDA_writeSignature_81 (by decide) ?_
      refine lv_aload_n hx hb dDA_writeSignature_82 rfl (lv_at hl 3 rfl) ?_
      refine lv_aload_n hx hb dDA_writeSignature_83 rfl (lv_at hl 2 rfl) ?_
      refine ty_get (ci := 2) (C := "LatticeKeys$DsaSet") (TT := T_DS) (N := 17) (kd := (44, 0)) hx hb hts (wg_ft i_DS) hown hK hO k_st (nxg hc0 k_st rfl) hP (fun _ h9 => h9) rfl 15 (by decide) (hts _ (wg_t kw_335)) (fun _ h9 => h9) (cd := (1, 0, 3248)) rfl dDA_writeSignature_84 (fun v25 hv25 => ?_)
      obtain rfl := (show v25 = .int (nI 3248) from hv25)
      refine lv_aload_n hx hb dDA_writeSignature_87 rfl (lv_at hl 2 rfl) ?_
      refine ty_get (ci := 2) (C := "LatticeKeys$DsaSet") (TT := T_DS) (N := 17) (kd := (44, 0)) hx hb hts (wg_ft i_DS) hown hK hO k_st (nxg hc0 k_st rfl) hP (fun _ h9 => h9) rfl 11 (by decide) (hts _ (wg_t kw_327)) (fun _ h9 => h9) (cd := (1, 0, 55)) rfl dDA_writeSignature_88 (fun v26 hv26 => ?_)
      obtain rfl := (show v26 = .int (nI 55) from hv26)
      refine lv_aload_n hx hb dDA_writeSignature_91 rfl (lv_at hl 2 rfl) ?_
      refine ty_get (ci := 2) (C := "LatticeKeys$DsaSet") (TT := T_DS) (N := 17) (kd := (44, 0)) hx hb hts (wg_ft i_DS) hown hK hO k_st (nxg hc0 k_st rfl) hP (fun _ h9 => h9) rfl 0 (by decide) (hts _ (wg_t kw_302)) (fun _ h9 => h9) (cd := (1, 0, 6)) rfl dDA_writeSignature_92 (fun v27 hv27 => ?_)
      obtain rfl := (show v27 = .int (nI 6) from hv27)
      refine mi_iadd hx hb dDA_writeSignature_95 ?_
      refine mi_as (show nI (55 + 6) = nI 61 from rfl) ?_
      refine ty_copyb81 hx hb (hml.trans hl.1.symm) hown (hts _ (wg_t kw_674)) (hts _ (wg_t kw_526)) (hts _ (wg_t kw_525)) (hts _ (wg_t kw_19)) hK hO kr22 (nxg hc20 kr22 rfl) k_to (nxg hc0 k_to rfl) hP hD hS (sp := 0) (dp := 3248) (n := 61) (by omega) (by omega) (by omega) (by decide) (Nat.le_of_ble_eq_true rfl) dDA_writeSignature_96 (fun pl H locs hO hP hD hS => ?_)
      exact mp_vret hx hb hr hlk hP hD hS pl ⟨trivial, hO⟩ [] rfl rfl rfl (by omega) (by omega) dDA_writeSignature_99
    | succ n21 ih21 =>
      intro i21 pl ls H locs hm21  hl hO hP hD hS
      refine lv_iload_n hx hb dDA_writeSignature_16 rfl (lv_at hl 0 rfl) ?_
      refine lv_aload_n hx hb dDA_writeSignature_17 rfl (lv_at hl 2 rfl) ?_
      refine ty_get (ci := 2) (C := "LatticeKeys$DsaSet") (TT := T_DS) (N := 17) (kd := (44, 0)) hx hb hts (wg_ft i_DS) hown hK hO k_st (nxg hc0 k_st rfl) hP (fun _ h9 => h9) rfl 1 (by decide) (hts _ (wg_t kw_305)) (fun _ h9 => h9) (cd := (1, 0, 5)) rfl dDA_writeSignature_18 (fun v28 hv28 => ?_)
      obtain rfl := (show v28 = .int (nI 5) from hv28)
      refine mi_ge (tgt := 77) hx hb dDA_writeSignature_21 (by decide) (by omega) (by omega) (fun h22 => absurd h22 (by omega)) (fun h22 => ?_)
      refine lv_aload_n hx hb dDA_writeSignature_24 rfl (lv_at hl 1 rfl) ?_
      refine ty_get (ci := 6) (C := "LatticeKeys$Dsa") (TT := T_DA) (N := 17) (kd := (15, 0)) hx hb hts (wg_ft i_DA) hown hK hO k_h0 (nxg hc0 k_h0 rfl) hP (fun _ h9 => h9) rfl 1 (by decide) (hts _ (wg_t kw_166)) (fun _ h9 => h9) (cd := (3, 12, 0)) rfl dDA_writeSignature_25 (fun v29 hv29 => ?_)
      obtain ⟨r23, rfl, kr23⟩ := (show ∃ r : Nat, v29 = .ref r ∧ T r = some (12, 0) from hv29)
      refine lv_aload_n hx hb dDA_writeSignature_28 rfl (lv_at hl 1 rfl) ?_
      refine ty_get (ci := 6) (C := "LatticeKeys$Dsa") (TT := T_DA) (N := 17) (kd := (15, 0)) hx hb hts (wg_ft i_DA) hown hK hO k_h0 (nxg hc0 k_h0 rfl) hP (fun _ h9 => h9) rfl 7 (by decide) (hts _ (wg_t kw_172)) (fun _ h9 => h9) (cd := (3, 3, 7)) rfl dDA_writeSignature_29 (fun v30 hv30 => ?_)
      obtain ⟨r24, rfl, kr24⟩ := (show ∃ r : Nat, v30 = .ref r ∧ T r = some (3, 7) from hv30)
      refine lv_iload_n hx hb dDA_writeSignature_32 rfl (lv_at hl 0 rfl) ?_
      refine ty_aald3 hx hb hK hO kr24 (nxg hc0 kr24 rfl) hP (by omega) (by decide) dDA_writeSignature_33 (fun r25 kr25 => ?_)
      refine lv_aload_n hx hb dDA_writeSignature_34 rfl (lv_at hl 2 rfl) ?_
      refine ty_get (ci := 2) (C := "LatticeKeys$DsaSet") (TT := T_DS) (N := 17) (kd := (44, 0)) hx hb hts (wg_ft i_DS) hown hK hO k_st (nxg hc0 k_st rfl) hP (fun _ h9 => h9) rfl 7 (by decide) (hts _ (wg_t kw_320)) (fun _ h9 => h9) (cd := (1, 0, 524288)) rfl dDA_writeSignature_35 (fun v31 hv31 => ?_)
      obtain rfl := (show v31 = .int (nI 524288) from hv31)
      refine lv_aload_n hx hb dDA_writeSignature_38 rfl (lv_at hl 1 rfl) ?_
      refine ty_get (ci := 6) (C := "LatticeKeys$Dsa") (TT := T_DA) (N := 17) (kd := (15, 0)) hx hb hts (wg_ft i_DA) hown hK hO k_h0 (nxg hc0 k_h0 rfl) hP (fun _ h9 => h9) rfl 10 (by decide) (hts _ (wg_t kw_175)) (fun _ h9 => h9) (cd := (3, 0, 256)) rfl dDA_writeSignature_39 (fun v32 hv32 => ?_)
      obtain ⟨r26, rfl, kr26⟩ := (show ∃ r : Nat, v32 = .ref r ∧ T r = some (0, 256) from hv32)
      refine mp_v (cx := []) (wr := []) hP hD hS hA [] [] rfl rfl rfl (by decide) (va_runV (As := [.ref r25, .int (nI 524288), .ref r26]) (rest := []) F (t_RG_flip_12 l g _ T xs pl hO hU hc0 r23 r25 r26 (nI 524288) kr23 kr25 kr26) (cwV 3 hts (wg_app (wg_c kw_698 (wg_c kw_699 (wg_c kw_700 (wg_c kw_4 wg_n)))) kw_701) rfl rfl rfl (by decide +kernel) ⟨by decide, by decide⟩) (pp_VT (en_ok g) (ci := 4) (kd := (12, 0)) hK hO kr23 (nxg hc0 kr23 rfl) (fun _ h9 => ko1 h9) hP hD hS hA hE [] rfl rfl rfl) rfl rfl hl.1 rfl (lv_room (Nat.le_of_ble_eq_true rfl)) dDA_writeSignature_42 ⟨by omega, by omega⟩) (fun  pl H locs hu21 hP hD hS => ?_)
      obtain ⟨hq21, hO⟩ := hu21
      have hP : va_P g.1 vcl ([] ++ pl) _ := hP
      have hD : va_D _ ([] ++ pl) := hD
      refine W.widen (k := 0) (n := 0) (by omega) (by omega) ?_
      refine lv_aload_n hx hb dDA_writeSignature_45 rfl (lv_at hl 1 rfl) ?_
      refine ty_get (ci := 6) (C := "LatticeKeys$Dsa") (TT := T_DA) (N := 17) (kd := (15, 0)) hx hb hts (wg_ft i_DA) hown hK hO k_h0 (nxg hc0 k_h0 rfl) hP (fun _ h9 => h9) rfl 10 (by decide) (hts _ (wg_t kw_175)) (fun _ h9 => h9) (cd := (3, 0, 256)) rfl dDA_writeSignature_46 (fun v33 hv33 => ?_)
      obtain ⟨r27, rfl, kr27⟩ := (show ∃ r : Nat, v33 = .ref r ∧ T r = some (0, 256) from hv33)
      refine lv_aload_n hx hb dDA_writeSignature_49 rfl (lv_at hl 2 rfl) ?_
      refine ty_get (ci := 2) (C := "LatticeKeys$DsaSet") (TT := T_DS) (N := 17) (kd := (44, 0)) hx hb hts (wg_ft i_DS) hown hK hO k_st (nxg hc0 k_st rfl) hP (fun _ h9 => h9) rfl 6 (by decide) (hts _ (wg_t kw_318)) (fun _ h9 => h9) (cd := (1, 0, 20)) rfl dDA_writeSignature_50 (fun v34 hv34 => ?_)
      obtain rfl := (show v34 = .int (nI 20) from hv34)
      refine lv_aload_n hx hb dDA_writeSignature_53 rfl (lv_at hl 3 rfl) ?_
      refine lv_aload_n hx hb dDA_writeSignature_54 rfl (lv_at hl 2 rfl) ?_
      refine ty_get (ci := 2) (C := "LatticeKeys$DsaSet") (TT := T_DS) (N := 17) (kd := (44, 0)) hx hb hts (wg_ft i_DS) hown hK hO k_st (nxg hc0 k_st rfl) hP (fun _ h9 => h9) rfl 5 (by decide) (hts _ (wg_t kw_315)) (fun _ h9 => h9) (cd := (1, 0, 48)) rfl dDA_writeSignature_55 (fun v35 hv35 => ?_)
      obtain rfl := (show v35 = .int (nI 48) from hv35)
      refine lv_bipush (v := nI 32) hx hb dDA_writeSignature_58 (by decide) ?_
      refine lv_aload_n hx hb dDA_writeSignature_60 rfl (lv_at hl 2 rfl) ?_
      refine ty_get (ci := 2) (C := "LatticeKeys$DsaSet") (TT := T_DS) (N := 17) (kd := (44, 0)) hx hb hts (wg_ft i_DS) hown hK hO k_st (nxg hc0 k_st rfl) hP (fun _ h9 => h9) rfl 6 (by decide) (hts _ (wg_t kw_318)) (fun _ h9 => h9) (cd := (1, 0, 20)) rfl dDA_writeSignature_61 (fun v36 hv36 => ?_)
      obtain rfl := (show v36 = .int (nI 20) from hv36)
      refine mi_imul hx hb dDA_writeSignature_64 ?_
      refine mi_as (show nI (32 * 20) = nI 640 from rfl) ?_
      refine lv_iload_n hx hb dDA_writeSignature_65 rfl (lv_at hl 0 rfl) ?_
      refine mi_imul hx hb dDA_writeSignature_66 ?_
      refine mi_iadd hx hb dDA_writeSignature_67 ?_
      refine mp_v (cx := []) (wr := []) hP hD hS hA [] [] rfl rfl rfl (by decide) (va_runS (As := [.ref r27, .int (nI 20), .ref to, .int (nI (48 + (640 * i21)))]) (rest := []) F (t_BT_pack l g _ T xs pl hO hU hc0 r27 to 8192 20 (48 + (640 * i21)) kr27 k_to (by omega) (by omega) (by omega)) (va_cwS 4 hts (wg_app (wg_c kw_702 (wg_c kw_645 (wg_c kw_22 wg_n))) kw_646) rfl rfl rfl (by decide +kernel) ⟨by decide, by decide⟩) (pp_S (en_ok g) hP hD hS hA hE [] rfl rfl) rfl rfl hl.1 rfl (lv_room (Nat.le_of_ble_eq_true rfl)) dDA_writeSignature_68 ⟨by omega, by omega⟩) (fun  pl H locs hu22 hP hD hS => ?_)
      obtain ⟨hq22, hO⟩ := hu22
      have hP : va_P g.1 vcl ([] ++ pl) _ := hP
      have hD : va_D _ ([] ++ pl) := hD
      refine W.widen (k := 0) (n := 0) (by omega) (by omega) ?_
      refine mi_iinc (k := 0) (x := i21) (d := 1) (y := i21 + 1) (lv' := [(3, .int (nI (i21 + 1))), (0, .ref h0), (1, .ref st), (2, .ref to)]) hx hb dDA_writeSignature_71 hl rfl (by decide) rfl (by decide) rfl (fun ls hl => ?_)
      refine lv_goto (tgt := 16) hx hb dDA_writeSignature_74 (by decide) ?_
      exact ih21 (i21 + 1) pl ls H locs (by omega) (lv_sub hl [0, 1, 2, 3] rfl) hO hP hD hS
  exact lp21 5 0 pl ls _ _ (by omega) (lv_sub hl [0, 1, 2, 3] rfl) hO hP hD hS
set_option maxHeartbeats 400000 in
set_option maxRecDepth 100000 in
theorem t_DA_writeSignature_2 (l : Launch) (g : Gd) (sz : Nat) (T : Ty) (xs : List Nat) (pl : va_W) (hO : okx g T xs pl) (hU : uni T) (hc0 : clo T xs 0) (hc20 : clo T xs 20) (h0 st to : Nat) (k_h0 : T h0 = some (15, 0)) (k_st : T st = some (45, 0)) (k_to : T to = some (1, 8192))  : Met l y_DA_writeSignature w_DA_writeSignature ({ frames := 1, cells := 0, slots := 0, locals := 60 } : Room) (va_Pc [.ref h0, .ref st, .ref to] (pr (en g) g.1 vcl sz ([] ++ pl))) (va_Qv (fun (u : va_W) => (True) ∧ okx g T xs u) (po g.1 vcl (va_A ([] ++ pl) sz) (fun (u : va_W) => [] ++ u)) (va_A ([] ++ pl) sz)) 0 0 (va_A ([] ++ pl) sz) := by
  refine mc_entry (cc := c_DA_writeSignature) (maxL := 4) (ret := none) (by decide) rfl (Nat.le_of_ble_eq_true rfl) ?_
  intro p e s m args below meth c ls F hr hlk hnm hsz hP hD hE hA hl
  obtain ⟨hx, hb, hml, hown, hts⟩ := id F
  have hK := hE.1
  generalize va_A ([] ++ pl) sz = A at hD hE hA ⊢
  have hS : va_S A s.heap s.heap [] := va_S.rf
  have hl : lv_has ls 4 [(0, .ref h0), (1, .ref st), (2, .ref to)] := hl
  refine lv_aload_n hx hb dDA_writeSignature_0 rfl (lv_at hl 0 rfl) ?_
  refine ty_get (ci := 6) (C := "LatticeKeys$Dsa") (TT := T_DA) (N := 17) (kd := (15, 0)) hx hb hts (wg_ft i_DA) hown hK hO k_h0 (nxg hc0 k_h0 rfl) hP (fun _ h9 => h9) rfl 13 (by decide) (hts _ (wg_t kw_178)) (fun _ h9 => h9) (cd := (3, 1, 64)) rfl dDA_writeSignature_1 (fun v21 hv21 => ?_)
  obtain ⟨r21, rfl, kr21⟩ := (show ∃ r : Nat, v21 = .ref r ∧ T r = some (1, 64) from hv21)
  refine lv_iconst (v := nI 0) hx hb dDA_writeSignature_4 (by decide) ?_
  refine lv_aload_n hx hb dDA_writeSignature_5 rfl (lv_at hl 2 rfl) ?_
  refine lv_iconst (v := nI 0) hx hb dDA_writeSignature_6 (by decide) ?_
  refine lv_aload_n hx hb dDA_writeSignature_7 rfl (lv_at hl 1 rfl) ?_
  refine ty_get (ci := 2) (C := "LatticeKeys$DsaSet") (TT := T_DS) (N := 17) (kd := (45, 0)) hx hb hts (wg_ft i_DS) hown hK hO k_st (nxg hc0 k_st rfl) hP (fun _ h9 => h9) rfl 5 (by decide) (hts _ (wg_t kw_315)) (fun _ h9 => h9) (cd := (1, 0, 64)) rfl dDA_writeSignature_8 (fun v22 hv22 => ?_)
  obtain rfl := (show v22 = .int (nI 64) from hv22)
  refine ty_copyb11 hx hb (hml.trans hl.1.symm) hown (hts _ (wg_t kw_674)) (hts _ (wg_t kw_526)) (hts _ (wg_t kw_525)) (hts _ (wg_t kw_19)) hK hO kr21 (nxg hc0 kr21 rfl) k_to (nxg hc0 k_to rfl) hP hD hS (sp := 0) (dp := 0) (n := 64) (by omega) (by omega) (by omega) (by decide) (Nat.le_of_ble_eq_true rfl) dDA_writeSignature_11 (fun pl H locs hO hP hD hS => ?_)
  refine lv_iconst (v := nI 0) hx hb dDA_writeSignature_14 (by decide) ?_
  refine lv_istore_n (lv' := [(3, .int (nI 0)), (0, .ref h0), (1, .ref st), (2, .ref to)]) hx hb dDA_writeSignature_15 rfl hl (by decide) rfl (fun ls hl => ?_)
  have lp21 : ∀ (n21 : Nat) (i21 : Nat) (pl : va_W) (ls : Array Slot) (H : Heap) (locs : List Loc), n21 + i21 = 7 → lv_has ls 4 [(3, .int (nI i21)), (0, .ref h0), (1, .ref st), (2, .ref to)] → okx g T xs pl → va_P g.1 vcl ([] ++ pl) H → va_D A ([] ++ pl) → va_S A s.heap H locs → W p l e ({ frames := 1, cells := 0, slots := 0, locals := 60 } : Room) s m args below meth c H locs 0 0 (MQ below (va_Qv (fun (u : va_W) => (True) ∧ okx g T xs u) (po g.1 vcl A (fun (u : va_W) => [] ++ u)) A) args s 0 0 A) (F0 m 16 ls []) := by
    intro n21
    induction n21 with
    | zero =>
      intro i21 pl ls H locs hm21  hl hO hP hD hS
      refine lv_iload_n hx hb dDA_writeSignature_16 rfl (lv_at hl 0 rfl) ?_
      refine lv_aload_n hx hb dDA_writeSignature_17 rfl (lv_at hl 2 rfl) ?_
      refine ty_get (ci := 2) (C := "LatticeKeys$DsaSet") (TT := T_DS) (N := 17) (kd := (45, 0)) hx hb hts (wg_ft i_DS) hown hK hO k_st (nxg hc0 k_st rfl) hP (fun _ h9 => h9) rfl 1 (by decide) (hts _ (wg_t kw_305)) (fun _ h9 => h9) (cd := (1, 0, 7)) rfl dDA_writeSignature_18 (fun v23 hv23 => ?_)
      obtain rfl := (show v23 = .int (nI 7) from hv23)
      refine mi_ge (tgt := 77) hx hb dDA_writeSignature_21 (by decide) (by omega) (by omega) (fun h21 => ?_) (fun h21 => absurd h21 (by omega))
      refine lv_aload_n hx hb dDA_writeSignature_77 rfl (lv_at hl 1 rfl) ?_
      refine ty_get (ci := 6) (C := "LatticeKeys$Dsa") (TT := T_DA) (N := 17) (kd := (15, 0)) hx hb hts (wg_ft i_DA) hown hK hO k_h0 (nxg hc0 k_h0 rfl) hP (fun _ h9 => h9) rfl 15 (by decide) (hts _ (wg_t kw_180)) (fun _ h9 => h9) (cd := (3, 8, 84)) rfl dDA_writeSignature_78 (fun v24 hv24 => ?_)
      obtain ⟨r22, rfl, kr22⟩ := (show ∃ r : Nat, v24 = .ref r ∧ T r = some (8, 84) from hv24)
      refine lv_iconst (v := nI 0) hx hb dDA_writeSignature_81 (by decide) ?_
      refine lv_aload_n hx hb dDA_writeSignature_82 rfl (lv_at hl 3 rfl) ?_
      refine lv_aload_n hx hb dDA_writeSignature_83 rfl (lv_at hl 2 rfl) ?_
      refine ty_get (ci := 2) (C := "LatticeKeys$DsaSet") (TT := T_DS) (N := 17) (kd := (45, 0)) hx hb hts (wg_ft i_DS) hown hK hO k_st (nxg hc0 k_st rfl) hP (fun _ h9 => h9) rfl 15 (by decide) (hts _ (wg_t kw_335)) (fun _ h9 => h9) (cd := (1, 0, 4544)) rfl dDA_writeSignature_84 (fun v25 hv25 => ?_)
      obtain rfl := (show v25 = .int (nI 4544) from hv25)
      refine lv_aload_n hx hb dDA_writeSignature_87 rfl (lv_at hl 2 rfl) ?_
      refine ty_get (ci := 2) (C := "LatticeKeys$DsaSet") (TT := T_DS) (N := 17) (kd := (45, 0)) hx hb hts (wg_ft i_DS) hown hK hO k_st (nxg hc0 k_st rfl) hP (fun _ h9 => h9) rfl 11 (by decide) (hts _ (wg_t kw_327)) (fun _ h9 => h9) (cd := (1, 0, 75)) rfl dDA_writeSignature_88 (fun v26 hv26 => ?_)
      obtain rfl := (show v26 = .int (nI 75) from hv26)
      refine lv_aload_n hx hb dDA_writeSignature_91 rfl (lv_at hl 2 rfl) ?_
      refine ty_get (ci := 2) (C := "LatticeKeys$DsaSet") (TT := T_DS) (N := 17) (kd := (45, 0)) hx hb hts (wg_ft i_DS) hown hK hO k_st (nxg hc0 k_st rfl) hP (fun _ h9 => h9) rfl 0 (by decide) (hts _ (wg_t kw_302)) (fun _ h9 => h9) (cd := (1, 0, 8)) rfl dDA_writeSignature_92 (fun v27 hv27 => ?_)
      obtain rfl := (show v27 = .int (nI 8) from hv27)
      refine mi_iadd hx hb dDA_writeSignature_95 ?_
      refine mi_as (show nI (75 + 8) = nI 83 from rfl) ?_
      refine ty_copyb81 hx hb (hml.trans hl.1.symm) hown (hts _ (wg_t kw_674)) (hts _ (wg_t kw_526)) (hts _ (wg_t kw_525)) (hts _ (wg_t kw_19)) hK hO kr22 (nxg hc20 kr22 rfl) k_to (nxg hc0 k_to rfl) hP hD hS (sp := 0) (dp := 4544) (n := 83) (by omega) (by omega) (by omega) (by decide) (Nat.le_of_ble_eq_true rfl) dDA_writeSignature_96 (fun pl H locs hO hP hD hS => ?_)
      exact mp_vret hx hb hr hlk hP hD hS pl ⟨trivial, hO⟩ [] rfl rfl rfl (by omega) (by omega) dDA_writeSignature_99
    | succ n21 ih21 =>
      intro i21 pl ls H locs hm21  hl hO hP hD hS
      refine lv_iload_n hx hb dDA_writeSignature_16 rfl (lv_at hl 0 rfl) ?_
      refine lv_aload_n hx hb dDA_writeSignature_17 rfl (lv_at hl 2 rfl) ?_
      refine ty_get (ci := 2) (C := "LatticeKeys$DsaSet") (TT := T_DS) (N := 17) (kd := (45, 0)) hx hb hts (wg_ft i_DS) hown hK hO k_st (nxg hc0 k_st rfl) hP (fun _ h9 => h9) rfl 1 (by decide) (hts _ (wg_t kw_305)) (fun _ h9 => h9) (cd := (1, 0, 7)) rfl dDA_writeSignature_18 (fun v28 hv28 => ?_)
      obtain rfl := (show v28 = .int (nI 7) from hv28)
      refine mi_ge (tgt := 77) hx hb dDA_writeSignature_21 (by decide) (by omega) (by omega) (fun h22 => absurd h22 (by omega)) (fun h22 => ?_)
      refine lv_aload_n hx hb dDA_writeSignature_24 rfl (lv_at hl 1 rfl) ?_
      refine ty_get (ci := 6) (C := "LatticeKeys$Dsa") (TT := T_DA) (N := 17) (kd := (15, 0)) hx hb hts (wg_ft i_DA) hown hK hO k_h0 (nxg hc0 k_h0 rfl) hP (fun _ h9 => h9) rfl 1 (by decide) (hts _ (wg_t kw_166)) (fun _ h9 => h9) (cd := (3, 12, 0)) rfl dDA_writeSignature_25 (fun v29 hv29 => ?_)
      obtain ⟨r23, rfl, kr23⟩ := (show ∃ r : Nat, v29 = .ref r ∧ T r = some (12, 0) from hv29)
      refine lv_aload_n hx hb dDA_writeSignature_28 rfl (lv_at hl 1 rfl) ?_
      refine ty_get (ci := 6) (C := "LatticeKeys$Dsa") (TT := T_DA) (N := 17) (kd := (15, 0)) hx hb hts (wg_ft i_DA) hown hK hO k_h0 (nxg hc0 k_h0 rfl) hP (fun _ h9 => h9) rfl 7 (by decide) (hts _ (wg_t kw_172)) (fun _ h9 => h9) (cd := (3, 3, 7)) rfl dDA_writeSignature_29 (fun v30 hv30 => ?_)
      obtain ⟨r24, rfl, kr24⟩ := (show ∃ r : Nat, v30 = .ref r ∧ T r = some (3, 7) from hv30)
      refine lv_iload_n hx hb dDA_writeSignature_32 rfl (lv_at hl 0 rfl) ?_
      refine ty_aald3 hx hb hK hO kr24 (nxg hc0 kr24 rfl) hP (by omega) (by decide) dDA_writeSignature_33 (fun r25 kr25 => ?_)
      refine lv_aload_n hx hb dDA_writeSignature_34 rfl (lv_at hl 2 rfl) ?_
      refine ty_get (ci := 2) (C := "LatticeKeys$DsaSet") (TT := T_DS) (N := 17) (kd := (45, 0)) hx hb hts (wg_ft i_DS) hown hK hO k_st (nxg hc0 k_st rfl) hP (fun _ h9 => h9) rfl 7 (by decide) (hts _ (wg_t kw_320)) (fun _ h9 => h9) (cd := (1, 0, 524288)) rfl dDA_writeSignature_35 (fun v31 hv31 => ?_)
      obtain rfl := (show v31 = .int (nI 524288) from hv31)
      refine lv_aload_n hx hb dDA_writeSignature_38 rfl (lv_at hl 1 rfl) ?_
      refine ty_get (ci := 6) (C := "LatticeKeys$Dsa") (TT := T_DA) (N := 17) (kd := (15, 0)) hx hb hts (wg_ft i_DA) hown hK hO k_h0 (nxg hc0 k_h0 rfl) hP (fun _ h9 => h9) rfl 10 (by decide) (hts _ (wg_t kw_175)) (fun _ h9 => h9) (cd := (3, 0, 256)) rfl dDA_writeSignature_39 (fun v32 hv32 => ?_)
      obtain ⟨r26, rfl, kr26⟩ := (show ∃ r : Nat, v32 = .ref r ∧ T r = some (0, 256) from hv32)
      refine mp_v (cx := []) (wr := []) hP hD hS hA [] [] rfl rfl rfl (by decide) (va_runV (As := [.ref r25, .int (nI 524288), .ref r26]) (rest := []) F (t_RG_flip_12 l g _ T xs pl hO hU hc0 r23 r25 r26 (nI 524288) kr23 kr25 kr26) (cwV 3 hts (wg_app (wg_c kw_698 (wg_c kw_699 (wg_c kw_700 (wg_c kw_4 wg_n)))) kw_701) rfl rfl rfl (by decide +kernel) ⟨by decide, by decide⟩) (pp_VT (en_ok g) (ci := 4) (kd := (12, 0)) hK hO kr23 (nxg hc0 kr23 rfl) (fun _ h9 => ko1 h9) hP hD hS hA hE [] rfl rfl rfl) rfl rfl hl.1 rfl (lv_room (Nat.le_of_ble_eq_true rfl)) dDA_writeSignature_42 ⟨by omega, by omega⟩) (fun  pl H locs hu21 hP hD hS => ?_)
      obtain ⟨hq21, hO⟩ := hu21
      have hP : va_P g.1 vcl ([] ++ pl) _ := hP
      have hD : va_D _ ([] ++ pl) := hD
      refine W.widen (k := 0) (n := 0) (by omega) (by omega) ?_
      refine lv_aload_n hx hb dDA_writeSignature_45 rfl (lv_at hl 1 rfl) ?_
      refine ty_get (ci := 6) (C := "LatticeKeys$Dsa") (TT := T_DA) (N := 17) (kd := (15, 0)) hx hb hts (wg_ft i_DA) hown hK hO k_h0 (nxg hc0 k_h0 rfl) hP (fun _ h9 => h9) rfl 10 (by decide) (hts _ (wg_t kw_175)) (fun _ h9 => h9) (cd := (3, 0, 256)) rfl dDA_writeSignature_46 (fun v33 hv33 => ?_)
      obtain ⟨r27, rfl, kr27⟩ := (show ∃ r : Nat, v33 = .ref r ∧ T r = some (0, 256) from hv33)
      refine lv_aload_n hx hb dDA_writeSignature_49 rfl (lv_at hl 2 rfl) ?_
      refine ty_get (ci := 2) (C := "LatticeKeys$DsaSet") (TT := T_DS) (N := 17) (kd := (45, 0)) hx hb hts (wg_ft i_DS) hown hK hO k_st (nxg hc0 k_st rfl) hP (fun _ h9 => h9) rfl 6 (by decide) (hts _ (wg_t kw_318)) (fun _ h9 => h9) (cd := (1, 0, 20)) rfl dDA_writeSignature_50 (fun v34 hv34 => ?_)
      obtain rfl := (show v34 = .int (nI 20) from hv34)
      refine lv_aload_n hx hb dDA_writeSignature_53 rfl (lv_at hl 3 rfl) ?_
      refine lv_aload_n hx hb dDA_writeSignature_54 rfl (lv_at hl 2 rfl) ?_
      refine ty_get (ci := 2) (C := "LatticeKeys$DsaSet") (TT := T_DS) (N := 17) (kd := (45, 0)) hx hb hts (wg_ft i_DS) hown hK hO k_st (nxg hc0 k_st rfl) hP (fun _ h9 => h9) rfl 5 (by decide) (hts _ (wg_t kw_315)) (fun _ h9 => h9) (cd := (1, 0, 64)) rfl dDA_writeSignature_55 (fun v35 hv35 => ?_)
      obtain rfl := (show v35 = .int (nI 64) from hv35)
      refine lv_bipush (v := nI 32) hx hb dDA_writeSignature_58 (by decide) ?_
      refine lv_aload_n hx hb dDA_writeSignature_60 rfl (lv_at hl 2 rfl) ?_
      refine ty_get (ci := 2) (C := "LatticeKeys$DsaSet") (TT := T_DS) (N := 17) (kd := (45, 0)) hx hb hts (wg_ft i_DS) hown hK hO k_st (nxg hc0 k_st rfl) hP (fun _ h9 => h9) rfl 6 (by decide) (hts _ (wg_t kw_318)) (fun _ h9 => h9) (cd := (1, 0, 20)) rfl dDA_writeSignature_61 (fun v36 hv36 => ?_)
      obtain rfl := (show v36 = .int (nI 20) from hv36)
      refine mi_imul hx hb dDA_writeSignature_64 ?_
      refine mi_as (show nI (32 * 20) = nI 640 from rfl) ?_
      refine lv_iload_n hx hb dDA_writeSignature_65 rfl (lv_at hl 0 rfl) ?_
      refine mi_imul hx hb dDA_writeSignature_66 ?_
      refine mi_iadd hx hb dDA_writeSignature_67 ?_
      refine mp_v (cx := []) (wr := []) hP hD hS hA [] [] rfl rfl rfl (by decide) (va_runS (As := [.ref r27, .int (nI 20), .ref to, .int (nI (64 + (640 * i21)))]) (rest := []) F (t_BT_pack l g _ T xs pl hO hU hc0 r27 to 8192 20 (64 + (640 * i21)) kr27 k_to (by omega) (by omega) (by omega)) (va_cwS 4 hts (wg_app (wg_c kw_702 (wg_c kw_645 (wg_c kw_22 wg_n))) kw_646) rfl rfl rfl (by decide +kernel) ⟨by decide, by decide⟩) (pp_S (en_ok g) hP hD hS hA hE [] rfl rfl) rfl rfl hl.1 rfl (lv_room (Nat.le_of_ble_eq_true rfl)) dDA_writeSignature_68 ⟨by omega, by omega⟩) (fun  pl H locs hu22 hP hD hS => ?_)
      obtain ⟨hq22, hO⟩ := hu22
      have hP : va_P g.1 vcl ([] ++ pl) _ := hP
      have hD : va_D _ ([] ++ pl) := hD
      refine W.widen (k := 0) (n := 0) (by omega) (by omega) ?_
      refine mi_iinc (k := 0) (x := i21) (d := 1) (y := i21 + 1) (lv' := [(3, .int (nI (i21 + 1))), (0, .ref h0), (1, .ref st), (2, .ref to)]) hx hb dDA_writeSignature_71 hl rfl (by decide) rfl (by decide) rfl (fun ls hl => ?_)
      refine lv_goto (tgt := 16) hx hb dDA_writeSignature_74 (by decide) ?_
      exact ih21 (i21 + 1) pl ls H locs (by omega) (lv_sub hl [0, 1, 2, 3] rfl) hO hP hD hS
  exact lp21 7 0 pl ls _ _ (by omega) (lv_sub hl [0, 1, 2, 3] rfl) hO hP hD hS
set_option maxHeartbeats 400000 in
set_option maxRecDepth 100000 in
theorem t_DA_startChallenge (l : Launch) (g : Gd) (sz : Nat) (T : Ty) (xs : List Nat) (pl : va_W) (hO : okx g T xs pl) (hU : uni T) (hc0 : clo T xs 0) (sponge : Nat) (h0 : Nat) (ln rt ps : Nat) (x2 : Int32) (f : Nat → Int64) (k_sponge : T sponge = some (10, 2)) (k_h0 : T h0 = some (15, 0))  : Met l y_DA_startChallenge w_DA_startChallenge ({ frames := 3, cells := 0, slots := 0, locals := 100 } : Room) (va_Pc [.ref h0] (pr (en g) g.1 vcl sz ([(sponge, .inr (3, [.ref ln, .int (nI rt), .int x2, .int (nI ps)])), (ln, .inl (g.2.1 2, 25, .inr (.inl f)))] ++ pl))) (va_Qv (fun (u : (Nat × (Nat → Int64)) × va_W) => (u.1.1 < 136) ∧ okx g T xs u.2) (po g.1 vcl (va_A ([(sponge, .inr (3, [.ref ln, .int (nI rt), .int x2, .int (nI ps)])), (ln, .inl (g.2.1 2, 25, .inr (.inl f)))] ++ pl) sz) (fun (u : (Nat × (Nat → Int64)) × va_W) => [(sponge, .inr (3, [.ref ln, .int (nI 136), .int (nI 31), .int (nI (u.1.1))])), (ln, .inl (g.2.1 2, 25, .inr (.inl (u.1.2))))] ++ u.2)) (va_A ([(sponge, .inr (3, [.ref ln, .int (nI rt), .int x2, .int (nI ps)])), (ln, .inl (g.2.1 2, 25, .inr (.inl f)))] ++ pl) sz)) 0 0 (va_A ([(sponge, .inr (3, [.ref ln, .int (nI rt), .int x2, .int (nI ps)])), (ln, .inl (g.2.1 2, 25, .inr (.inl f)))] ++ pl) sz) := by
  refine mc_entry (cc := c_DA_startChallenge) (maxL := 1) (ret := none) (by decide) rfl (Nat.le_of_ble_eq_true rfl) ?_
  intro p e s m args below meth c ls F hr hlk hnm hsz hP hD hE hA hl
  obtain ⟨hx, hb, hml, hown, hts⟩ := id F
  have hK := hE.1
  generalize va_A ([(sponge, .inr (3, [.ref ln, .int (nI rt), .int x2, .int (nI ps)])), (ln, .inl (g.2.1 2, 25, .inr (.inl f)))] ++ pl) sz = A at hD hE hA ⊢
  have hS : va_S A s.heap s.heap [] := va_S.rf
  have hl : lv_has ls 1 [(0, .ref h0)] := hl
  refine lv_aload_n hx hb dDA_startChallenge_0 rfl (lv_at hl 0 rfl) ?_
  refine ty_get (ci := 6) (C := "LatticeKeys$Dsa") (TT := T_DA) (N := 17) (kd := (15, 0)) hx hb hts (wg_ft i_DA) hown hK hO k_h0 (nxg hc0 k_h0 rfl) hP (fun _ h9 => h9) rfl 0 (by decide) (hts _ (wg_t kw_165)) (fun _ h9 => h9) (cd := (3, 10, 2)) rfl dDA_startChallenge_1 (fun v21 hv21 => ?_)
  obtain ⟨r21, rfl, kr21⟩ := (show ∃ r : Nat, v21 = .ref r ∧ T r = some (10, 2) from hv21)
  obtain rfl : sponge = r21 := hU _ _ _ (by decide) k_sponge kr21
  refine lv_iconst (v := nI 3) hx hb dDA_startChallenge_4 (by decide) ?_
  refine mp_v (cx := [(sponge, .inr (3, [.ref ln, .int (nI rt), .int x2, .int (nI ps)])), (ln, .inl (g.2.1 2, 25, .inr (.inl f)))]) (wr := []) hP hD hS hA [0, 1] [] rfl rfl rfl (by decide) (va_runV (As := [.int (nI 3)]) (rest := []) F (t_SP_start_3 l g _ T xs pl hO hU  sponge ln rt ps x2 f) (cwV 1 hts (wg_app (wg_c kw_669 (wg_c kw_579 (wg_c kw_580 (wg_c kw_2 wg_n)))) kw_581) rfl rfl rfl (by decide +kernel) ⟨by decide, by decide⟩) (pp_V (en_ok g) (q0 := 0) hK hP hD hS hA hE [0, 1] rfl rfl rfl rfl) rfl rfl hl.1 rfl (lv_room (Nat.le_of_ble_eq_true rfl)) dDA_startChallenge_5 ⟨by omega, by omega⟩) (fun  u21 H locs hu21 hP hD hS => ?_)
  obtain ⟨u22, pl⟩ := u21
  obtain ⟨hq21, hO⟩ := hu21
  have hP : va_P g.1 vcl ([(sponge, .inr (3, [.ref ln, .int (nI 136), .int (nI 31), .int (nI 0)])), (ln, .inl (g.2.1 2, 25, .inr (.inl u22)))] ++ pl) _ := hP
  have hD : va_D _ ([(sponge, .inr (3, [.ref ln, .int (nI 136), .int (nI 31), .int (nI 0)])), (ln, .inl (g.2.1 2, 25, .inr (.inl u22)))] ++ pl) := hD
  refine W.widen (k := 0) (n := 0) (by omega) (by omega) ?_
  refine lv_aload_n hx hb dDA_startChallenge_8 rfl (lv_at hl 0 rfl) ?_
  refine ty_get (ci := 6) (C := "LatticeKeys$Dsa") (TT := T_DA) (N := 17) (kd := (15, 0)) hx hb hts (wg_ft i_DA) hown hK hO k_h0 (nxg hc0 k_h0 rfl) hP (fun _ h9 => h9) rfl 0 (by decide) (hts _ (wg_t kw_165)) (fun _ h9 => h9) (cd := (3, 10, 2)) rfl dDA_startChallenge_9 (fun v22 hv22 => ?_)
  obtain ⟨r22, rfl, kr22⟩ := (show ∃ r : Nat, v22 = .ref r ∧ T r = some (10, 2) from hv22)
  obtain rfl : sponge = r22 := hU _ _ _ (by decide) k_sponge kr22
  refine lv_aload_n hx hb dDA_startChallenge_12 rfl (lv_at hl 0 rfl) ?_
  refine ty_get (ci := 6) (C := "LatticeKeys$Dsa") (TT := T_DA) (N := 17) (kd := (15, 0)) hx hb hts (wg_ft i_DA) hown hK hO k_h0 (nxg hc0 k_h0 rfl) hP (fun _ h9 => h9) rfl 12 (by decide) (hts _ (wg_t kw_177)) (fun _ h9 => h9) (cd := (3, 1, 64)) rfl dDA_startChallenge_13 (fun v23 hv23 => ?_)
  obtain ⟨r23, rfl, kr23⟩ := (show ∃ r : Nat, v23 = .ref r ∧ T r = some (1, 64) from hv23)
  refine lv_iconst (v := nI 0) hx hb dDA_startChallenge_16 (by decide) ?_
  refine lv_bipush (v := nI 64) hx hb dDA_startChallenge_17 (by decide) ?_
  refine mp_v (cx := [(sponge, .inr (3, [.ref ln, .int (nI 136), .int (nI 31), .int (nI 0)])), (ln, .inl (g.2.1 2, 25, .inr (.inl u22)))]) (wr := []) hP hD hS hA [0, 1] [] rfl rfl rfl (by decide) (va_runV (As := [.ref r23, .int (nI 0), .int (nI 64)]) (rest := []) F (t_SP_absorb l g _ T xs pl hO hU hc0 r23 64 0 64 sponge ln 136 0 (nI 31) u22 kr23 (by omega) (by omega) (by omega) (by omega)) (cwV 3 hts (wg_app (wg_c kw_670 (wg_c kw_586 (wg_c kw_587 (wg_c kw_2 wg_n)))) kw_588) rfl rfl rfl (by decide +kernel) ⟨by decide, by decide⟩) (pp_V (en_ok g) (q0 := 0) hK hP hD hS hA hE [0, 1] rfl rfl rfl rfl) rfl rfl hl.1 rfl (lv_room (Nat.le_of_ble_eq_true rfl)) dDA_startChallenge_19 ⟨by omega, by omega⟩) (fun  u23 H locs hu22 hP hD hS => ?_)
  obtain ⟨u24, pl⟩ := u23
  obtain ⟨hq22, hO⟩ := hu22
  obtain ⟨k21, f21⟩ := u24
  have hP : va_P g.1 vcl ([(sponge, .inr (3, [.ref ln, .int (nI 136), .int (nI 31), .int (nI k21)])), (ln, .inl (g.2.1 2, 25, .inr (.inl f21)))] ++ pl) _ := hP
  have hD : va_D _ ([(sponge, .inr (3, [.ref ln, .int (nI 136), .int (nI 31), .int (nI k21)])), (ln, .inl (g.2.1 2, 25, .inr (.inl f21)))] ++ pl) := hD
  have hq22 : k21 < 136 := hq22
  refine W.widen (k := 0) (n := 0) (by omega) (by omega) ?_
  exact mp_vret hx hb hr hlk hP hD hS ((k21, f21), pl) ⟨(by show k21 < 136; omega), hO⟩ [0, 1] rfl rfl rfl (by omega) (by omega) dDA_startChallenge_22
set_option maxHeartbeats 400000 in
set_option maxRecDepth 100000 in
theorem t_DA_absorbHigh_0 (l : Launch) (g : Gd) (sz : Nat) (T : Ty) (xs : List Nat) (pl : va_W) (hO : okx g T xs pl) (hU : uni T) (hc0 : clo T xs 0) (sponge : Nat) (h0 st : Nat) (ln rt ps : Nat) (x2 : Int32) (f : Nat → Int64) (k_sponge : T sponge = some (10, 2)) (k_h0 : T h0 = some (15, 0)) (k_st : T st = some (43, 0)) (hrt : 0 < rt ∧ rt < 200) (hps : ps < rt)  : Met l y_DA_absorbHigh w_DA_absorbHigh ({ frames := 3, cells := 0, slots := 0, locals := 100 } : Room) (va_Pc [.ref h0, .ref st] (pr (en g) g.1 vcl sz ([(sponge, .inr (3, [.ref ln, .int (nI rt), .int x2, .int (nI ps)])), (ln, .inl (g.2.1 2, 25, .inr (.inl f)))] ++ pl))) (va_Qv (fun (u : (Nat × (Nat → Int64)) × va_W) => (u.1.1 < rt) ∧ okx g T xs u.2) (po g.1 vcl (va_A ([(sponge, .inr (3, [.ref ln, .int (nI rt), .int x2, .int (nI ps)])), (ln, .inl (g.2.1 2, 25, .inr (.inl f)))] ++ pl) sz) (fun (u : (Nat × (Nat → Int64)) × va_W) => [(sponge, .inr (3, [.ref ln, .int (nI rt), .int x2, .int (nI (u.1.1))])), (ln, .inl (g.2.1 2, 25, .inr (.inl (u.1.2))))] ++ u.2)) (va_A ([(sponge, .inr (3, [.ref ln, .int (nI rt), .int x2, .int (nI ps)])), (ln, .inl (g.2.1 2, 25, .inr (.inl f)))] ++ pl) sz)) 0 0 (va_A ([(sponge, .inr (3, [.ref ln, .int (nI rt), .int x2, .int (nI ps)])), (ln, .inl (g.2.1 2, 25, .inr (.inl f)))] ++ pl) sz) := by
  refine mc_entry (cc := c_DA_absorbHigh) (maxL := 2) (ret := none) (by decide) rfl (Nat.le_of_ble_eq_true rfl) ?_
  intro p e s m args below meth c ls F hr hlk hnm hsz hP hD hE hA hl
  obtain ⟨hx, hb, hml, hown, hts⟩ := id F
  have hK := hE.1
  generalize va_A ([(sponge, .inr (3, [.ref ln, .int (nI rt), .int x2, .int (nI ps)])), (ln, .inl (g.2.1 2, 25, .inr (.inl f)))] ++ pl) sz = A at hD hE hA ⊢
  have hS : va_S A s.heap s.heap [] := va_S.rf
  have hl : lv_has ls 2 [(0, .ref h0), (1, .ref st)] := hl
  refine lv_aload_n hx hb dDA_absorbHigh_0 rfl (lv_at hl 0 rfl) ?_
  refine ty_get (ci := 6) (C := "LatticeKeys$Dsa") (TT := T_DA) (N := 17) (kd := (15, 0)) hx hb hts (wg_ft i_DA) hown hK hO k_h0 (nxg hc0 k_h0 rfl) hP (fun _ h9 => h9) rfl 10 (by decide) (hts _ (wg_t kw_175)) (fun _ h9 => h9) (cd := (3, 0, 256)) rfl dDA_absorbHigh_1 (fun v21 hv21 => ?_)
  obtain ⟨r21, rfl, kr21⟩ := (show ∃ r : Nat, v21 = .ref r ∧ T r = some (0, 256) from hv21)
  refine lv_aload_n hx hb dDA_absorbHigh_4 rfl (lv_at hl 1 rfl) ?_
  refine ty_get (ci := 2) (C := "LatticeKeys$DsaSet") (TT := T_DS) (N := 17) (kd := (43, 0)) hx hb hts (wg_ft i_DS) hown hK hO k_st (nxg hc0 k_st rfl) hP (fun _ h9 => h9) rfl 9 (by decide) (hts _ (wg_t kw_323)) (fun _ h9 => h9) (cd := (1, 0, 6)) rfl dDA_absorbHigh_5 (fun v22 hv22 => ?_)
  obtain rfl := (show v22 = .int (nI 6) from hv22)
  refine lv_aload_n hx hb dDA_absorbHigh_8 rfl (lv_at hl 0 rfl) ?_
  refine ty_get (ci := 6) (C := "LatticeKeys$Dsa") (TT := T_DA) (N := 17) (kd := (15, 0)) hx hb hts (wg_ft i_DA) hown hK hO k_h0 (nxg hc0 k_h0 rfl) hP (fun _ h9 => h9) rfl 16 (by decide) (hts _ (wg_t kw_181)) (fun _ h9 => h9) (cd := (3, 1, 192)) rfl dDA_absorbHigh_9 (fun v23 hv23 => ?_)
  obtain ⟨r22, rfl, kr22⟩ := (show ∃ r : Nat, v23 = .ref r ∧ T r = some (1, 192) from hv23)
  refine lv_iconst (v := nI 0) hx hb dDA_absorbHigh_12 (by decide) ?_
  refine mp_v (cx := []) (wr := [(sponge, .inr (3, [.ref ln, .int (nI rt), .int x2, .int (nI ps)])), (ln, .inl (g.2.1 2, 25, .inr (.inl f)))]) hP hD hS hA [] [0, 1] rfl rfl rfl (by decide) (va_runS (As := [.ref r21, .int (nI 6), .ref r22, .int (nI 0)]) (rest := []) F (t_BT_pack l g _ T xs pl hO hU hc0 r21 r22 192 6 0 kr21 kr22 (by omega) (by omega) (by omega)) (va_cwS 4 hts (wg_app (wg_c kw_702 (wg_c kw_645 (wg_c kw_22 wg_n))) kw_646) rfl rfl rfl (by decide +kernel) ⟨by decide, by decide⟩) (pp_S (en_ok g) hP hD hS hA hE [] rfl rfl) rfl rfl hl.1 rfl (lv_room (Nat.le_of_ble_eq_true rfl)) dDA_absorbHigh_13 ⟨by omega, by omega⟩) (fun  pl H locs hu21 hP hD hS => ?_)
  obtain ⟨hq21, hO⟩ := hu21
  have hP : va_P g.1 vcl ([(sponge, .inr (3, [.ref ln, .int (nI rt), .int x2, .int (nI ps)])), (ln, .inl (g.2.1 2, 25, .inr (.inl f)))] ++ pl) _ := hP
  have hD : va_D _ ([(sponge, .inr (3, [.ref ln, .int (nI rt), .int x2, .int (nI ps)])), (ln, .inl (g.2.1 2, 25, .inr (.inl f)))] ++ pl) := hD
  refine W.widen (k := 0) (n := 0) (by omega) (by omega) ?_
  refine lv_aload_n hx hb dDA_absorbHigh_16 rfl (lv_at hl 0 rfl) ?_
  refine ty_get (ci := 6) (C := "LatticeKeys$Dsa") (TT := T_DA) (N := 17) (kd := (15, 0)) hx hb hts (wg_ft i_DA) hown hK hO k_h0 (nxg hc0 k_h0 rfl) hP (fun _ h9 => h9) rfl 0 (by decide) (hts _ (wg_t kw_165)) (fun _ h9 => h9) (cd := (3, 10, 2)) rfl dDA_absorbHigh_17 (fun v24 hv24 => ?_)
  obtain ⟨r23, rfl, kr23⟩ := (show ∃ r : Nat, v24 = .ref r ∧ T r = some (10, 2) from hv24)
  obtain rfl : sponge = r23 := hU _ _ _ (by decide) k_sponge kr23
  refine lv_aload_n hx hb dDA_absorbHigh_20 rfl (lv_at hl 0 rfl) ?_
  refine ty_get (ci := 6) (C := "LatticeKeys$Dsa") (TT := T_DA) (N := 17) (kd := (15, 0)) hx hb hts (wg_ft i_DA) hown hK hO k_h0 (nxg hc0 k_h0 rfl) hP (fun _ h9 => h9) rfl 16 (by decide) (hts _ (wg_t kw_181)) (fun _ h9 => h9) (cd := (3, 1, 192)) rfl dDA_absorbHigh_21 (fun v25 hv25 => ?_)
  obtain ⟨r24, rfl, kr24⟩ := (show ∃ r : Nat, v25 = .ref r ∧ T r = some (1, 192) from hv25)
  refine lv_iconst (v := nI 0) hx hb dDA_absorbHigh_24 (by decide) ?_
  refine lv_bipush (v := nI 32) hx hb dDA_absorbHigh_25 (by decide) ?_
  refine lv_aload_n hx hb dDA_absorbHigh_27 rfl (lv_at hl 1 rfl) ?_
  refine ty_get (ci := 2) (C := "LatticeKeys$DsaSet") (TT := T_DS) (N := 17) (kd := (43, 0)) hx hb hts (wg_ft i_DS) hown hK hO k_st (nxg hc0 k_st rfl) hP (fun _ h9 => h9) rfl 9 (by decide) (hts _ (wg_t kw_323)) (fun _ h9 => h9) (cd := (1, 0, 6)) rfl dDA_absorbHigh_28 (fun v26 hv26 => ?_)
  obtain rfl := (show v26 = .int (nI 6) from hv26)
  refine mi_imul hx hb dDA_absorbHigh_31 ?_
  refine mi_as (show nI (32 * 6) = nI 192 from rfl) ?_
  refine mp_v (cx := [(sponge, .inr (3, [.ref ln, .int (nI rt), .int x2, .int (nI ps)])), (ln, .inl (g.2.1 2, 25, .inr (.inl f)))]) (wr := []) hP hD hS hA [0, 1] [] rfl rfl rfl (by decide) (va_runV (As := [.ref r24, .int (nI 0), .int (nI 192)]) (rest := []) F (t_SP_absorb l g _ T xs pl hO hU hc0 r24 192 0 192 sponge ln rt ps x2 f kr24 (by omega) (by omega) (by omega) (by omega)) (cwV 3 hts (wg_app (wg_c kw_670 (wg_c kw_586 (wg_c kw_587 (wg_c kw_2 wg_n)))) kw_588) rfl rfl rfl (by decide +kernel) ⟨by decide, by decide⟩) (pp_V (en_ok g) (q0 := 0) hK hP hD hS hA hE [0, 1] rfl rfl rfl rfl) rfl rfl hl.1 rfl (lv_room (Nat.le_of_ble_eq_true rfl)) dDA_absorbHigh_32 ⟨by omega, by omega⟩) (fun  u21 H locs hu22 hP hD hS => ?_)
  obtain ⟨u22, pl⟩ := u21
  obtain ⟨hq22, hO⟩ := hu22
  obtain ⟨k21, f21⟩ := u22
  have hP : va_P g.1 vcl ([(sponge, .inr (3, [.ref ln, .int (nI rt), .int x2, .int (nI k21)])), (ln, .inl (g.2.1 2, 25, .inr (.inl f21)))] ++ pl) _ := hP
  have hD : va_D _ ([(sponge, .inr (3, [.ref ln, .int (nI rt), .int x2, .int (nI k21)])), (ln, .inl (g.2.1 2, 25, .inr (.inl f21)))] ++ pl) := hD
  have hq22 : k21 < rt := hq22
  refine W.widen (k := 0) (n := 0) (by omega) (by omega) ?_
  exact mp_vret hx hb hr hlk hP hD hS ((k21, f21), pl) ⟨(by show k21 < rt; omega), hO⟩ [0, 1] rfl rfl rfl (by omega) (by omega) dDA_absorbHigh_35
set_option maxHeartbeats 400000 in
set_option maxRecDepth 100000 in
theorem t_DA_absorbHigh_1 (l : Launch) (g : Gd) (sz : Nat) (T : Ty) (xs : List Nat) (pl : va_W) (hO : okx g T xs pl) (hU : uni T) (hc0 : clo T xs 0) (sponge : Nat) (h0 st : Nat) (ln rt ps : Nat) (x2 : Int32) (f : Nat → Int64) (k_sponge : T sponge = some (10, 2)) (k_h0 : T h0 = some (15, 0)) (k_st : T st = some (44, 0)) (hrt : 0 < rt ∧ rt < 200) (hps : ps < rt)  : Met l y_DA_absorbHigh w_DA_absorbHigh ({ frames := 3, cells := 0, slots := 0, locals := 100 } : Room) (va_Pc [.ref h0, .ref st] (pr (en g) g.1 vcl sz ([(sponge, .inr (3, [.ref ln, .int (nI rt), .int x2, .int (nI ps)])), (ln, .inl (g.2.1 2, 25, .inr (.inl f)))] ++ pl))) (va_Qv (fun (u : (Nat × (Nat → Int64)) × va_W) => (u.1.1 < rt) ∧ okx g T xs u.2) (po g.1 vcl (va_A ([(sponge, .inr (3, [.ref ln, .int (nI rt), .int x2, .int (nI ps)])), (ln, .inl (g.2.1 2, 25, .inr (.inl f)))] ++ pl) sz) (fun (u : (Nat × (Nat → Int64)) × va_W) => [(sponge, .inr (3, [.ref ln, .int (nI rt), .int x2, .int (nI (u.1.1))])), (ln, .inl (g.2.1 2, 25, .inr (.inl (u.1.2))))] ++ u.2)) (va_A ([(sponge, .inr (3, [.ref ln, .int (nI rt), .int x2, .int (nI ps)])), (ln, .inl (g.2.1 2, 25, .inr (.inl f)))] ++ pl) sz)) 0 0 (va_A ([(sponge, .inr (3, [.ref ln, .int (nI rt), .int x2, .int (nI ps)])), (ln, .inl (g.2.1 2, 25, .inr (.inl f)))] ++ pl) sz) := by
  refine mc_entry (cc := c_DA_absorbHigh) (maxL := 2) (ret := none) (by decide) rfl (Nat.le_of_ble_eq_true rfl) ?_
  intro p e s m args below meth c ls F hr hlk hnm hsz hP hD hE hA hl
  obtain ⟨hx, hb, hml, hown, hts⟩ := id F
  have hK := hE.1
  generalize va_A ([(sponge, .inr (3, [.ref ln, .int (nI rt), .int x2, .int (nI ps)])), (ln, .inl (g.2.1 2, 25, .inr (.inl f)))] ++ pl) sz = A at hD hE hA ⊢
  have hS : va_S A s.heap s.heap [] := va_S.rf
  have hl : lv_has ls 2 [(0, .ref h0), (1, .ref st)] := hl
  refine lv_aload_n hx hb dDA_absorbHigh_0 rfl (lv_at hl 0 rfl) ?_
  refine ty_get (ci := 6) (C := "LatticeKeys$Dsa") (TT := T_DA) (N := 17) (kd := (15, 0)) hx hb hts (wg_ft i_DA) hown hK hO k_h0 (nxg hc0 k_h0 rfl) hP (fun _ h9 => h9) rfl 10 (by decide) (hts _ (wg_t kw_175)) (fun _ h9 => h9) (cd := (3, 0, 256)) rfl dDA_absorbHigh_1 (fun v21 hv21 => ?_)
  obtain ⟨r21, rfl, kr21⟩ := (show ∃ r : Nat, v21 = .ref r ∧ T r = some (0, 256) from hv21)
  refine lv_aload_n hx hb dDA_absorbHigh_4 rfl (lv_at hl 1 rfl) ?_
  refine ty_get (ci := 2) (C := "LatticeKeys$DsaSet") (TT := T_DS) (N := 17) (kd := (44, 0)) hx hb hts (wg_ft i_DS) hown hK hO k_st (nxg hc0 k_st rfl) hP (fun _ h9 => h9) rfl 9 (by decide) (hts _ (wg_t kw_323)) (fun _ h9 => h9) (cd := (1, 0, 4)) rfl dDA_absorbHigh_5 (fun v22 hv22 => ?_)
  obtain rfl := (show v22 = .int (nI 4) from hv22)
  refine lv_aload_n hx hb dDA_absorbHigh_8 rfl (lv_at hl 0 rfl) ?_
  refine ty_get (ci := 6) (C := "LatticeKeys$Dsa") (TT := T_DA) (N := 17) (kd := (15, 0)) hx hb hts (wg_ft i_DA) hown hK hO k_h0 (nxg hc0 k_h0 rfl) hP (fun _ h9 => h9) rfl 16 (by decide) (hts _ (wg_t kw_181)) (fun _ h9 => h9) (cd := (3, 1, 192)) rfl dDA_absorbHigh_9 (fun v23 hv23 => ?_)
  obtain ⟨r22, rfl, kr22⟩ := (show ∃ r : Nat, v23 = .ref r ∧ T r = some (1, 192) from hv23)
  refine lv_iconst (v := nI 0) hx hb dDA_absorbHigh_12 (by decide) ?_
  refine mp_v (cx := []) (wr := [(sponge, .inr (3, [.ref ln, .int (nI rt), .int x2, .int (nI ps)])), (ln, .inl (g.2.1 2, 25, .inr (.inl f)))]) hP hD hS hA [] [0, 1] rfl rfl rfl (by decide) (va_runS (As := [.ref r21, .int (nI 4), .ref r22, .int (nI 0)]) (rest := []) F (t_BT_pack l g _ T xs pl hO hU hc0 r21 r22 192 4 0 kr21 kr22 (by omega) (by omega) (by omega)) (va_cwS 4 hts (wg_app (wg_c kw_702 (wg_c kw_645 (wg_c kw_22 wg_n))) kw_646) rfl rfl rfl (by decide +kernel) ⟨by decide, by decide⟩) (pp_S (en_ok g) hP hD hS hA hE [] rfl rfl) rfl rfl hl.1 rfl (lv_room (Nat.le_of_ble_eq_true rfl)) dDA_absorbHigh_13 ⟨by omega, by omega⟩) (fun  pl H locs hu21 hP hD hS => ?_)
  obtain ⟨hq21, hO⟩ := hu21
  have hP : va_P g.1 vcl ([(sponge, .inr (3, [.ref ln, .int (nI rt), .int x2, .int (nI ps)])), (ln, .inl (g.2.1 2, 25, .inr (.inl f)))] ++ pl) _ := hP
  have hD : va_D _ ([(sponge, .inr (3, [.ref ln, .int (nI rt), .int x2, .int (nI ps)])), (ln, .inl (g.2.1 2, 25, .inr (.inl f)))] ++ pl) := hD
  refine W.widen (k := 0) (n := 0) (by omega) (by omega) ?_
  refine lv_aload_n hx hb dDA_absorbHigh_16 rfl (lv_at hl 0 rfl) ?_
  refine ty_get (ci := 6) (C := "LatticeKeys$Dsa") (TT := T_DA) (N := 17) (kd := (15, 0)) hx hb hts (wg_ft i_DA) hown hK hO k_h0 (nxg hc0 k_h0 rfl) hP (fun _ h9 => h9) rfl 0 (by decide) (hts _ (wg_t kw_165)) (fun _ h9 => h9) (cd := (3, 10, 2)) rfl dDA_absorbHigh_17 (fun v24 hv24 => ?_)
  obtain ⟨r23, rfl, kr23⟩ := (show ∃ r : Nat, v24 = .ref r ∧ T r = some (10, 2) from hv24)
  obtain rfl : sponge = r23 := hU _ _ _ (by decide) k_sponge kr23
  refine lv_aload_n hx hb dDA_absorbHigh_20 rfl (lv_at hl 0 rfl) ?_
  refine ty_get (ci := 6) (C := "LatticeKeys$Dsa") (TT := T_DA) (N := 17) (kd := (15, 0)) hx hb hts (wg_ft i_DA) hown hK hO k_h0 (nxg hc0 k_h0 rfl) hP (fun _ h9 => h9) rfl 16 (by decide) (hts _ (wg_t kw_181)) (fun _ h9 => h9) (cd := (3, 1, 192)) rfl dDA_absorbHigh_21 (fun v25 hv25 => ?_)
  obtain ⟨r24, rfl, kr24⟩ := (show ∃ r : Nat, v25 = .ref r ∧ T r = some (1, 192) from hv25)
  refine lv_iconst (v := nI 0) hx hb dDA_absorbHigh_24 (by decide) ?_
  refine lv_bipush (v := nI 32) hx hb dDA_absorbHigh_25 (by decide) ?_
  refine lv_aload_n hx hb dDA_absorbHigh_27 rfl (lv_at hl 1 rfl) ?_
  refine ty_get (ci := 2) (C := "LatticeKeys$DsaSet") (TT := T_DS) (N := 17) (kd := (44, 0)) hx hb hts (wg_ft i_DS) hown hK hO k_st (nxg hc0 k_st rfl) hP (fun _ h9 => h9) rfl 9 (by decide) (hts _ (wg_t kw_323)) (fun _ h9 => h9) (cd := (1, 0, 4)) rfl dDA_absorbHigh_28 (fun v26 hv26 => ?_)
  obtain rfl := (show v26 = .int (nI 4) from hv26)
  refine mi_imul hx hb dDA_absorbHigh_31 ?_
  refine mi_as (show nI (32 * 4) = nI 128 from rfl) ?_
  refine mp_v (cx := [(sponge, .inr (3, [.ref ln, .int (nI rt), .int x2, .int (nI ps)])), (ln, .inl (g.2.1 2, 25, .inr (.inl f)))]) (wr := []) hP hD hS hA [0, 1] [] rfl rfl rfl (by decide) (va_runV (As := [.ref r24, .int (nI 0), .int (nI 128)]) (rest := []) F (t_SP_absorb l g _ T xs pl hO hU hc0 r24 192 0 128 sponge ln rt ps x2 f kr24 (by omega) (by omega) (by omega) (by omega)) (cwV 3 hts (wg_app (wg_c kw_670 (wg_c kw_586 (wg_c kw_587 (wg_c kw_2 wg_n)))) kw_588) rfl rfl rfl (by decide +kernel) ⟨by decide, by decide⟩) (pp_V (en_ok g) (q0 := 0) hK hP hD hS hA hE [0, 1] rfl rfl rfl rfl) rfl rfl hl.1 rfl (lv_room (Nat.le_of_ble_eq_true rfl)) dDA_absorbHigh_32 ⟨by omega, by omega⟩) (fun  u21 H locs hu22 hP hD hS => ?_)
  obtain ⟨u22, pl⟩ := u21
  obtain ⟨hq22, hO⟩ := hu22
  obtain ⟨k21, f21⟩ := u22
  have hP : va_P g.1 vcl ([(sponge, .inr (3, [.ref ln, .int (nI rt), .int x2, .int (nI k21)])), (ln, .inl (g.2.1 2, 25, .inr (.inl f21)))] ++ pl) _ := hP
  have hD : va_D _ ([(sponge, .inr (3, [.ref ln, .int (nI rt), .int x2, .int (nI k21)])), (ln, .inl (g.2.1 2, 25, .inr (.inl f21)))] ++ pl) := hD
  have hq22 : k21 < rt := hq22
  refine W.widen (k := 0) (n := 0) (by omega) (by omega) ?_
  exact mp_vret hx hb hr hlk hP hD hS ((k21, f21), pl) ⟨(by show k21 < rt; omega), hO⟩ [0, 1] rfl rfl rfl (by omega) (by omega) dDA_absorbHigh_35
set_option maxHeartbeats 400000 in
set_option maxRecDepth 100000 in
theorem t_DA_absorbHigh_2 (l : Launch) (g : Gd) (sz : Nat) (T : Ty) (xs : List Nat) (pl : va_W) (hO : okx g T xs pl) (hU : uni T) (hc0 : clo T xs 0) (sponge : Nat) (h0 st : Nat) (ln rt ps : Nat) (x2 : Int32) (f : Nat → Int64) (k_sponge : T sponge = some (10, 2)) (k_h0 : T h0 = some (15, 0)) (k_st : T st = some (45, 0)) (hrt : 0 < rt ∧ rt < 200) (hps : ps < rt)  : Met l y_DA_absorbHigh w_DA_absorbHigh ({ frames := 3, cells := 0, slots := 0, locals := 100 } : Room) (va_Pc [.ref h0, .ref st] (pr (en g) g.1 vcl sz ([(sponge, .inr (3, [.ref ln, .int (nI rt), .int x2, .int (nI ps)])), (ln, .inl (g.2.1 2, 25, .inr (.inl f)))] ++ pl))) (va_Qv (fun (u : (Nat × (Nat → Int64)) × va_W) => (u.1.1 < rt) ∧ okx g T xs u.2) (po g.1 vcl (va_A ([(sponge, .inr (3, [.ref ln, .int (nI rt), .int x2, .int (nI ps)])), (ln, .inl (g.2.1 2, 25, .inr (.inl f)))] ++ pl) sz) (fun (u : (Nat × (Nat → Int64)) × va_W) => [(sponge, .inr (3, [.ref ln, .int (nI rt), .int x2, .int (nI (u.1.1))])), (ln, .inl (g.2.1 2, 25, .inr (.inl (u.1.2))))] ++ u.2)) (va_A ([(sponge, .inr (3, [.ref ln, .int (nI rt), .int x2, .int (nI ps)])), (ln, .inl (g.2.1 2, 25, .inr (.inl f)))] ++ pl) sz)) 0 0 (va_A ([(sponge, .inr (3, [.ref ln, .int (nI rt), .int x2, .int (nI ps)])), (ln, .inl (g.2.1 2, 25, .inr (.inl f)))] ++ pl) sz) := by
  refine mc_entry (cc := c_DA_absorbHigh) (maxL := 2) (ret := none) (by decide) rfl (Nat.le_of_ble_eq_true rfl) ?_
  intro p e s m args below meth c ls F hr hlk hnm hsz hP hD hE hA hl
  obtain ⟨hx, hb, hml, hown, hts⟩ := id F
  have hK := hE.1
  generalize va_A ([(sponge, .inr (3, [.ref ln, .int (nI rt), .int x2, .int (nI ps)])), (ln, .inl (g.2.1 2, 25, .inr (.inl f)))] ++ pl) sz = A at hD hE hA ⊢
  have hS : va_S A s.heap s.heap [] := va_S.rf
  have hl : lv_has ls 2 [(0, .ref h0), (1, .ref st)] := hl
  refine lv_aload_n hx hb dDA_absorbHigh_0 rfl (lv_at hl 0 rfl) ?_
  refine ty_get (ci := 6) (C := "LatticeKeys$Dsa") (TT := T_DA) (N := 17) (kd := (15, 0)) hx hb hts (wg_ft i_DA) hown hK hO k_h0 (nxg hc0 k_h0 rfl) hP (fun _ h9 => h9) rfl 10 (by decide) (hts _ (wg_t kw_175)) (fun _ h9 => h9) (cd := (3, 0, 256)) rfl dDA_absorbHigh_1 (fun v21 hv21 => ?_)
  obtain ⟨r21, rfl, kr21⟩ := (show ∃ r : Nat, v21 = .ref r ∧ T r = some (0, 256) from hv21)
  refine lv_aload_n hx hb dDA_absorbHigh_4 rfl (lv_at hl 1 rfl) ?_
  refine ty_get (ci := 2) (C := "LatticeKeys$DsaSet") (TT := T_DS) (N := 17) (kd := (45, 0)) hx hb hts (wg_ft i_DS) hown hK hO k_st (nxg hc0 k_st rfl) hP (fun _ h9 => h9) rfl 9 (by decide) (hts _ (wg_t kw_323)) (fun _ h9 => h9) (cd := (1, 0, 4)) rfl dDA_absorbHigh_5 (fun v22 hv22 => ?_)
  obtain rfl := (show v22 = .int (nI 4) from hv22)
  refine lv_aload_n hx hb dDA_absorbHigh_8 rfl (lv_at hl 0 rfl) ?_
  refine ty_get (ci := 6) (C := "LatticeKeys$Dsa") (TT := T_DA) (N := 17) (kd := (15, 0)) hx hb hts (wg_ft i_DA) hown hK hO k_h0 (nxg hc0 k_h0 rfl) hP (fun _ h9 => h9) rfl 16 (by decide) (hts _ (wg_t kw_181)) (fun _ h9 => h9) (cd := (3, 1, 192)) rfl dDA_absorbHigh_9 (fun v23 hv23 => ?_)
  obtain ⟨r22, rfl, kr22⟩ := (show ∃ r : Nat, v23 = .ref r ∧ T r = some (1, 192) from hv23)
  refine lv_iconst (v := nI 0) hx hb dDA_absorbHigh_12 (by decide) ?_
  refine mp_v (cx := []) (wr := [(sponge, .inr (3, [.ref ln, .int (nI rt), .int x2, .int (nI ps)])), (ln, .inl (g.2.1 2, 25, .inr (.inl f)))]) hP hD hS hA [] [0, 1] rfl rfl rfl (by decide) (va_runS (As := [.ref r21, .int (nI 4), .ref r22, .int (nI 0)]) (rest := []) F (t_BT_pack l g _ T xs pl hO hU hc0 r21 r22 192 4 0 kr21 kr22 (by omega) (by omega) (by omega)) (va_cwS 4 hts (wg_app (wg_c kw_702 (wg_c kw_645 (wg_c kw_22 wg_n))) kw_646) rfl rfl rfl (by decide +kernel) ⟨by decide, by decide⟩) (pp_S (en_ok g) hP hD hS hA hE [] rfl rfl) rfl rfl hl.1 rfl (lv_room (Nat.le_of_ble_eq_true rfl)) dDA_absorbHigh_13 ⟨by omega, by omega⟩) (fun  pl H locs hu21 hP hD hS => ?_)
  obtain ⟨hq21, hO⟩ := hu21
  have hP : va_P g.1 vcl ([(sponge, .inr (3, [.ref ln, .int (nI rt), .int x2, .int (nI ps)])), (ln, .inl (g.2.1 2, 25, .inr (.inl f)))] ++ pl) _ := hP
  have hD : va_D _ ([(sponge, .inr (3, [.ref ln, .int (nI rt), .int x2, .int (nI ps)])), (ln, .inl (g.2.1 2, 25, .inr (.inl f)))] ++ pl) := hD
  refine W.widen (k := 0) (n := 0) (by omega) (by omega) ?_
  refine lv_aload_n hx hb dDA_absorbHigh_16 rfl (lv_at hl 0 rfl) ?_
  refine ty_get (ci := 6) (C := "LatticeKeys$Dsa") (TT := T_DA) (N := 17) (kd := (15, 0)) hx hb hts (wg_ft i_DA) hown hK hO k_h0 (nxg hc0 k_h0 rfl) hP (fun _ h9 => h9) rfl 0 (by decide) (hts _ (wg_t kw_165)) (fun _ h9 => h9) (cd := (3, 10, 2)) rfl dDA_absorbHigh_17 (fun v24 hv24 => ?_)
  obtain ⟨r23, rfl, kr23⟩ := (show ∃ r : Nat, v24 = .ref r ∧ T r = some (10, 2) from hv24)
  obtain rfl : sponge = r23 := hU _ _ _ (by decide) k_sponge kr23
  refine lv_aload_n hx hb dDA_absorbHigh_20 rfl (lv_at hl 0 rfl) ?_
  refine ty_get (ci := 6) (C := "LatticeKeys$Dsa") (TT := T_DA) (N := 17) (kd := (15, 0)) hx hb hts (wg_ft i_DA) hown hK hO k_h0 (nxg hc0 k_h0 rfl) hP (fun _ h9 => h9) rfl 16 (by decide) (hts _ (wg_t kw_181)) (fun _ h9 => h9) (cd := (3, 1, 192)) rfl dDA_absorbHigh_21 (fun v25 hv25 => ?_)
  obtain ⟨r24, rfl, kr24⟩ := (show ∃ r : Nat, v25 = .ref r ∧ T r = some (1, 192) from hv25)
  refine lv_iconst (v := nI 0) hx hb dDA_absorbHigh_24 (by decide) ?_
  refine lv_bipush (v := nI 32) hx hb dDA_absorbHigh_25 (by decide) ?_
  refine lv_aload_n hx hb dDA_absorbHigh_27 rfl (lv_at hl 1 rfl) ?_
  refine ty_get (ci := 2) (C := "LatticeKeys$DsaSet") (TT := T_DS) (N := 17) (kd := (45, 0)) hx hb hts (wg_ft i_DS) hown hK hO k_st (nxg hc0 k_st rfl) hP (fun _ h9 => h9) rfl 9 (by decide) (hts _ (wg_t kw_323)) (fun _ h9 => h9) (cd := (1, 0, 4)) rfl dDA_absorbHigh_28 (fun v26 hv26 => ?_)
  obtain rfl := (show v26 = .int (nI 4) from hv26)
  refine mi_imul hx hb dDA_absorbHigh_31 ?_
  refine mi_as (show nI (32 * 4) = nI 128 from rfl) ?_
  refine mp_v (cx := [(sponge, .inr (3, [.ref ln, .int (nI rt), .int x2, .int (nI ps)])), (ln, .inl (g.2.1 2, 25, .inr (.inl f)))]) (wr := []) hP hD hS hA [0, 1] [] rfl rfl rfl (by decide) (va_runV (As := [.ref r24, .int (nI 0), .int (nI 128)]) (rest := []) F (t_SP_absorb l g _ T xs pl hO hU hc0 r24 192 0 128 sponge ln rt ps x2 f kr24 (by omega) (by omega) (by omega) (by omega)) (cwV 3 hts (wg_app (wg_c kw_670 (wg_c kw_586 (wg_c kw_587 (wg_c kw_2 wg_n)))) kw_588) rfl rfl rfl (by decide +kernel) ⟨by decide, by decide⟩) (pp_V (en_ok g) (q0 := 0) hK hP hD hS hA hE [0, 1] rfl rfl rfl rfl) rfl rfl hl.1 rfl (lv_room (Nat.le_of_ble_eq_true rfl)) dDA_absorbHigh_32 ⟨by omega, by omega⟩) (fun  u21 H locs hu22 hP hD hS => ?_)
  obtain ⟨u22, pl⟩ := u21
  obtain ⟨hq22, hO⟩ := hu22
  obtain ⟨k21, f21⟩ := u22
  have hP : va_P g.1 vcl ([(sponge, .inr (3, [.ref ln, .int (nI rt), .int x2, .int (nI k21)])), (ln, .inl (g.2.1 2, 25, .inr (.inl f21)))] ++ pl) _ := hP
  have hD : va_D _ ([(sponge, .inr (3, [.ref ln, .int (nI rt), .int x2, .int (nI k21)])), (ln, .inl (g.2.1 2, 25, .inr (.inl f21)))] ++ pl) := hD
  have hq22 : k21 < rt := hq22
  refine W.widen (k := 0) (n := 0) (by omega) (by omega) ?_
  exact mp_vret hx hb hr hlk hP hD hS ((k21, f21), pl) ⟨(by show k21 < rt; omega), hO⟩ [0, 1] rfl rfl rfl (by omega) (by omega) dDA_absorbHigh_35
set_option maxHeartbeats 400000 in
set_option maxRecDepth 100000 in
theorem t_DA_commit_0 (l : Launch) (g : Gd) (sz : Nat) (T : Ty) (xs : List Nat) (pl : va_W) (hO : okx g T xs pl) (hU : uni T) (hc0 : clo T xs 0) (hc3 : clo T xs 3) (hc4 : clo T xs 4) (h0 st : Nat) (cn : Int32) (k_h0 : T h0 = some (15, 0)) (k_st : T st = some (43, 0))  : Met l y_DA_commit w_DA_commit ({ frames := 5, cells := 0, slots := 0, locals := 147 } : Room) (va_Pc [.ref h0, .ref st, .int cn] (pr (en g) g.1 vcl sz ([] ++ pl))) (va_Qv (fun (u : va_W) => (True) ∧ okx g T xs u) (po g.1 vcl (va_A ([] ++ pl) sz) (fun (u : va_W) => [] ++ u)) (va_A ([] ++ pl) sz)) 0 0 (va_A ([] ++ pl) sz) := by
  refine mc_entry (cc := c_DA_commit) (maxL := 5) (ret := none) (by decide) rfl (Nat.le_of_ble_eq_true rfl) ?_
  intro p e s m args below meth c ls F hr hlk hnm hsz hP hD hE hA hl
  obtain ⟨hx, hb, hml, hown, hts⟩ := id F
  have hK := hE.1
  generalize va_A ([] ++ pl) sz = A at hD hE hA ⊢
  have hS : va_S A s.heap s.heap [] := va_S.rf
  have hl : lv_has ls 5 [(0, .ref h0), (1, .ref st), (2, .int cn)] := hl
  refine lv_iconst (v := nI 0) hx hb dDA_commit_0 (by decide) ?_
  refine lv_istore_n (lv' := [(3, .int (nI 0)), (0, .ref h0), (1, .ref st), (2, .int cn)]) hx hb dDA_commit_1 rfl hl (by decide) rfl (fun ls hl => ?_)
  have lp21 : ∀ (n21 : Nat) (i21 : Nat) (pl : va_W) (ls : Array Slot) (H : Heap) (locs : List Loc), n21 + i21 = 4 → lv_has ls 5 [(3, .int (nI i21)), (0, .ref h0), (1, .ref st), (2, .int cn)] → okx g T xs pl → va_P g.1 vcl ([] ++ pl) H → va_D A ([] ++ pl) → va_S A s.heap H locs → W p l e ({ frames := 5, cells := 0, slots := 0, locals := 147 } : Room) s m args below meth c H locs 0 0 (MQ below (va_Qv (fun (u : va_W) => (True) ∧ okx g T xs u) (po g.1 vcl A (fun (u : va_W) => [] ++ u)) A) args s 0 0 A) (F0 m 2 ls []) := by
    intro n21
    induction n21 with
    | zero =>
      intro i21 pl ls H locs hm21  hl hO hP hD hS
      refine lv_iload_n hx hb dDA_commit_2 rfl (lv_at hl 0 rfl) ?_
      refine lv_aload_n hx hb dDA_commit_3 rfl (lv_at hl 2 rfl) ?_
      refine ty_get (ci := 2) (C := "LatticeKeys$DsaSet") (TT := T_DS) (N := 17) (kd := (43, 0)) hx hb hts (wg_ft i_DS) hown hK hO k_st (nxg hc0 k_st rfl) hP (fun _ h9 => h9) rfl 0 (by decide) (hts _ (wg_t kw_302)) (fun _ h9 => h9) (cd := (1, 0, 4)) rfl dDA_commit_4 (fun v21 hv21 => ?_)
      obtain rfl := (show v21 = .int (nI 4) from hv21)
      refine mi_ge (tgt := 26) hx hb dDA_commit_7 (by decide) (by omega) (by omega) (fun h21 => ?_) (fun h21 => absurd h21 (by omega))
      refine lv_iconst (v := nI 0) hx hb dDA_commit_26 (by decide) ?_
      refine lv_istore_n (lv' := [(3, .int (nI 0)), (0, .ref h0), (1, .ref st), (2, .int cn)]) hx hb dDA_commit_27 rfl hl (by decide) rfl (fun ls hl => ?_)
      have lp22 : ∀ (n22 : Nat) (i22 : Nat) (pl : va_W) (ls : Array Slot) (H : Heap) (locs : List Loc), n22 + i22 = 4 → lv_has ls 5 [(3, .int (nI i22)), (0, .ref h0), (1, .ref st), (2, .int cn)] → okx g T xs pl → va_P g.1 vcl ([] ++ pl) H → va_D A ([] ++ pl) → va_S A s.heap H locs → W p l e ({ frames := 5, cells := 0, slots := 0, locals := 147 } : Room) s m args below meth c H locs 0 0 (MQ below (va_Qv (fun (u : va_W) => (True) ∧ okx g T xs u) (po g.1 vcl A (fun (u : va_W) => [] ++ u)) A) args s 0 0 A) (F0 m 28 ls []) := by
        intro n22
        induction n22 with
        | zero =>
          intro i22 pl ls H locs hm22  hl hO hP hD hS
          refine lv_iload_n hx hb dDA_commit_28 rfl (lv_at hl 0 rfl) ?_
          refine lv_aload_n hx hb dDA_commit_29 rfl (lv_at hl 2 rfl) ?_
          refine ty_get (ci := 2) (C := "LatticeKeys$DsaSet") (TT := T_DS) (N := 17) (kd := (43, 0)) hx hb hts (wg_ft i_DS) hown hK hO k_st (nxg hc0 k_st rfl) hP (fun _ h9 => h9) rfl 1 (by decide) (hts _ (wg_t kw_305)) (fun _ h9 => h9) (cd := (1, 0, 4)) rfl dDA_commit_30 (fun v22 hv22 => ?_)
          obtain rfl := (show v22 = .int (nI 4) from hv22)
          refine mi_ge (tgt := 165) hx hb dDA_commit_33 (by decide) (by omega) (by omega) (fun h22 => ?_) (fun h22 => absurd h22 (by omega))
          refine lv_aload_n hx hb dDA_commit_165 rfl (lv_at hl 1 rfl) ?_
          obtain ⟨q21, fs21, -, hf21⟩ := ty_obj (X := []) hO k_h0 (nxg hc0 k_h0 rfl) (fun _ h9 => h9)
          obtain ⟨v23, -, hv23⟩ := fall_get hf21 (j := 0) (c := (3, 10, 2)) rfl
          obtain ⟨r21, -, kr21⟩ := (show ∃ r : Nat, v23 = .ref r ∧ T r = some (10, 2) from hv23)
          obtain ⟨e21, pl, hP, hD, hk21, hO⟩ := open1 hP hD hO kr21 (nxg hc3 kr21 rfl)
          obtain ⟨ln21, rt21, ps21, x21, rfl, kl21, hr21, hr22, hr23⟩ := hk21
          have kl21 : T ln21 = some (19, 2) := kl21
          obtain ⟨e22, pl, hP, hD, hk22, hO⟩ := open1 hP hD hO kl21 (nmc (knd_ne kl21 kr21 (by decide)) (nxg hc3 kl21 rfl))
          obtain ⟨f21, rfl⟩ := hk22
          have hP : va_P g.1 vcl ([(r21, .inr (3, [.ref ln21, .int (nI rt21), .int x21, .int (nI ps21)])), (ln21, .inl (g.2.1 2, 25, .inr (.inl f21)))] ++ pl) _ := hP
          have hD : va_D _ ([(r21, .inr (3, [.ref ln21, .int (nI rt21), .int x21, .int (nI ps21)])), (ln21, .inl (g.2.1 2, 25, .inr (.inl f21)))] ++ pl) := hD
          refine mp_v (cx := [(r21, .inr (3, [.ref ln21, .int (nI rt21), .int x21, .int (nI ps21)])), (ln21, .inl (g.2.1 2, 25, .inr (.inl f21)))]) (wr := []) hP hD hS hA [0, 1] [] rfl rfl rfl (by decide) (va_runV (As := []) (rest := []) F (t_DA_startChallenge l g _ T (ln21 :: (r21 :: xs)) pl hO hU (clo_cons (clo_cons hc0 kr21 (by decide)) kl21 (by decide)) r21 h0 ln21 rt21 ps21 x21 f21 kr21 k_h0) (cwV 0 hts (wg_app (wg_c kw_1202 (wg_c kw_1204 (wg_c ks_38 (wg_c kw_5 wg_n)))) kw_1205) rfl rfl rfl (by decide +kernel) ⟨by decide, by decide⟩) (pp_VT (en_ok g) (ci := 6) (kd := (15, 0)) hK hO k_h0 (nxg (clo_cons (clo_cons hc0 kr21 (by decide)) kl21 (by decide)) k_h0 rfl) (fun _ h9 => ko1 h9) hP hD hS hA hE [0, 1] rfl rfl rfl) rfl rfl hl.1 rfl (lv_room (Nat.le_of_ble_eq_true rfl)) dDA_commit_166 ⟨by omega, by omega⟩) (fun  u21 H locs hu21 hP hD hS => ?_)
          obtain ⟨u22, pl⟩ := u21
          obtain ⟨hq21, hO⟩ := hu21
          obtain ⟨ps22, f22⟩ := u22
          have hP : va_P g.1 vcl ([(r21, .inr (3, [.ref ln21, .int (nI 136), .int (nI 31), .int (nI ps22)])), (ln21, .inl (g.2.1 2, 25, .inr (.inl f22)))] ++ pl) _ := hP
          have hD : va_D _ ([(r21, .inr (3, [.ref ln21, .int (nI 136), .int (nI 31), .int (nI ps22)])), (ln21, .inl (g.2.1 2, 25, .inr (.inl f22)))] ++ pl) := hD
          have hq21 : ps22 < 136 := hq21
          refine W.widen (k := 0) (n := 0) (by omega) (by omega) ?_
          refine lv_iconst (v := nI 0) hx hb dDA_commit_169 (by decide) ?_
          refine lv_istore_n (lv' := [(3, .int (nI 0)), (0, .ref h0), (1, .ref st), (2, .int cn)]) hx hb dDA_commit_170 rfl hl (by decide) rfl (fun ls hl => ?_)
          have lp23 : ∀ (n23 : Nat) (i23 : Nat) (ps23 : Nat) (f23 : Nat → Int64) (pl : va_W) (ls : Array Slot) (H : Heap) (locs : List Loc), n23 + i23 = 4 → (ps23 < 136) → lv_has ls 5 [(3, .int (nI i23)), (0, .ref h0), (1, .ref st)] → okx g T (ln21 :: (r21 :: xs)) pl → va_P g.1 vcl ([(r21, .inr (3, [.ref ln21, .int (nI 136), .int (nI 31), .int (nI ps23)])), (ln21, .inl (g.2.1 2, 25, .inr (.inl f23)))] ++ pl) H → va_D A ([(r21, .inr (3, [.ref ln21, .int (nI 136), .int (nI 31), .int (nI ps23)])), (ln21, .inl (g.2.1 2, 25, .inr (.inl f23)))] ++ pl) → va_S A s.heap H locs → W p l e ({ frames := 5, cells := 0, slots := 0, locals := 147 } : Room) s m args below meth c H locs 0 0 (MQ below (va_Qv (fun (u : va_W) => (True) ∧ okx g T xs u) (po g.1 vcl A (fun (u : va_W) => [] ++ u)) A) args s 0 0 A) (F0 m 171 ls []) := by
            intro n23
            induction n23 with
            | zero =>
              intro i23 ps23 f23 pl ls H locs hm23 hi21 hl hO hP hD hS
              refine lv_iload_n hx hb dDA_commit_171 rfl (lv_at hl 0 rfl) ?_
              refine lv_aload_n hx hb dDA_commit_172 rfl (lv_at hl 2 rfl) ?_
              refine ty_get (ci := 2) (C := "LatticeKeys$DsaSet") (TT := T_DS) (N := 17) (kd := (43, 0)) hx hb hts (wg_ft i_DS) hown hK hO k_st (nxg (clo_cons (clo_cons hc0 kr21 (by decide)) kl21 (by decide)) k_st rfl) hP (fun _ h9 => h9) rfl 0 (by decide) (hts _ (wg_t kw_302)) (fun _ h9 => h9) (cd := (1, 0, 4)) rfl dDA_commit_173 (fun v24 hv24 => ?_)
              obtain rfl := (show v24 = .int (nI 4) from hv24)
              refine mi_ge (tgt := 240) hx hb dDA_commit_176 (by decide) (by omega) (by omega) (fun h23 => ?_) (fun h23 => absurd h23 (by omega))
              refine lv_aload_n hx hb dDA_commit_240 rfl (lv_at hl 1 rfl) ?_
              refine ty_get (ci := 6) (C := "LatticeKeys$Dsa") (TT := T_DA) (N := 17) (kd := (15, 0)) hx hb hts (wg_ft i_DA) hown hK hO k_h0 (nxg (clo_cons (clo_cons hc0 kr21 (by decide)) kl21 (by decide)) k_h0 rfl) hP (fun _ h9 => h9) rfl 0 (by decide) (hts _ (wg_t kw_165)) (fun _ h9 => h9) (cd := (3, 10, 2)) rfl dDA_commit_241 (fun v25 hv25 => ?_)
              obtain ⟨r22, rfl, kr22⟩ := (show ∃ r : Nat, v25 = .ref r ∧ T r = some (10, 2) from hv25)
              obtain rfl : r21 = r22 := hU _ _ _ (by decide) kr21 kr22
              refine mp_v (cx := [(r21, .inr (3, [.ref ln21, .int (nI 136), .int (nI 31), .int (nI ps23)])), (ln21, .inl (g.2.1 2, 25, .inr (.inl f23)))]) (wr := []) hP hD hS hA [0, 1] [] rfl rfl rfl (by decide) (va_runV (As := []) (rest := []) F (t_SP_finish l g _ T (ln21 :: (r21 :: xs)) pl hO hU  r21 ln21 136 ps23 (nI 31) f23 (by omega) (by omega)) (cwV 0 hts (wg_app (wg_c kw_672 (wg_c kw_611 (wg_c kw_612 (wg_c kw_2 wg_n)))) kw_613) rfl rfl rfl (by decide +kernel) ⟨by decide, by decide⟩) (pp_V (en_ok g) (q0 := 0) hK hP hD hS hA hE [0, 1] rfl rfl rfl rfl) rfl rfl hl.1 rfl (lv_room (Nat.le_of_ble_eq_true rfl)) dDA_commit_244 ⟨by omega, by omega⟩) (fun  u23 H locs hu22 hP hD hS => ?_)
              obtain ⟨u24, pl⟩ := u23
              obtain ⟨hq22, hO⟩ := hu22
              have hP : va_P g.1 vcl ([(r21, .inr (3, [.ref ln21, .int (nI 136), .int (nI 31), .int (nI 136)])), (ln21, .inl (g.2.1 2, 25, .inr (.inl u24)))] ++ pl) _ := hP
              have hD : va_D _ ([(r21, .inr (3, [.ref ln21, .int (nI 136), .int (nI 31), .int (nI 136)])), (ln21, .inl (g.2.1 2, 25, .inr (.inl u24)))] ++ pl) := hD
              refine W.widen (k := 0) (n := 0) (by omega) (by omega) ?_
              refine lv_aload_n hx hb dDA_commit_247 rfl (lv_at hl 1 rfl) ?_
              refine ty_get (ci := 6) (C := "LatticeKeys$Dsa") (TT := T_DA) (N := 17) (kd := (15, 0)) hx hb hts (wg_ft i_DA) hown hK hO k_h0 (nxg (clo_cons (clo_cons hc0 kr21 (by decide)) kl21 (by decide)) k_h0 rfl) hP (fun _ h9 => h9) rfl 0 (by decide) (hts _ (wg_t kw_165)) (fun _ h9 => h9) (cd := (3, 10, 2)) rfl dDA_commit_248 (fun v26 hv26 => ?_)
              obtain ⟨r23, rfl, kr23⟩ := (show ∃ r : Nat, v26 = .ref r ∧ T r = some (10, 2) from hv26)
              obtain rfl : r21 = r23 := hU _ _ _ (by decide) kr21 kr23
              refine lv_aload_n hx hb dDA_commit_251 rfl (lv_at hl 1 rfl) ?_
              refine ty_get (ci := 6) (C := "LatticeKeys$Dsa") (TT := T_DA) (N := 17) (kd := (15, 0)) hx hb hts (wg_ft i_DA) hown hK hO k_h0 (nxg (clo_cons (clo_cons hc0 kr21 (by decide)) kl21 (by decide)) k_h0 rfl) hP (fun _ h9 => h9) rfl 13 (by decide) (hts _ (wg_t kw_178)) (fun _ h9 => h9) (cd := (3, 1, 64)) rfl dDA_commit_252 (fun v27 hv27 => ?_)
              obtain ⟨r24, rfl, kr24⟩ := (show ∃ r : Nat, v27 = .ref r ∧ T r = some (1, 64) from hv27)
              refine lv_iconst (v := nI 0) hx hb dDA_commit_255 (by decide) ?_
              refine lv_aload_n hx hb dDA_commit_256 rfl (lv_at hl 2 rfl) ?_
              refine ty_get (ci := 2) (C := "LatticeKeys$DsaSet") (TT := T_DS) (N := 17) (kd := (43, 0)) hx hb hts (wg_ft i_DS) hown hK hO k_st (nxg (clo_cons (clo_cons hc0 kr21 (by decide)) kl21 (by decide)) k_st rfl) hP (fun _ h9 => h9) rfl 5 (by decide) (hts _ (wg_t kw_315)) (fun _ h9 => h9) (cd := (1, 0, 32)) rfl dDA_commit_257 (fun v28 hv28 => ?_)
              obtain rfl := (show v28 = .int (nI 32) from hv28)
              refine mp_v (cx := [(r21, .inr (3, [.ref ln21, .int (nI 136), .int (nI 31), .int (nI 136)])), (ln21, .inl (g.2.1 2, 25, .inr (.inl u24)))]) (wr := []) hP hD hS hA [0, 1] [] rfl rfl rfl (by decide) (va_runV (As := [.ref r24, .int (nI 0), .int (nI 32)]) (rest := []) F (t_SP_squeeze l g _ T (ln21 :: (r21 :: xs)) pl hO hU (clo_cons (clo_cons hc0 kr21 (by decide)) kl21 (by decide)) r24 64 0 32 r21 ln21 136 136 (nI 31) u24 kr24 (by omega) (by omega) (by omega) (by omega)) (cwV 3 hts (wg_app (wg_c kw_673 (wg_c kw_615 (wg_c kw_616 (wg_c kw_2 wg_n)))) kw_617) rfl rfl rfl (by decide +kernel) ⟨by decide, by decide⟩) (pp_V (en_ok g) (q0 := 0) hK hP hD hS hA hE [0, 1] rfl rfl rfl rfl) rfl rfl hl.1 rfl (lv_room (Nat.le_of_ble_eq_true rfl)) dDA_commit_260 ⟨by omega, by omega⟩) (fun  u25 H locs hu23 hP hD hS => ?_)
              obtain ⟨u26, pl⟩ := u25
              obtain ⟨hq23, hO⟩ := hu23
              obtain ⟨k21, f24⟩ := u26
              have hP : va_P g.1 vcl ([(r21, .inr (3, [.ref ln21, .int (nI 136), .int (nI 31), .int (nI k21)])), (ln21, .inl (g.2.1 2, 25, .inr (.inl f24)))] ++ pl) _ := hP
              have hD : va_D _ ([(r21, .inr (3, [.ref ln21, .int (nI 136), .int (nI 31), .int (nI k21)])), (ln21, .inl (g.2.1 2, 25, .inr (.inl f24)))] ++ pl) := hD
              have hq23 : k21 ≤ 136 := hq23
              refine W.widen (k := 0) (n := 0) (by omega) (by omega) ?_
              refine lv_aload_n hx hb dDA_commit_263 rfl (lv_at hl 1 rfl) ?_
              refine ty_get (ci := 6) (C := "LatticeKeys$Dsa") (TT := T_DA) (N := 17) (kd := (15, 0)) hx hb hts (wg_ft i_DA) hown hK hO k_h0 (nxg (clo_cons (clo_cons hc0 kr21 (by decide)) kl21 (by decide)) k_h0 rfl) hP (fun _ h9 => h9) rfl 2 (by decide) (hts _ (wg_t kw_167)) (fun _ h9 => h9) (cd := (3, 14, 0)) rfl dDA_commit_264 (fun v29 hv29 => ?_)
              obtain ⟨r25, rfl, kr25⟩ := (show ∃ r : Nat, v29 = .ref r ∧ T r = some (14, 0) from hv29)
              refine lv_aload_n hx hb dDA_commit_267 rfl (lv_at hl 2 rfl) ?_
              refine lv_aload_n hx hb dDA_commit_268 rfl (lv_at hl 1 rfl) ?_
              refine ty_get (ci := 6) (C := "LatticeKeys$Dsa") (TT := T_DA) (N := 17) (kd := (15, 0)) hx hb hts (wg_ft i_DA) hown hK hO k_h0 (nxg (clo_cons (clo_cons hc0 kr21 (by decide)) kl21 (by decide)) k_h0 rfl) hP (fun _ h9 => h9) rfl 9 (by decide) (hts _ (wg_t kw_174)) (fun _ h9 => h9) (cd := (3, 0, 256)) rfl dDA_commit_269 (fun v30 hv30 => ?_)
              obtain ⟨r26, rfl, kr26⟩ := (show ∃ r : Nat, v30 = .ref r ∧ T r = some (0, 256) from hv30)
              refine lv_aload_n hx hb dDA_commit_272 rfl (lv_at hl 1 rfl) ?_
              refine ty_get (ci := 6) (C := "LatticeKeys$Dsa") (TT := T_DA) (N := 17) (kd := (15, 0)) hx hb hts (wg_ft i_DA) hown hK hO k_h0 (nxg (clo_cons (clo_cons hc0 kr21 (by decide)) kl21 (by decide)) k_h0 rfl) hP (fun _ h9 => h9) rfl 13 (by decide) (hts _ (wg_t kw_178)) (fun _ h9 => h9) (cd := (3, 1, 64)) rfl dDA_commit_273 (fun v31 hv31 => ?_)
              obtain ⟨r27, rfl, kr27⟩ := (show ∃ r : Nat, v31 = .ref r ∧ T r = some (1, 64) from hv31)
              refine mp_v (cx := []) (wr := [(r21, .inr (3, [.ref ln21, .int (nI 136), .int (nI 31), .int (nI k21)])), (ln21, .inl (g.2.1 2, 25, .inr (.inl f24)))]) hP hD hS hA [] [0, 1] rfl rfl rfl (by decide) (va_runV (As := [.ref st, .ref r26, .ref r27]) (rest := []) F (t_SA_sampleBall_0 l g _ T (ln21 :: (r21 :: xs)) pl hO hU (clo_cons (clo_cons hc0 kr21 (by decide)) kl21 (by decide)) (clo_cons (clo_cons hc4 kr21 (by decide)) kl21 (by decide)) r25 st r26 r27 64 kr25 k_st kr26 kr27 (by omega) (by omega)) (cwV 3 hts (wg_app (wg_c kw_1214 (wg_c kw_1215 (wg_c kw_1216 (wg_c kw_6 wg_n)))) kw_1217) rfl rfl rfl (by decide +kernel) ⟨by decide, by decide⟩) (pp_VT (en_ok g) (ci := 7) (kd := (14, 0)) hK hO kr25 (nxg (clo_cons (clo_cons hc0 kr21 (by decide)) kl21 (by decide)) kr25 rfl) (fun _ h9 => ko1 h9) hP hD hS hA hE [] rfl rfl rfl) rfl rfl hl.1 rfl (lv_room (Nat.le_of_ble_eq_true rfl)) dDA_commit_276 ⟨by omega, by omega⟩) (fun  pl H locs hu24 hP hD hS => ?_)
              obtain ⟨hq24, hO⟩ := hu24
              have hP : va_P g.1 vcl ([(r21, .inr (3, [.ref ln21, .int (nI 136), .int (nI 31), .int (nI k21)])), (ln21, .inl (g.2.1 2, 25, .inr (.inl f24)))] ++ pl) _ := hP
              have hD : va_D _ ([(r21, .inr (3, [.ref ln21, .int (nI 136), .int (nI 31), .int (nI k21)])), (ln21, .inl (g.2.1 2, 25, .inr (.inl f24)))] ++ pl) := hD
              refine W.widen (k := 0) (n := 0) (by omega) (by omega) ?_
              refine lv_aload_n hx hb dDA_commit_279 rfl (lv_at hl 1 rfl) ?_
              refine ty_get (ci := 6) (C := "LatticeKeys$Dsa") (TT := T_DA) (N := 17) (kd := (15, 0)) hx hb hts (wg_ft i_DA) hown hK hO k_h0 (nxg (clo_cons (clo_cons hc0 kr21 (by decide)) kl21 (by decide)) k_h0 rfl) hP (fun _ h9 => h9) rfl 1 (by decide) (hts _ (wg_t kw_166)) (fun _ h9 => h9) (cd := (3, 12, 0)) rfl dDA_commit_280 (fun v32 hv32 => ?_)
              obtain ⟨r28, rfl, kr28⟩ := (show ∃ r : Nat, v32 = .ref r ∧ T r = some (12, 0) from hv32)
              refine lv_aload_n hx hb dDA_commit_283 rfl (lv_at hl 1 rfl) ?_
              refine ty_get (ci := 6) (C := "LatticeKeys$Dsa") (TT := T_DA) (N := 17) (kd := (15, 0)) hx hb hts (wg_ft i_DA) hown hK hO k_h0 (nxg (clo_cons (clo_cons hc0 kr21 (by decide)) kl21 (by decide)) k_h0 rfl) hP (fun _ h9 => h9) rfl 9 (by decide) (hts _ (wg_t kw_174)) (fun _ h9 => h9) (cd := (3, 0, 256)) rfl dDA_commit_284 (fun v33 hv33 => ?_)
              obtain ⟨r29, rfl, kr29⟩ := (show ∃ r : Nat, v33 = .ref r ∧ T r = some (0, 256) from hv33)
              refine mp_v (cx := []) (wr := [(r21, .inr (3, [.ref ln21, .int (nI 136), .int (nI 31), .int (nI k21)])), (ln21, .inl (g.2.1 2, 25, .inr (.inl f24)))]) hP hD hS hA [] [0, 1] rfl rfl rfl (by decide) (va_runV (As := [.ref r29]) (rest := []) F (t_RG_transform_12 l g _ T (ln21 :: (r21 :: xs)) pl hO hU (clo_cons (clo_cons hc0 kr21 (by decide)) kl21 (by decide)) r28 r29 kr28 kr29) (cwV 1 hts (wg_app (wg_c kw_711 (wg_c kw_637 (wg_c kw_638 (wg_c kw_4 wg_n)))) kw_639) rfl rfl rfl (by decide +kernel) ⟨by decide, by decide⟩) (pp_VT (en_ok g) (ci := 4) (kd := (12, 0)) hK hO kr28 (nxg (clo_cons (clo_cons hc0 kr21 (by decide)) kl21 (by decide)) kr28 rfl) (fun _ h9 => ko1 h9) hP hD hS hA hE [] rfl rfl rfl) rfl rfl hl.1 rfl (lv_room (Nat.le_of_ble_eq_true rfl)) dDA_commit_287 ⟨by omega, by omega⟩) (fun  pl H locs hu25 hP hD hS => ?_)
              obtain ⟨hq25, hO⟩ := hu25
              have hP : va_P g.1 vcl ([(r21, .inr (3, [.ref ln21, .int (nI 136), .int (nI 31), .int (nI k21)])), (ln21, .inl (g.2.1 2, 25, .inr (.inl f24)))] ++ pl) _ := hP
              have hD : va_D _ ([(r21, .inr (3, [.ref ln21, .int (nI 136), .int (nI 31), .int (nI k21)])), (ln21, .inl (g.2.1 2, 25, .inr (.inl f24)))] ++ pl) := hD
              refine W.widen (k := 0) (n := 0) (by omega) (by omega) ?_
              have hO := close1 (e := .inl (g.2.1 2, 25, .inr (.inl f24))) hO kl21 ⟨_, rfl⟩
              have hO := close1 (e := .inr (3, [.ref ln21, .int (nI 136), .int (nI 31), .int (nI k21)])) hO kr21 ⟨_, _, _, _, rfl, kl21, by omega, by omega, by omega⟩
              have hO : okx g T xs ((r21, .inr (3, [.ref ln21, .int (nI 136), .int (nI 31), .int (nI k21)])) :: (ln21, .inl (g.2.1 2, 25, .inr (.inl f24))) :: pl) := hO
              have hP : va_P g.1 vcl ([] ++ ((r21, .inr (3, [.ref ln21, .int (nI 136), .int (nI 31), .int (nI k21)])) :: (ln21, .inl (g.2.1 2, 25, .inr (.inl f24))) :: pl)) _ := hP
              have hD : va_D _ ([] ++ ((r21, .inr (3, [.ref ln21, .int (nI 136), .int (nI 31), .int (nI k21)])) :: (ln21, .inl (g.2.1 2, 25, .inr (.inl f24))) :: pl)) := hD
              generalize ((r21, .inr (3, [.ref ln21, .int (nI 136), .int (nI 31), .int (nI k21)])) :: (ln21, .inl (g.2.1 2, 25, .inr (.inl f24))) :: pl) = pl at hO hP hD
              exact mp_vret hx hb hr hlk hP hD hS pl ⟨trivial, hO⟩ [] rfl rfl rfl (by omega) (by omega) dDA_commit_290
            | succ n23 ih23 =>
              intro i23 ps23 f23 pl ls H locs hm23 hi21 hl hO hP hD hS
              refine lv_iload_n hx hb dDA_commit_171 rfl (lv_at hl 0 rfl) ?_
              refine lv_aload_n hx hb dDA_commit_172 rfl (lv_at hl 2 rfl) ?_
              refine ty_get (ci := 2) (C := "LatticeKeys$DsaSet") (TT := T_DS) (N := 17) (kd := (43, 0)) hx hb hts (wg_ft i_DS) hown hK hO k_st (nxg (clo_cons (clo_cons hc0 kr21 (by decide)) kl21 (by decide)) k_st rfl) hP (fun _ h9 => h9) rfl 0 (by decide) (hts _ (wg_t kw_302)) (fun _ h9 => h9) (cd := (1, 0, 4)) rfl dDA_commit_173 (fun v34 hv34 => ?_)
              obtain rfl := (show v34 = .int (nI 4) from hv34)
              refine mi_ge (tgt := 240) hx hb dDA_commit_176 (by decide) (by omega) (by omega) (fun h24 => absurd h24 (by omega)) (fun h24 => ?_)
              refine lv_aload_n hx hb dDA_commit_179 rfl (lv_at hl 1 rfl) ?_
              refine ty_get (ci := 6) (C := "LatticeKeys$Dsa") (TT := T_DA) (N := 17) (kd := (15, 0)) hx hb hts (wg_ft i_DA) hown hK hO k_h0 (nxg (clo_cons (clo_cons hc0 kr21 (by decide)) kl21 (by decide)) k_h0 rfl) hP (fun _ h9 => h9) rfl 1 (by decide) (hts _ (wg_t kw_166)) (fun _ h9 => h9) (cd := (3, 12, 0)) rfl dDA_commit_180 (fun v35 hv35 => ?_)
              obtain ⟨r30, rfl, kr30⟩ := (show ∃ r : Nat, v35 = .ref r ∧ T r = some (12, 0) from hv35)
              refine lv_aload_n hx hb dDA_commit_183 rfl (lv_at hl 1 rfl) ?_
              refine ty_get (ci := 6) (C := "LatticeKeys$Dsa") (TT := T_DA) (N := 17) (kd := (15, 0)) hx hb hts (wg_ft i_DA) hown hK hO k_h0 (nxg (clo_cons (clo_cons hc0 kr21 (by decide)) kl21 (by decide)) k_h0 rfl) hP (fun _ h9 => h9) rfl 8 (by decide) (hts _ (wg_t kw_173)) (fun _ h9 => h9) (cd := (3, 3, 8)) rfl dDA_commit_184 (fun v36 hv36 => ?_)
              obtain ⟨r31, rfl, kr31⟩ := (show ∃ r : Nat, v36 = .ref r ∧ T r = some (3, 8) from hv36)
              refine lv_iload_n hx hb dDA_commit_187 rfl (lv_at hl 0 rfl) ?_
              refine ty_aald3 hx hb hK hO kr31 (nxg (clo_cons (clo_cons hc0 kr21 (by decide)) kl21 (by decide)) kr31 rfl) hP (by omega) (by decide) dDA_commit_188 (fun r32 kr32 => ?_)
              refine mp_v (cx := []) (wr := [(r21, .inr (3, [.ref ln21, .int (nI 136), .int (nI 31), .int (nI ps23)])), (ln21, .inl (g.2.1 2, 25, .inr (.inl f23)))]) hP hD hS hA [] [0, 1] rfl rfl rfl (by decide) (va_runV (As := [.ref r32]) (rest := []) F (t_RG_restore_12 l g _ T (ln21 :: (r21 :: xs)) pl hO hU (clo_cons (clo_cons hc0 kr21 (by decide)) kl21 (by decide)) r30 r32 kr30 kr32) (cwV 1 hts (wg_app (wg_c kw_720 (wg_c kw_721 (wg_c kw_722 (wg_c kw_4 wg_n)))) kw_723) rfl rfl rfl (by decide +kernel) ⟨by decide, by decide⟩) (pp_VT (en_ok g) (ci := 4) (kd := (12, 0)) hK hO kr30 (nxg (clo_cons (clo_cons hc0 kr21 (by decide)) kl21 (by decide)) kr30 rfl) (fun _ h9 => ko1 h9) hP hD hS hA hE [] rfl rfl rfl) rfl rfl hl.1 rfl (lv_room (Nat.le_of_ble_eq_true rfl)) dDA_commit_189 ⟨by omega, by omega⟩) (fun  pl H locs hu26 hP hD hS => ?_)
              obtain ⟨hq26, hO⟩ := hu26
              have hP : va_P g.1 vcl ([(r21, .inr (3, [.ref ln21, .int (nI 136), .int (nI 31), .int (nI ps23)])), (ln21, .inl (g.2.1 2, 25, .inr (.inl f23)))] ++ pl) _ := hP
              have hD : va_D _ ([(r21, .inr (3, [.ref ln21, .int (nI 136), .int (nI 31), .int (nI ps23)])), (ln21, .inl (g.2.1 2, 25, .inr (.inl f23)))] ++ pl) := hD
              refine W.widen (k := 0) (n := 0) (by omega) (by omega) ?_
              refine lv_iconst (v := nI 0) hx hb dDA_commit_192 (by decide) ?_
              refine lv_istore (lv' := [(4, .int (nI 0)), (3, .int (nI i23)), (0, .ref h0), (1, .ref st)]) hx hb dDA_commit_193 hl (by decide) rfl (fun ls hl => ?_)
              have lp24 : ∀ (n24 : Nat) (i24 : Nat) (pl : va_W) (ls : Array Slot) (H : Heap) (locs : List Loc), n24 + i24 = 256 → lv_has ls 5 [(4, .int (nI i24)), (3, .int (nI i23)), (0, .ref h0), (1, .ref st)] → okx g T (ln21 :: (r21 :: xs)) pl → va_P g.1 vcl ([(r21, .inr (3, [.ref ln21, .int (nI 136), .int (nI 31), .int (nI ps23)])), (ln21, .inl (g.2.1 2, 25, .inr (.inl f23)))] ++ pl) H → va_D A ([(r21, .inr (3, [.ref ln21, .int (nI 136), .int (nI 31), .int (nI ps23)])), (ln21, .inl (g.2.1 2, 25, .inr (.inl f23)))] ++ pl) → va_S A s.heap H locs → W p l e ({ frames := 5, cells := 0, slots := 0, locals := 147 } : Room) s m args below meth c H locs 0 0 (MQ below (va_Qv (fun (u : va_W) => (True) ∧ okx g T xs u) (po g.1 vcl A (fun (u : va_W) => [] ++ u)) A) args s 0 0 A) (F0 m 195 ls []) := by
                intro n24
                induction n24 with
                | zero =>
                  intro i24 pl ls H locs hm24  hl hO hP hD hS
                  refine lv_iload hx hb dDA_commit_195 (lv_at hl 0 rfl) ?_
                  refine lv_sipush (v := nI 256) hx hb dDA_commit_197 (by decide) ?_
                  refine mi_ge (tgt := 229) hx hb dDA_commit_200 (by decide) (by omega) (by omega) (fun h25 => ?_) (fun h25 => absurd h25 (by omega))
                  refine lv_aload_n hx hb dDA_commit_229 rfl (lv_at hl 2 rfl) ?_
                  refine lv_aload_n hx hb dDA_commit_230 rfl (lv_at hl 3 rfl) ?_
                  refine mp_v (cx := [(r21, .inr (3, [.ref ln21, .int (nI 136), .int (nI 31), .int (nI ps23)])), (ln21, .inl (g.2.1 2, 25, .inr (.inl f23)))]) (wr := []) hP hD hS hA [0, 1] [] rfl rfl rfl (by decide) (va_runV (As := [.ref st]) (rest := []) F (t_DA_absorbHigh_0 l g _ T (ln21 :: (r21 :: xs)) pl hO hU (clo_cons (clo_cons hc0 kr21 (by decide)) kl21 (by decide)) r21 h0 st ln21 136 ps23 (nI 31) f23 kr21 k_h0 k_st (by omega) (by omega)) (cwV 1 hts (wg_app (wg_c kw_1210 (wg_c kw_1212 (wg_c ks_39 (wg_c kw_5 wg_n)))) kw_1213) rfl rfl rfl (by decide +kernel) ⟨by decide, by decide⟩) (pp_VT (en_ok g) (ci := 6) (kd := (15, 0)) hK hO k_h0 (nxg (clo_cons (clo_cons hc0 kr21 (by decide)) kl21 (by decide)) k_h0 rfl) (fun _ h9 => ko1 h9) hP hD hS hA hE [0, 1] rfl rfl rfl) rfl rfl hl.1 rfl (lv_room (Nat.le_of_ble_eq_true rfl)) dDA_commit_231 ⟨by omega, by omega⟩) (fun  u27 H locs hu27 hP hD hS => ?_)
                  obtain ⟨u28, pl⟩ := u27
                  obtain ⟨hq27, hO⟩ := hu27
                  obtain ⟨ps24, f25⟩ := u28
                  have hP : va_P g.1 vcl ([(r21, .inr (3, [.ref ln21, .int (nI 136), .int (nI 31), .int (nI ps24)])), (ln21, .inl (g.2.1 2, 25, .inr (.inl f25)))] ++ pl) _ := hP
                  have hD : va_D _ ([(r21, .inr (3, [.ref ln21, .int (nI 136), .int (nI 31), .int (nI ps24)])), (ln21, .inl (g.2.1 2, 25, .inr (.inl f25)))] ++ pl) := hD
                  have hq27 : ps24 < 136 := hq27
                  refine W.widen (k := 0) (n := 0) (by omega) (by omega) ?_
                  refine mi_iinc (k := 1) (x := i23) (d := 1) (y := i23 + 1) (lv' := [(3, .int (nI (i23 + 1))), (4, .int (nI i24)), (0, .ref h0), (1, .ref st)]) hx hb dDA_commit_234 hl rfl (by decide) rfl (by decide) rfl (fun ls hl => ?_)
                  refine lv_goto (tgt := 171) hx hb dDA_commit_237 (by decide) ?_
                  exact ih23 (i23 + 1) ps24 f25 pl ls H locs (by omega) (by omega) (lv_sub hl [0, 2, 3] rfl) hO hP hD hS
                | succ n24 ih24 =>
                  intro i24 pl ls H locs hm24  hl hO hP hD hS
                  refine lv_iload hx hb dDA_commit_195 (lv_at hl 0 rfl) ?_
                  refine lv_sipush (v := nI 256) hx hb dDA_commit_197 (by decide) ?_
                  refine mi_ge (tgt := 229) hx hb dDA_commit_200 (by decide) (by omega) (by omega) (fun h26 => absurd h26 (by omega)) (fun h26 => ?_)
                  refine lv_aload_n hx hb dDA_commit_203 rfl (lv_at hl 2 rfl) ?_
                  refine ty_get (ci := 6) (C := "LatticeKeys$Dsa") (TT := T_DA) (N := 17) (kd := (15, 0)) hx hb hts (wg_ft i_DA) hown hK hO k_h0 (nxg (clo_cons (clo_cons hc0 kr21 (by decide)) kl21 (by decide)) k_h0 rfl) hP (fun _ h9 => h9) rfl 10 (by decide) (hts _ (wg_t kw_175)) (fun _ h9 => h9) (cd := (3, 0, 256)) rfl dDA_commit_204 (fun v37 hv37 => ?_)
                  obtain ⟨r33, rfl, kr33⟩ := (show ∃ r : Nat, v37 = .ref r ∧ T r = some (0, 256) from hv37)
                  refine lv_iload hx hb dDA_commit_207 (lv_at hl 0 rfl) ?_
                  refine lv_aload_n hx hb dDA_commit_209 rfl (lv_at hl 3 rfl) ?_
                  refine lv_aload_n hx hb dDA_commit_210 rfl (lv_at hl 2 rfl) ?_
                  refine ty_get (ci := 6) (C := "LatticeKeys$Dsa") (TT := T_DA) (N := 17) (kd := (15, 0)) hx hb hts (wg_ft i_DA) hown hK hO k_h0 (nxg (clo_cons (clo_cons hc0 kr21 (by decide)) kl21 (by decide)) k_h0 rfl) hP (fun _ h9 => h9) rfl 8 (by decide) (hts _ (wg_t kw_173)) (fun _ h9 => h9) (cd := (3, 3, 8)) rfl dDA_commit_211 (fun v38 hv38 => ?_)
                  obtain ⟨r34, rfl, kr34⟩ := (show ∃ r : Nat, v38 = .ref r ∧ T r = some (3, 8) from hv38)
                  refine lv_iload_n hx hb dDA_commit_214 rfl (lv_at hl 1 rfl) ?_
                  refine ty_aald3 hx hb hK hO kr34 (nxg (clo_cons (clo_cons hc0 kr21 (by decide)) kl21 (by decide)) kr34 rfl) hP (by omega) (by decide) dDA_commit_215 (fun r35 kr35 => ?_)
                  refine lv_iload hx hb dDA_commit_216 (lv_at hl 0 rfl) ?_
                  refine ty_iald hx hb hK hO kr35 (nxg (clo_cons (clo_cons hc0 kr21 (by decide)) kl21 (by decide)) kr35 rfl) hP (vp_in_nI (by omega) (by decide)) dDA_commit_218 (fun z21 => ?_)
                  refine mp_i (cx := []) (wr := [(r21, .inr (3, [.ref ln21, .int (nI 136), .int (nI 31), .int (nI ps23)])), (ln21, .inl (g.2.1 2, 25, .inr (.inl f23)))]) hP hD hS hA [] [0, 1] rfl rfl rfl (by decide) (va_runV (As := [.int z21]) (rest := [.int (nI i24), .ref r33]) F (t_DS_high_0 l g _ T (ln21 :: (r21 :: xs)) pl hO hU (clo_cons (clo_cons hc0 kr21 (by decide)) kl21 (by decide)) st z21 k_st) (cwV 1 hts (wg_app (wg_c kw_1206 (wg_c kw_1207 (wg_c kw_1208 (wg_c kw_8 wg_n)))) kw_1209) rfl rfl rfl (by decide +kernel) ⟨by decide, by decide⟩) (pp_VT (en_ok g) (ci := 2) (kd := (43, 0)) hK hO k_st (nxg (clo_cons (clo_cons hc0 kr21 (by decide)) kl21 (by decide)) k_st rfl) (fun _ h9 => ko1 h9) hP hD hS hA hE [] rfl rfl rfl) rfl rfl hl.1 rfl (lv_room (Nat.le_of_ble_eq_true rfl)) dDA_commit_219 ⟨by omega, by omega⟩) (fun r36 pl H locs hu28 hP hD hS => ?_)
                  obtain ⟨hq28, hO⟩ := hu28
                  have hP : va_P g.1 vcl ([(r21, .inr (3, [.ref ln21, .int (nI 136), .int (nI 31), .int (nI ps23)])), (ln21, .inl (g.2.1 2, 25, .inr (.inl f23)))] ++ pl) _ := hP
                  have hD : va_D _ ([(r21, .inr (3, [.ref ln21, .int (nI 136), .int (nI 31), .int (nI ps23)])), (ln21, .inl (g.2.1 2, 25, .inr (.inl f23)))] ++ pl) := hD
                  refine W.widen (k := 0) (n := 0) (by omega) (by omega) ?_
                  refine ty_iast hx hb hK hO kr33 (nxg (clo_cons (clo_cons hc0 kr21 (by decide)) kl21 (by decide)) kr33 rfl) hP hD hS (vp_in_nI (by omega) (by decide)) dDA_commit_222 (fun pl H locs hO hP hD hS => ?_)
                  refine mi_iinc (k := 0) (x := i24) (d := 1) (y := i24 + 1) (lv' := [(4, .int (nI (i24 + 1))), (3, .int (nI i23)), (0, .ref h0), (1, .ref st)]) hx hb dDA_commit_223 hl rfl (by decide) rfl (by decide) rfl (fun ls hl => ?_)
                  refine lv_goto (tgt := 195) hx hb dDA_commit_226 (by decide) ?_
                  exact ih24 (i24 + 1) pl ls H locs (by omega) (lv_sub hl [0, 1, 2, 3] rfl) hO hP hD hS
              exact lp24 256 0 pl ls _ _ (by omega) (lv_sub hl [0, 1, 2, 3] rfl) hO hP hD hS
          exact lp23 4 0 ps22 f22 pl ls _ _ (by omega) (by omega) (lv_sub hl [0, 1, 2] rfl) hO hP hD hS
        | succ n22 ih22 =>
          intro i22 pl ls H locs hm22  hl hO hP hD hS
          refine lv_iload_n hx hb dDA_commit_28 rfl (lv_at hl 0 rfl) ?_
          refine lv_aload_n hx hb dDA_commit_29 rfl (lv_at hl 2 rfl) ?_
          refine ty_get (ci := 2) (C := "LatticeKeys$DsaSet") (TT := T_DS) (N := 17) (kd := (43, 0)) hx hb hts (wg_ft i_DS) hown hK hO k_st (nxg hc0 k_st rfl) hP (fun _ h9 => h9) rfl 1 (by decide) (hts _ (wg_t kw_305)) (fun _ h9 => h9) (cd := (1, 0, 4)) rfl dDA_commit_30 (fun v39 hv39 => ?_)
          obtain rfl := (show v39 = .int (nI 4) from hv39)
          refine mi_ge (tgt := 165) hx hb dDA_commit_33 (by decide) (by omega) (by omega) (fun h27 => absurd h27 (by omega)) (fun h27 => ?_)
          refine lv_aload_n hx hb dDA_commit_36 rfl (lv_at hl 1 rfl) ?_
          refine ty_get (ci := 6) (C := "LatticeKeys$Dsa") (TT := T_DA) (N := 17) (kd := (15, 0)) hx hb hts (wg_ft i_DA) hown hK hO k_h0 (nxg hc0 k_h0 rfl) hP (fun _ h9 => h9) rfl 2 (by decide) (hts _ (wg_t kw_167)) (fun _ h9 => h9) (cd := (3, 14, 0)) rfl dDA_commit_37 (fun v40 hv40 => ?_)
          obtain ⟨r37, rfl, kr36⟩ := (show ∃ r : Nat, v40 = .ref r ∧ T r = some (14, 0) from hv40)
          refine lv_aload_n hx hb dDA_commit_40 rfl (lv_at hl 2 rfl) ?_
          refine lv_aload_n hx hb dDA_commit_41 rfl (lv_at hl 1 rfl) ?_
          refine ty_get (ci := 6) (C := "LatticeKeys$Dsa") (TT := T_DA) (N := 17) (kd := (15, 0)) hx hb hts (wg_ft i_DA) hown hK hO k_h0 (nxg hc0 k_h0 rfl) hP (fun _ h9 => h9) rfl 7 (by decide) (hts _ (wg_t kw_172)) (fun _ h9 => h9) (cd := (3, 3, 7)) rfl dDA_commit_42 (fun v41 hv41 => ?_)
          obtain ⟨r38, rfl, kr37⟩ := (show ∃ r : Nat, v41 = .ref r ∧ T r = some (3, 7) from hv41)
          refine lv_iload_n hx hb dDA_commit_45 rfl (lv_at hl 0 rfl) ?_
          refine ty_aald3 hx hb hK hO kr37 (nxg hc0 kr37 rfl) hP (by omega) (by decide) dDA_commit_46 (fun r39 kr38 => ?_)
          refine lv_aload_n hx hb dDA_commit_47 rfl (lv_at hl 1 rfl) ?_
          refine ty_get (ci := 6) (C := "LatticeKeys$Dsa") (TT := T_DA) (N := 17) (kd := (15, 0)) hx hb hts (wg_ft i_DA) hown hK hO k_h0 (nxg hc0 k_h0 rfl) hP (fun _ h9 => h9) rfl 11 (by decide) (hts _ (wg_t kw_176)) (fun _ h9 => h9) (cd := (3, 1, 128)) rfl dDA_commit_48 (fun v42 hv42 => ?_)
          obtain ⟨r40, rfl, kr39⟩ := (show ∃ r : Nat, v42 = .ref r ∧ T r = some (1, 128) from hv42)
          refine lv_iload_n hx hb dDA_commit_51 rfl (lv_at hl 3 rfl) ?_
          refine lv_iload_n hx hb dDA_commit_52 rfl (lv_at hl 0 rfl) ?_
          refine lv_iadd hx hb dDA_commit_53 ?_
          refine mi_any (fun z22 => ?_)
          refine mp_v (cx := []) (wr := []) hP hD hS hA [] [] rfl rfl rfl (by decide) (va_runV (As := [.ref st, .ref r39, .ref r40, .int z22]) (rest := []) F (t_SA_sampleMask_0 l g _ T xs pl hO hU hc0 hc4 r37 st r39 r40 128 z22 kr36 k_st kr38 kr39 (by omega) (by omega)) (cwV 4 hts (wg_app (wg_c kw_1196 (wg_c kw_1197 (wg_c kw_1198 (wg_c kw_6 wg_n)))) kw_1199) rfl rfl rfl (by decide +kernel) ⟨by decide, by decide⟩) (pp_VT (en_ok g) (ci := 7) (kd := (14, 0)) hK hO kr36 (nxg hc0 kr36 rfl) (fun _ h9 => ko1 h9) hP hD hS hA hE [] rfl rfl rfl) rfl rfl hl.1 rfl (lv_room (Nat.le_of_ble_eq_true rfl)) dDA_commit_54 ⟨by omega, by omega⟩) (fun  pl H locs hu29 hP hD hS => ?_)
          obtain ⟨hq29, hO⟩ := hu29
          have hP : va_P g.1 vcl ([] ++ pl) _ := hP
          have hD : va_D _ ([] ++ pl) := hD
          refine W.widen (k := 0) (n := 0) (by omega) (by omega) ?_
          refine lv_aload_n hx hb dDA_commit_57 rfl (lv_at hl 1 rfl) ?_
          refine ty_get (ci := 6) (C := "LatticeKeys$Dsa") (TT := T_DA) (N := 17) (kd := (15, 0)) hx hb hts (wg_ft i_DA) hown hK hO k_h0 (nxg hc0 k_h0 rfl) hP (fun _ h9 => h9) rfl 1 (by decide) (hts _ (wg_t kw_166)) (fun _ h9 => h9) (cd := (3, 12, 0)) rfl dDA_commit_58 (fun v43 hv43 => ?_)
          obtain ⟨r41, rfl, kr40⟩ := (show ∃ r : Nat, v43 = .ref r ∧ T r = some (12, 0) from hv43)
          refine lv_aload_n hx hb dDA_commit_61 rfl (lv_at hl 1 rfl) ?_
          refine ty_get (ci := 6) (C := "LatticeKeys$Dsa") (TT := T_DA) (N := 17) (kd := (15, 0)) hx hb hts (wg_ft i_DA) hown hK hO k_h0 (nxg hc0 k_h0 rfl) hP (fun _ h9 => h9) rfl 7 (by decide) (hts _ (wg_t kw_172)) (fun _ h9 => h9) (cd := (3, 3, 7)) rfl dDA_commit_62 (fun v44 hv44 => ?_)
          obtain ⟨r42, rfl, kr41⟩ := (show ∃ r : Nat, v44 = .ref r ∧ T r = some (3, 7) from hv44)
          refine lv_iload_n hx hb dDA_commit_65 rfl (lv_at hl 0 rfl) ?_
          refine ty_aald3 hx hb hK hO kr41 (nxg hc0 kr41 rfl) hP (by omega) (by decide) dDA_commit_66 (fun r43 kr42 => ?_)
          refine lv_aload_n hx hb dDA_commit_67 rfl (lv_at hl 2 rfl) ?_
          refine ty_get (ci := 2) (C := "LatticeKeys$DsaSet") (TT := T_DS) (N := 17) (kd := (43, 0)) hx hb hts (wg_ft i_DS) hown hK hO k_st (nxg hc0 k_st rfl) hP (fun _ h9 => h9) rfl 7 (by decide) (hts _ (wg_t kw_320)) (fun _ h9 => h9) (cd := (1, 0, 131072)) rfl dDA_commit_68 (fun v45 hv45 => ?_)
          obtain rfl := (show v45 = .int (nI 131072) from hv45)
          refine lv_aload_n hx hb dDA_commit_71 rfl (lv_at hl 1 rfl) ?_
          refine ty_get (ci := 6) (C := "LatticeKeys$Dsa") (TT := T_DA) (N := 17) (kd := (15, 0)) hx hb hts (wg_ft i_DA) hown hK hO k_h0 (nxg hc0 k_h0 rfl) hP (fun _ h9 => h9) rfl 7 (by decide) (hts _ (wg_t kw_172)) (fun _ h9 => h9) (cd := (3, 3, 7)) rfl dDA_commit_72 (fun v46 hv46 => ?_)
          obtain ⟨r44, rfl, kr43⟩ := (show ∃ r : Nat, v46 = .ref r ∧ T r = some (3, 7) from hv46)
          refine lv_iload_n hx hb dDA_commit_75 rfl (lv_at hl 0 rfl) ?_
          refine ty_aald3 hx hb hK hO kr43 (nxg hc0 kr43 rfl) hP (by omega) (by decide) dDA_commit_76 (fun r45 kr44 => ?_)
          refine mp_v (cx := []) (wr := []) hP hD hS hA [] [] rfl rfl rfl (by decide) (va_runV (As := [.ref r43, .int (nI 131072), .ref r45]) (rest := []) F (t_RG_flip_12 l g _ T xs pl hO hU hc0 r41 r43 r45 (nI 131072) kr40 kr42 kr44) (cwV 3 hts (wg_app (wg_c kw_698 (wg_c kw_699 (wg_c kw_700 (wg_c kw_4 wg_n)))) kw_701) rfl rfl rfl (by decide +kernel) ⟨by decide, by decide⟩) (pp_VT (en_ok g) (ci := 4) (kd := (12, 0)) hK hO kr40 (nxg hc0 kr40 rfl) (fun _ h9 => ko1 h9) hP hD hS hA hE [] rfl rfl rfl) rfl rfl hl.1 rfl (lv_room (Nat.le_of_ble_eq_true rfl)) dDA_commit_77 ⟨by omega, by omega⟩) (fun  pl H locs hu30 hP hD hS => ?_)
          obtain ⟨hq30, hO⟩ := hu30
          have hP : va_P g.1 vcl ([] ++ pl) _ := hP
          have hD : va_D _ ([] ++ pl) := hD
          refine W.widen (k := 0) (n := 0) (by omega) (by omega) ?_
          refine lv_aload_n hx hb dDA_commit_80 rfl (lv_at hl 1 rfl) ?_
          refine ty_get (ci := 6) (C := "LatticeKeys$Dsa") (TT := T_DA) (N := 17) (kd := (15, 0)) hx hb hts (wg_ft i_DA) hown hK hO k_h0 (nxg hc0 k_h0 rfl) hP (fun _ h9 => h9) rfl 7 (by decide) (hts _ (wg_t kw_172)) (fun _ h9 => h9) (cd := (3, 3, 7)) rfl dDA_commit_81 (fun v47 hv47 => ?_)
          obtain ⟨r46, rfl, kr45⟩ := (show ∃ r : Nat, v47 = .ref r ∧ T r = some (3, 7) from hv47)
          refine lv_iload_n hx hb dDA_commit_84 rfl (lv_at hl 0 rfl) ?_
          refine ty_aald3 hx hb hK hO kr45 (nxg hc0 kr45 rfl) hP (by omega) (by decide) dDA_commit_85 (fun r47 kr46 => ?_)
          refine lv_iconst (v := nI 0) hx hb dDA_commit_86 (by decide) ?_
          refine lv_aload_n hx hb dDA_commit_87 rfl (lv_at hl 1 rfl) ?_
          refine ty_get (ci := 6) (C := "LatticeKeys$Dsa") (TT := T_DA) (N := 17) (kd := (15, 0)) hx hb hts (wg_ft i_DA) hown hK hO k_h0 (nxg hc0 k_h0 rfl) hP (fun _ h9 => h9) rfl 10 (by decide) (hts _ (wg_t kw_175)) (fun _ h9 => h9) (cd := (3, 0, 256)) rfl dDA_commit_88 (fun v48 hv48 => ?_)
          obtain ⟨r48, rfl, kr47⟩ := (show ∃ r : Nat, v48 = .ref r ∧ T r = some (0, 256) from hv48)
          refine lv_iconst (v := nI 0) hx hb dDA_commit_91 (by decide) ?_
          refine lv_sipush (v := nI 256) hx hb dDA_commit_92 (by decide) ?_
          refine ty_copyi hx hb (hml.trans hl.1.symm) hown (hts _ (wg_t kw_674)) (hts _ (wg_t kw_526)) (hts _ (wg_t kw_525)) (hts _ (wg_t kw_19)) hK hO kr46 (nxg hc0 kr46 rfl) kr47 (nxg hc0 kr47 rfl) hP hD hS (sp := 0) (dp := 0) (n := 256) (by omega) (by omega) (by omega) (by decide) (Nat.le_of_ble_eq_true rfl) dDA_commit_95 (fun pl H locs hO hP hD hS => ?_)
          refine lv_aload_n hx hb dDA_commit_98 rfl (lv_at hl 1 rfl) ?_
          refine ty_get (ci := 6) (C := "LatticeKeys$Dsa") (TT := T_DA) (N := 17) (kd := (15, 0)) hx hb hts (wg_ft i_DA) hown hK hO k_h0 (nxg hc0 k_h0 rfl) hP (fun _ h9 => h9) rfl 1 (by decide) (hts _ (wg_t kw_166)) (fun _ h9 => h9) (cd := (3, 12, 0)) rfl dDA_commit_99 (fun v49 hv49 => ?_)
          obtain ⟨r49, rfl, kr48⟩ := (show ∃ r : Nat, v49 = .ref r ∧ T r = some (12, 0) from hv49)
          refine lv_aload_n hx hb dDA_commit_102 rfl (lv_at hl 1 rfl) ?_
          refine ty_get (ci := 6) (C := "LatticeKeys$Dsa") (TT := T_DA) (N := 17) (kd := (15, 0)) hx hb hts (wg_ft i_DA) hown hK hO k_h0 (nxg hc0 k_h0 rfl) hP (fun _ h9 => h9) rfl 10 (by decide) (hts _ (wg_t kw_175)) (fun _ h9 => h9) (cd := (3, 0, 256)) rfl dDA_commit_103 (fun v50 hv50 => ?_)
          obtain ⟨r50, rfl, kr49⟩ := (show ∃ r : Nat, v50 = .ref r ∧ T r = some (0, 256) from hv50)
          refine mp_v (cx := []) (wr := []) hP hD hS hA [] [] rfl rfl rfl (by decide) (va_runV (As := [.ref r50]) (rest := []) F (t_RG_transform_12 l g _ T xs pl hO hU hc0 r49 r50 kr48 kr49) (cwV 1 hts (wg_app (wg_c kw_711 (wg_c kw_637 (wg_c kw_638 (wg_c kw_4 wg_n)))) kw_639) rfl rfl rfl (by decide +kernel) ⟨by decide, by decide⟩) (pp_VT (en_ok g) (ci := 4) (kd := (12, 0)) hK hO kr48 (nxg hc0 kr48 rfl) (fun _ h9 => ko1 h9) hP hD hS hA hE [] rfl rfl rfl) rfl rfl hl.1 rfl (lv_room (Nat.le_of_ble_eq_true rfl)) dDA_commit_106 ⟨by omega, by omega⟩) (fun  pl H locs hu31 hP hD hS => ?_)
          obtain ⟨hq31, hO⟩ := hu31
          have hP : va_P g.1 vcl ([] ++ pl) _ := hP
          have hD : va_D _ ([] ++ pl) := hD
          refine W.widen (k := 0) (n := 0) (by omega) (by omega) ?_
          refine lv_iconst (v := nI 0) hx hb dDA_commit_109 (by decide) ?_
          refine lv_istore (lv' := [(4, .int (nI 0)), (3, .int (nI i22)), (0, .ref h0), (1, .ref st), (2, .int cn)]) hx hb dDA_commit_110 hl (by decide) rfl (fun ls hl => ?_)
          have lp25 : ∀ (n25 : Nat) (i25 : Nat) (pl : va_W) (ls : Array Slot) (H : Heap) (locs : List Loc), n25 + i25 = 4 → lv_has ls 5 [(4, .int (nI i25)), (3, .int (nI i22)), (0, .ref h0), (1, .ref st), (2, .int cn)] → okx g T xs pl → va_P g.1 vcl ([] ++ pl) H → va_D A ([] ++ pl) → va_S A s.heap H locs → W p l e ({ frames := 5, cells := 0, slots := 0, locals := 147 } : Room) s m args below meth c H locs 0 0 (MQ below (va_Qv (fun (u : va_W) => (True) ∧ okx g T xs u) (po g.1 vcl A (fun (u : va_W) => [] ++ u)) A) args s 0 0 A) (F0 m 112 ls []) := by
            intro n25
            induction n25 with
            | zero =>
              intro i25 pl ls H locs hm25  hl hO hP hD hS
              refine lv_iload hx hb dDA_commit_112 (lv_at hl 0 rfl) ?_
              refine lv_aload_n hx hb dDA_commit_114 rfl (lv_at hl 3 rfl) ?_
              refine ty_get (ci := 2) (C := "LatticeKeys$DsaSet") (TT := T_DS) (N := 17) (kd := (43, 0)) hx hb hts (wg_ft i_DS) hown hK hO k_st (nxg hc0 k_st rfl) hP (fun _ h9 => h9) rfl 0 (by decide) (hts _ (wg_t kw_302)) (fun _ h9 => h9) (cd := (1, 0, 4)) rfl dDA_commit_115 (fun v51 hv51 => ?_)
              obtain rfl := (show v51 = .int (nI 4) from hv51)
              refine mi_ge (tgt := 159) hx hb dDA_commit_118 (by decide) (by omega) (by omega) (fun h28 => ?_) (fun h28 => absurd h28 (by omega))
              refine mi_iinc (k := 1) (x := i22) (d := 1) (y := i22 + 1) (lv' := [(3, .int (nI (i22 + 1))), (4, .int (nI i25)), (0, .ref h0), (1, .ref st), (2, .int cn)]) hx hb dDA_commit_159 hl rfl (by decide) rfl (by decide) rfl (fun ls hl => ?_)
              refine lv_goto (tgt := 28) hx hb dDA_commit_162 (by decide) ?_
              exact ih22 (i22 + 1) pl ls H locs (by omega) (lv_sub hl [0, 2, 3, 4] rfl) hO hP hD hS
            | succ n25 ih25 =>
              intro i25 pl ls H locs hm25  hl hO hP hD hS
              refine lv_iload hx hb dDA_commit_112 (lv_at hl 0 rfl) ?_
              refine lv_aload_n hx hb dDA_commit_114 rfl (lv_at hl 3 rfl) ?_
              refine ty_get (ci := 2) (C := "LatticeKeys$DsaSet") (TT := T_DS) (N := 17) (kd := (43, 0)) hx hb hts (wg_ft i_DS) hown hK hO k_st (nxg hc0 k_st rfl) hP (fun _ h9 => h9) rfl 0 (by decide) (hts _ (wg_t kw_302)) (fun _ h9 => h9) (cd := (1, 0, 4)) rfl dDA_commit_115 (fun v52 hv52 => ?_)
              obtain rfl := (show v52 = .int (nI 4) from hv52)
              refine mi_ge (tgt := 159) hx hb dDA_commit_118 (by decide) (by omega) (by omega) (fun h29 => absurd h29 (by omega)) (fun h29 => ?_)
              refine lv_aload_n hx hb dDA_commit_121 rfl (lv_at hl 2 rfl) ?_
              refine ty_get (ci := 6) (C := "LatticeKeys$Dsa") (TT := T_DA) (N := 17) (kd := (15, 0)) hx hb hts (wg_ft i_DA) hown hK hO k_h0 (nxg hc0 k_h0 rfl) hP (fun _ h9 => h9) rfl 1 (by decide) (hts _ (wg_t kw_166)) (fun _ h9 => h9) (cd := (3, 12, 0)) rfl dDA_commit_122 (fun v53 hv53 => ?_)
              obtain ⟨r51, rfl, kr50⟩ := (show ∃ r : Nat, v53 = .ref r ∧ T r = some (12, 0) from hv53)
              refine lv_aload_n hx hb dDA_commit_125 rfl (lv_at hl 2 rfl) ?_
              refine ty_get (ci := 6) (C := "LatticeKeys$Dsa") (TT := T_DA) (N := 17) (kd := (15, 0)) hx hb hts (wg_ft i_DA) hown hK hO k_h0 (nxg hc0 k_h0 rfl) hP (fun _ h9 => h9) rfl 8 (by decide) (hts _ (wg_t kw_173)) (fun _ h9 => h9) (cd := (3, 3, 8)) rfl dDA_commit_126 (fun v54 hv54 => ?_)
              obtain ⟨r52, rfl, kr51⟩ := (show ∃ r : Nat, v54 = .ref r ∧ T r = some (3, 8) from hv54)
              refine lv_iload hx hb dDA_commit_129 (lv_at hl 0 rfl) ?_
              refine ty_aald3 hx hb hK hO kr51 (nxg hc0 kr51 rfl) hP (by omega) (by decide) dDA_commit_131 (fun r53 kr52 => ?_)
              refine lv_aload_n hx hb dDA_commit_132 rfl (lv_at hl 2 rfl) ?_
              refine ty_get (ci := 6) (C := "LatticeKeys$Dsa") (TT := T_DA) (N := 17) (kd := (15, 0)) hx hb hts (wg_ft i_DA) hown hK hO k_h0 (nxg hc0 k_h0 rfl) hP (fun _ h9 => h9) rfl 3 (by decide) (hts _ (wg_t kw_168)) (fun _ h9 => h9) (cd := (3, 3, 56)) rfl dDA_commit_133 (fun v55 hv55 => ?_)
              obtain ⟨r54, rfl, kr53⟩ := (show ∃ r : Nat, v55 = .ref r ∧ T r = some (3, 56) from hv55)
              refine lv_aload_n hx hb dDA_commit_136 rfl (lv_at hl 3 rfl) ?_
              refine ty_get (ci := 2) (C := "LatticeKeys$DsaSet") (TT := T_DS) (N := 17) (kd := (43, 0)) hx hb hts (wg_ft i_DS) hown hK hO k_st (nxg hc0 k_st rfl) hP (fun _ h9 => h9) rfl 1 (by decide) (hts _ (wg_t kw_305)) (fun _ h9 => h9) (cd := (1, 0, 4)) rfl dDA_commit_137 (fun v56 hv56 => ?_)
              obtain rfl := (show v56 = .int (nI 4) from hv56)
              refine lv_iload hx hb dDA_commit_140 (lv_at hl 0 rfl) ?_
              refine mi_imul hx hb dDA_commit_142 ?_
              refine lv_iload_n hx hb dDA_commit_143 rfl (lv_at hl 1 rfl) ?_
              refine mi_iadd hx hb dDA_commit_144 ?_
              refine ty_aald3 hx hb hK hO kr53 (nxg hc0 kr53 rfl) hP (by omega) (by decide) dDA_commit_145 (fun r55 kr54 => ?_)
              refine lv_aload_n hx hb dDA_commit_146 rfl (lv_at hl 2 rfl) ?_
              refine ty_get (ci := 6) (C := "LatticeKeys$Dsa") (TT := T_DA) (N := 17) (kd := (15, 0)) hx hb hts (wg_ft i_DA) hown hK hO k_h0 (nxg hc0 k_h0 rfl) hP (fun _ h9 => h9) rfl 10 (by decide) (hts _ (wg_t kw_175)) (fun _ h9 => h9) (cd := (3, 0, 256)) rfl dDA_commit_147 (fun v57 hv57 => ?_)
              obtain ⟨r56, rfl, kr55⟩ := (show ∃ r : Nat, v57 = .ref r ∧ T r = some (0, 256) from hv57)
              refine mp_v (cx := []) (wr := []) hP hD hS hA [] [] rfl rfl rfl (by decide) (va_runV (As := [.ref r53, .ref r55, .ref r56]) (rest := []) F (t_RG_addProduct_12 l g _ T xs pl hO hU hc0 r51 r53 r55 r56 kr50 kr52 kr54 kr55) (cwV 3 hts (wg_app (wg_c kw_719 (wg_c kw_654 (wg_c kw_655 (wg_c kw_4 wg_n)))) kw_656) rfl rfl rfl (by decide +kernel) ⟨by decide, by decide⟩) (pp_VT (en_ok g) (ci := 4) (kd := (12, 0)) hK hO kr50 (nxg hc0 kr50 rfl) (fun _ h9 => ko1 h9) hP hD hS hA hE [] rfl rfl rfl) rfl rfl hl.1 rfl (lv_room (Nat.le_of_ble_eq_true rfl)) dDA_commit_150 ⟨by omega, by omega⟩) (fun  pl H locs hu32 hP hD hS => ?_)
              obtain ⟨hq32, hO⟩ := hu32
              have hP : va_P g.1 vcl ([] ++ pl) _ := hP
              have hD : va_D _ ([] ++ pl) := hD
              refine W.widen (k := 0) (n := 0) (by omega) (by omega) ?_
              refine mi_iinc (k := 0) (x := i25) (d := 1) (y := i25 + 1) (lv' := [(4, .int (nI (i25 + 1))), (3, .int (nI i22)), (0, .ref h0), (1, .ref st), (2, .int cn)]) hx hb dDA_commit_153 hl rfl (by decide) rfl (by decide) rfl (fun ls hl => ?_)
              refine lv_goto (tgt := 112) hx hb dDA_commit_156 (by decide) ?_
              exact ih25 (i25 + 1) pl ls H locs (by omega) (lv_sub hl [0, 1, 2, 3, 4] rfl) hO hP hD hS
          exact lp25 4 0 pl ls _ _ (by omega) (lv_sub hl [0, 1, 2, 3, 4] rfl) hO hP hD hS
      exact lp22 4 0 pl ls _ _ (by omega) (lv_sub hl [0, 1, 2, 3] rfl) hO hP hD hS
    | succ n21 ih21 =>
      intro i21 pl ls H locs hm21  hl hO hP hD hS
      refine lv_iload_n hx hb dDA_commit_2 rfl (lv_at hl 0 rfl) ?_
      refine lv_aload_n hx hb dDA_commit_3 rfl (lv_at hl 2 rfl) ?_
      refine ty_get (ci := 2) (C := "LatticeKeys$DsaSet") (TT := T_DS) (N := 17) (kd := (43, 0)) hx hb hts (wg_ft i_DS) hown hK hO k_st (nxg hc0 k_st rfl) hP (fun _ h9 => h9) rfl 0 (by decide) (hts _ (wg_t kw_302)) (fun _ h9 => h9) (cd := (1, 0, 4)) rfl dDA_commit_4 (fun v58 hv58 => ?_)
      obtain rfl := (show v58 = .int (nI 4) from hv58)
      refine mi_ge (tgt := 26) hx hb dDA_commit_7 (by decide) (by omega) (by omega) (fun h30 => absurd h30 (by omega)) (fun h30 => ?_)
      refine lv_aload_n hx hb dDA_commit_10 rfl (lv_at hl 1 rfl) ?_
      refine ty_get (ci := 6) (C := "LatticeKeys$Dsa") (TT := T_DA) (N := 17) (kd := (15, 0)) hx hb hts (wg_ft i_DA) hown hK hO k_h0 (nxg hc0 k_h0 rfl) hP (fun _ h9 => h9) rfl 8 (by decide) (hts _ (wg_t kw_173)) (fun _ h9 => h9) (cd := (3, 3, 8)) rfl dDA_commit_11 (fun v59 hv59 => ?_)
      obtain ⟨r57, rfl, kr56⟩ := (show ∃ r : Nat, v59 = .ref r ∧ T r = some (3, 8) from hv59)
      refine lv_iload_n hx hb dDA_commit_14 rfl (lv_at hl 0 rfl) ?_
      refine ty_aald3 hx hb hK hO kr56 (nxg hc0 kr56 rfl) hP (by omega) (by decide) dDA_commit_15 (fun r58 kr57 => ?_)
      refine lv_iconst (v := nI 0) hx hb dDA_commit_16 (by decide) ?_
      refine mp_v (cx := []) (wr := []) hP hD hS hA [] [] rfl rfl rfl (by decide) (va_runS (As := [.ref r58, .int (nI 0)]) (rest := []) F (t_fillI l g _ T xs pl hO hU hc0 r58 256 (nI 0) kr57 (by omega)) (va_cwS 2 hts (wg_app (wg_c kw_716 (wg_c kw_717 (wg_c kw_21 wg_n))) kw_718) rfl rfl rfl (by decide +kernel) ⟨by decide, by decide⟩) (pp_S (en_ok g) hP hD hS hA hE [] rfl rfl) rfl rfl hl.1 rfl (lv_room (Nat.le_of_ble_eq_true rfl)) dDA_commit_17 ⟨by omega, by omega⟩) (fun  pl H locs hu33 hP hD hS => ?_)
      obtain ⟨hq33, hO⟩ := hu33
      have hP : va_P g.1 vcl ([] ++ pl) _ := hP
      have hD : va_D _ ([] ++ pl) := hD
      refine W.widen (k := 0) (n := 0) (by omega) (by omega) ?_
      refine mi_iinc (k := 0) (x := i21) (d := 1) (y := i21 + 1) (lv' := [(3, .int (nI (i21 + 1))), (0, .ref h0), (1, .ref st), (2, .int cn)]) hx hb dDA_commit_20 hl rfl (by decide) rfl (by decide) rfl (fun ls hl => ?_)
      refine lv_goto (tgt := 2) hx hb dDA_commit_23 (by decide) ?_
      exact ih21 (i21 + 1) pl ls H locs (by omega) (lv_sub hl [0, 1, 2, 3] rfl) hO hP hD hS
  exact lp21 4 0 pl ls _ _ (by omega) (lv_sub hl [0, 1, 2, 3] rfl) hO hP hD hS
set_option maxHeartbeats 400000 in
set_option maxRecDepth 100000 in
theorem t_DA_commit_1 (l : Launch) (g : Gd) (sz : Nat) (T : Ty) (xs : List Nat) (pl : va_W) (hO : okx g T xs pl) (hU : uni T) (hc0 : clo T xs 0) (hc3 : clo T xs 3) (hc4 : clo T xs 4) (h0 st : Nat) (cn : Int32) (k_h0 : T h0 = some (15, 0)) (k_st : T st = some (44, 0))  : Met l y_DA_commit w_DA_commit ({ frames := 5, cells := 0, slots := 0, locals := 147 } : Room) (va_Pc [.ref h0, .ref st, .int cn] (pr (en g) g.1 vcl sz ([] ++ pl))) (va_Qv (fun (u : va_W) => (True) ∧ okx g T xs u) (po g.1 vcl (va_A ([] ++ pl) sz) (fun (u : va_W) => [] ++ u)) (va_A ([] ++ pl) sz)) 0 0 (va_A ([] ++ pl) sz) := by
  refine mc_entry (cc := c_DA_commit) (maxL := 5) (ret := none) (by decide) rfl (Nat.le_of_ble_eq_true rfl) ?_
  intro p e s m args below meth c ls F hr hlk hnm hsz hP hD hE hA hl
  obtain ⟨hx, hb, hml, hown, hts⟩ := id F
  have hK := hE.1
  generalize va_A ([] ++ pl) sz = A at hD hE hA ⊢
  have hS : va_S A s.heap s.heap [] := va_S.rf
  have hl : lv_has ls 5 [(0, .ref h0), (1, .ref st), (2, .int cn)] := hl
  refine lv_iconst (v := nI 0) hx hb dDA_commit_0 (by decide) ?_
  refine lv_istore_n (lv' := [(3, .int (nI 0)), (0, .ref h0), (1, .ref st), (2, .int cn)]) hx hb dDA_commit_1 rfl hl (by decide) rfl (fun ls hl => ?_)
  have lp21 : ∀ (n21 : Nat) (i21 : Nat) (pl : va_W) (ls : Array Slot) (H : Heap) (locs : List Loc), n21 + i21 = 6 → lv_has ls 5 [(3, .int (nI i21)), (0, .ref h0), (1, .ref st), (2, .int cn)] → okx g T xs pl → va_P g.1 vcl ([] ++ pl) H → va_D A ([] ++ pl) → va_S A s.heap H locs → W p l e ({ frames := 5, cells := 0, slots := 0, locals := 147 } : Room) s m args below meth c H locs 0 0 (MQ below (va_Qv (fun (u : va_W) => (True) ∧ okx g T xs u) (po g.1 vcl A (fun (u : va_W) => [] ++ u)) A) args s 0 0 A) (F0 m 2 ls []) := by
    intro n21
    induction n21 with
    | zero =>
      intro i21 pl ls H locs hm21  hl hO hP hD hS
      refine lv_iload_n hx hb dDA_commit_2 rfl (lv_at hl 0 rfl) ?_
      refine lv_aload_n hx hb dDA_commit_3 rfl (lv_at hl 2 rfl) ?_
      refine ty_get (ci := 2) (C := "LatticeKeys$DsaSet") (TT := T_DS) (N := 17) (kd := (44, 0)) hx hb hts (wg_ft i_DS) hown hK hO k_st (nxg hc0 k_st rfl) hP (fun _ h9 => h9) rfl 0 (by decide) (hts _ (wg_t kw_302)) (fun _ h9 => h9) (cd := (1, 0, 6)) rfl dDA_commit_4 (fun v21 hv21 => ?_)
      obtain rfl := (show v21 = .int (nI 6) from hv21)
      refine mi_ge (tgt := 26) hx hb dDA_commit_7 (by decide) (by omega) (by omega) (fun h21 => ?_) (fun h21 => absurd h21 (by omega))
      refine lv_iconst (v := nI 0) hx hb dDA_commit_26 (by decide) ?_
      refine lv_istore_n (lv' := [(3, .int (nI 0)), (0, .ref h0), (1, .ref st), (2, .int cn)]) hx hb dDA_commit_27 rfl hl (by decide) rfl (fun ls hl => ?_)
      have lp22 : ∀ (n22 : Nat) (i22 : Nat) (pl : va_W) (ls : Array Slot) (H : Heap) (locs : List Loc), n22 + i22 = 5 → lv_has ls 5 [(3, .int (nI i22)), (0, .ref h0), (1, .ref st), (2, .int cn)] → okx g T xs pl → va_P g.1 vcl ([] ++ pl) H → va_D A ([] ++ pl) → va_S A s.heap H locs → W p l e ({ frames := 5, cells := 0, slots := 0, locals := 147 } : Room) s m args below meth c H locs 0 0 (MQ below (va_Qv (fun (u : va_W) => (True) ∧ okx g T xs u) (po g.1 vcl A (fun (u : va_W) => [] ++ u)) A) args s 0 0 A) (F0 m 28 ls []) := by
        intro n22
        induction n22 with
        | zero =>
          intro i22 pl ls H locs hm22  hl hO hP hD hS
          refine lv_iload_n hx hb dDA_commit_28 rfl (lv_at hl 0 rfl) ?_
          refine lv_aload_n hx hb dDA_commit_29 rfl (lv_at hl 2 rfl) ?_
          refine ty_get (ci := 2) (C := "LatticeKeys$DsaSet") (TT := T_DS) (N := 17) (kd := (44, 0)) hx hb hts (wg_ft i_DS) hown hK hO k_st (nxg hc0 k_st rfl) hP (fun _ h9 => h9) rfl 1 (by decide) (hts _ (wg_t kw_305)) (fun _ h9 => h9) (cd := (1, 0, 5)) rfl dDA_commit_30 (fun v22 hv22 => ?_)
          obtain rfl := (show v22 = .int (nI 5) from hv22)
          refine mi_ge (tgt := 165) hx hb dDA_commit_33 (by decide) (by omega) (by omega) (fun h22 => ?_) (fun h22 => absurd h22 (by omega))
          refine lv_aload_n hx hb dDA_commit_165 rfl (lv_at hl 1 rfl) ?_
          obtain ⟨q21, fs21, -, hf21⟩ := ty_obj (X := []) hO k_h0 (nxg hc0 k_h0 rfl) (fun _ h9 => h9)
          obtain ⟨v23, -, hv23⟩ := fall_get hf21 (j := 0) (c := (3, 10, 2)) rfl
          obtain ⟨r21, -, kr21⟩ := (show ∃ r : Nat, v23 = .ref r ∧ T r = some (10, 2) from hv23)
          obtain ⟨e21, pl, hP, hD, hk21, hO⟩ := open1 hP hD hO kr21 (nxg hc3 kr21 rfl)
          obtain ⟨ln21, rt21, ps21, x21, rfl, kl21, hr21, hr22, hr23⟩ := hk21
          have kl21 : T ln21 = some (19, 2) := kl21
          obtain ⟨e22, pl, hP, hD, hk22, hO⟩ := open1 hP hD hO kl21 (nmc (knd_ne kl21 kr21 (by decide)) (nxg hc3 kl21 rfl))
          obtain ⟨f21, rfl⟩ := hk22
          have hP : va_P g.1 vcl ([(r21, .inr (3, [.ref ln21, .int (nI rt21), .int x21, .int (nI ps21)])), (ln21, .inl (g.2.1 2, 25, .inr (.inl f21)))] ++ pl) _ := hP
          have hD : va_D _ ([(r21, .inr (3, [.ref ln21, .int (nI rt21), .int x21, .int (nI ps21)])), (ln21, .inl (g.2.1 2, 25, .inr (.inl f21)))] ++ pl) := hD
          refine mp_v (cx := [(r21, .inr (3, [.ref ln21, .int (nI rt21), .int x21, .int (nI ps21)])), (ln21, .inl (g.2.1 2, 25, .inr (.inl f21)))]) (wr := []) hP hD hS hA [0, 1] [] rfl rfl rfl (by decide) (va_runV (As := []) (rest := []) F (t_DA_startChallenge l g _ T (ln21 :: (r21 :: xs)) pl hO hU (clo_cons (clo_cons hc0 kr21 (by decide)) kl21 (by decide)) r21 h0 ln21 rt21 ps21 x21 f21 kr21 k_h0) (cwV 0 hts (wg_app (wg_c kw_1202 (wg_c kw_1204 (wg_c ks_38 (wg_c kw_5 wg_n)))) kw_1205) rfl rfl rfl (by decide +kernel) ⟨by decide, by decide⟩) (pp_VT (en_ok g) (ci := 6) (kd := (15, 0)) hK hO k_h0 (nxg (clo_cons (clo_cons hc0 kr21 (by decide)) kl21 (by decide)) k_h0 rfl) (fun _ h9 => ko1 h9) hP hD hS hA hE [0, 1] rfl rfl rfl) rfl rfl hl.1 rfl (lv_room (Nat.le_of_ble_eq_true rfl)) dDA_commit_166 ⟨by omega, by omega⟩) (fun  u21 H locs hu21 hP hD hS => ?_)
          obtain ⟨u22, pl⟩ := u21
          obtain ⟨hq21, hO⟩ := hu21
          obtain ⟨ps22, f22⟩ := u22
          have hP : va_P g.1 vcl ([(r21, .inr (3, [.ref ln21, .int (nI 136), .int (nI 31), .int (nI ps22)])), (ln21, .inl (g.2.1 2, 25, .inr (.inl f22)))] ++ pl) _ := hP
          have hD : va_D _ ([(r21, .inr (3, [.ref ln21, .int (nI 136), .int (nI 31), .int (nI ps22)])), (ln21, .inl (g.2.1 2, 25, .inr (.inl f22)))] ++ pl) := hD
          have hq21 : ps22 < 136 := hq21
          refine W.widen (k := 0) (n := 0) (by omega) (by omega) ?_
          refine lv_iconst (v := nI 0) hx hb dDA_commit_169 (by decide) ?_
          refine lv_istore_n (lv' := [(3, .int (nI 0)), (0, .ref h0), (1, .ref st), (2, .int cn)]) hx hb dDA_commit_170 rfl hl (by decide) rfl (fun ls hl => ?_)
          have lp23 : ∀ (n23 : Nat) (i23 : Nat) (ps23 : Nat) (f23 : Nat → Int64) (pl : va_W) (ls : Array Slot) (H : Heap) (locs : List Loc), n23 + i23 = 6 → (ps23 < 136) → lv_has ls 5 [(3, .int (nI i23)), (0, .ref h0), (1, .ref st)] → okx g T (ln21 :: (r21 :: xs)) pl → va_P g.1 vcl ([(r21, .inr (3, [.ref ln21, .int (nI 136), .int (nI 31), .int (nI ps23)])), (ln21, .inl (g.2.1 2, 25, .inr (.inl f23)))] ++ pl) H → va_D A ([(r21, .inr (3, [.ref ln21, .int (nI 136), .int (nI 31), .int (nI ps23)])), (ln21, .inl (g.2.1 2, 25, .inr (.inl f23)))] ++ pl) → va_S A s.heap H locs → W p l e ({ frames := 5, cells := 0, slots := 0, locals := 147 } : Room) s m args below meth c H locs 0 0 (MQ below (va_Qv (fun (u : va_W) => (True) ∧ okx g T xs u) (po g.1 vcl A (fun (u : va_W) => [] ++ u)) A) args s 0 0 A) (F0 m 171 ls []) := by
            intro n23
            induction n23 with
            | zero =>
              intro i23 ps23 f23 pl ls H locs hm23 hi21 hl hO hP hD hS
              refine lv_iload_n hx hb dDA_commit_171 rfl (lv_at hl 0 rfl) ?_
              refine lv_aload_n hx hb dDA_commit_172 rfl (lv_at hl 2 rfl) ?_
              refine ty_get (ci := 2) (C := "LatticeKeys$DsaSet") (TT := T_DS) (N := 17) (kd := (44, 0)) hx hb hts (wg_ft i_DS) hown hK hO k_st (nxg (clo_cons (clo_cons hc0 kr21 (by decide)) kl21 (by decide)) k_st rfl) hP (fun _ h9 => h9) rfl 0 (by decide) (hts _ (wg_t kw_302)) (fun _ h9 => h9) (cd := (1, 0, 6)) rfl dDA_commit_173 (fun v24 hv24 => ?_)
              obtain rfl := (show v24 = .int (nI 6) from hv24)
              refine mi_ge (tgt := 240) hx hb dDA_commit_176 (by decide) (by omega) (by omega) (fun h23 => ?_) (fun h23 => absurd h23 (by omega))
              refine lv_aload_n hx hb dDA_commit_240 rfl (lv_at hl 1 rfl) ?_
              refine ty_get (ci := 6) (C := "LatticeKeys$Dsa") (TT := T_DA) (N := 17) (kd := (15, 0)) hx hb hts (wg_ft i_DA) hown hK hO k_h0 (nxg (clo_cons (clo_cons hc0 kr21 (by decide)) kl21 (by decide)) k_h0 rfl) hP (fun _ h9 => h9) rfl 0 (by decide) (hts _ (wg_t kw_165)) (fun _ h9 => h9) (cd := (3, 10, 2)) rfl dDA_commit_241 (fun v25 hv25 => ?_)
              obtain ⟨r22, rfl, kr22⟩ := (show ∃ r : Nat, v25 = .ref r ∧ T r = some (10, 2) from hv25)
              obtain rfl : r21 = r22 := hU _ _ _ (by decide) kr21 kr22
              refine mp_v (cx := [(r21, .inr (3, [.ref ln21, .int (nI 136), .int (nI 31), .int (nI ps23)])), (ln21, .inl (g.2.1 2, 25, .inr (.inl f23)))]) (wr := []) hP hD hS hA [0, 1] [] rfl rfl rfl (by decide) (va_runV (As := []) (rest := []) F (t_SP_finish l g _ T (ln21 :: (r21 :: xs)) pl hO hU  r21 ln21 136 ps23 (nI 31) f23 (by omega) (by omega)) (cwV 0 hts (wg_app (wg_c kw_672 (wg_c kw_611 (wg_c kw_612 (wg_c kw_2 wg_n)))) kw_613) rfl rfl rfl (by decide +kernel) ⟨by decide, by decide⟩) (pp_V (en_ok g) (q0 := 0) hK hP hD hS hA hE [0, 1] rfl rfl rfl rfl) rfl rfl hl.1 rfl (lv_room (Nat.le_of_ble_eq_true rfl)) dDA_commit_244 ⟨by omega, by omega⟩) (fun  u23 H locs hu22 hP hD hS => ?_)
              obtain ⟨u24, pl⟩ := u23
              obtain ⟨hq22, hO⟩ := hu22
              have hP : va_P g.1 vcl ([(r21, .inr (3, [.ref ln21, .int (nI 136), .int (nI 31), .int (nI 136)])), (ln21, .inl (g.2.1 2, 25, .inr (.inl u24)))] ++ pl) _ := hP
              have hD : va_D _ ([(r21, .inr (3, [.ref ln21, .int (nI 136), .int (nI 31), .int (nI 136)])), (ln21, .inl (g.2.1 2, 25, .inr (.inl u24)))] ++ pl) := hD
              refine W.widen (k := 0) (n := 0) (by omega) (by omega) ?_
              refine lv_aload_n hx hb dDA_commit_247 rfl (lv_at hl 1 rfl) ?_
              refine ty_get (ci := 6) (C := "LatticeKeys$Dsa") (TT := T_DA) (N := 17) (kd := (15, 0)) hx hb hts (wg_ft i_DA) hown hK hO k_h0 (nxg (clo_cons (clo_cons hc0 kr21 (by decide)) kl21 (by decide)) k_h0 rfl) hP (fun _ h9 => h9) rfl 0 (by decide) (hts _ (wg_t kw_165)) (fun _ h9 => h9) (cd := (3, 10, 2)) rfl dDA_commit_248 (fun v26 hv26 => ?_)
              obtain ⟨r23, rfl, kr23⟩ := (show ∃ r : Nat, v26 = .ref r ∧ T r = some (10, 2) from hv26)
              obtain rfl : r21 = r23 := hU _ _ _ (by decide) kr21 kr23
              refine lv_aload_n hx hb dDA_commit_251 rfl (lv_at hl 1 rfl) ?_
              refine ty_get (ci := 6) (C := "LatticeKeys$Dsa") (TT := T_DA) (N := 17) (kd := (15, 0)) hx hb hts (wg_ft i_DA) hown hK hO k_h0 (nxg (clo_cons (clo_cons hc0 kr21 (by decide)) kl21 (by decide)) k_h0 rfl) hP (fun _ h9 => h9) rfl 13 (by decide) (hts _ (wg_t kw_178)) (fun _ h9 => h9) (cd := (3, 1, 64)) rfl dDA_commit_252 (fun v27 hv27 => ?_)
              obtain ⟨r24, rfl, kr24⟩ := (show ∃ r : Nat, v27 = .ref r ∧ T r = some (1, 64) from hv27)
              refine lv_iconst (v := nI 0) hx hb dDA_commit_255 (by decide) ?_
              refine lv_aload_n hx hb dDA_commit_256 rfl (lv_at hl 2 rfl) ?_
              refine ty_get (ci := 2) (C := "LatticeKeys$DsaSet") (TT := T_DS) (N := 17) (kd := (44, 0)) hx hb hts (wg_ft i_DS) hown hK hO k_st (nxg (clo_cons (clo_cons hc0 kr21 (by decide)) kl21 (by decide)) k_st rfl) hP (fun _ h9 => h9) rfl 5 (by decide) (hts _ (wg_t kw_315)) (fun _ h9 => h9) (cd := (1, 0, 48)) rfl dDA_commit_257 (fun v28 hv28 => ?_)
              obtain rfl := (show v28 = .int (nI 48) from hv28)
              refine mp_v (cx := [(r21, .inr (3, [.ref ln21, .int (nI 136), .int (nI 31), .int (nI 136)])), (ln21, .inl (g.2.1 2, 25, .inr (.inl u24)))]) (wr := []) hP hD hS hA [0, 1] [] rfl rfl rfl (by decide) (va_runV (As := [.ref r24, .int (nI 0), .int (nI 48)]) (rest := []) F (t_SP_squeeze l g _ T (ln21 :: (r21 :: xs)) pl hO hU (clo_cons (clo_cons hc0 kr21 (by decide)) kl21 (by decide)) r24 64 0 48 r21 ln21 136 136 (nI 31) u24 kr24 (by omega) (by omega) (by omega) (by omega)) (cwV 3 hts (wg_app (wg_c kw_673 (wg_c kw_615 (wg_c kw_616 (wg_c kw_2 wg_n)))) kw_617) rfl rfl rfl (by decide +kernel) ⟨by decide, by decide⟩) (pp_V (en_ok g) (q0 := 0) hK hP hD hS hA hE [0, 1] rfl rfl rfl rfl) rfl rfl hl.1 rfl (lv_room (Nat.le_of_ble_eq_true rfl)) dDA_commit_260 ⟨by omega, by omega⟩) (fun  u25 H locs hu23 hP hD hS => ?_)
              obtain ⟨u26, pl⟩ := u25
              obtain ⟨hq23, hO⟩ := hu23
              obtain ⟨k21, f24⟩ := u26
              have hP : va_P g.1 vcl ([(r21, .inr (3, [.ref ln21, .int (nI 136), .int (nI 31), .int (nI k21)])), (ln21, .inl (g.2.1 2, 25, .inr (.inl f24)))] ++ pl) _ := hP
              have hD : va_D _ ([(r21, .inr (3, [.ref ln21, .int (nI 136), .int (nI 31), .int (nI k21)])), (ln21, .inl (g.2.1 2, 25, .inr (.inl f24)))] ++ pl) := hD
              have hq23 : k21 ≤ 136 := hq23
              refine W.widen (k := 0) (n := 0) (by omega) (by omega) ?_
              refine lv_aload_n hx hb dDA_commit_263 rfl (lv_at hl 1 rfl) ?_
              refine ty_get (ci := 6) (C := "LatticeKeys$Dsa") (TT := T_DA) (N := 17) (kd := (15, 0)) hx hb hts (wg_ft i_DA) hown hK hO k_h0 (nxg (clo_cons (clo_cons hc0 kr21 (by decide)) kl21 (by decide)) k_h0 rfl) hP (fun _ h9 => h9) rfl 2 (by decide) (hts _ (wg_t kw_167)) (fun _ h9 => h9) (cd := (3, 14, 0)) rfl dDA_commit_264 (fun v29 hv29 => ?_)
              obtain ⟨r25, rfl, kr25⟩ := (show ∃ r : Nat, v29 = .ref r ∧ T r = some (14, 0) from hv29)
              refine lv_aload_n hx hb dDA_commit_267 rfl (lv_at hl 2 rfl) ?_
              refine lv_aload_n hx hb dDA_commit_268 rfl (lv_at hl 1 rfl) ?_
              refine ty_get (ci := 6) (C := "LatticeKeys$Dsa") (TT := T_DA) (N := 17) (kd := (15, 0)) hx hb hts (wg_ft i_DA) hown hK hO k_h0 (nxg (clo_cons (clo_cons hc0 kr21 (by decide)) kl21 (by decide)) k_h0 rfl) hP (fun _ h9 => h9) rfl 9 (by decide) (hts _ (wg_t kw_174)) (fun _ h9 => h9) (cd := (3, 0, 256)) rfl dDA_commit_269 (fun v30 hv30 => ?_)
              obtain ⟨r26, rfl, kr26⟩ := (show ∃ r : Nat, v30 = .ref r ∧ T r = some (0, 256) from hv30)
              refine lv_aload_n hx hb dDA_commit_272 rfl (lv_at hl 1 rfl) ?_
              refine ty_get (ci := 6) (C := "LatticeKeys$Dsa") (TT := T_DA) (N := 17) (kd := (15, 0)) hx hb hts (wg_ft i_DA) hown hK hO k_h0 (nxg (clo_cons (clo_cons hc0 kr21 (by decide)) kl21 (by decide)) k_h0 rfl) hP (fun _ h9 => h9) rfl 13 (by decide) (hts _ (wg_t kw_178)) (fun _ h9 => h9) (cd := (3, 1, 64)) rfl dDA_commit_273 (fun v31 hv31 => ?_)
              obtain ⟨r27, rfl, kr27⟩ := (show ∃ r : Nat, v31 = .ref r ∧ T r = some (1, 64) from hv31)
              refine mp_v (cx := []) (wr := [(r21, .inr (3, [.ref ln21, .int (nI 136), .int (nI 31), .int (nI k21)])), (ln21, .inl (g.2.1 2, 25, .inr (.inl f24)))]) hP hD hS hA [] [0, 1] rfl rfl rfl (by decide) (va_runV (As := [.ref st, .ref r26, .ref r27]) (rest := []) F (t_SA_sampleBall_1 l g _ T (ln21 :: (r21 :: xs)) pl hO hU (clo_cons (clo_cons hc0 kr21 (by decide)) kl21 (by decide)) (clo_cons (clo_cons hc4 kr21 (by decide)) kl21 (by decide)) r25 st r26 r27 64 kr25 k_st kr26 kr27 (by omega) (by omega)) (cwV 3 hts (wg_app (wg_c kw_1214 (wg_c kw_1215 (wg_c kw_1216 (wg_c kw_6 wg_n)))) kw_1217) rfl rfl rfl (by decide +kernel) ⟨by decide, by decide⟩) (pp_VT (en_ok g) (ci := 7) (kd := (14, 0)) hK hO kr25 (nxg (clo_cons (clo_cons hc0 kr21 (by decide)) kl21 (by decide)) kr25 rfl) (fun _ h9 => ko1 h9) hP hD hS hA hE [] rfl rfl rfl) rfl rfl hl.1 rfl (lv_room (Nat.le_of_ble_eq_true rfl)) dDA_commit_276 ⟨by omega, by omega⟩) (fun  pl H locs hu24 hP hD hS => ?_)
              obtain ⟨hq24, hO⟩ := hu24
              have hP : va_P g.1 vcl ([(r21, .inr (3, [.ref ln21, .int (nI 136), .int (nI 31), .int (nI k21)])), (ln21, .inl (g.2.1 2, 25, .inr (.inl f24)))] ++ pl) _ := hP
              have hD : va_D _ ([(r21, .inr (3, [.ref ln21, .int (nI 136), .int (nI 31), .int (nI k21)])), (ln21, .inl (g.2.1 2, 25, .inr (.inl f24)))] ++ pl) := hD
              refine W.widen (k := 0) (n := 0) (by omega) (by omega) ?_
              refine lv_aload_n hx hb dDA_commit_279 rfl (lv_at hl 1 rfl) ?_
              refine ty_get (ci := 6) (C := "LatticeKeys$Dsa") (TT := T_DA) (N := 17) (kd := (15, 0)) hx hb hts (wg_ft i_DA) hown hK hO k_h0 (nxg (clo_cons (clo_cons hc0 kr21 (by decide)) kl21 (by decide)) k_h0 rfl) hP (fun _ h9 => h9) rfl 1 (by decide) (hts _ (wg_t kw_166)) (fun _ h9 => h9) (cd := (3, 12, 0)) rfl dDA_commit_280 (fun v32 hv32 => ?_)
              obtain ⟨r28, rfl, kr28⟩ := (show ∃ r : Nat, v32 = .ref r ∧ T r = some (12, 0) from hv32)
              refine lv_aload_n hx hb dDA_commit_283 rfl (lv_at hl 1 rfl) ?_
              refine ty_get (ci := 6) (C := "LatticeKeys$Dsa") (TT := T_DA) (N := 17) (kd := (15, 0)) hx hb hts (wg_ft i_DA) hown hK hO k_h0 (nxg (clo_cons (clo_cons hc0 kr21 (by decide)) kl21 (by decide)) k_h0 rfl) hP (fun _ h9 => h9) rfl 9 (by decide) (hts _ (wg_t kw_174)) (fun _ h9 => h9) (cd := (3, 0, 256)) rfl dDA_commit_284 (fun v33 hv33 => ?_)
              obtain ⟨r29, rfl, kr29⟩ := (show ∃ r : Nat, v33 = .ref r ∧ T r = some (0, 256) from hv33)
              refine mp_v (cx := []) (wr := [(r21, .inr (3, [.ref ln21, .int (nI 136), .int (nI 31), .int (nI k21)])), (ln21, .inl (g.2.1 2, 25, .inr (.inl f24)))]) hP hD hS hA [] [0, 1] rfl rfl rfl (by decide) (va_runV (As := [.ref r29]) (rest := []) F (t_RG_transform_12 l g _ T (ln21 :: (r21 :: xs)) pl hO hU (clo_cons (clo_cons hc0 kr21 (by decide)) kl21 (by decide)) r28 r29 kr28 kr29) (cwV 1 hts (wg_app (wg_c kw_711 (wg_c kw_637 (wg_c kw_638 (wg_c kw_4 wg_n)))) kw_639) rfl rfl rfl (by decide +kernel) ⟨by decide, by decide⟩) (pp_VT (en_ok g) (ci := 4) (kd := (12, 0)) hK hO kr28 (nxg (clo_cons (clo_cons hc0 kr21 (by decide)) kl21 (by decide)) kr28 rfl) (fun _ h9 => ko1 h9) hP hD hS hA hE [] rfl rfl rfl) rfl rfl hl.1 rfl (lv_room (Nat.le_of_ble_eq_true rfl)) dDA_commit_287 ⟨by omega, by omega⟩) (fun  pl H locs hu25 hP hD hS => ?_)
              obtain ⟨hq25, hO⟩ := hu25
              have hP : va_P g.1 vcl ([(r21, .inr (3, [.ref ln21, .int (nI 136), .int (nI 31), .int (nI k21)])), (ln21, .inl (g.2.1 2, 25, .inr (.inl f24)))] ++ pl) _ := hP
              have hD : va_D _ ([(r21, .inr (3, [.ref ln21, .int (nI 136), .int (nI 31), .int (nI k21)])), (ln21, .inl (g.2.1 2, 25, .inr (.inl f24)))] ++ pl) := hD
              refine W.widen (k := 0) (n := 0) (by omega) (by omega) ?_
              have hO := close1 (e := .inl (g.2.1 2, 25, .inr (.inl f24))) hO kl21 ⟨_, rfl⟩
              have hO := close1 (e := .inr (3, [.ref ln21, .int (nI 136), .int (nI 31), .int (nI k21)])) hO kr21 ⟨_, _, _, _, rfl, kl21, by omega, by omega, by omega⟩
              have hO : okx g T xs ((r21, .inr (3, [.ref ln21, .int (nI 136), .int (nI 31), .int (nI k21)])) :: (ln21, .inl (g.2.1 2, 25, .inr (.inl f24))) :: pl) := hO
              have hP : va_P g.1 vcl ([] ++ ((r21, .inr (3, [.ref ln21, .int (nI 136), .int (nI 31), .int (nI k21)])) :: (ln21, .inl (g.2.1 2, 25, .inr (.inl f24))) :: pl)) _ := hP
              have hD : va_D _ ([] ++ ((r21, .inr (3, [.ref ln21, .int (nI 136), .int (nI 31), .int (nI k21)])) :: (ln21, .inl (g.2.1 2, 25, .inr (.inl f24))) :: pl)) := hD
              generalize ((r21, .inr (3, [.ref ln21, .int (nI 136), .int (nI 31), .int (nI k21)])) :: (ln21, .inl (g.2.1 2, 25, .inr (.inl f24))) :: pl) = pl at hO hP hD
              exact mp_vret hx hb hr hlk hP hD hS pl ⟨trivial, hO⟩ [] rfl rfl rfl (by omega) (by omega) dDA_commit_290
            | succ n23 ih23 =>
              intro i23 ps23 f23 pl ls H locs hm23 hi21 hl hO hP hD hS
              refine lv_iload_n hx hb dDA_commit_171 rfl (lv_at hl 0 rfl) ?_
              refine lv_aload_n hx hb dDA_commit_172 rfl (lv_at hl 2 rfl) ?_
              refine ty_get (ci := 2) (C := "LatticeKeys$DsaSet") (TT := T_DS) (N := 17) (kd := (44, 0)) hx hb hts (wg_ft i_DS) hown hK hO k_st (nxg (clo_cons (clo_cons hc0 kr21 (by decide)) kl21 (by decide)) k_st rfl) hP (fun _ h9 => h9) rfl 0 (by decide) (hts _ (wg_t kw_302)) (fun _ h9 => h9) (cd := (1, 0, 6)) rfl dDA_commit_173 (fun v34 hv34 => ?_)
              obtain rfl := (show v34 = .int (nI 6) from hv34)
              refine mi_ge (tgt := 240) hx hb dDA_commit_176 (by decide) (by omega) (by omega) (fun h24 => absurd h24 (by omega)) (fun h24 => ?_)
              refine lv_aload_n hx hb dDA_commit_179 rfl (lv_at hl 1 rfl) ?_
              refine ty_get (ci := 6) (C := "LatticeKeys$Dsa") (TT := T_DA) (N := 17) (kd := (15, 0)) hx hb hts (wg_ft i_DA) hown hK hO k_h0 (nxg (clo_cons (clo_cons hc0 kr21 (by decide)) kl21 (by decide)) k_h0 rfl) hP (fun _ h9 => h9) rfl 1 (by decide) (hts _ (wg_t kw_166)) (fun _ h9 => h9) (cd := (3, 12, 0)) rfl dDA_commit_180 (fun v35 hv35 => ?_)
              obtain ⟨r30, rfl, kr30⟩ := (show ∃ r : Nat, v35 = .ref r ∧ T r = some (12, 0) from hv35)
              refine lv_aload_n hx hb dDA_commit_183 rfl (lv_at hl 1 rfl) ?_
              refine ty_get (ci := 6) (C := "LatticeKeys$Dsa") (TT := T_DA) (N := 17) (kd := (15, 0)) hx hb hts (wg_ft i_DA) hown hK hO k_h0 (nxg (clo_cons (clo_cons hc0 kr21 (by decide)) kl21 (by decide)) k_h0 rfl) hP (fun _ h9 => h9) rfl 8 (by decide) (hts _ (wg_t kw_173)) (fun _ h9 => h9) (cd := (3, 3, 8)) rfl dDA_commit_184 (fun v36 hv36 => ?_)
              obtain ⟨r31, rfl, kr31⟩ := (show ∃ r : Nat, v36 = .ref r ∧ T r = some (3, 8) from hv36)
              refine lv_iload_n hx hb dDA_commit_187 rfl (lv_at hl 0 rfl) ?_
              refine ty_aald3 hx hb hK hO kr31 (nxg (clo_cons (clo_cons hc0 kr21 (by decide)) kl21 (by decide)) kr31 rfl) hP (by omega) (by decide) dDA_commit_188 (fun r32 kr32 => ?_)
              refine mp_v (cx := []) (wr := [(r21, .inr (3, [.ref ln21, .int (nI 136), .int (nI 31), .int (nI ps23)])), (ln21, .inl (g.2.1 2, 25, .inr (.inl f23)))]) hP hD hS hA [] [0, 1] rfl rfl rfl (by decide) (va_runV (As := [.ref r32]) (rest := []) F (t_RG_restore_12 l g _ T (ln21 :: (r21 :: xs)) pl hO hU (clo_cons (clo_cons hc0 kr21 (by decide)) kl21 (by decide)) r30 r32 kr30 kr32) (cwV 1 hts (wg_app (wg_c kw_720 (wg_c kw_721 (wg_c kw_722 (wg_c kw_4 wg_n)))) kw_723) rfl rfl rfl (by decide +kernel) ⟨by decide, by decide⟩) (pp_VT (en_ok g) (ci := 4) (kd := (12, 0)) hK hO kr30 (nxg (clo_cons (clo_cons hc0 kr21 (by decide)) kl21 (by decide)) kr30 rfl) (fun _ h9 => ko1 h9) hP hD hS hA hE [] rfl rfl rfl) rfl rfl hl.1 rfl (lv_room (Nat.le_of_ble_eq_true rfl)) dDA_commit_189 ⟨by omega, by omega⟩) (fun  pl H locs hu26 hP hD hS => ?_)
              obtain ⟨hq26, hO⟩ := hu26
              have hP : va_P g.1 vcl ([(r21, .inr (3, [.ref ln21, .int (nI 136), .int (nI 31), .int (nI ps23)])), (ln21, .inl (g.2.1 2, 25, .inr (.inl f23)))] ++ pl) _ := hP
              have hD : va_D _ ([(r21, .inr (3, [.ref ln21, .int (nI 136), .int (nI 31), .int (nI ps23)])), (ln21, .inl (g.2.1 2, 25, .inr (.inl f23)))] ++ pl) := hD
              refine W.widen (k := 0) (n := 0) (by omega) (by omega) ?_
              refine lv_iconst (v := nI 0) hx hb dDA_commit_192 (by decide) ?_
              refine lv_istore (lv' := [(4, .int (nI 0)), (3, .int (nI i23)), (0, .ref h0), (1, .ref st)]) hx hb dDA_commit_193 hl (by decide) rfl (fun ls hl => ?_)
              have lp24 : ∀ (n24 : Nat) (i24 : Nat) (pl : va_W) (ls : Array Slot) (H : Heap) (locs : List Loc), n24 + i24 = 256 → lv_has ls 5 [(4, .int (nI i24)), (3, .int (nI i23)), (0, .ref h0), (1, .ref st)] → okx g T (ln21 :: (r21 :: xs)) pl → va_P g.1 vcl ([(r21, .inr (3, [.ref ln21, .int (nI 136), .int (nI 31), .int (nI ps23)])), (ln21, .inl (g.2.1 2, 25, .inr (.inl f23)))] ++ pl) H → va_D A ([(r21, .inr (3, [.ref ln21, .int (nI 136), .int (nI 31), .int (nI ps23)])), (ln21, .inl (g.2.1 2, 25, .inr (.inl f23)))] ++ pl) → va_S A s.heap H locs → W p l e ({ frames := 5, cells := 0, slots := 0, locals := 147 } : Room) s m args below meth c H locs 0 0 (MQ below (va_Qv (fun (u : va_W) => (True) ∧ okx g T xs u) (po g.1 vcl A (fun (u : va_W) => [] ++ u)) A) args s 0 0 A) (F0 m 195 ls []) := by
                intro n24
                induction n24 with
                | zero =>
                  intro i24 pl ls H locs hm24  hl hO hP hD hS
                  refine lv_iload hx hb dDA_commit_195 (lv_at hl 0 rfl) ?_
                  refine lv_sipush (v := nI 256) hx hb dDA_commit_197 (by decide) ?_
                  refine mi_ge (tgt := 229) hx hb dDA_commit_200 (by decide) (by omega) (by omega) (fun h25 => ?_) (fun h25 => absurd h25 (by omega))
                  refine lv_aload_n hx hb dDA_commit_229 rfl (lv_at hl 2 rfl) ?_
                  refine lv_aload_n hx hb dDA_commit_230 rfl (lv_at hl 3 rfl) ?_
                  refine mp_v (cx := [(r21, .inr (3, [.ref ln21, .int (nI 136), .int (nI 31), .int (nI ps23)])), (ln21, .inl (g.2.1 2, 25, .inr (.inl f23)))]) (wr := []) hP hD hS hA [0, 1] [] rfl rfl rfl (by decide) (va_runV (As := [.ref st]) (rest := []) F (t_DA_absorbHigh_1 l g _ T (ln21 :: (r21 :: xs)) pl hO hU (clo_cons (clo_cons hc0 kr21 (by decide)) kl21 (by decide)) r21 h0 st ln21 136 ps23 (nI 31) f23 kr21 k_h0 k_st (by omega) (by omega)) (cwV 1 hts (wg_app (wg_c kw_1210 (wg_c kw_1212 (wg_c ks_39 (wg_c kw_5 wg_n)))) kw_1213) rfl rfl rfl (by decide +kernel) ⟨by decide, by decide⟩) (pp_VT (en_ok g) (ci := 6) (kd := (15, 0)) hK hO k_h0 (nxg (clo_cons (clo_cons hc0 kr21 (by decide)) kl21 (by decide)) k_h0 rfl) (fun _ h9 => ko1 h9) hP hD hS hA hE [0, 1] rfl rfl rfl) rfl rfl hl.1 rfl (lv_room (Nat.le_of_ble_eq_true rfl)) dDA_commit_231 ⟨by omega, by omega⟩) (fun  u27 H locs hu27 hP hD hS => ?_)
                  obtain ⟨u28, pl⟩ := u27
                  obtain ⟨hq27, hO⟩ := hu27
                  obtain ⟨ps24, f25⟩ := u28
                  have hP : va_P g.1 vcl ([(r21, .inr (3, [.ref ln21, .int (nI 136), .int (nI 31), .int (nI ps24)])), (ln21, .inl (g.2.1 2, 25, .inr (.inl f25)))] ++ pl) _ := hP
                  have hD : va_D _ ([(r21, .inr (3, [.ref ln21, .int (nI 136), .int (nI 31), .int (nI ps24)])), (ln21, .inl (g.2.1 2, 25, .inr (.inl f25)))] ++ pl) := hD
                  have hq27 : ps24 < 136 := hq27
                  refine W.widen (k := 0) (n := 0) (by omega) (by omega) ?_
                  refine mi_iinc (k := 1) (x := i23) (d := 1) (y := i23 + 1) (lv' := [(3, .int (nI (i23 + 1))), (4, .int (nI i24)), (0, .ref h0), (1, .ref st)]) hx hb dDA_commit_234 hl rfl (by decide) rfl (by decide) rfl (fun ls hl => ?_)
                  refine lv_goto (tgt := 171) hx hb dDA_commit_237 (by decide) ?_
                  exact ih23 (i23 + 1) ps24 f25 pl ls H locs (by omega) (by omega) (lv_sub hl [0, 2, 3] rfl) hO hP hD hS
                | succ n24 ih24 =>
                  intro i24 pl ls H locs hm24  hl hO hP hD hS
                  refine lv_iload hx hb dDA_commit_195 (lv_at hl 0 rfl) ?_
                  refine lv_sipush (v := nI 256) hx hb dDA_commit_197 (by decide) ?_
                  refine mi_ge (tgt := 229) hx hb dDA_commit_200 (by decide) (by omega) (by omega) (fun h26 => absurd h26 (by omega)) (fun h26 => ?_)
                  refine lv_aload_n hx hb dDA_commit_203 rfl (lv_at hl 2 rfl) ?_
                  refine ty_get (ci := 6) (C := "LatticeKeys$Dsa") (TT := T_DA) (N := 17) (kd := (15, 0)) hx hb hts (wg_ft i_DA) hown hK hO k_h0 (nxg (clo_cons (clo_cons hc0 kr21 (by decide)) kl21 (by decide)) k_h0 rfl) hP (fun _ h9 => h9) rfl 10 (by decide) (hts _ (wg_t kw_175)) (fun _ h9 => h9) (cd := (3, 0, 256)) rfl dDA_commit_204 (fun v37 hv37 => ?_)
                  obtain ⟨r33, rfl, kr33⟩ := (show ∃ r : Nat, v37 = .ref r ∧ T r = some (0, 256) from hv37)
                  refine lv_iload hx hb dDA_commit_207 (lv_at hl 0 rfl) ?_
                  refine lv_aload_n hx hb dDA_commit_209 rfl (lv_at hl 3 rfl) ?_
                  refine lv_aload_n hx hb dDA_commit_210 rfl (lv_at hl 2 rfl) ?_
                  refine ty_get (ci := 6) (C := "LatticeKeys$Dsa") (TT := T_DA) (N := 17) (kd := (15, 0)) hx hb hts (wg_ft i_DA) hown hK hO k_h0 (nxg (clo_cons (clo_cons hc0 kr21 (by decide)) kl21 (by decide)) k_h0 rfl) hP (fun _ h9 => h9) rfl 8 (by decide) (hts _ (wg_t kw_173)) (fun _ h9 => h9) (cd := (3, 3, 8)) rfl dDA_commit_211 (fun v38 hv38 => ?_)
                  obtain ⟨r34, rfl, kr34⟩ := (show ∃ r : Nat, v38 = .ref r ∧ T r = some (3, 8) from hv38)
                  refine lv_iload_n hx hb dDA_commit_214 rfl (lv_at hl 1 rfl) ?_
                  refine ty_aald3 hx hb hK hO kr34 (nxg (clo_cons (clo_cons hc0 kr21 (by decide)) kl21 (by decide)) kr34 rfl) hP (by omega) (by decide) dDA_commit_215 (fun r35 kr35 => ?_)
                  refine lv_iload hx hb dDA_commit_216 (lv_at hl 0 rfl) ?_
                  refine ty_iald hx hb hK hO kr35 (nxg (clo_cons (clo_cons hc0 kr21 (by decide)) kl21 (by decide)) kr35 rfl) hP (vp_in_nI (by omega) (by decide)) dDA_commit_218 (fun z21 => ?_)
                  refine mp_i (cx := []) (wr := [(r21, .inr (3, [.ref ln21, .int (nI 136), .int (nI 31), .int (nI ps23)])), (ln21, .inl (g.2.1 2, 25, .inr (.inl f23)))]) hP hD hS hA [] [0, 1] rfl rfl rfl (by decide) (va_runV (As := [.int z21]) (rest := [.int (nI i24), .ref r33]) F (t_DS_high_1 l g _ T (ln21 :: (r21 :: xs)) pl hO hU (clo_cons (clo_cons hc0 kr21 (by decide)) kl21 (by decide)) st z21 k_st) (cwV 1 hts (wg_app (wg_c kw_1206 (wg_c kw_1207 (wg_c kw_1208 (wg_c kw_8 wg_n)))) kw_1209) rfl rfl rfl (by decide +kernel) ⟨by decide, by decide⟩) (pp_VT (en_ok g) (ci := 2) (kd := (44, 0)) hK hO k_st (nxg (clo_cons (clo_cons hc0 kr21 (by decide)) kl21 (by decide)) k_st rfl) (fun _ h9 => ko1 h9) hP hD hS hA hE [] rfl rfl rfl) rfl rfl hl.1 rfl (lv_room (Nat.le_of_ble_eq_true rfl)) dDA_commit_219 ⟨by omega, by omega⟩) (fun r36 pl H locs hu28 hP hD hS => ?_)
                  obtain ⟨hq28, hO⟩ := hu28
                  have hP : va_P g.1 vcl ([(r21, .inr (3, [.ref ln21, .int (nI 136), .int (nI 31), .int (nI ps23)])), (ln21, .inl (g.2.1 2, 25, .inr (.inl f23)))] ++ pl) _ := hP
                  have hD : va_D _ ([(r21, .inr (3, [.ref ln21, .int (nI 136), .int (nI 31), .int (nI ps23)])), (ln21, .inl (g.2.1 2, 25, .inr (.inl f23)))] ++ pl) := hD
                  refine W.widen (k := 0) (n := 0) (by omega) (by omega) ?_
                  refine ty_iast hx hb hK hO kr33 (nxg (clo_cons (clo_cons hc0 kr21 (by decide)) kl21 (by decide)) kr33 rfl) hP hD hS (vp_in_nI (by omega) (by decide)) dDA_commit_222 (fun pl H locs hO hP hD hS => ?_)
                  refine mi_iinc (k := 0) (x := i24) (d := 1) (y := i24 + 1) (lv' := [(4, .int (nI (i24 + 1))), (3, .int (nI i23)), (0, .ref h0), (1, .ref st)]) hx hb dDA_commit_223 hl rfl (by decide) rfl (by decide) rfl (fun ls hl => ?_)
                  refine lv_goto (tgt := 195) hx hb dDA_commit_226 (by decide) ?_
                  exact ih24 (i24 + 1) pl ls H locs (by omega) (lv_sub hl [0, 1, 2, 3] rfl) hO hP hD hS
              exact lp24 256 0 pl ls _ _ (by omega) (lv_sub hl [0, 1, 2, 3] rfl) hO hP hD hS
          exact lp23 6 0 ps22 f22 pl ls _ _ (by omega) (by omega) (lv_sub hl [0, 1, 2] rfl) hO hP hD hS
        | succ n22 ih22 =>
          intro i22 pl ls H locs hm22  hl hO hP hD hS
          refine lv_iload_n hx hb dDA_commit_28 rfl (lv_at hl 0 rfl) ?_
          refine lv_aload_n hx hb dDA_commit_29 rfl (lv_at hl 2 rfl) ?_
          refine ty_get (ci := 2) (C := "LatticeKeys$DsaSet") (TT := T_DS) (N := 17) (kd := (44, 0)) hx hb hts (wg_ft i_DS) hown hK hO k_st (nxg hc0 k_st rfl) hP (fun _ h9 => h9) rfl 1 (by decide) (hts _ (wg_t kw_305)) (fun _ h9 => h9) (cd := (1, 0, 5)) rfl dDA_commit_30 (fun v39 hv39 => ?_)
          obtain rfl := (show v39 = .int (nI 5) from hv39)
          refine mi_ge (tgt := 165) hx hb dDA_commit_33 (by decide) (by omega) (by omega) (fun h27 => absurd h27 (by omega)) (fun h27 => ?_)
          refine lv_aload_n hx hb dDA_commit_36 rfl (lv_at hl 1 rfl) ?_
          refine ty_get (ci := 6) (C := "LatticeKeys$Dsa") (TT := T_DA) (N := 17) (kd := (15, 0)) hx hb hts (wg_ft i_DA) hown hK hO k_h0 (nxg hc0 k_h0 rfl) hP (fun _ h9 => h9) rfl 2 (by decide) (hts _ (wg_t kw_167)) (fun _ h9 => h9) (cd := (3, 14, 0)) rfl dDA_commit_37 (fun v40 hv40 => ?_)
          obtain ⟨r37, rfl, kr36⟩ := (show ∃ r : Nat, v40 = .ref r ∧ T r = some (14, 0) from hv40)
          refine lv_aload_n hx hb dDA_commit_40 rfl (lv_at hl 2 rfl) ?_
          refine lv_aload_n hx hb dDA_commit_41 rfl (lv_at hl 1 rfl) ?_
          refine ty_get (ci := 6) (C := "LatticeKeys$Dsa") (TT := T_DA) (N := 17) (kd := (15, 0)) hx hb hts (wg_ft i_DA) hown hK hO k_h0 (nxg hc0 k_h0 rfl) hP (fun _ h9 => h9) rfl 7 (by decide) (hts _ (wg_t kw_172)) (fun _ h9 => h9) (cd := (3, 3, 7)) rfl dDA_commit_42 (fun v41 hv41 => ?_)
          obtain ⟨r38, rfl, kr37⟩ := (show ∃ r : Nat, v41 = .ref r ∧ T r = some (3, 7) from hv41)
          refine lv_iload_n hx hb dDA_commit_45 rfl (lv_at hl 0 rfl) ?_
          refine ty_aald3 hx hb hK hO kr37 (nxg hc0 kr37 rfl) hP (by omega) (by decide) dDA_commit_46 (fun r39 kr38 => ?_)
          refine lv_aload_n hx hb dDA_commit_47 rfl (lv_at hl 1 rfl) ?_
          refine ty_get (ci := 6) (C := "LatticeKeys$Dsa") (TT := T_DA) (N := 17) (kd := (15, 0)) hx hb hts (wg_ft i_DA) hown hK hO k_h0 (nxg hc0 k_h0 rfl) hP (fun _ h9 => h9) rfl 11 (by decide) (hts _ (wg_t kw_176)) (fun _ h9 => h9) (cd := (3, 1, 128)) rfl dDA_commit_48 (fun v42 hv42 => ?_)
          obtain ⟨r40, rfl, kr39⟩ := (show ∃ r : Nat, v42 = .ref r ∧ T r = some (1, 128) from hv42)
          refine lv_iload_n hx hb dDA_commit_51 rfl (lv_at hl 3 rfl) ?_
          refine lv_iload_n hx hb dDA_commit_52 rfl (lv_at hl 0 rfl) ?_
          refine lv_iadd hx hb dDA_commit_53 ?_
          refine mi_any (fun z22 => ?_)
          refine mp_v (cx := []) (wr := []) hP hD hS hA [] [] rfl rfl rfl (by decide) (va_runV (As := [.ref st, .ref r39, .ref r40, .int z22]) (rest := []) F (t_SA_sampleMask_1 l g _ T xs pl hO hU hc0 hc4 r37 st r39 r40 128 z22 kr36 k_st kr38 kr39 (by omega) (by omega)) (cwV 4 hts (wg_app (wg_c kw_1196 (wg_c kw_1197 (wg_c kw_1198 (wg_c kw_6 wg_n)))) kw_1199) rfl rfl rfl (by decide +kernel) ⟨by decide, by decide⟩) (pp_VT (en_ok g) (ci := 7) (kd := (14, 0)) hK hO kr36 (nxg hc0 kr36 rfl) (fun _ h9 => ko1 h9) hP hD hS hA hE [] rfl rfl rfl) rfl rfl hl.1 rfl (lv_room (Nat.le_of_ble_eq_true rfl)) dDA_commit_54 ⟨by omega, by omega⟩) (fun  pl H locs hu29 hP hD hS => ?_)
          obtain ⟨hq29, hO⟩ := hu29
          have hP : va_P g.1 vcl ([] ++ pl) _ := hP
          have hD : va_D _ ([] ++ pl) := hD
          refine W.widen (k := 0) (n := 0) (by omega) (by omega) ?_
          refine lv_aload_n hx hb dDA_commit_57 rfl (lv_at hl 1 rfl) ?_
          refine ty_get (ci := 6) (C := "LatticeKeys$Dsa") (TT := T_DA) (N := 17) (kd := (15, 0)) hx hb hts (wg_ft i_DA) hown hK hO k_h0 (nxg hc0 k_h0 rfl) hP (fun _ h9 => h9) rfl 1 (by decide) (hts _ (wg_t kw_166)) (fun _ h9 => h9) (cd := (3, 12, 0)) rfl dDA_commit_58 (fun v43 hv43 => ?_)
          obtain ⟨r41, rfl, kr40⟩ := (show ∃ r : Nat, v43 = .ref r ∧ T r = some (12, 0) from hv43)
          refine lv_aload_n hx hb dDA_commit_61 rfl (lv_at hl 1 rfl) ?_
          refine ty_get (ci := 6) (C := "LatticeKeys$Dsa") (TT := T_DA) (N := 17) (kd := (15, 0)) hx hb hts (wg_ft i_DA) hown hK hO k_h0 (nxg hc0 k_h0 rfl) hP (fun _ h9 => h9) rfl 7 (by decide) (hts _ (wg_t kw_172)) (fun _ h9 => h9) (cd := (3, 3, 7)) rfl dDA_commit_62 (fun v44 hv44 => ?_)
          obtain ⟨r42, rfl, kr41⟩ := (show ∃ r : Nat, v44 = .ref r ∧ T r = some (3, 7) from hv44)
          refine lv_iload_n hx hb dDA_commit_65 rfl (lv_at hl 0 rfl) ?_
          refine ty_aald3 hx hb hK hO kr41 (nxg hc0 kr41 rfl) hP (by omega) (by decide) dDA_commit_66 (fun r43 kr42 => ?_)
          refine lv_aload_n hx hb dDA_commit_67 rfl (lv_at hl 2 rfl) ?_
          refine ty_get (ci := 2) (C := "LatticeKeys$DsaSet") (TT := T_DS) (N := 17) (kd := (44, 0)) hx hb hts (wg_ft i_DS) hown hK hO k_st (nxg hc0 k_st rfl) hP (fun _ h9 => h9) rfl 7 (by decide) (hts _ (wg_t kw_320)) (fun _ h9 => h9) (cd := (1, 0, 524288)) rfl dDA_commit_68 (fun v45 hv45 => ?_)
          obtain rfl := (show v45 = .int (nI 524288) from hv45)
          refine lv_aload_n hx hb dDA_commit_71 rfl (lv_at hl 1 rfl) ?_
          refine ty_get (ci := 6) (C := "LatticeKeys$Dsa") (TT := T_DA) (N := 17) (kd := (15, 0)) hx hb hts (wg_ft i_DA) hown hK hO k_h0 (nxg hc0 k_h0 rfl) hP (fun _ h9 => h9) rfl 7 (by decide) (hts _ (wg_t kw_172)) (fun _ h9 => h9) (cd := (3, 3, 7)) rfl dDA_commit_72 (fun v46 hv46 => ?_)
          obtain ⟨r44, rfl, kr43⟩ := (show ∃ r : Nat, v46 = .ref r ∧ T r = some (3, 7) from hv46)
          refine lv_iload_n hx hb dDA_commit_75 rfl (lv_at hl 0 rfl) ?_
          refine ty_aald3 hx hb hK hO kr43 (nxg hc0 kr43 rfl) hP (by omega) (by decide) dDA_commit_76 (fun r45 kr44 => ?_)
          refine mp_v (cx := []) (wr := []) hP hD hS hA [] [] rfl rfl rfl (by decide) (va_runV (As := [.ref r43, .int (nI 524288), .ref r45]) (rest := []) F (t_RG_flip_12 l g _ T xs pl hO hU hc0 r41 r43 r45 (nI 524288) kr40 kr42 kr44) (cwV 3 hts (wg_app (wg_c kw_698 (wg_c kw_699 (wg_c kw_700 (wg_c kw_4 wg_n)))) kw_701) rfl rfl rfl (by decide +kernel) ⟨by decide, by decide⟩) (pp_VT (en_ok g) (ci := 4) (kd := (12, 0)) hK hO kr40 (nxg hc0 kr40 rfl) (fun _ h9 => ko1 h9) hP hD hS hA hE [] rfl rfl rfl) rfl rfl hl.1 rfl (lv_room (Nat.le_of_ble_eq_true rfl)) dDA_commit_77 ⟨by omega, by omega⟩) (fun  pl H locs hu30 hP hD hS => ?_)
          obtain ⟨hq30, hO⟩ := hu30
          have hP : va_P g.1 vcl ([] ++ pl) _ := hP
          have hD : va_D _ ([] ++ pl) := hD
          refine W.widen (k := 0) (n := 0) (by omega) (by omega) ?_
          refine lv_aload_n hx hb dDA_commit_80 rfl (lv_at hl 1 rfl) ?_
          refine ty_get (ci := 6) (C := "LatticeKeys$Dsa") (TT := T_DA) (N := 17) (kd := (15, 0)) hx hb hts (wg_ft i_DA) hown hK hO k_h0 (nxg hc0 k_h0 rfl) hP (fun _ h9 => h9) rfl 7 (by decide) (hts _ (wg_t kw_172)) (fun _ h9 => h9) (cd := (3, 3, 7)) rfl dDA_commit_81 (fun v47 hv47 => ?_)
          obtain ⟨r46, rfl, kr45⟩ := (show ∃ r : Nat, v47 = .ref r ∧ T r = some (3, 7) from hv47)
          refine lv_iload_n hx hb dDA_commit_84 rfl (lv_at hl 0 rfl) ?_
          refine ty_aald3 hx hb hK hO kr45 (nxg hc0 kr45 rfl) hP (by omega) (by decide) dDA_commit_85 (fun r47 kr46 => ?_)
          refine lv_iconst (v := nI 0) hx hb dDA_commit_86 (by decide) ?_
          refine lv_aload_n hx hb dDA_commit_87 rfl (lv_at hl 1 rfl) ?_
          refine ty_get (ci := 6) (C := "LatticeKeys$Dsa") (TT := T_DA) (N := 17) (kd := (15, 0)) hx hb hts (wg_ft i_DA) hown hK hO k_h0 (nxg hc0 k_h0 rfl) hP (fun _ h9 => h9) rfl 10 (by decide) (hts _ (wg_t kw_175)) (fun _ h9 => h9) (cd := (3, 0, 256)) rfl dDA_commit_88 (fun v48 hv48 => ?_)
          obtain ⟨r48, rfl, kr47⟩ := (show ∃ r : Nat, v48 = .ref r ∧ T r = some (0, 256) from hv48)
          refine lv_iconst (v := nI 0) hx hb dDA_commit_91 (by decide) ?_
          refine lv_sipush (v := nI 256) hx hb dDA_commit_92 (by decide) ?_
          refine ty_copyi hx hb (hml.trans hl.1.symm) hown (hts _ (wg_t kw_674)) (hts _ (wg_t kw_526)) (hts _ (wg_t kw_525)) (hts _ (wg_t kw_19)) hK hO kr46 (nxg hc0 kr46 rfl) kr47 (nxg hc0 kr47 rfl) hP hD hS (sp := 0) (dp := 0) (n := 256) (by omega) (by omega) (by omega) (by decide) (Nat.le_of_ble_eq_true rfl) dDA_commit_95 (fun pl H locs hO hP hD hS => ?_)
          refine lv_aload_n hx hb dDA_commit_98 rfl (lv_at hl 1 rfl) ?_
          refine ty_get (ci := 6) (C := "LatticeKeys$Dsa") (TT := T_DA) (N := 17) (kd := (15, 0)) hx hb hts (wg_ft i_DA) hown hK hO k_h0 (nxg hc0 k_h0 rfl) hP (fun _ h9 => h9) rfl 1 (by decide) (hts _ (wg_t kw_166)) (fun _ h9 => h9) (cd := (3, 12, 0)) rfl dDA_commit_99 (fun v49 hv49 => ?_)
          obtain ⟨r49, rfl, kr48⟩ := (show ∃ r : Nat, v49 = .ref r ∧ T r = some (12, 0) from hv49)
          refine lv_aload_n hx hb dDA_commit_102 rfl (lv_at hl 1 rfl) ?_
          refine ty_get (ci := 6) (C := "LatticeKeys$Dsa") (TT := T_DA) (N := 17) (kd := (15, 0)) hx hb hts (wg_ft i_DA) hown hK hO k_h0 (nxg hc0 k_h0 rfl) hP (fun _ h9 => h9) rfl 10 (by decide) (hts _ (wg_t kw_175)) (fun _ h9 => h9) (cd := (3, 0, 256)) rfl dDA_commit_103 (fun v50 hv50 => ?_)
          obtain ⟨r50, rfl, kr49⟩ := (show ∃ r : Nat, v50 = .ref r ∧ T r = some (0, 256) from hv50)
          refine mp_v (cx := []) (wr := []) hP hD hS hA [] [] rfl rfl rfl (by decide) (va_runV (As := [.ref r50]) (rest := []) F (t_RG_transform_12 l g _ T xs pl hO hU hc0 r49 r50 kr48 kr49) (cwV 1 hts (wg_app (wg_c kw_711 (wg_c kw_637 (wg_c kw_638 (wg_c kw_4 wg_n)))) kw_639) rfl rfl rfl (by decide +kernel) ⟨by decide, by decide⟩) (pp_VT (en_ok g) (ci := 4) (kd := (12, 0)) hK hO kr48 (nxg hc0 kr48 rfl) (fun _ h9 => ko1 h9) hP hD hS hA hE [] rfl rfl rfl) rfl rfl hl.1 rfl (lv_room (Nat.le_of_ble_eq_true rfl)) dDA_commit_106 ⟨by omega, by omega⟩) (fun  pl H locs hu31 hP hD hS => ?_)
          obtain ⟨hq31, hO⟩ := hu31
          have hP : va_P g.1 vcl ([] ++ pl) _ := hP
          have hD : va_D _ ([] ++ pl) := hD
          refine W.widen (k := 0) (n := 0) (by omega) (by omega) ?_
          refine lv_iconst (v := nI 0) hx hb dDA_commit_109 (by decide) ?_
          refine lv_istore (lv' := [(4, .int (nI 0)), (3, .int (nI i22)), (0, .ref h0), (1, .ref st), (2, .int cn)]) hx hb dDA_commit_110 hl (by decide) rfl (fun ls hl => ?_)
          have lp25 : ∀ (n25 : Nat) (i25 : Nat) (pl : va_W) (ls : Array Slot) (H : Heap) (locs : List Loc), n25 + i25 = 6 → lv_has ls 5 [(4, .int (nI i25)), (3, .int (nI i22)), (0, .ref h0), (1, .ref st), (2, .int cn)] → okx g T xs pl → va_P g.1 vcl ([] ++ pl) H → va_D A ([] ++ pl) → va_S A s.heap H locs → W p l e ({ frames := 5, cells := 0, slots := 0, locals := 147 } : Room) s m args below meth c H locs 0 0 (MQ below (va_Qv (fun (u : va_W) => (True) ∧ okx g T xs u) (po g.1 vcl A (fun (u : va_W) => [] ++ u)) A) args s 0 0 A) (F0 m 112 ls []) := by
            intro n25
            induction n25 with
            | zero =>
              intro i25 pl ls H locs hm25  hl hO hP hD hS
              refine lv_iload hx hb dDA_commit_112 (lv_at hl 0 rfl) ?_
              refine lv_aload_n hx hb dDA_commit_114 rfl (lv_at hl 3 rfl) ?_
              refine ty_get (ci := 2) (C := "LatticeKeys$DsaSet") (TT := T_DS) (N := 17) (kd := (44, 0)) hx hb hts (wg_ft i_DS) hown hK hO k_st (nxg hc0 k_st rfl) hP (fun _ h9 => h9) rfl 0 (by decide) (hts _ (wg_t kw_302)) (fun _ h9 => h9) (cd := (1, 0, 6)) rfl dDA_commit_115 (fun v51 hv51 => ?_)
              obtain rfl := (show v51 = .int (nI 6) from hv51)
              refine mi_ge (tgt := 159) hx hb dDA_commit_118 (by decide) (by omega) (by omega) (fun h28 => ?_) (fun h28 => absurd h28 (by omega))
              refine mi_iinc (k := 1) (x := i22) (d := 1) (y := i22 + 1) (lv' := [(3, .int (nI (i22 + 1))), (4, .int (nI i25)), (0, .ref h0), (1, .ref st), (2, .int cn)]) hx hb dDA_commit_159 hl rfl (by decide) rfl (by decide) rfl (fun ls hl => ?_)
              refine lv_goto (tgt := 28) hx hb dDA_commit_162 (by decide) ?_
              exact ih22 (i22 + 1) pl ls H locs (by omega) (lv_sub hl [0, 2, 3, 4] rfl) hO hP hD hS
            | succ n25 ih25 =>
              intro i25 pl ls H locs hm25  hl hO hP hD hS
              refine lv_iload hx hb dDA_commit_112 (lv_at hl 0 rfl) ?_
              refine lv_aload_n hx hb dDA_commit_114 rfl (lv_at hl 3 rfl) ?_
              refine ty_get (ci := 2) (C := "LatticeKeys$DsaSet") (TT := T_DS) (N := 17) (kd := (44, 0)) hx hb hts (wg_ft i_DS) hown hK hO k_st (nxg hc0 k_st rfl) hP (fun _ h9 => h9) rfl 0 (by decide) (hts _ (wg_t kw_302)) (fun _ h9 => h9) (cd := (1, 0, 6)) rfl dDA_commit_115 (fun v52 hv52 => ?_)
              obtain rfl := (show v52 = .int (nI 6) from hv52)
              refine mi_ge (tgt := 159) hx hb dDA_commit_118 (by decide) (by omega) (by omega) (fun h29 => absurd h29 (by omega)) (fun h29 => ?_)
              refine lv_aload_n hx hb dDA_commit_121 rfl (lv_at hl 2 rfl) ?_
              refine ty_get (ci := 6) (C := "LatticeKeys$Dsa") (TT := T_DA) (N := 17) (kd := (15, 0)) hx hb hts (wg_ft i_DA) hown hK hO k_h0 (nxg hc0 k_h0 rfl) hP (fun _ h9 => h9) rfl 1 (by decide) (hts _ (wg_t kw_166)) (fun _ h9 => h9) (cd := (3, 12, 0)) rfl dDA_commit_122 (fun v53 hv53 => ?_)
              obtain ⟨r51, rfl, kr50⟩ := (show ∃ r : Nat, v53 = .ref r ∧ T r = some (12, 0) from hv53)
              refine lv_aload_n hx hb dDA_commit_125 rfl (lv_at hl 2 rfl) ?_
              refine ty_get (ci := 6) (C := "LatticeKeys$Dsa") (TT := T_DA) (N := 17) (kd := (15, 0)) hx hb hts (wg_ft i_DA) hown hK hO k_h0 (nxg hc0 k_h0 rfl) hP (fun _ h9 => h9) rfl 8 (by decide) (hts _ (wg_t kw_173)) (fun _ h9 => h9) (cd := (3, 3, 8)) rfl dDA_commit_126 (fun v54 hv54 => ?_)
              obtain ⟨r52, rfl, kr51⟩ := (show ∃ r : Nat, v54 = .ref r ∧ T r = some (3, 8) from hv54)
              refine lv_iload hx hb dDA_commit_129 (lv_at hl 0 rfl) ?_
              refine ty_aald3 hx hb hK hO kr51 (nxg hc0 kr51 rfl) hP (by omega) (by decide) dDA_commit_131 (fun r53 kr52 => ?_)
              refine lv_aload_n hx hb dDA_commit_132 rfl (lv_at hl 2 rfl) ?_
              refine ty_get (ci := 6) (C := "LatticeKeys$Dsa") (TT := T_DA) (N := 17) (kd := (15, 0)) hx hb hts (wg_ft i_DA) hown hK hO k_h0 (nxg hc0 k_h0 rfl) hP (fun _ h9 => h9) rfl 3 (by decide) (hts _ (wg_t kw_168)) (fun _ h9 => h9) (cd := (3, 3, 56)) rfl dDA_commit_133 (fun v55 hv55 => ?_)
              obtain ⟨r54, rfl, kr53⟩ := (show ∃ r : Nat, v55 = .ref r ∧ T r = some (3, 56) from hv55)
              refine lv_aload_n hx hb dDA_commit_136 rfl (lv_at hl 3 rfl) ?_
              refine ty_get (ci := 2) (C := "LatticeKeys$DsaSet") (TT := T_DS) (N := 17) (kd := (44, 0)) hx hb hts (wg_ft i_DS) hown hK hO k_st (nxg hc0 k_st rfl) hP (fun _ h9 => h9) rfl 1 (by decide) (hts _ (wg_t kw_305)) (fun _ h9 => h9) (cd := (1, 0, 5)) rfl dDA_commit_137 (fun v56 hv56 => ?_)
              obtain rfl := (show v56 = .int (nI 5) from hv56)
              refine lv_iload hx hb dDA_commit_140 (lv_at hl 0 rfl) ?_
              refine mi_imul hx hb dDA_commit_142 ?_
              refine lv_iload_n hx hb dDA_commit_143 rfl (lv_at hl 1 rfl) ?_
              refine mi_iadd hx hb dDA_commit_144 ?_
              refine ty_aald3 hx hb hK hO kr53 (nxg hc0 kr53 rfl) hP (by omega) (by decide) dDA_commit_145 (fun r55 kr54 => ?_)
              refine lv_aload_n hx hb dDA_commit_146 rfl (lv_at hl 2 rfl) ?_
              refine ty_get (ci := 6) (C := "LatticeKeys$Dsa") (TT := T_DA) (N := 17) (kd := (15, 0)) hx hb hts (wg_ft i_DA) hown hK hO k_h0 (nxg hc0 k_h0 rfl) hP (fun _ h9 => h9) rfl 10 (by decide) (hts _ (wg_t kw_175)) (fun _ h9 => h9) (cd := (3, 0, 256)) rfl dDA_commit_147 (fun v57 hv57 => ?_)
              obtain ⟨r56, rfl, kr55⟩ := (show ∃ r : Nat, v57 = .ref r ∧ T r = some (0, 256) from hv57)
              refine mp_v (cx := []) (wr := []) hP hD hS hA [] [] rfl rfl rfl (by decide) (va_runV (As := [.ref r53, .ref r55, .ref r56]) (rest := []) F (t_RG_addProduct_12 l g _ T xs pl hO hU hc0 r51 r53 r55 r56 kr50 kr52 kr54 kr55) (cwV 3 hts (wg_app (wg_c kw_719 (wg_c kw_654 (wg_c kw_655 (wg_c kw_4 wg_n)))) kw_656) rfl rfl rfl (by decide +kernel) ⟨by decide, by decide⟩) (pp_VT (en_ok g) (ci := 4) (kd := (12, 0)) hK hO kr50 (nxg hc0 kr50 rfl) (fun _ h9 => ko1 h9) hP hD hS hA hE [] rfl rfl rfl) rfl rfl hl.1 rfl (lv_room (Nat.le_of_ble_eq_true rfl)) dDA_commit_150 ⟨by omega, by omega⟩) (fun  pl H locs hu32 hP hD hS => ?_)
              obtain ⟨hq32, hO⟩ := hu32
              have hP : va_P g.1 vcl ([] ++ pl) _ := hP
              have hD : va_D _ ([] ++ pl) := hD
              refine W.widen (k := 0) (n := 0) (by omega) (by omega) ?_
              refine mi_iinc (k := 0) (x := i25) (d := 1) (y := i25 + 1) (lv' := [(4, .int (nI (i25 + 1))), (3, .int (nI i22)), (0, .ref h0), (1, .ref st), (2, .int cn)]) hx hb dDA_commit_153 hl rfl (by decide) rfl (by decide) rfl (fun ls hl => ?_)
              refine lv_goto (tgt := 112) hx hb dDA_commit_156 (by decide) ?_
              exact ih25 (i25 + 1) pl ls H locs (by omega) (lv_sub hl [0, 1, 2, 3, 4] rfl) hO hP hD hS
          exact lp25 6 0 pl ls _ _ (by omega) (lv_sub hl [0, 1, 2, 3, 4] rfl) hO hP hD hS
      exact lp22 5 0 pl ls _ _ (by omega) (lv_sub hl [0, 1, 2, 3] rfl) hO hP hD hS
    | succ n21 ih21 =>
      intro i21 pl ls H locs hm21  hl hO hP hD hS
      refine lv_iload_n hx hb dDA_commit_2 rfl (lv_at hl 0 rfl) ?_
      refine lv_aload_n hx hb dDA_commit_3 rfl (lv_at hl 2 rfl) ?_
      refine ty_get (ci := 2) (C := "LatticeKeys$DsaSet") (TT := T_DS) (N := 17) (kd := (44, 0)) hx hb hts (wg_ft i_DS) hown hK hO k_st (nxg hc0 k_st rfl) hP (fun _ h9 => h9) rfl 0 (by decide) (hts _ (wg_t kw_302)) (fun _ h9 => h9) (cd := (1, 0, 6)) rfl dDA_commit_4 (fun v58 hv58 => ?_)
      obtain rfl := (show v58 = .int (nI 6) from hv58)
      refine mi_ge (tgt := 26) hx hb dDA_commit_7 (by decide) (by omega) (by omega) (fun h30 => absurd h30 (by omega)) (fun h30 => ?_)
      refine lv_aload_n hx hb dDA_commit_10 rfl (lv_at hl 1 rfl) ?_
      refine ty_get (ci := 6) (C := "LatticeKeys$Dsa") (TT := T_DA) (N := 17) (kd := (15, 0)) hx hb hts (wg_ft i_DA) hown hK hO k_h0 (nxg hc0 k_h0 rfl) hP (fun _ h9 => h9) rfl 8 (by decide) (hts _ (wg_t kw_173)) (fun _ h9 => h9) (cd := (3, 3, 8)) rfl dDA_commit_11 (fun v59 hv59 => ?_)
      obtain ⟨r57, rfl, kr56⟩ := (show ∃ r : Nat, v59 = .ref r ∧ T r = some (3, 8) from hv59)
      refine lv_iload_n hx hb dDA_commit_14 rfl (lv_at hl 0 rfl) ?_
      refine ty_aald3 hx hb hK hO kr56 (nxg hc0 kr56 rfl) hP (by omega) (by decide) dDA_commit_15 (fun r58 kr57 => ?_)
      refine lv_iconst (v := nI 0) hx hb dDA_commit_16 (by decide) ?_
      refine mp_v (cx := []) (wr := []) hP hD hS hA [] [] rfl rfl rfl (by decide) (va_runS (As := [.ref r58, .int (nI 0)]) (rest := []) F (t_fillI l g _ T xs pl hO hU hc0 r58 256 (nI 0) kr57 (by omega)) (va_cwS 2 hts (wg_app (wg_c kw_716 (wg_c kw_717 (wg_c kw_21 wg_n))) kw_718) rfl rfl rfl (by decide +kernel) ⟨by decide, by decide⟩) (pp_S (en_ok g) hP hD hS hA hE [] rfl rfl) rfl rfl hl.1 rfl (lv_room (Nat.le_of_ble_eq_true rfl)) dDA_commit_17 ⟨by omega, by omega⟩) (fun  pl H locs hu33 hP hD hS => ?_)
      obtain ⟨hq33, hO⟩ := hu33
      have hP : va_P g.1 vcl ([] ++ pl) _ := hP
      have hD : va_D _ ([] ++ pl) := hD
      refine W.widen (k := 0) (n := 0) (by omega) (by omega) ?_
      refine mi_iinc (k := 0) (x := i21) (d := 1) (y := i21 + 1) (lv' := [(3, .int (nI (i21 + 1))), (0, .ref h0), (1, .ref st), (2, .int cn)]) hx hb dDA_commit_20 hl rfl (by decide) rfl (by decide) rfl (fun ls hl => ?_)
      refine lv_goto (tgt := 2) hx hb dDA_commit_23 (by decide) ?_
      exact ih21 (i21 + 1) pl ls H locs (by omega) (lv_sub hl [0, 1, 2, 3] rfl) hO hP hD hS
  exact lp21 6 0 pl ls _ _ (by omega) (lv_sub hl [0, 1, 2, 3] rfl) hO hP hD hS
set_option maxHeartbeats 400000 in
set_option maxRecDepth 100000 in
theorem t_DA_commit_2 (l : Launch) (g : Gd) (sz : Nat) (T : Ty) (xs : List Nat) (pl : va_W) (hO : okx g T xs pl) (hU : uni T) (hc0 : clo T xs 0) (hc3 : clo T xs 3) (hc4 : clo T xs 4) (h0 st : Nat) (cn : Int32) (k_h0 : T h0 = some (15, 0)) (k_st : T st = some (45, 0))  : Met l y_DA_commit w_DA_commit ({ frames := 5, cells := 0, slots := 0, locals := 147 } : Room) (va_Pc [.ref h0, .ref st, .int cn] (pr (en g) g.1 vcl sz ([] ++ pl))) (va_Qv (fun (u : va_W) => (True) ∧ okx g T xs u) (po g.1 vcl (va_A ([] ++ pl) sz) (fun (u : va_W) => [] ++ u)) (va_A ([] ++ pl) sz)) 0 0 (va_A ([] ++ pl) sz) := by
  refine mc_entry (cc := c_DA_commit) (maxL := 5) (ret := none) (by decide) rfl (Nat.le_of_ble_eq_true rfl) ?_
  intro p e s m args below meth c ls F hr hlk hnm hsz hP hD hE hA hl
  obtain ⟨hx, hb, hml, hown, hts⟩ := id F
  have hK := hE.1
  generalize va_A ([] ++ pl) sz = A at hD hE hA ⊢
  have hS : va_S A s.heap s.heap [] := va_S.rf
  have hl : lv_has ls 5 [(0, .ref h0), (1, .ref st), (2, .int cn)] := hl
  refine lv_iconst (v := nI 0) hx hb dDA_commit_0 (by decide) ?_
  refine lv_istore_n (lv' := [(3, .int (nI 0)), (0, .ref h0), (1, .ref st), (2, .int cn)]) hx hb dDA_commit_1 rfl hl (by decide) rfl (fun ls hl => ?_)
  have lp21 : ∀ (n21 : Nat) (i21 : Nat) (pl : va_W) (ls : Array Slot) (H : Heap) (locs : List Loc), n21 + i21 = 8 → lv_has ls 5 [(3, .int (nI i21)), (0, .ref h0), (1, .ref st), (2, .int cn)] → okx g T xs pl → va_P g.1 vcl ([] ++ pl) H → va_D A ([] ++ pl) → va_S A s.heap H locs → W p l e ({ frames := 5, cells := 0, slots := 0, locals := 147 } : Room) s m args below meth c H locs 0 0 (MQ below (va_Qv (fun (u : va_W) => (True) ∧ okx g T xs u) (po g.1 vcl A (fun (u : va_W) => [] ++ u)) A) args s 0 0 A) (F0 m 2 ls []) := by
    intro n21
    induction n21 with
    | zero =>
      intro i21 pl ls H locs hm21  hl hO hP hD hS
      refine lv_iload_n hx hb dDA_commit_2 rfl (lv_at hl 0 rfl) ?_
      refine lv_aload_n hx hb dDA_commit_3 rfl (lv_at hl 2 rfl) ?_
      refine ty_get (ci := 2) (C := "LatticeKeys$DsaSet") (TT := T_DS) (N := 17) (kd := (45, 0)) hx hb hts (wg_ft i_DS) hown hK hO k_st (nxg hc0 k_st rfl) hP (fun _ h9 => h9) rfl 0 (by decide) (hts _ (wg_t kw_302)) (fun _ h9 => h9) (cd := (1, 0, 8)) rfl dDA_commit_4 (fun v21 hv21 => ?_)
      obtain rfl := (show v21 = .int (nI 8) from hv21)
      refine mi_ge (tgt := 26) hx hb dDA_commit_7 (by decide) (by omega) (by omega) (fun h21 => ?_) (fun h21 => absurd h21 (by omega))
      refine lv_iconst (v := nI 0) hx hb dDA_commit_26 (by decide) ?_
      refine lv_istore_n (lv' := [(3, .int (nI 0)), (0, .ref h0), (1, .ref st), (2, .int cn)]) hx hb dDA_commit_27 rfl hl (by decide) rfl (fun ls hl => ?_)
      have lp22 : ∀ (n22 : Nat) (i22 : Nat) (pl : va_W) (ls : Array Slot) (H : Heap) (locs : List Loc), n22 + i22 = 7 → lv_has ls 5 [(3, .int (nI i22)), (0, .ref h0), (1, .ref st), (2, .int cn)] → okx g T xs pl → va_P g.1 vcl ([] ++ pl) H → va_D A ([] ++ pl) → va_S A s.heap H locs → W p l e ({ frames := 5, cells := 0, slots := 0, locals := 147 } : Room) s m args below meth c H locs 0 0 (MQ below (va_Qv (fun (u : va_W) => (True) ∧ okx g T xs u) (po g.1 vcl A (fun (u : va_W) => [] ++ u)) A) args s 0 0 A) (F0 m 28 ls []) := by
        intro n22
        induction n22 with
        | zero =>
          intro i22 pl ls H locs hm22  hl hO hP hD hS
          refine lv_iload_n hx hb dDA_commit_28 rfl (lv_at hl 0 rfl) ?_
          refine lv_aload_n hx hb dDA_commit_29 rfl (lv_at hl 2 rfl) ?_
          refine ty_get (ci := 2) (C := "LatticeKeys$DsaSet") (TT := T_DS) (N := 17) (kd := (45, 0)) hx hb hts (wg_ft i_DS) hown hK hO k_st (nxg hc0 k_st rfl) hP (fun _ h9 => h9) rfl 1 (by decide) (hts _ (wg_t kw_305)) (fun _ h9 => h9) (cd := (1, 0, 7)) rfl dDA_commit_30 (fun v22 hv22 => ?_)
          obtain rfl := (show v22 = .int (nI 7) from hv22)
          refine mi_ge (tgt := 165) hx hb dDA_commit_33 (by decide) (by omega) (by omega) (fun h22 => ?_) (fun h22 => absurd h22 (by omega))
          refine lv_aload_n hx hb dDA_commit_165 rfl (lv_at hl 1 rfl) ?_
          obtain ⟨q21, fs21, -, hf21⟩ := ty_obj (X := []) hO k_h0 (nxg hc0 k_h0 rfl) (fun _ h9 => h9)
          obtain ⟨v23, -, hv23⟩ := fall_get hf21 (j := 0) (c := (3, 10, 2)) rfl
          obtain ⟨r21, -, kr21⟩ := (show ∃ r : Nat, v23 = .ref r ∧ T r = some (10, 2) from hv23)
          obtain ⟨e21, pl, hP, hD, hk21, hO⟩ := open1 hP hD hO kr21 (nxg hc3 kr21 rfl)
          obtain ⟨ln21, rt21, ps21, x21, rfl, kl21, hr21, hr22, hr23⟩ := hk21
          have kl21 : T ln21 = some (19, 2) := kl21
          obtain ⟨e22, pl, hP, hD, hk22, hO⟩ := open1 hP hD hO kl21 (nmc (knd_ne kl21 kr21 (by decide)) (nxg hc3 kl21 rfl))
          obtain ⟨f21, rfl⟩ := hk22
          have hP : va_P g.1 vcl ([(r21, .inr (3, [.ref ln21, .int (nI rt21), .int x21, .int (nI ps21)])), (ln21, .inl (g.2.1 2, 25, .inr (.inl f21)))] ++ pl) _ := hP
          have hD : va_D _ ([(r21, .inr (3, [.ref ln21, .int (nI rt21), .int x21, .int (nI ps21)])), (ln21, .inl (g.2.1 2, 25, .inr (.inl f21)))] ++ pl) := hD
          refine mp_v (cx := [(r21, .inr (3, [.ref ln21, .int (nI rt21), .int x21, .int (nI ps21)])), (ln21, .inl (g.2.1 2, 25, .inr (.inl f21)))]) (wr := []) hP hD hS hA [0, 1] [] rfl rfl rfl (by decide) (va_runV (As := []) (rest := []) F (t_DA_startChallenge l g _ T (ln21 :: (r21 :: xs)) pl hO hU (clo_cons (clo_cons hc0 kr21 (by decide)) kl21 (by decide)) r21 h0 ln21 rt21 ps21 x21 f21 kr21 k_h0) (cwV 0 hts (wg_app (wg_c kw_1202 (wg_c kw_1204 (wg_c ks_38 (wg_c kw_5 wg_n)))) kw_1205) rfl rfl rfl (by decide +kernel) ⟨by decide, by decide⟩) (pp_VT (en_ok g) (ci := 6) (kd := (15, 0)) hK hO k_h0 (nxg (clo_cons (clo_cons hc0 kr21 (by decide)) kl21 (by decide)) k_h0 rfl) (fun _ h9 => ko1 h9) hP hD hS hA hE [0, 1] rfl rfl rfl) rfl rfl hl.1 rfl (lv_room (Nat.le_of_ble_eq_true rfl)) dDA_commit_166 ⟨by omega, by omega⟩) (fun  u21 H locs hu21 hP hD hS => ?_)
          obtain ⟨u22, pl⟩ := u21
          obtain ⟨hq21, hO⟩ := hu21
          obtain ⟨ps22, f22⟩ := u22
          have hP : va_P g.1 vcl ([(r21, .inr (3, [.ref ln21, .int (nI 136), .int (nI 31), .int (nI ps22)])), (ln21, .inl (g.2.1 2, 25, .inr (.inl f22)))] ++ pl) _ := hP
          have hD : va_D _ ([(r21, .inr (3, [.ref ln21, .int (nI 136), .int (nI 31), .int (nI ps22)])), (ln21, .inl (g.2.1 2, 25, .inr (.inl f22)))] ++ pl) := hD
          have hq21 : ps22 < 136 := hq21
          refine W.widen (k := 0) (n := 0) (by omega) (by omega) ?_
          refine lv_iconst (v := nI 0) hx hb dDA_commit_169 (by decide) ?_
          refine lv_istore_n (lv' := [(3, .int (nI 0)), (0, .ref h0), (1, .ref st), (2, .int cn)]) hx hb dDA_commit_170 rfl hl (by decide) rfl (fun ls hl => ?_)
          have lp23 : ∀ (n23 : Nat) (i23 : Nat) (ps23 : Nat) (f23 : Nat → Int64) (pl : va_W) (ls : Array Slot) (H : Heap) (locs : List Loc), n23 + i23 = 8 → (ps23 < 136) → lv_has ls 5 [(3, .int (nI i23)), (0, .ref h0), (1, .ref st)] → okx g T (ln21 :: (r21 :: xs)) pl → va_P g.1 vcl ([(r21, .inr (3, [.ref ln21, .int (nI 136), .int (nI 31), .int (nI ps23)])), (ln21, .inl (g.2.1 2, 25, .inr (.inl f23)))] ++ pl) H → va_D A ([(r21, .inr (3, [.ref ln21, .int (nI 136), .int (nI 31), .int (nI ps23)])), (ln21, .inl (g.2.1 2, 25, .inr (.inl f23)))] ++ pl) → va_S A s.heap H locs → W p l e ({ frames := 5, cells := 0, slots := 0, locals := 147 } : Room) s m args below meth c H locs 0 0 (MQ below (va_Qv (fun (u : va_W) => (True) ∧ okx g T xs u) (po g.1 vcl A (fun (u : va_W) => [] ++ u)) A) args s 0 0 A) (F0 m 171 ls []) := by
            intro n23
            induction n23 with
            | zero =>
              intro i23 ps23 f23 pl ls H locs hm23 hi21 hl hO hP hD hS
              refine lv_iload_n hx hb dDA_commit_171 rfl (lv_at hl 0 rfl) ?_
              refine lv_aload_n hx hb dDA_commit_172 rfl (lv_at hl 2 rfl) ?_
              refine ty_get (ci := 2) (C := "LatticeKeys$DsaSet") (TT := T_DS) (N := 17) (kd := (45, 0)) hx hb hts (wg_ft i_DS) hown hK hO k_st (nxg (clo_cons (clo_cons hc0 kr21 (by decide)) kl21 (by decide)) k_st rfl) hP (fun _ h9 => h9) rfl 0 (by decide) (hts _ (wg_t kw_302)) (fun _ h9 => h9) (cd := (1, 0, 8)) rfl dDA_commit_173 (fun v24 hv24 => ?_)
              obtain rfl := (show v24 = .int (nI 8) from hv24)
              refine mi_ge (tgt := 240) hx hb dDA_commit_176 (by decide) (by omega) (by omega) (fun h23 => ?_) (fun h23 => absurd h23 (by omega))
              refine lv_aload_n hx hb dDA_commit_240 rfl (lv_at hl 1 rfl) ?_
              refine ty_get (ci := 6) (C := "LatticeKeys$Dsa") (TT := T_DA) (N := 17) (kd := (15, 0)) hx hb hts (wg_ft i_DA) hown hK hO k_h0 (nxg (clo_cons (clo_cons hc0 kr21 (by decide)) kl21 (by decide)) k_h0 rfl) hP (fun _ h9 => h9) rfl 0 (by decide) (hts _ (wg_t kw_165)) (fun _ h9 => h9) (cd := (3, 10, 2)) rfl dDA_commit_241 (fun v25 hv25 => ?_)
              obtain ⟨r22, rfl, kr22⟩ := (show ∃ r : Nat, v25 = .ref r ∧ T r = some (10, 2) from hv25)
              obtain rfl : r21 = r22 := hU _ _ _ (by decide) kr21 kr22
              refine mp_v (cx := [(r21, .inr (3, [.ref ln21, .int (nI 136), .int (nI 31), .int (nI ps23)])), (ln21, .inl (g.2.1 2, 25, .inr (.inl f23)))]) (wr := []) hP hD hS hA [0, 1] [] rfl rfl rfl (by decide) (va_runV (As := []) (rest := []) F (t_SP_finish l g _ T (ln21 :: (r21 :: xs)) pl hO hU  r21 ln21 136 ps23 (nI 31) f23 (by omega) (by omega)) (cwV 0 hts (wg_app (wg_c kw_672 (wg_c kw_611 (wg_c kw_612 (wg_c kw_2 wg_n)))) kw_613) rfl rfl rfl (by decide +kernel) ⟨by decide, by decide⟩) (pp_V (en_ok g) (q0 := 0) hK hP hD hS hA hE [0, 1] rfl rfl rfl rfl) rfl rfl hl.1 rfl (lv_room (Nat.le_of_ble_eq_true rfl)) dDA_commit_244 ⟨by omega, by omega⟩) (fun  u23 H locs hu22 hP hD hS => ?_)
              obtain ⟨u24, pl⟩ := u23
              obtain ⟨hq22, hO⟩ := hu22
              have hP : va_P g.1 vcl ([(r21, .inr (3, [.ref ln21, .int (nI 136), .int (nI 31), .int (nI 136)])), (ln21, .inl (g.2.1 2, 25, .inr (.inl u24)))] ++ pl) _ := hP
              have hD : va_D _ ([(r21, .inr (3, [.ref ln21, .int (nI 136), .int (nI 31), .int (nI 136)])), (ln21, .inl (g.2.1 2, 25, .inr (.inl u24)))] ++ pl) := hD
              refine W.widen (k := 0) (n := 0) (by omega) (by omega) ?_
              refine lv_aload_n hx hb dDA_commit_247 rfl (lv_at hl 1 rfl) ?_
              refine ty_get (ci := 6) (C := "LatticeKeys$Dsa") (TT := T_DA) (N := 17) (kd := (15, 0)) hx hb hts (wg_ft i_DA) hown hK hO k_h0 (nxg (clo_cons (clo_cons hc0 kr21 (by decide)) kl21 (by decide)) k_h0 rfl) hP (fun _ h9 => h9) rfl 0 (by decide) (hts _ (wg_t kw_165)) (fun _ h9 => h9) (cd := (3, 10, 2)) rfl dDA_commit_248 (fun v26 hv26 => ?_)
              obtain ⟨r23, rfl, kr23⟩ := (show ∃ r : Nat, v26 = .ref r ∧ T r = some (10, 2) from hv26)
              obtain rfl : r21 = r23 := hU _ _ _ (by decide) kr21 kr23
              refine lv_aload_n hx hb dDA_commit_251 rfl (lv_at hl 1 rfl) ?_
              refine ty_get (ci := 6) (C := "LatticeKeys$Dsa") (TT := T_DA) (N := 17) (kd := (15, 0)) hx hb hts (wg_ft i_DA) hown hK hO k_h0 (nxg (clo_cons (clo_cons hc0 kr21 (by decide)) kl21 (by decide)) k_h0 rfl) hP (fun _ h9 => h9) rfl 13 (by decide) (hts _ (wg_t kw_178)) (fun _ h9 => h9) (cd := (3, 1, 64)) rfl dDA_commit_252 (fun v27 hv27 => ?_)
              obtain ⟨r24, rfl, kr24⟩ := (show ∃ r : Nat, v27 = .ref r ∧ T r = some (1, 64) from hv27)
              refine lv_iconst (v := nI 0) hx hb dDA_commit_255 (by decide) ?_
              refine lv_aload_n hx hb dDA_commit_256 rfl (lv_at hl 2 rfl) ?_
              refine ty_get (ci := 2) (C := "LatticeKeys$DsaSet") (TT := T_DS) (N := 17) (kd := (45, 0)) hx hb hts (wg_ft i_DS) hown hK hO k_st (nxg (clo_cons (clo_cons hc0 kr21 (by decide)) kl21 (by decide)) k_st rfl) hP (fun _ h9 => h9) rfl 5 (by decide) (hts _ (wg_t kw_315)) (fun _ h9 => h9) (cd := (1, 0, 64)) rfl dDA_commit_257 (fun v28 hv28 => ?_)
              obtain rfl := (show v28 = .int (nI 64) from hv28)
              refine mp_v (cx := [(r21, .inr (3, [.ref ln21, .int (nI 136), .int (nI 31), .int (nI 136)])), (ln21, .inl (g.2.1 2, 25, .inr (.inl u24)))]) (wr := []) hP hD hS hA [0, 1] [] rfl rfl rfl (by decide) (va_runV (As := [.ref r24, .int (nI 0), .int (nI 64)]) (rest := []) F (t_SP_squeeze l g _ T (ln21 :: (r21 :: xs)) pl hO hU (clo_cons (clo_cons hc0 kr21 (by decide)) kl21 (by decide)) r24 64 0 64 r21 ln21 136 136 (nI 31) u24 kr24 (by omega) (by omega) (by omega) (by omega)) (cwV 3 hts (wg_app (wg_c kw_673 (wg_c kw_615 (wg_c kw_616 (wg_c kw_2 wg_n)))) kw_617) rfl rfl rfl (by decide +kernel) ⟨by decide, by decide⟩) (pp_V (en_ok g) (q0 := 0) hK hP hD hS hA hE [0, 1] rfl rfl rfl rfl) rfl rfl hl.1 rfl (lv_room (Nat.le_of_ble_eq_true rfl)) dDA_commit_260 ⟨by omega, by omega⟩) (fun  u25 H locs hu23 hP hD hS => ?_)
              obtain ⟨u26, pl⟩ := u25
              obtain ⟨hq23, hO⟩ := hu23
              obtain ⟨k21, f24⟩ := u26
              have hP : va_P g.1 vcl ([(r21, .inr (3, [.ref ln21, .int (nI 136), .int (nI 31), .int (nI k21)])), (ln21, .inl (g.2.1 2, 25, .inr (.inl f24)))] ++ pl) _ := hP
              have hD : va_D _ ([(r21, .inr (3, [.ref ln21, .int (nI 136), .int (nI 31), .int (nI k21)])), (ln21, .inl (g.2.1 2, 25, .inr (.inl f24)))] ++ pl) := hD
              have hq23 : k21 ≤ 136 := hq23
              refine W.widen (k := 0) (n := 0) (by omega) (by omega) ?_
              refine lv_aload_n hx hb dDA_commit_263 rfl (lv_at hl 1 rfl) ?_
              refine ty_get (ci := 6) (C := "LatticeKeys$Dsa") (TT := T_DA) (N := 17) (kd := (15, 0)) hx hb hts (wg_ft i_DA) hown hK hO k_h0 (nxg (clo_cons (clo_cons hc0 kr21 (by decide)) kl21 (by decide)) k_h0 rfl) hP (fun _ h9 => h9) rfl 2 (by decide) (hts _ (wg_t kw_167)) (fun _ h9 => h9) (cd := (3, 14, 0)) rfl dDA_commit_264 (fun v29 hv29 => ?_)
              obtain ⟨r25, rfl, kr25⟩ := (show ∃ r : Nat, v29 = .ref r ∧ T r = some (14, 0) from hv29)
              refine lv_aload_n hx hb dDA_commit_267 rfl (lv_at hl 2 rfl) ?_
              refine lv_aload_n hx hb dDA_commit_268 rfl (lv_at hl 1 rfl) ?_
              refine ty_get (ci := 6) (C := "LatticeKeys$Dsa") (TT := T_DA) (N := 17) (kd := (15, 0)) hx hb hts (wg_ft i_DA) hown hK hO k_h0 (nxg (clo_cons (clo_cons hc0 kr21 (by decide)) kl21 (by decide)) k_h0 rfl) hP (fun _ h9 => h9) rfl 9 (by decide) (hts _ (wg_t kw_174)) (fun _ h9 => h9) (cd := (3, 0, 256)) rfl dDA_commit_269 (fun v30 hv30 => ?_)
              obtain ⟨r26, rfl, kr26⟩ := (show ∃ r : Nat, v30 = .ref r ∧ T r = some (0, 256) from hv30)
              refine lv_aload_n hx hb dDA_commit_272 rfl (lv_at hl 1 rfl) ?_
              refine ty_get (ci := 6) (C := "LatticeKeys$Dsa") (TT := T_DA) (N := 17) (kd := (15, 0)) hx hb hts (wg_ft i_DA) hown hK hO k_h0 (nxg (clo_cons (clo_cons hc0 kr21 (by decide)) kl21 (by decide)) k_h0 rfl) hP (fun _ h9 => h9) rfl 13 (by decide) (hts _ (wg_t kw_178)) (fun _ h9 => h9) (cd := (3, 1, 64)) rfl dDA_commit_273 (fun v31 hv31 => ?_)
              obtain ⟨r27, rfl, kr27⟩ := (show ∃ r : Nat, v31 = .ref r ∧ T r = some (1, 64) from hv31)
              refine mp_v (cx := []) (wr := [(r21, .inr (3, [.ref ln21, .int (nI 136), .int (nI 31), .int (nI k21)])), (ln21, .inl (g.2.1 2, 25, .inr (.inl f24)))]) hP hD hS hA [] [0, 1] rfl rfl rfl (by decide) (va_runV (As := [.ref st, .ref r26, .ref r27]) (rest := []) F (t_SA_sampleBall_2 l g _ T (ln21 :: (r21 :: xs)) pl hO hU (clo_cons (clo_cons hc0 kr21 (by decide)) kl21 (by decide)) (clo_cons (clo_cons hc4 kr21 (by decide)) kl21 (by decide)) r25 st r26 r27 64 kr25 k_st kr26 kr27 (by omega) (by omega)) (cwV 3 hts (wg_app (wg_c kw_1214 (wg_c kw_1215 (wg_c kw_1216 (wg_c kw_6 wg_n)))) kw_1217) rfl rfl rfl (by decide +kernel) ⟨by decide, by decide⟩) (pp_VT (en_ok g) (ci := 7) (kd := (14, 0)) hK hO kr25 (nxg (clo_cons (clo_cons hc0 kr21 (by decide)) kl21 (by decide)) kr25 rfl) (fun _ h9 => ko1 h9) hP hD hS hA hE [] rfl rfl rfl) rfl rfl hl.1 rfl (lv_room (Nat.le_of_ble_eq_true rfl)) dDA_commit_276 ⟨by omega, by omega⟩) (fun  pl H locs hu24 hP hD hS => ?_)
              obtain ⟨hq24, hO⟩ := hu24
              have hP : va_P g.1 vcl ([(r21, .inr (3, [.ref ln21, .int (nI 136), .int (nI 31), .int (nI k21)])), (ln21, .inl (g.2.1 2, 25, .inr (.inl f24)))] ++ pl) _ := hP
              have hD : va_D _ ([(r21, .inr (3, [.ref ln21, .int (nI 136), .int (nI 31), .int (nI k21)])), (ln21, .inl (g.2.1 2, 25, .inr (.inl f24)))] ++ pl) := hD
              refine W.widen (k := 0) (n := 0) (by omega) (by omega) ?_
              refine lv_aload_n hx hb dDA_commit_279 rfl (lv_at hl 1 rfl) ?_
              refine ty_get (ci := 6) (C := "LatticeKeys$Dsa") (TT := T_DA) (N := 17) (kd := (15, 0)) hx hb hts (wg_ft i_DA) hown hK hO k_h0 (nxg (clo_cons (clo_cons hc0 kr21 (by decide)) kl21 (by decide)) k_h0 rfl) hP (fun _ h9 => h9) rfl 1 (by decide) (hts _ (wg_t kw_166)) (fun _ h9 => h9) (cd := (3, 12, 0)) rfl dDA_commit_280 (fun v32 hv32 => ?_)
              obtain ⟨r28, rfl, kr28⟩ := (show ∃ r : Nat, v32 = .ref r ∧ T r = some (12, 0) from hv32)
              refine lv_aload_n hx hb dDA_commit_283 rfl (lv_at hl 1 rfl) ?_
              refine ty_get (ci := 6) (C := "LatticeKeys$Dsa") (TT := T_DA) (N := 17) (kd := (15, 0)) hx hb hts (wg_ft i_DA) hown hK hO k_h0 (nxg (clo_cons (clo_cons hc0 kr21 (by decide)) kl21 (by decide)) k_h0 rfl) hP (fun _ h9 => h9) rfl 9 (by decide) (hts _ (wg_t kw_174)) (fun _ h9 => h9) (cd := (3, 0, 256)) rfl dDA_commit_284 (fun v33 hv33 => ?_)
              obtain ⟨r29, rfl, kr29⟩ := (show ∃ r : Nat, v33 = .ref r ∧ T r = some (0, 256) from hv33)
              refine mp_v (cx := []) (wr := [(r21, .inr (3, [.ref ln21, .int (nI 136), .int (nI 31), .int (nI k21)])), (ln21, .inl (g.2.1 2, 25, .inr (.inl f24)))]) hP hD hS hA [] [0, 1] rfl rfl rfl (by decide) (va_runV (As := [.ref r29]) (rest := []) F (t_RG_transform_12 l g _ T (ln21 :: (r21 :: xs)) pl hO hU (clo_cons (clo_cons hc0 kr21 (by decide)) kl21 (by decide)) r28 r29 kr28 kr29) (cwV 1 hts (wg_app (wg_c kw_711 (wg_c kw_637 (wg_c kw_638 (wg_c kw_4 wg_n)))) kw_639) rfl rfl rfl (by decide +kernel) ⟨by decide, by decide⟩) (pp_VT (en_ok g) (ci := 4) (kd := (12, 0)) hK hO kr28 (nxg (clo_cons (clo_cons hc0 kr21 (by decide)) kl21 (by decide)) kr28 rfl) (fun _ h9 => ko1 h9) hP hD hS hA hE [] rfl rfl rfl) rfl rfl hl.1 rfl (lv_room (Nat.le_of_ble_eq_true rfl)) dDA_commit_287 ⟨by omega, by omega⟩) (fun  pl H locs hu25 hP hD hS => ?_)
              obtain ⟨hq25, hO⟩ := hu25
              have hP : va_P g.1 vcl ([(r21, .inr (3, [.ref ln21, .int (nI 136), .int (nI 31), .int (nI k21)])), (ln21, .inl (g.2.1 2, 25, .inr (.inl f24)))] ++ pl) _ := hP
              have hD : va_D _ ([(r21, .inr (3, [.ref ln21, .int (nI 136), .int (nI 31), .int (nI k21)])), (ln21, .inl (g.2.1 2, 25, .inr (.inl f24)))] ++ pl) := hD
              refine W.widen (k := 0) (n := 0) (by omega) (by omega) ?_
              have hO := close1 (e := .inl (g.2.1 2, 25, .inr (.inl f24))) hO kl21 ⟨_, rfl⟩
              have hO := close1 (e := .inr (3, [.ref ln21, .int (nI 136), .int (nI 31), .int (nI k21)])) hO kr21 ⟨_, _, _, _, rfl, kl21, by omega, by omega, by omega⟩
              have hO : okx g T xs ((r21, .inr (3, [.ref ln21, .int (nI 136), .int (nI 31), .int (nI k21)])) :: (ln21, .inl (g.2.1 2, 25, .inr (.inl f24))) :: pl) := hO
              have hP : va_P g.1 vcl ([] ++ ((r21, .inr (3, [.ref ln21, .int (nI 136), .int (nI 31), .int (nI k21)])) :: (ln21, .inl (g.2.1 2, 25, .inr (.inl f24))) :: pl)) _ := hP
              have hD : va_D _ ([] ++ ((r21, .inr (3, [.ref ln21, .int (nI 136), .int (nI 31), .int (nI k21)])) :: (ln21, .inl (g.2.1 2, 25, .inr (.inl f24))) :: pl)) := hD
              generalize ((r21, .inr (3, [.ref ln21, .int (nI 136), .int (nI 31), .int (nI k21)])) :: (ln21, .inl (g.2.1 2, 25, .inr (.inl f24))) :: pl) = pl at hO hP hD
              exact mp_vret hx hb hr hlk hP hD hS pl ⟨trivial, hO⟩ [] rfl rfl rfl (by omega) (by omega) dDA_commit_290
            | succ n23 ih23 =>
              intro i23 ps23 f23 pl ls H locs hm23 hi21 hl hO hP hD hS
              refine lv_iload_n hx hb dDA_commit_171 rfl (lv_at hl 0 rfl) ?_
              refine lv_aload_n hx hb dDA_commit_172 rfl (lv_at hl 2 rfl) ?_
              refine ty_get (ci := 2) (C := "LatticeKeys$DsaSet") (TT := T_DS) (N := 17) (kd := (45, 0)) hx hb hts (wg_ft i_DS) hown hK hO k_st (nxg (clo_cons (clo_cons hc0 kr21 (by decide)) kl21 (by decide)) k_st rfl) hP (fun _ h9 => h9) rfl 0 (by decide) (hts _ (wg_t kw_302)) (fun _ h9 => h9) (cd := (1, 0, 8)) rfl dDA_commit_173 (fun v34 hv34 => ?_)
              obtain rfl := (show v34 = .int (nI 8) from hv34)
              refine mi_ge (tgt := 240) hx hb dDA_commit_176 (by decide) (by omega) (by omega) (fun h24 => absurd h24 (by omega)) (fun h24 => ?_)
              refine lv_aload_n hx hb dDA_commit_179 rfl (lv_at hl 1 rfl) ?_
              refine ty_get (ci := 6) (C := "LatticeKeys$Dsa") (TT := T_DA) (N := 17) (kd := (15, 0)) hx hb hts (wg_ft i_DA) hown hK hO k_h0 (nxg (clo_cons (clo_cons hc0 kr21 (by decide)) kl21 (by decide)) k_h0 rfl) hP (fun _ h9 => h9) rfl 1 (by decide) (hts _ (wg_t kw_166)) (fun _ h9 => h9) (cd := (3, 12, 0)) rfl dDA_commit_180 (fun v35 hv35 => ?_)
              obtain ⟨r30, rfl, kr30⟩ := (show ∃ r : Nat, v35 = .ref r ∧ T r = some (12, 0) from hv35)
              refine lv_aload_n hx hb dDA_commit_183 rfl (lv_at hl 1 rfl) ?_
              refine ty_get (ci := 6) (C := "LatticeKeys$Dsa") (TT := T_DA) (N := 17) (kd := (15, 0)) hx hb hts (wg_ft i_DA) hown hK hO k_h0 (nxg (clo_cons (clo_cons hc0 kr21 (by decide)) kl21 (by decide)) k_h0 rfl) hP (fun _ h9 => h9) rfl 8 (by decide) (hts _ (wg_t kw_173)) (fun _ h9 => h9) (cd := (3, 3, 8)) rfl dDA_commit_184 (fun v36 hv36 => ?_)
              obtain ⟨r31, rfl, kr31⟩ := (show ∃ r : Nat, v36 = .ref r ∧ T r = some (3, 8) from hv36)
              refine lv_iload_n hx hb dDA_commit_187 rfl (lv_at hl 0 rfl) ?_
              refine ty_aald3 hx hb hK hO kr31 (nxg (clo_cons (clo_cons hc0 kr21 (by decide)) kl21 (by decide)) kr31 rfl) hP (by omega) (by decide) dDA_commit_188 (fun r32 kr32 => ?_)
              refine mp_v (cx := []) (wr := [(r21, .inr (3, [.ref ln21, .int (nI 136), .int (nI 31), .int (nI ps23)])), (ln21, .inl (g.2.1 2, 25, .inr (.inl f23)))]) hP hD hS hA [] [0, 1] rfl rfl rfl (by decide) (va_runV (As := [.ref r32]) (rest := []) F (t_RG_restore_12 l g _ T (ln21 :: (r21 :: xs)) pl hO hU (clo_cons (clo_cons hc0 kr21 (by decide)) kl21 (by decide)) r30 r32 kr30 kr32) (cwV 1 hts (wg_app (wg_c kw_720 (wg_c kw_721 (wg_c kw_722 (wg_c kw_4 wg_n)))) kw_723) rfl rfl rfl (by decide +kernel) ⟨by decide, by decide⟩) (pp_VT (en_ok g) (ci := 4) (kd := (12, 0)) hK hO kr30 (nxg (clo_cons (clo_cons hc0 kr21 (by decide)) kl21 (by decide)) kr30 rfl) (fun _ h9 => ko1 h9) hP hD hS hA hE [] rfl rfl rfl) rfl rfl hl.1 rfl (lv_room (Nat.le_of_ble_eq_true rfl)) dDA_commit_189 ⟨by omega, by omega⟩) (fun  pl H locs hu26 hP hD hS => ?_)
              obtain ⟨hq26, hO⟩ := hu26
              have hP : va_P g.1 vcl ([(r21, .inr (3, [.ref ln21, .int (nI 136), .int (nI 31), .int (nI ps23)])), (ln21, .inl (g.2.1 2, 25, .inr (.inl f23)))] ++ pl) _ := hP
              have hD : va_D _ ([(r21, .inr (3, [.ref ln21, .int (nI 136), .int (nI 31), .int (nI ps23)])), (ln21, .inl (g.2.1 2, 25, .inr (.inl f23)))] ++ pl) := hD
              refine W.widen (k := 0) (n := 0) (by omega) (by omega) ?_
              refine lv_iconst (v := nI 0) hx hb dDA_commit_192 (by decide) ?_
              refine lv_istore (lv' := [(4, .int (nI 0)), (3, .int (nI i23)), (0, .ref h0), (1, .ref st)]) hx hb dDA_commit_193 hl (by decide) rfl (fun ls hl => ?_)
              have lp24 : ∀ (n24 : Nat) (i24 : Nat) (pl : va_W) (ls : Array Slot) (H : Heap) (locs : List Loc), n24 + i24 = 256 → lv_has ls 5 [(4, .int (nI i24)), (3, .int (nI i23)), (0, .ref h0), (1, .ref st)] → okx g T (ln21 :: (r21 :: xs)) pl → va_P g.1 vcl ([(r21, .inr (3, [.ref ln21, .int (nI 136), .int (nI 31), .int (nI ps23)])), (ln21, .inl (g.2.1 2, 25, .inr (.inl f23)))] ++ pl) H → va_D A ([(r21, .inr (3, [.ref ln21, .int (nI 136), .int (nI 31), .int (nI ps23)])), (ln21, .inl (g.2.1 2, 25, .inr (.inl f23)))] ++ pl) → va_S A s.heap H locs → W p l e ({ frames := 5, cells := 0, slots := 0, locals := 147 } : Room) s m args below meth c H locs 0 0 (MQ below (va_Qv (fun (u : va_W) => (True) ∧ okx g T xs u) (po g.1 vcl A (fun (u : va_W) => [] ++ u)) A) args s 0 0 A) (F0 m 195 ls []) := by
                intro n24
                induction n24 with
                | zero =>
                  intro i24 pl ls H locs hm24  hl hO hP hD hS
                  refine lv_iload hx hb dDA_commit_195 (lv_at hl 0 rfl) ?_
                  refine lv_sipush (v := nI 256) hx hb dDA_commit_197 (by decide) ?_
                  refine mi_ge (tgt := 229) hx hb dDA_commit_200 (by decide) (by omega) (by omega) (fun h25 => ?_) (fun h25 => absurd h25 (by omega))
                  refine lv_aload_n hx hb dDA_commit_229 rfl (lv_at hl 2 rfl) ?_
                  refine lv_aload_n hx hb dDA_commit_230 rfl (lv_at hl 3 rfl) ?_
                  refine mp_v (cx := [(r21, .inr (3, [.ref ln21, .int (nI 136), .int (nI 31), .int (nI ps23)])), (ln21, .inl (g.2.1 2, 25, .inr (.inl f23)))]) (wr := []) hP hD hS hA [0, 1] [] rfl rfl rfl (by decide) (va_runV (As := [.ref st]) (rest := []) F (t_DA_absorbHigh_2 l g _ T (ln21 :: (r21 :: xs)) pl hO hU (clo_cons (clo_cons hc0 kr21 (by decide)) kl21 (by decide)) r21 h0 st ln21 136 ps23 (nI 31) f23 kr21 k_h0 k_st (by omega) (by omega)) (cwV 1 hts (wg_app (wg_c kw_1210 (wg_c kw_1212 (wg_c ks_39 (wg_c kw_5 wg_n)))) kw_1213) rfl rfl rfl (by decide +kernel) ⟨by decide, by decide⟩) (pp_VT (en_ok g) (ci := 6) (kd := (15, 0)) hK hO k_h0 (nxg (clo_cons (clo_cons hc0 kr21 (by decide)) kl21 (by decide)) k_h0 rfl) (fun _ h9 => ko1 h9) hP hD hS hA hE [0, 1] rfl rfl rfl) rfl rfl hl.1 rfl (lv_room (Nat.le_of_ble_eq_true rfl)) dDA_commit_231 ⟨by omega, by omega⟩) (fun  u27 H locs hu27 hP hD hS => ?_)
                  obtain ⟨u28, pl⟩ := u27
                  obtain ⟨hq27, hO⟩ := hu27
                  obtain ⟨ps24, f25⟩ := u28
                  have hP : va_P g.1 vcl ([(r21, .inr (3, [.ref ln21, .int (nI 136), .int (nI 31), .int (nI ps24)])), (ln21, .inl (g.2.1 2, 25, .inr (.inl f25)))] ++ pl) _ := hP
                  have hD : va_D _ ([(r21, .inr (3, [.ref ln21, .int (nI 136), .int (nI 31), .int (nI ps24)])), (ln21, .inl (g.2.1 2, 25, .inr (.inl f25)))] ++ pl) := hD
                  have hq27 : ps24 < 136 := hq27
                  refine W.widen (k := 0) (n := 0) (by omega) (by omega) ?_
                  refine mi_iinc (k := 1) (x := i23) (d := 1) (y := i23 + 1) (lv' := [(3, .int (nI (i23 + 1))), (4, .int (nI i24)), (0, .ref h0), (1, .ref st)]) hx hb dDA_commit_234 hl rfl (by decide) rfl (by decide) rfl (fun ls hl => ?_)
                  refine lv_goto (tgt := 171) hx hb dDA_commit_237 (by decide) ?_
                  exact ih23 (i23 + 1) ps24 f25 pl ls H locs (by omega) (by omega) (lv_sub hl [0, 2, 3] rfl) hO hP hD hS
                | succ n24 ih24 =>
                  intro i24 pl ls H locs hm24  hl hO hP hD hS
                  refine lv_iload hx hb dDA_commit_195 (lv_at hl 0 rfl) ?_
                  refine lv_sipush (v := nI 256) hx hb dDA_commit_197 (by decide) ?_
                  refine mi_ge (tgt := 229) hx hb dDA_commit_200 (by decide) (by omega) (by omega) (fun h26 => absurd h26 (by omega)) (fun h26 => ?_)
                  refine lv_aload_n hx hb dDA_commit_203 rfl (lv_at hl 2 rfl) ?_
                  refine ty_get (ci := 6) (C := "LatticeKeys$Dsa") (TT := T_DA) (N := 17) (kd := (15, 0)) hx hb hts (wg_ft i_DA) hown hK hO k_h0 (nxg (clo_cons (clo_cons hc0 kr21 (by decide)) kl21 (by decide)) k_h0 rfl) hP (fun _ h9 => h9) rfl 10 (by decide) (hts _ (wg_t kw_175)) (fun _ h9 => h9) (cd := (3, 0, 256)) rfl dDA_commit_204 (fun v37 hv37 => ?_)
                  obtain ⟨r33, rfl, kr33⟩ := (show ∃ r : Nat, v37 = .ref r ∧ T r = some (0, 256) from hv37)
                  refine lv_iload hx hb dDA_commit_207 (lv_at hl 0 rfl) ?_
                  refine lv_aload_n hx hb dDA_commit_209 rfl (lv_at hl 3 rfl) ?_
                  refine lv_aload_n hx hb dDA_commit_210 rfl (lv_at hl 2 rfl) ?_
                  refine ty_get (ci := 6) (C := "LatticeKeys$Dsa") (TT := T_DA) (N := 17) (kd := (15, 0)) hx hb hts (wg_ft i_DA) hown hK hO k_h0 (nxg (clo_cons (clo_cons hc0 kr21 (by decide)) kl21 (by decide)) k_h0 rfl) hP (fun _ h9 => h9) rfl 8 (by decide) (hts _ (wg_t kw_173)) (fun _ h9 => h9) (cd := (3, 3, 8)) rfl dDA_commit_211 (fun v38 hv38 => ?_)
                  obtain ⟨r34, rfl, kr34⟩ := (show ∃ r : Nat, v38 = .ref r ∧ T r = some (3, 8) from hv38)
                  refine lv_iload_n hx hb dDA_commit_214 rfl (lv_at hl 1 rfl) ?_
                  refine ty_aald3 hx hb hK hO kr34 (nxg (clo_cons (clo_cons hc0 kr21 (by decide)) kl21 (by decide)) kr34 rfl) hP (by omega) (by decide) dDA_commit_215 (fun r35 kr35 => ?_)
                  refine lv_iload hx hb dDA_commit_216 (lv_at hl 0 rfl) ?_
                  refine ty_iald hx hb hK hO kr35 (nxg (clo_cons (clo_cons hc0 kr21 (by decide)) kl21 (by decide)) kr35 rfl) hP (vp_in_nI (by omega) (by decide)) dDA_commit_218 (fun z21 => ?_)
                  refine mp_i (cx := []) (wr := [(r21, .inr (3, [.ref ln21, .int (nI 136), .int (nI 31), .int (nI ps23)])), (ln21, .inl (g.2.1 2, 25, .inr (.inl f23)))]) hP hD hS hA [] [0, 1] rfl rfl rfl (by decide) (va_runV (As := [.int z21]) (rest := [.int (nI i24), .ref r33]) F (t_DS_high_2 l g _ T (ln21 :: (r21 :: xs)) pl hO hU (clo_cons (clo_cons hc0 kr21 (by decide)) kl21 (by decide)) st z21 k_st) (cwV 1 hts (wg_app (wg_c kw_1206 (wg_c kw_1207 (wg_c kw_1208 (wg_c kw_8 wg_n)))) kw_1209) rfl rfl rfl (by decide +kernel) ⟨by decide, by decide⟩) (pp_VT (en_ok g) (ci := 2) (kd := (45, 0)) hK hO k_st (nxg (clo_cons (clo_cons hc0 kr21 (by decide)) kl21 (by decide)) k_st rfl) (fun _ h9 => ko1 h9) hP hD hS hA hE [] rfl rfl rfl) rfl rfl hl.1 rfl (lv_room (Nat.le_of_ble_eq_true rfl)) dDA_commit_219 ⟨by omega, by omega⟩) (fun r36 pl H locs hu28 hP hD hS => ?_)
                  obtain ⟨hq28, hO⟩ := hu28
                  have hP : va_P g.1 vcl ([(r21, .inr (3, [.ref ln21, .int (nI 136), .int (nI 31), .int (nI ps23)])), (ln21, .inl (g.2.1 2, 25, .inr (.inl f23)))] ++ pl) _ := hP
                  have hD : va_D _ ([(r21, .inr (3, [.ref ln21, .int (nI 136), .int (nI 31), .int (nI ps23)])), (ln21, .inl (g.2.1 2, 25, .inr (.inl f23)))] ++ pl) := hD
                  refine W.widen (k := 0) (n := 0) (by omega) (by omega) ?_
                  refine ty_iast hx hb hK hO kr33 (nxg (clo_cons (clo_cons hc0 kr21 (by decide)) kl21 (by decide)) kr33 rfl) hP hD hS (vp_in_nI (by omega) (by decide)) dDA_commit_222 (fun pl H locs hO hP hD hS => ?_)
                  refine mi_iinc (k := 0) (x := i24) (d := 1) (y := i24 + 1) (lv' := [(4, .int (nI (i24 + 1))), (3, .int (nI i23)), (0, .ref h0), (1, .ref st)]) hx hb dDA_commit_223 hl rfl (by decide) rfl (by decide) rfl (fun ls hl => ?_)
                  refine lv_goto (tgt := 195) hx hb dDA_commit_226 (by decide) ?_
                  exact ih24 (i24 + 1) pl ls H locs (by omega) (lv_sub hl [0, 1, 2, 3] rfl) hO hP hD hS
              exact lp24 256 0 pl ls _ _ (by omega) (lv_sub hl [0, 1, 2, 3] rfl) hO hP hD hS
          exact lp23 8 0 ps22 f22 pl ls _ _ (by omega) (by omega) (lv_sub hl [0, 1, 2] rfl) hO hP hD hS
        | succ n22 ih22 =>
          intro i22 pl ls H locs hm22  hl hO hP hD hS
          refine lv_iload_n hx hb dDA_commit_28 rfl (lv_at hl 0 rfl) ?_
          refine lv_aload_n hx hb dDA_commit_29 rfl (lv_at hl 2 rfl) ?_
          refine ty_get (ci := 2) (C := "LatticeKeys$DsaSet") (TT := T_DS) (N := 17) (kd := (45, 0)) hx hb hts (wg_ft i_DS) hown hK hO k_st (nxg hc0 k_st rfl) hP (fun _ h9 => h9) rfl 1 (by decide) (hts _ (wg_t kw_305)) (fun _ h9 => h9) (cd := (1, 0, 7)) rfl dDA_commit_30 (fun v39 hv39 => ?_)
          obtain rfl := (show v39 = .int (nI 7) from hv39)
          refine mi_ge (tgt := 165) hx hb dDA_commit_33 (by decide) (by omega) (by omega) (fun h27 => absurd h27 (by omega)) (fun h27 => ?_)
          refine lv_aload_n hx hb dDA_commit_36 rfl (lv_at hl 1 rfl) ?_
          refine ty_get (ci := 6) (C := "LatticeKeys$Dsa") (TT := T_DA) (N := 17) (kd := (15, 0)) hx hb hts (wg_ft i_DA) hown hK hO k_h0 (nxg hc0 k_h0 rfl) hP (fun _ h9 => h9) rfl 2 (by decide) (hts _ (wg_t kw_167)) (fun _ h9 => h9) (cd := (3, 14, 0)) rfl dDA_commit_37 (fun v40 hv40 => ?_)
          obtain ⟨r37, rfl, kr36⟩ := (show ∃ r : Nat, v40 = .ref r ∧ T r = some (14, 0) from hv40)
          refine lv_aload_n hx hb dDA_commit_40 rfl (lv_at hl 2 rfl) ?_
          refine lv_aload_n hx hb dDA_commit_41 rfl (lv_at hl 1 rfl) ?_
          refine ty_get (ci := 6) (C := "LatticeKeys$Dsa") (TT := T_DA) (N := 17) (kd := (15, 0)) hx hb hts (wg_ft i_DA) hown hK hO k_h0 (nxg hc0 k_h0 rfl) hP (fun _ h9 => h9) rfl 7 (by decide) (hts _ (wg_t kw_172)) (fun _ h9 => h9) (cd := (3, 3, 7)) rfl dDA_commit_42 (fun v41 hv41 => ?_)
          obtain ⟨r38, rfl, kr37⟩ := (show ∃ r : Nat, v41 = .ref r ∧ T r = some (3, 7) from hv41)
          refine lv_iload_n hx hb dDA_commit_45 rfl (lv_at hl 0 rfl) ?_
          refine ty_aald3 hx hb hK hO kr37 (nxg hc0 kr37 rfl) hP (by omega) (by decide) dDA_commit_46 (fun r39 kr38 => ?_)
          refine lv_aload_n hx hb dDA_commit_47 rfl (lv_at hl 1 rfl) ?_
          refine ty_get (ci := 6) (C := "LatticeKeys$Dsa") (TT := T_DA) (N := 17) (kd := (15, 0)) hx hb hts (wg_ft i_DA) hown hK hO k_h0 (nxg hc0 k_h0 rfl) hP (fun _ h9 => h9) rfl 11 (by decide) (hts _ (wg_t kw_176)) (fun _ h9 => h9) (cd := (3, 1, 128)) rfl dDA_commit_48 (fun v42 hv42 => ?_)
          obtain ⟨r40, rfl, kr39⟩ := (show ∃ r : Nat, v42 = .ref r ∧ T r = some (1, 128) from hv42)
          refine lv_iload_n hx hb dDA_commit_51 rfl (lv_at hl 3 rfl) ?_
          refine lv_iload_n hx hb dDA_commit_52 rfl (lv_at hl 0 rfl) ?_
          refine lv_iadd hx hb dDA_commit_53 ?_
          refine mi_any (fun z22 => ?_)
          refine mp_v (cx := []) (wr := []) hP hD hS hA [] [] rfl rfl rfl (by decide) (va_runV (As := [.ref st, .ref r39, .ref r40, .int z22]) (rest := []) F (t_SA_sampleMask_2 l g _ T xs pl hO hU hc0 hc4 r37 st r39 r40 128 z22 kr36 k_st kr38 kr39 (by omega) (by omega)) (cwV 4 hts (wg_app (wg_c kw_1196 (wg_c kw_1197 (wg_c kw_1198 (wg_c kw_6 wg_n)))) kw_1199) rfl rfl rfl (by decide +kernel) ⟨by decide, by decide⟩) (pp_VT (en_ok g) (ci := 7) (kd := (14, 0)) hK hO kr36 (nxg hc0 kr36 rfl) (fun _ h9 => ko1 h9) hP hD hS hA hE [] rfl rfl rfl) rfl rfl hl.1 rfl (lv_room (Nat.le_of_ble_eq_true rfl)) dDA_commit_54 ⟨by omega, by omega⟩) (fun  pl H locs hu29 hP hD hS => ?_)
          obtain ⟨hq29, hO⟩ := hu29
          have hP : va_P g.1 vcl ([] ++ pl) _ := hP
          have hD : va_D _ ([] ++ pl) := hD
          refine W.widen (k := 0) (n := 0) (by omega) (by omega) ?_
          refine lv_aload_n hx hb dDA_commit_57 rfl (lv_at hl 1 rfl) ?_
          refine ty_get (ci := 6) (C := "LatticeKeys$Dsa") (TT := T_DA) (N := 17) (kd := (15, 0)) hx hb hts (wg_ft i_DA) hown hK hO k_h0 (nxg hc0 k_h0 rfl) hP (fun _ h9 => h9) rfl 1 (by decide) (hts _ (wg_t kw_166)) (fun _ h9 => h9) (cd := (3, 12, 0)) rfl dDA_commit_58 (fun v43 hv43 => ?_)
          obtain ⟨r41, rfl, kr40⟩ := (show ∃ r : Nat, v43 = .ref r ∧ T r = some (12, 0) from hv43)
          refine lv_aload_n hx hb dDA_commit_61 rfl (lv_at hl 1 rfl) ?_
          refine ty_get (ci := 6) (C := "LatticeKeys$Dsa") (TT := T_DA) (N := 17) (kd := (15, 0)) hx hb hts (wg_ft i_DA) hown hK hO k_h0 (nxg hc0 k_h0 rfl) hP (fun _ h9 => h9) rfl 7 (by decide) (hts _ (wg_t kw_172)) (fun _ h9 => h9) (cd := (3, 3, 7)) rfl dDA_commit_62 (fun v44 hv44 => ?_)
          obtain ⟨r42, rfl, kr41⟩ := (show ∃ r : Nat, v44 = .ref r ∧ T r = some (3, 7) from hv44)
          refine lv_iload_n hx hb dDA_commit_65 rfl (lv_at hl 0 rfl) ?_
          refine ty_aald3 hx hb hK hO kr41 (nxg hc0 kr41 rfl) hP (by omega) (by decide) dDA_commit_66 (fun r43 kr42 => ?_)
          refine lv_aload_n hx hb dDA_commit_67 rfl (lv_at hl 2 rfl) ?_
          refine ty_get (ci := 2) (C := "LatticeKeys$DsaSet") (TT := T_DS) (N := 17) (kd := (45, 0)) hx hb hts (wg_ft i_DS) hown hK hO k_st (nxg hc0 k_st rfl) hP (fun _ h9 => h9) rfl 7 (by decide) (hts _ (wg_t kw_320)) (fun _ h9 => h9) (cd := (1, 0, 524288)) rfl dDA_commit_68 (fun v45 hv45 => ?_)
          obtain rfl := (show v45 = .int (nI 524288) from hv45)
          refine lv_aload_n hx hb dDA_commit_71 rfl (lv_at hl 1 rfl) ?_
          refine ty_get (ci := 6) (C := "LatticeKeys$Dsa") (TT := T_DA) (N := 17) (kd := (15, 0)) hx hb hts (wg_ft i_DA) hown hK hO k_h0 (nxg hc0 k_h0 rfl) hP (fun _ h9 => h9) rfl 7 (by decide) (hts _ (wg_t kw_172)) (fun _ h9 => h9) (cd := (3, 3, 7)) rfl dDA_commit_72 (fun v46 hv46 => ?_)
          obtain ⟨r44, rfl, kr43⟩ := (show ∃ r : Nat, v46 = .ref r ∧ T r = some (3, 7) from hv46)
          refine lv_iload_n hx hb dDA_commit_75 rfl (lv_at hl 0 rfl) ?_
          refine ty_aald3 hx hb hK hO kr43 (nxg hc0 kr43 rfl) hP (by omega) (by decide) dDA_commit_76 (fun r45 kr44 => ?_)
          refine mp_v (cx := []) (wr := []) hP hD hS hA [] [] rfl rfl rfl (by decide) (va_runV (As := [.ref r43, .int (nI 524288), .ref r45]) (rest := []) F (t_RG_flip_12 l g _ T xs pl hO hU hc0 r41 r43 r45 (nI 524288) kr40 kr42 kr44) (cwV 3 hts (wg_app (wg_c kw_698 (wg_c kw_699 (wg_c kw_700 (wg_c kw_4 wg_n)))) kw_701) rfl rfl rfl (by decide +kernel) ⟨by decide, by decide⟩) (pp_VT (en_ok g) (ci := 4) (kd := (12, 0)) hK hO kr40 (nxg hc0 kr40 rfl) (fun _ h9 => ko1 h9) hP hD hS hA hE [] rfl rfl rfl) rfl rfl hl.1 rfl (lv_room (Nat.le_of_ble_eq_true rfl)) dDA_commit_77 ⟨by omega, by omega⟩) (fun  pl H locs hu30 hP hD hS => ?_)
          obtain ⟨hq30, hO⟩ := hu30
          have hP : va_P g.1 vcl ([] ++ pl) _ := hP
          have hD : va_D _ ([] ++ pl) := hD
          refine W.widen (k := 0) (n := 0) (by omega) (by omega) ?_
          refine lv_aload_n hx hb dDA_commit_80 rfl (lv_at hl 1 rfl) ?_
          refine ty_get (ci := 6) (C := "LatticeKeys$Dsa") (TT := T_DA) (N := 17) (kd := (15, 0)) hx hb hts (wg_ft i_DA) hown hK hO k_h0 (nxg hc0 k_h0 rfl) hP (fun _ h9 => h9) rfl 7 (by decide) (hts _ (wg_t kw_172)) (fun _ h9 => h9) (cd := (3, 3, 7)) rfl dDA_commit_81 (fun v47 hv47 => ?_)
          obtain ⟨r46, rfl, kr45⟩ := (show ∃ r : Nat, v47 = .ref r ∧ T r = some (3, 7) from hv47)
          refine lv_iload_n hx hb dDA_commit_84 rfl (lv_at hl 0 rfl) ?_
          refine ty_aald3 hx hb hK hO kr45 (nxg hc0 kr45 rfl) hP (by omega) (by decide) dDA_commit_85 (fun r47 kr46 => ?_)
          refine lv_iconst (v := nI 0) hx hb dDA_commit_86 (by decide) ?_
          refine lv_aload_n hx hb dDA_commit_87 rfl (lv_at hl 1 rfl) ?_
          refine ty_get (ci := 6) (C := "LatticeKeys$Dsa") (TT := T_DA) (N := 17) (kd := (15, 0)) hx hb hts (wg_ft i_DA) hown hK hO k_h0 (nxg hc0 k_h0 rfl) hP (fun _ h9 => h9) rfl 10 (by decide) (hts _ (wg_t kw_175)) (fun _ h9 => h9) (cd := (3, 0, 256)) rfl dDA_commit_88 (fun v48 hv48 => ?_)
          obtain ⟨r48, rfl, kr47⟩ := (show ∃ r : Nat, v48 = .ref r ∧ T r = some (0, 256) from hv48)
          refine lv_iconst (v := nI 0) hx hb dDA_commit_91 (by decide) ?_
          refine lv_sipush (v := nI 256) hx hb dDA_commit_92 (by decide) ?_
          refine ty_copyi hx hb (hml.trans hl.1.symm) hown (hts _ (wg_t kw_674)) (hts _ (wg_t kw_526)) (hts _ (wg_t kw_525)) (hts _ (wg_t kw_19)) hK hO kr46 (nxg hc0 kr46 rfl) kr47 (nxg hc0 kr47 rfl) hP hD hS (sp := 0) (dp := 0) (n := 256) (by omega) (by omega) (by omega) (by decide) (Nat.le_of_ble_eq_true rfl) dDA_commit_95 (fun pl H locs hO hP hD hS => ?_)
          refine lv_aload_n hx hb dDA_commit_98 rfl (lv_at hl 1 rfl) ?_
          refine ty_get (ci := 6) (C := "LatticeKeys$Dsa") (TT := T_DA) (N := 17) (kd := (15, 0)) hx hb hts (wg_ft i_DA) hown hK hO k_h0 (nxg hc0 k_h0 rfl) hP (fun _ h9 => h9) rfl 1 (by decide) (hts _ (wg_t kw_166)) (fun _ h9 => h9) (cd := (3, 12, 0)) rfl dDA_commit_99 (fun v49 hv49 => ?_)
          obtain ⟨r49, rfl, kr48⟩ := (show ∃ r : Nat, v49 = .ref r ∧ T r = some (12, 0) from hv49)
          refine lv_aload_n hx hb dDA_commit_102 rfl (lv_at hl 1 rfl) ?_
          refine ty_get (ci := 6) (C := "LatticeKeys$Dsa") (TT := T_DA) (N := 17) (kd := (15, 0)) hx hb hts (wg_ft i_DA) hown hK hO k_h0 (nxg hc0 k_h0 rfl) hP (fun _ h9 => h9) rfl 10 (by decide) (hts _ (wg_t kw_175)) (fun _ h9 => h9) (cd := (3, 0, 256)) rfl dDA_commit_103 (fun v50 hv50 => ?_)
          obtain ⟨r50, rfl, kr49⟩ := (show ∃ r : Nat, v50 = .ref r ∧ T r = some (0, 256) from hv50)
          refine mp_v (cx := []) (wr := []) hP hD hS hA [] [] rfl rfl rfl (by decide) (va_runV (As := [.ref r50]) (rest := []) F (t_RG_transform_12 l g _ T xs pl hO hU hc0 r49 r50 kr48 kr49) (cwV 1 hts (wg_app (wg_c kw_711 (wg_c kw_637 (wg_c kw_638 (wg_c kw_4 wg_n)))) kw_639) rfl rfl rfl (by decide +kernel) ⟨by decide, by decide⟩) (pp_VT (en_ok g) (ci := 4) (kd := (12, 0)) hK hO kr48 (nxg hc0 kr48 rfl) (fun _ h9 => ko1 h9) hP hD hS hA hE [] rfl rfl rfl) rfl rfl hl.1 rfl (lv_room (Nat.le_of_ble_eq_true rfl)) dDA_commit_106 ⟨by omega, by omega⟩) (fun  pl H locs hu31 hP hD hS => ?_)
          obtain ⟨hq31, hO⟩ := hu31
          have hP : va_P g.1 vcl ([] ++ pl) _ := hP
          have hD : va_D _ ([] ++ pl) := hD
          refine W.widen (k := 0) (n := 0) (by omega) (by omega) ?_
          refine lv_iconst (v := nI 0) hx hb dDA_commit_109 (by decide) ?_
          refine lv_istore (lv' := [(4, .int (nI 0)), (3, .int (nI i22)), (0, .ref h0), (1, .ref st), (2, .int cn)]) hx hb dDA_commit_110 hl (by decide) rfl (fun ls hl => ?_)
          have lp25 : ∀ (n25 : Nat) (i25 : Nat) (pl : va_W) (ls : Array Slot) (H : Heap) (locs : List Loc), n25 + i25 = 8 → lv_has ls 5 [(4, .int (nI i25)), (3, .int (nI i22)), (0, .ref h0), (1, .ref st), (2, .int cn)] → okx g T xs pl → va_P g.1 vcl ([] ++ pl) H → va_D A ([] ++ pl) → va_S A s.heap H locs → W p l e ({ frames := 5, cells := 0, slots := 0, locals := 147 } : Room) s m args below meth c H locs 0 0 (MQ below (va_Qv (fun (u : va_W) => (True) ∧ okx g T xs u) (po g.1 vcl A (fun (u : va_W) => [] ++ u)) A) args s 0 0 A) (F0 m 112 ls []) := by
            intro n25
            induction n25 with
            | zero =>
              intro i25 pl ls H locs hm25  hl hO hP hD hS
              refine lv_iload hx hb dDA_commit_112 (lv_at hl 0 rfl) ?_
              refine lv_aload_n hx hb dDA_commit_114 rfl (lv_at hl 3 rfl) ?_
              refine ty_get (ci := 2) (C := "LatticeKeys$DsaSet") (TT := T_DS) (N := 17) (kd := (45, 0)) hx hb hts (wg_ft i_DS) hown hK hO k_st (nxg hc0 k_st rfl) hP (fun _ h9 => h9) rfl 0 (by decide) (hts _ (wg_t kw_302)) (fun _ h9 => h9) (cd := (1, 0, 8)) rfl dDA_commit_115 (fun v51 hv51 => ?_)
              obtain rfl := (show v51 = .int (nI 8) from hv51)
              refine mi_ge (tgt := 159) hx hb dDA_commit_118 (by decide) (by omega) (by omega) (fun h28 => ?_) (fun h28 => absurd h28 (by omega))
              refine mi_iinc (k := 1) (x := i22) (d := 1) (y := i22 + 1) (lv' := [(3, .int (nI (i22 + 1))), (4, .int (nI i25)), (0, .ref h0), (1, .ref st), (2, .int cn)]) hx hb dDA_commit_159 hl rfl (by decide) rfl (by decide) rfl (fun ls hl => ?_)
              refine lv_goto (tgt := 28) hx hb dDA_commit_162 (by decide) ?_
              exact ih22 (i22 + 1) pl ls H locs (by omega) (lv_sub hl [0, 2, 3, 4] rfl) hO hP hD hS
            | succ n25 ih25 =>
              intro i25 pl ls H locs hm25  hl hO hP hD hS
              refine lv_iload hx hb dDA_commit_112 (lv_at hl 0 rfl) ?_
              refine lv_aload_n hx hb dDA_commit_114 rfl (lv_at hl 3 rfl) ?_
              refine ty_get (ci := 2) (C := "LatticeKeys$DsaSet") (TT := T_DS) (N := 17) (kd := (45, 0)) hx hb hts (wg_ft i_DS) hown hK hO k_st (nxg hc0 k_st rfl) hP (fun _ h9 => h9) rfl 0 (by decide) (hts _ (wg_t kw_302)) (fun _ h9 => h9) (cd := (1, 0, 8)) rfl dDA_commit_115 (fun v52 hv52 => ?_)
              obtain rfl := (show v52 = .int (nI 8) from hv52)
              refine mi_ge (tgt := 159) hx hb dDA_commit_118 (by decide) (by omega) (by omega) (fun h29 => absurd h29 (by omega)) (fun h29 => ?_)
              refine lv_aload_n hx hb dDA_commit_121 rfl (lv_at hl 2 rfl) ?_
              refine ty_get (ci := 6) (C := "LatticeKeys$Dsa") (TT := T_DA) (N := 17) (kd := (15, 0)) hx hb hts (wg_ft i_DA) hown hK hO k_h0 (nxg hc0 k_h0 rfl) hP (fun _ h9 => h9) rfl 1 (by decide) (hts _ (wg_t kw_166)) (fun _ h9 => h9) (cd := (3, 12, 0)) rfl dDA_commit_122 (fun v53 hv53 => ?_)
              obtain ⟨r51, rfl, kr50⟩ := (show ∃ r : Nat, v53 = .ref r ∧ T r = some (12, 0) from hv53)
              refine lv_aload_n hx hb dDA_commit_125 rfl (lv_at hl 2 rfl) ?_
              refine ty_get (ci := 6) (C := "LatticeKeys$Dsa") (TT := T_DA) (N := 17) (kd := (15, 0)) hx hb hts (wg_ft i_DA) hown hK hO k_h0 (nxg hc0 k_h0 rfl) hP (fun _ h9 => h9) rfl 8 (by decide) (hts _ (wg_t kw_173)) (fun _ h9 => h9) (cd := (3, 3, 8)) rfl dDA_commit_126 (fun v54 hv54 => ?_)
              obtain ⟨r52, rfl, kr51⟩ := (show ∃ r : Nat, v54 = .ref r ∧ T r = some (3, 8) from hv54)
              refine lv_iload hx hb dDA_commit_129 (lv_at hl 0 rfl) ?_
              refine ty_aald3 hx hb hK hO kr51 (nxg hc0 kr51 rfl) hP (by omega) (by decide) dDA_commit_131 (fun r53 kr52 => ?_)
              refine lv_aload_n hx hb dDA_commit_132 rfl (lv_at hl 2 rfl) ?_
              refine ty_get (ci := 6) (C := "LatticeKeys$Dsa") (TT := T_DA) (N := 17) (kd := (15, 0)) hx hb hts (wg_ft i_DA) hown hK hO k_h0 (nxg hc0 k_h0 rfl) hP (fun _ h9 => h9) rfl 3 (by decide) (hts _ (wg_t kw_168)) (fun _ h9 => h9) (cd := (3, 3, 56)) rfl dDA_commit_133 (fun v55 hv55 => ?_)
              obtain ⟨r54, rfl, kr53⟩ := (show ∃ r : Nat, v55 = .ref r ∧ T r = some (3, 56) from hv55)
              refine lv_aload_n hx hb dDA_commit_136 rfl (lv_at hl 3 rfl) ?_
              refine ty_get (ci := 2) (C := "LatticeKeys$DsaSet") (TT := T_DS) (N := 17) (kd := (45, 0)) hx hb hts (wg_ft i_DS) hown hK hO k_st (nxg hc0 k_st rfl) hP (fun _ h9 => h9) rfl 1 (by decide) (hts _ (wg_t kw_305)) (fun _ h9 => h9) (cd := (1, 0, 7)) rfl dDA_commit_137 (fun v56 hv56 => ?_)
              obtain rfl := (show v56 = .int (nI 7) from hv56)
              refine lv_iload hx hb dDA_commit_140 (lv_at hl 0 rfl) ?_
              refine mi_imul hx hb dDA_commit_142 ?_
              refine lv_iload_n hx hb dDA_commit_143 rfl (lv_at hl 1 rfl) ?_
              refine mi_iadd hx hb dDA_commit_144 ?_
              refine ty_aald3 hx hb hK hO kr53 (nxg hc0 kr53 rfl) hP (by omega) (by decide) dDA_commit_145 (fun r55 kr54 => ?_)
              refine lv_aload_n hx hb dDA_commit_146 rfl (lv_at hl 2 rfl) ?_
              refine ty_get (ci := 6) (C := "LatticeKeys$Dsa") (TT := T_DA) (N := 17) (kd := (15, 0)) hx hb hts (wg_ft i_DA) hown hK hO k_h0 (nxg hc0 k_h0 rfl) hP (fun _ h9 => h9) rfl 10 (by decide) (hts _ (wg_t kw_175)) (fun _ h9 => h9) (cd := (3, 0, 256)) rfl dDA_commit_147 (fun v57 hv57 => ?_)
              obtain ⟨r56, rfl, kr55⟩ := (show ∃ r : Nat, v57 = .ref r ∧ T r = some (0, 256) from hv57)
              refine mp_v (cx := []) (wr := []) hP hD hS hA [] [] rfl rfl rfl (by decide) (va_runV (As := [.ref r53, .ref r55, .ref r56]) (rest := []) F (t_RG_addProduct_12 l g _ T xs pl hO hU hc0 r51 r53 r55 r56 kr50 kr52 kr54 kr55) (cwV 3 hts (wg_app (wg_c kw_719 (wg_c kw_654 (wg_c kw_655 (wg_c kw_4 wg_n)))) kw_656) rfl rfl rfl (by decide +kernel) ⟨by decide, by decide⟩) (pp_VT (en_ok g) (ci := 4) (kd := (12, 0)) hK hO kr50 (nxg hc0 kr50 rfl) (fun _ h9 => ko1 h9) hP hD hS hA hE [] rfl rfl rfl) rfl rfl hl.1 rfl (lv_room (Nat.le_of_ble_eq_true rfl)) dDA_commit_150 ⟨by omega, by omega⟩) (fun  pl H locs hu32 hP hD hS => ?_)
              obtain ⟨hq32, hO⟩ := hu32
              have hP : va_P g.1 vcl ([] ++ pl) _ := hP
              have hD : va_D _ ([] ++ pl) := hD
              refine W.widen (k := 0) (n := 0) (by omega) (by omega) ?_
              refine mi_iinc (k := 0) (x := i25) (d := 1) (y := i25 + 1) (lv' := [(4, .int (nI (i25 + 1))), (3, .int (nI i22)), (0, .ref h0), (1, .ref st), (2, .int cn)]) hx hb dDA_commit_153 hl rfl (by decide) rfl (by decide) rfl (fun ls hl => ?_)
              refine lv_goto (tgt := 112) hx hb dDA_commit_156 (by decide) ?_
              exact ih25 (i25 + 1) pl ls H locs (by omega) (lv_sub hl [0, 1, 2, 3, 4] rfl) hO hP hD hS
          exact lp25 8 0 pl ls _ _ (by omega) (lv_sub hl [0, 1, 2, 3, 4] rfl) hO hP hD hS
      exact lp22 7 0 pl ls _ _ (by omega) (lv_sub hl [0, 1, 2, 3] rfl) hO hP hD hS
    | succ n21 ih21 =>
      intro i21 pl ls H locs hm21  hl hO hP hD hS
      refine lv_iload_n hx hb dDA_commit_2 rfl (lv_at hl 0 rfl) ?_
      refine lv_aload_n hx hb dDA_commit_3 rfl (lv_at hl 2 rfl) ?_
      refine ty_get (ci := 2) (C := "LatticeKeys$DsaSet") (TT := T_DS) (N := 17) (kd := (45, 0)) hx hb hts (wg_ft i_DS) hown hK hO k_st (nxg hc0 k_st rfl) hP (fun _ h9 => h9) rfl 0 (by decide) (hts _ (wg_t kw_302)) (fun _ h9 => h9) (cd := (1, 0, 8)) rfl dDA_commit_4 (fun v58 hv58 => ?_)
      obtain rfl := (show v58 = .int (nI 8) from hv58)
      refine mi_ge (tgt := 26) hx hb dDA_commit_7 (by decide) (by omega) (by omega) (fun h30 => absurd h30 (by omega)) (fun h30 => ?_)
      refine lv_aload_n hx hb dDA_commit_10 rfl (lv_at hl 1 rfl) ?_
      refine ty_get (ci := 6) (C := "LatticeKeys$Dsa") (TT := T_DA) (N := 17) (kd := (15, 0)) hx hb hts (wg_ft i_DA) hown hK hO k_h0 (nxg hc0 k_h0 rfl) hP (fun _ h9 => h9) rfl 8 (by decide) (hts _ (wg_t kw_173)) (fun _ h9 => h9) (cd := (3, 3, 8)) rfl dDA_commit_11 (fun v59 hv59 => ?_)
      obtain ⟨r57, rfl, kr56⟩ := (show ∃ r : Nat, v59 = .ref r ∧ T r = some (3, 8) from hv59)
      refine lv_iload_n hx hb dDA_commit_14 rfl (lv_at hl 0 rfl) ?_
      refine ty_aald3 hx hb hK hO kr56 (nxg hc0 kr56 rfl) hP (by omega) (by decide) dDA_commit_15 (fun r58 kr57 => ?_)
      refine lv_iconst (v := nI 0) hx hb dDA_commit_16 (by decide) ?_
      refine mp_v (cx := []) (wr := []) hP hD hS hA [] [] rfl rfl rfl (by decide) (va_runS (As := [.ref r58, .int (nI 0)]) (rest := []) F (t_fillI l g _ T xs pl hO hU hc0 r58 256 (nI 0) kr57 (by omega)) (va_cwS 2 hts (wg_app (wg_c kw_716 (wg_c kw_717 (wg_c kw_21 wg_n))) kw_718) rfl rfl rfl (by decide +kernel) ⟨by decide, by decide⟩) (pp_S (en_ok g) hP hD hS hA hE [] rfl rfl) rfl rfl hl.1 rfl (lv_room (Nat.le_of_ble_eq_true rfl)) dDA_commit_17 ⟨by omega, by omega⟩) (fun  pl H locs hu33 hP hD hS => ?_)
      obtain ⟨hq33, hO⟩ := hu33
      have hP : va_P g.1 vcl ([] ++ pl) _ := hP
      have hD : va_D _ ([] ++ pl) := hD
      refine W.widen (k := 0) (n := 0) (by omega) (by omega) ?_
      refine mi_iinc (k := 0) (x := i21) (d := 1) (y := i21 + 1) (lv' := [(3, .int (nI (i21 + 1))), (0, .ref h0), (1, .ref st), (2, .int cn)]) hx hb dDA_commit_20 hl rfl (by decide) rfl (by decide) rfl (fun ls hl => ?_)
      refine lv_goto (tgt := 2) hx hb dDA_commit_23 (by decide) ?_
      exact ih21 (i21 + 1) pl ls H locs (by omega) (lv_sub hl [0, 1, 2, 3] rfl) hO hP hD hS
  exact lp21 8 0 pl ls _ _ (by omega) (lv_sub hl [0, 1, 2, 3] rfl) hO hP hD hS
set_option maxHeartbeats 400000 in
set_option maxRecDepth 100000 in
theorem t_DA_makeSignature_0 (l : Launch) (g : Gd) (sz : Nat) (T : Ty) (xs : List Nat) (pl : va_W) (hO : okx g T xs pl) (hU : uni T) (hc0 : clo T xs 0) (hc3 : clo T xs 3) (hc4 : clo T xs 4) (hc20 : clo T xs 20) (h0 st sk tp to n len : Nat) (cl : Int32) (k_h0 : T h0 = some (15, 0)) (k_st : T st = some (43, 0)) (k_sk : T sk = some (1, 2560)) (k_tp : T tp = some (1, n)) (k_to : T to = some (1, 8192)) (h1 : 32 ≤ len) (h3 : len ≤ n) (h2 : n < 65536)  : Met l y_DA_makeSignature w_DA_makeSignature ({ frames := 6, cells := 0, slots := 0, locals := 176 } : Room) (va_Pc [.ref h0, .ref st, .ref sk, .ref tp, .int (nI len), .int cl, .ref to] (pr (en g) g.1 vcl sz ([] ++ pl))) (va_Qi (fun (r : Int32) (u : va_W) => (True) ∧ okx g T xs u) (po g.1 vcl (va_A ([] ++ pl) sz) (fun (u : va_W) => [] ++ u)) (va_A ([] ++ pl) sz)) 0 0 (va_A ([] ++ pl) sz) := by
  refine mc_entry (cc := c_DA_makeSignature) (maxL := 8) (ret := (some .int)) (by decide) rfl (Nat.le_of_ble_eq_true rfl) ?_
  intro p e s m args below meth c ls F hr hlk hnm hsz hP hD hE hA hl
  obtain ⟨hx, hb, hml, hown, hts⟩ := id F
  have hK := hE.1
  generalize va_A ([] ++ pl) sz = A at hD hE hA ⊢
  have hS : va_S A s.heap s.heap [] := va_S.rf
  have hl : lv_has ls 8 [(0, .ref h0), (1, .ref st), (2, .ref sk), (3, .ref tp), (4, .int (nI len)), (5, .int cl), (6, .ref to)] := hl
  refine lv_aload_n hx hb dDA_makeSignature_0 rfl (lv_at hl 0 rfl) ?_
  refine lv_aload_n hx hb dDA_makeSignature_1 rfl (lv_at hl 1 rfl) ?_
  refine lv_aload_n hx hb dDA_makeSignature_2 rfl (lv_at hl 2 rfl) ?_
  refine mp_v (cx := []) (wr := []) hP hD hS hA [] [] rfl rfl rfl (by decide) (va_runV (As := [.ref st, .ref sk]) (rest := []) F (t_DA_readSecret_0 l g _ T xs pl hO hU hc0 hc4 h0 st sk k_h0 k_st k_sk) (cwV 2 hts (wg_app (wg_c kw_1179 (wg_c kw_1181 (wg_c ks_34 (wg_c kw_5 wg_n)))) kw_1182) rfl rfl rfl (by decide +kernel) ⟨by decide, by decide⟩) (pp_VT (en_ok g) (ci := 6) (kd := (15, 0)) hK hO k_h0 (nxg hc0 k_h0 rfl) (fun _ h9 => ko1 h9) hP hD hS hA hE [] rfl rfl rfl) rfl rfl hl.1 rfl (lv_room (Nat.le_of_ble_eq_true rfl)) dDA_makeSignature_3 ⟨by omega, by omega⟩) (fun  pl H locs hu21 hP hD hS => ?_)
  obtain ⟨hq21, hO⟩ := hu21
  have hP : va_P g.1 vcl ([] ++ pl) _ := hP
  have hD : va_D _ ([] ++ pl) := hD
  refine W.widen (k := 0) (n := 0) (by omega) (by omega) ?_
  refine lv_aload_n hx hb dDA_makeSignature_6 rfl (lv_at hl 2 rfl) ?_
  refine lv_bipush (v := nI 64) hx hb dDA_makeSignature_7 (by decide) ?_
  refine lv_aload_n hx hb dDA_makeSignature_9 rfl (lv_at hl 0 rfl) ?_
  refine ty_get (ci := 6) (C := "LatticeKeys$Dsa") (TT := T_DA) (N := 17) (kd := (15, 0)) hx hb hts (wg_ft i_DA) hown hK hO k_h0 (nxg hc0 k_h0 rfl) hP (fun _ h9 => h9) rfl 12 (by decide) (hts _ (wg_t kw_177)) (fun _ h9 => h9) (cd := (3, 1, 64)) rfl dDA_makeSignature_10 (fun v21 hv21 => ?_)
  obtain ⟨r21, rfl, kr21⟩ := (show ∃ r : Nat, v21 = .ref r ∧ T r = some (1, 64) from hv21)
  refine lv_iconst (v := nI 0) hx hb dDA_makeSignature_13 (by decide) ?_
  refine lv_bipush (v := nI 64) hx hb dDA_makeSignature_14 (by decide) ?_
  refine ty_copyb11 hx hb (hml.trans hl.1.symm) hown (hts _ (wg_t kw_674)) (hts _ (wg_t kw_526)) (hts _ (wg_t kw_525)) (hts _ (wg_t kw_19)) hK hO k_sk (nxg hc0 k_sk rfl) kr21 (nxg hc0 kr21 rfl) hP hD hS (sp := 64) (dp := 0) (n := 64) (by omega) (by omega) (by omega) (by decide) (Nat.le_of_ble_eq_true rfl) dDA_makeSignature_16 (fun pl H locs hO hP hD hS => ?_)
  refine lv_aload_n hx hb dDA_makeSignature_19 rfl (lv_at hl 0 rfl) ?_
  refine lv_aload_n hx hb dDA_makeSignature_20 rfl (lv_at hl 3 rfl) ?_
  refine lv_bipush (v := nI 32) hx hb dDA_makeSignature_21 (by decide) ?_
  refine lv_iload hx hb dDA_makeSignature_23 (lv_at hl 4 rfl) ?_
  refine lv_iload hx hb dDA_makeSignature_25 (lv_at hl 5 rfl) ?_
  refine mp_v (cx := []) (wr := []) hP hD hS hA [] [] rfl rfl rfl (by decide) (va_runV (As := [.ref tp, .int (nI 32), .int (nI len), .int cl]) (rest := []) F (t_DA_digestMessage l g _ T xs pl hO hU hc0 hc3 h0 tp n 32 len cl k_h0 k_tp (by omega) (by omega) (by omega)) (cwV 4 hts (wg_app (wg_c kw_1188 (wg_c kw_1190 (wg_c ks_36 (wg_c kw_5 wg_n)))) kw_1191) rfl rfl rfl (by decide +kernel) ⟨by decide, by decide⟩) (pp_VT (en_ok g) (ci := 6) (kd := (15, 0)) hK hO k_h0 (nxg hc0 k_h0 rfl) (fun _ h9 => ko1 h9) hP hD hS hA hE [] rfl rfl rfl) rfl rfl hl.1 rfl (lv_room (Nat.le_of_ble_eq_true rfl)) dDA_makeSignature_27 ⟨by omega, by omega⟩) (fun  pl H locs hu22 hP hD hS => ?_)
  obtain ⟨hq22, hO⟩ := hu22
  have hP : va_P g.1 vcl ([] ++ pl) _ := hP
  have hD : va_D _ ([] ++ pl) := hD
  refine W.widen (k := 0) (n := 0) (by omega) (by omega) ?_
  refine lv_aload_n hx hb dDA_makeSignature_30 rfl (lv_at hl 0 rfl) ?_
  refine ty_get (ci := 6) (C := "LatticeKeys$Dsa") (TT := T_DA) (N := 17) (kd := (15, 0)) hx hb hts (wg_ft i_DA) hown hK hO k_h0 (nxg hc0 k_h0 rfl) hP (fun _ h9 => h9) rfl 0 (by decide) (hts _ (wg_t kw_165)) (fun _ h9 => h9) (cd := (3, 10, 2)) rfl dDA_makeSignature_31 (fun v22 hv22 => ?_)
  obtain ⟨r22, rfl, kr22⟩ := (show ∃ r : Nat, v22 = .ref r ∧ T r = some (10, 2) from hv22)
  refine lv_iconst (v := nI 3) hx hb dDA_makeSignature_34 (by decide) ?_
  obtain ⟨e21, pl, hP, hD, hk21, hO⟩ := open1 hP hD hO kr22 (nxg hc3 kr22 rfl)
  obtain ⟨ln21, rt21, ps21, x21, rfl, kl21, hr21, hr22, hr23⟩ := hk21
  have kl21 : T ln21 = some (19, 2) := kl21
  obtain ⟨e22, pl, hP, hD, hk22, hO⟩ := open1 hP hD hO kl21 (nmc (knd_ne kl21 kr22 (by decide)) (nxg hc3 kl21 rfl))
  obtain ⟨f21, rfl⟩ := hk22
  have hP : va_P g.1 vcl ([(r22, .inr (3, [.ref ln21, .int (nI rt21), .int x21, .int (nI ps21)])), (ln21, .inl (g.2.1 2, 25, .inr (.inl f21)))] ++ pl) _ := hP
  have hD : va_D _ ([(r22, .inr (3, [.ref ln21, .int (nI rt21), .int x21, .int (nI ps21)])), (ln21, .inl (g.2.1 2, 25, .inr (.inl f21)))] ++ pl) := hD
  refine mp_v (cx := [(r22, .inr (3, [.ref ln21, .int (nI rt21), .int x21, .int (nI ps21)])), (ln21, .inl (g.2.1 2, 25, .inr (.inl f21)))]) (wr := []) hP hD hS hA [0, 1] [] rfl rfl rfl (by decide) (va_runV (As := [.int (nI 3)]) (rest := []) F (t_SP_start_3 l g _ T (ln21 :: (r22 :: xs)) pl hO hU  r22 ln21 rt21 ps21 x21 f21) (cwV 1 hts (wg_app (wg_c kw_669 (wg_c kw_579 (wg_c kw_580 (wg_c kw_2 wg_n)))) kw_581) rfl rfl rfl (by decide +kernel) ⟨by decide, by decide⟩) (pp_V (en_ok g) (q0 := 0) hK hP hD hS hA hE [0, 1] rfl rfl rfl rfl) rfl rfl hl.1 rfl (lv_room (Nat.le_of_ble_eq_true rfl)) dDA_makeSignature_35 ⟨by omega, by omega⟩) (fun  u21 H locs hu23 hP hD hS => ?_)
  obtain ⟨u22, pl⟩ := u21
  obtain ⟨hq23, hO⟩ := hu23
  have hP : va_P g.1 vcl ([(r22, .inr (3, [.ref ln21, .int (nI 136), .int (nI 31), .int (nI 0)])), (ln21, .inl (g.2.1 2, 25, .inr (.inl u22)))] ++ pl) _ := hP
  have hD : va_D _ ([(r22, .inr (3, [.ref ln21, .int (nI 136), .int (nI 31), .int (nI 0)])), (ln21, .inl (g.2.1 2, 25, .inr (.inl u22)))] ++ pl) := hD
  refine W.widen (k := 0) (n := 0) (by omega) (by omega) ?_
  refine lv_aload_n hx hb dDA_makeSignature_38 rfl (lv_at hl 0 rfl) ?_
  refine ty_get (ci := 6) (C := "LatticeKeys$Dsa") (TT := T_DA) (N := 17) (kd := (15, 0)) hx hb hts (wg_ft i_DA) hown hK hO k_h0 (nxg (clo_cons (clo_cons hc0 kr22 (by decide)) kl21 (by decide)) k_h0 rfl) hP (fun _ h9 => h9) rfl 0 (by decide) (hts _ (wg_t kw_165)) (fun _ h9 => h9) (cd := (3, 10, 2)) rfl dDA_makeSignature_39 (fun v23 hv23 => ?_)
  obtain ⟨r23, rfl, kr23⟩ := (show ∃ r : Nat, v23 = .ref r ∧ T r = some (10, 2) from hv23)
  obtain rfl : r22 = r23 := hU _ _ _ (by decide) kr22 kr23
  refine lv_aload_n hx hb dDA_makeSignature_42 rfl (lv_at hl 2 rfl) ?_
  refine lv_bipush (v := nI 32) hx hb dDA_makeSignature_43 (by decide) ?_
  refine lv_bipush (v := nI 32) hx hb dDA_makeSignature_45 (by decide) ?_
  refine mp_v (cx := [(r22, .inr (3, [.ref ln21, .int (nI 136), .int (nI 31), .int (nI 0)])), (ln21, .inl (g.2.1 2, 25, .inr (.inl u22)))]) (wr := []) hP hD hS hA [0, 1] [] rfl rfl rfl (by decide) (va_runV (As := [.ref sk, .int (nI 32), .int (nI 32)]) (rest := []) F (t_SP_absorb l g _ T (ln21 :: (r22 :: xs)) pl hO hU (clo_cons (clo_cons hc0 kr22 (by decide)) kl21 (by decide)) sk 2560 32 32 r22 ln21 136 0 (nI 31) u22 k_sk (by omega) (by omega) (by omega) (by omega)) (cwV 3 hts (wg_app (wg_c kw_670 (wg_c kw_586 (wg_c kw_587 (wg_c kw_2 wg_n)))) kw_588) rfl rfl rfl (by decide +kernel) ⟨by decide, by decide⟩) (pp_V (en_ok g) (q0 := 0) hK hP hD hS hA hE [0, 1] rfl rfl rfl rfl) rfl rfl hl.1 rfl (lv_room (Nat.le_of_ble_eq_true rfl)) dDA_makeSignature_47 ⟨by omega, by omega⟩) (fun  u23 H locs hu24 hP hD hS => ?_)
  obtain ⟨u24, pl⟩ := u23
  obtain ⟨hq24, hO⟩ := hu24
  obtain ⟨k21, f22⟩ := u24
  have hP : va_P g.1 vcl ([(r22, .inr (3, [.ref ln21, .int (nI 136), .int (nI 31), .int (nI k21)])), (ln21, .inl (g.2.1 2, 25, .inr (.inl f22)))] ++ pl) _ := hP
  have hD : va_D _ ([(r22, .inr (3, [.ref ln21, .int (nI 136), .int (nI 31), .int (nI k21)])), (ln21, .inl (g.2.1 2, 25, .inr (.inl f22)))] ++ pl) := hD
  have hq24 : k21 < 136 := hq24
  refine W.widen (k := 0) (n := 0) (by omega) (by omega) ?_
  refine lv_aload_n hx hb dDA_makeSignature_50 rfl (lv_at hl 0 rfl) ?_
  refine ty_get (ci := 6) (C := "LatticeKeys$Dsa") (TT := T_DA) (N := 17) (kd := (15, 0)) hx hb hts (wg_ft i_DA) hown hK hO k_h0 (nxg (clo_cons (clo_cons hc0 kr22 (by decide)) kl21 (by decide)) k_h0 rfl) hP (fun _ h9 => h9) rfl 0 (by decide) (hts _ (wg_t kw_165)) (fun _ h9 => h9) (cd := (3, 10, 2)) rfl dDA_makeSignature_51 (fun v24 hv24 => ?_)
  obtain ⟨r24, rfl, kr24⟩ := (show ∃ r : Nat, v24 = .ref r ∧ T r = some (10, 2) from hv24)
  obtain rfl : r22 = r24 := hU _ _ _ (by decide) kr22 kr24
  refine lv_aload_n hx hb dDA_makeSignature_54 rfl (lv_at hl 3 rfl) ?_
  refine lv_iconst (v := nI 0) hx hb dDA_makeSignature_55 (by decide) ?_
  refine lv_bipush (v := nI 32) hx hb dDA_makeSignature_56 (by decide) ?_
  refine mp_v (cx := [(r22, .inr (3, [.ref ln21, .int (nI 136), .int (nI 31), .int (nI k21)])), (ln21, .inl (g.2.1 2, 25, .inr (.inl f22)))]) (wr := []) hP hD hS hA [0, 1] [] rfl rfl rfl (by decide) (va_runV (As := [.ref tp, .int (nI 0), .int (nI 32)]) (rest := []) F (t_SP_absorb l g _ T (ln21 :: (r22 :: xs)) pl hO hU (clo_cons (clo_cons hc0 kr22 (by decide)) kl21 (by decide)) tp n 0 32 r22 ln21 136 k21 (nI 31) f22 k_tp (by omega) (by omega) (by omega) (by omega)) (cwV 3 hts (wg_app (wg_c kw_670 (wg_c kw_586 (wg_c kw_587 (wg_c kw_2 wg_n)))) kw_588) rfl rfl rfl (by decide +kernel) ⟨by decide, by decide⟩) (pp_V (en_ok g) (q0 := 0) hK hP hD hS hA hE [0, 1] rfl rfl rfl rfl) rfl rfl hl.1 rfl (lv_room (Nat.le_of_ble_eq_true rfl)) dDA_makeSignature_58 ⟨by omega, by omega⟩) (fun  u25 H locs hu25 hP hD hS => ?_)
  obtain ⟨u26, pl⟩ := u25
  obtain ⟨hq25, hO⟩ := hu25
  obtain ⟨k22, f23⟩ := u26
  have hP : va_P g.1 vcl ([(r22, .inr (3, [.ref ln21, .int (nI 136), .int (nI 31), .int (nI k22)])), (ln21, .inl (g.2.1 2, 25, .inr (.inl f23)))] ++ pl) _ := hP
  have hD : va_D _ ([(r22, .inr (3, [.ref ln21, .int (nI 136), .int (nI 31), .int (nI k22)])), (ln21, .inl (g.2.1 2, 25, .inr (.inl f23)))] ++ pl) := hD
  have hq25 : k22 < 136 := hq25
  refine W.widen (k := 0) (n := 0) (by omega) (by omega) ?_
  refine lv_aload_n hx hb dDA_makeSignature_61 rfl (lv_at hl 0 rfl) ?_
  refine ty_get (ci := 6) (C := "LatticeKeys$Dsa") (TT := T_DA) (N := 17) (kd := (15, 0)) hx hb hts (wg_ft i_DA) hown hK hO k_h0 (nxg (clo_cons (clo_cons hc0 kr22 (by decide)) kl21 (by decide)) k_h0 rfl) hP (fun _ h9 => h9) rfl 0 (by decide) (hts _ (wg_t kw_165)) (fun _ h9 => h9) (cd := (3, 10, 2)) rfl dDA_makeSignature_62 (fun v25 hv25 => ?_)
  obtain ⟨r25, rfl, kr25⟩ := (show ∃ r : Nat, v25 = .ref r ∧ T r = some (10, 2) from hv25)
  obtain rfl : r22 = r25 := hU _ _ _ (by decide) kr22 kr25
  refine lv_aload_n hx hb dDA_makeSignature_65 rfl (lv_at hl 0 rfl) ?_
  refine ty_get (ci := 6) (C := "LatticeKeys$Dsa") (TT := T_DA) (N := 17) (kd := (15, 0)) hx hb hts (wg_ft i_DA) hown hK hO k_h0 (nxg (clo_cons (clo_cons hc0 kr22 (by decide)) kl21 (by decide)) k_h0 rfl) hP (fun _ h9 => h9) rfl 12 (by decide) (hts _ (wg_t kw_177)) (fun _ h9 => h9) (cd := (3, 1, 64)) rfl dDA_makeSignature_66 (fun v26 hv26 => ?_)
  obtain ⟨r26, rfl, kr26⟩ := (show ∃ r : Nat, v26 = .ref r ∧ T r = some (1, 64) from hv26)
  refine lv_iconst (v := nI 0) hx hb dDA_makeSignature_69 (by decide) ?_
  refine lv_bipush (v := nI 64) hx hb dDA_makeSignature_70 (by decide) ?_
  refine mp_v (cx := [(r22, .inr (3, [.ref ln21, .int (nI 136), .int (nI 31), .int (nI k22)])), (ln21, .inl (g.2.1 2, 25, .inr (.inl f23)))]) (wr := []) hP hD hS hA [0, 1] [] rfl rfl rfl (by decide) (va_runV (As := [.ref r26, .int (nI 0), .int (nI 64)]) (rest := []) F (t_SP_absorb l g _ T (ln21 :: (r22 :: xs)) pl hO hU (clo_cons (clo_cons hc0 kr22 (by decide)) kl21 (by decide)) r26 64 0 64 r22 ln21 136 k22 (nI 31) f23 kr26 (by omega) (by omega) (by omega) (by omega)) (cwV 3 hts (wg_app (wg_c kw_670 (wg_c kw_586 (wg_c kw_587 (wg_c kw_2 wg_n)))) kw_588) rfl rfl rfl (by decide +kernel) ⟨by decide, by decide⟩) (pp_V (en_ok g) (q0 := 0) hK hP hD hS hA hE [0, 1] rfl rfl rfl rfl) rfl rfl hl.1 rfl (lv_room (Nat.le_of_ble_eq_true rfl)) dDA_makeSignature_72 ⟨by omega, by omega⟩) (fun  u27 H locs hu26 hP hD hS => ?_)
  obtain ⟨u28, pl⟩ := u27
  obtain ⟨hq26, hO⟩ := hu26
  obtain ⟨k23, f24⟩ := u28
  have hP : va_P g.1 vcl ([(r22, .inr (3, [.ref ln21, .int (nI 136), .int (nI 31), .int (nI k23)])), (ln21, .inl (g.2.1 2, 25, .inr (.inl f24)))] ++ pl) _ := hP
  have hD : va_D _ ([(r22, .inr (3, [.ref ln21, .int (nI 136), .int (nI 31), .int (nI k23)])), (ln21, .inl (g.2.1 2, 25, .inr (.inl f24)))] ++ pl) := hD
  have hq26 : k23 < 136 := hq26
  refine W.widen (k := 0) (n := 0) (by omega) (by omega) ?_
  refine lv_aload_n hx hb dDA_makeSignature_75 rfl (lv_at hl 0 rfl) ?_
  refine ty_get (ci := 6) (C := "LatticeKeys$Dsa") (TT := T_DA) (N := 17) (kd := (15, 0)) hx hb hts (wg_ft i_DA) hown hK hO k_h0 (nxg (clo_cons (clo_cons hc0 kr22 (by decide)) kl21 (by decide)) k_h0 rfl) hP (fun _ h9 => h9) rfl 0 (by decide) (hts _ (wg_t kw_165)) (fun _ h9 => h9) (cd := (3, 10, 2)) rfl dDA_makeSignature_76 (fun v27 hv27 => ?_)
  obtain ⟨r27, rfl, kr27⟩ := (show ∃ r : Nat, v27 = .ref r ∧ T r = some (10, 2) from hv27)
  obtain rfl : r22 = r27 := hU _ _ _ (by decide) kr22 kr27
  refine mp_v (cx := [(r22, .inr (3, [.ref ln21, .int (nI 136), .int (nI 31), .int (nI k23)])), (ln21, .inl (g.2.1 2, 25, .inr (.inl f24)))]) (wr := []) hP hD hS hA [0, 1] [] rfl rfl rfl (by decide) (va_runV (As := []) (rest := []) F (t_SP_finish l g _ T (ln21 :: (r22 :: xs)) pl hO hU  r22 ln21 136 k23 (nI 31) f24 (by omega) (by omega)) (cwV 0 hts (wg_app (wg_c kw_672 (wg_c kw_611 (wg_c kw_612 (wg_c kw_2 wg_n)))) kw_613) rfl rfl rfl (by decide +kernel) ⟨by decide, by decide⟩) (pp_V (en_ok g) (q0 := 0) hK hP hD hS hA hE [0, 1] rfl rfl rfl rfl) rfl rfl hl.1 rfl (lv_room (Nat.le_of_ble_eq_true rfl)) dDA_makeSignature_79 ⟨by omega, by omega⟩) (fun  u29 H locs hu27 hP hD hS => ?_)
  obtain ⟨u30, pl⟩ := u29
  obtain ⟨hq27, hO⟩ := hu27
  have hP : va_P g.1 vcl ([(r22, .inr (3, [.ref ln21, .int (nI 136), .int (nI 31), .int (nI 136)])), (ln21, .inl (g.2.1 2, 25, .inr (.inl u30)))] ++ pl) _ := hP
  have hD : va_D _ ([(r22, .inr (3, [.ref ln21, .int (nI 136), .int (nI 31), .int (nI 136)])), (ln21, .inl (g.2.1 2, 25, .inr (.inl u30)))] ++ pl) := hD
  refine W.widen (k := 0) (n := 0) (by omega) (by omega) ?_
  refine lv_aload_n hx hb dDA_makeSignature_82 rfl (lv_at hl 0 rfl) ?_
  refine ty_get (ci := 6) (C := "LatticeKeys$Dsa") (TT := T_DA) (N := 17) (kd := (15, 0)) hx hb hts (wg_ft i_DA) hown hK hO k_h0 (nxg (clo_cons (clo_cons hc0 kr22 (by decide)) kl21 (by decide)) k_h0 rfl) hP (fun _ h9 => h9) rfl 0 (by decide) (hts _ (wg_t kw_165)) (fun _ h9 => h9) (cd := (3, 10, 2)) rfl dDA_makeSignature_83 (fun v28 hv28 => ?_)
  obtain ⟨r28, rfl, kr28⟩ := (show ∃ r : Nat, v28 = .ref r ∧ T r = some (10, 2) from hv28)
  obtain rfl : r22 = r28 := hU _ _ _ (by decide) kr22 kr28
  refine lv_aload_n hx hb dDA_makeSignature_86 rfl (lv_at hl 0 rfl) ?_
  refine ty_get (ci := 6) (C := "LatticeKeys$Dsa") (TT := T_DA) (N := 17) (kd := (15, 0)) hx hb hts (wg_ft i_DA) hown hK hO k_h0 (nxg (clo_cons (clo_cons hc0 kr22 (by decide)) kl21 (by decide)) k_h0 rfl) hP (fun _ h9 => h9) rfl 11 (by decide) (hts _ (wg_t kw_176)) (fun _ h9 => h9) (cd := (3, 1, 128)) rfl dDA_makeSignature_87 (fun v29 hv29 => ?_)
  obtain ⟨r29, rfl, kr29⟩ := (show ∃ r : Nat, v29 = .ref r ∧ T r = some (1, 128) from hv29)
  refine lv_iconst (v := nI 0) hx hb dDA_makeSignature_90 (by decide) ?_
  refine lv_bipush (v := nI 64) hx hb dDA_makeSignature_91 (by decide) ?_
  refine mp_v (cx := [(r22, .inr (3, [.ref ln21, .int (nI 136), .int (nI 31), .int (nI 136)])), (ln21, .inl (g.2.1 2, 25, .inr (.inl u30)))]) (wr := []) hP hD hS hA [0, 1] [] rfl rfl rfl (by decide) (va_runV (As := [.ref r29, .int (nI 0), .int (nI 64)]) (rest := []) F (t_SP_squeeze l g _ T (ln21 :: (r22 :: xs)) pl hO hU (clo_cons (clo_cons hc0 kr22 (by decide)) kl21 (by decide)) r29 128 0 64 r22 ln21 136 136 (nI 31) u30 kr29 (by omega) (by omega) (by omega) (by omega)) (cwV 3 hts (wg_app (wg_c kw_673 (wg_c kw_615 (wg_c kw_616 (wg_c kw_2 wg_n)))) kw_617) rfl rfl rfl (by decide +kernel) ⟨by decide, by decide⟩) (pp_V (en_ok g) (q0 := 0) hK hP hD hS hA hE [0, 1] rfl rfl rfl rfl) rfl rfl hl.1 rfl (lv_room (Nat.le_of_ble_eq_true rfl)) dDA_makeSignature_93 ⟨by omega, by omega⟩) (fun  u31 H locs hu28 hP hD hS => ?_)
  obtain ⟨u32, pl⟩ := u31
  obtain ⟨hq28, hO⟩ := hu28
  obtain ⟨k24, f25⟩ := u32
  have hP : va_P g.1 vcl ([(r22, .inr (3, [.ref ln21, .int (nI 136), .int (nI 31), .int (nI k24)])), (ln21, .inl (g.2.1 2, 25, .inr (.inl f25)))] ++ pl) _ := hP
  have hD : va_D _ ([(r22, .inr (3, [.ref ln21, .int (nI 136), .int (nI 31), .int (nI k24)])), (ln21, .inl (g.2.1 2, 25, .inr (.inl f25)))] ++ pl) := hD
  have hq28 : k24 ≤ 136 := hq28
  refine W.widen (k := 0) (n := 0) (by omega) (by omega) ?_
  refine lv_iconst (v := nI 1) hx hb dDA_makeSignature_96 (by decide) ?_
  refine lv_istore (lv' := [(7, .int (nI 1)), (0, .ref h0), (1, .ref st), (2, .ref sk), (3, .ref tp), (4, .int (nI len)), (5, .int cl), (6, .ref to)]) hx hb dDA_makeSignature_97 hl (by decide) rfl (fun ls hl => ?_)
  have hO := close1 (e := .inl (g.2.1 2, 25, .inr (.inl f25))) hO kl21 ⟨_, rfl⟩
  have hO := close1 (e := .inr (3, [.ref ln21, .int (nI 136), .int (nI 31), .int (nI k24)])) hO kr22 ⟨_, _, _, _, rfl, kl21, by omega, by omega, by omega⟩
  have hO : okx g T xs ((r22, .inr (3, [.ref ln21, .int (nI 136), .int (nI 31), .int (nI k24)])) :: (ln21, .inl (g.2.1 2, 25, .inr (.inl f25))) :: pl) := hO
  have hP : va_P g.1 vcl ([] ++ ((r22, .inr (3, [.ref ln21, .int (nI 136), .int (nI 31), .int (nI k24)])) :: (ln21, .inl (g.2.1 2, 25, .inr (.inl f25))) :: pl)) _ := hP
  have hD : va_D _ ([] ++ ((r22, .inr (3, [.ref ln21, .int (nI 136), .int (nI 31), .int (nI k24)])) :: (ln21, .inl (g.2.1 2, 25, .inr (.inl f25))) :: pl)) := hD
  generalize ((r22, .inr (3, [.ref ln21, .int (nI 136), .int (nI 31), .int (nI k24)])) :: (ln21, .inl (g.2.1 2, 25, .inr (.inl f25))) :: pl) = pl at hO hP hD
  have lp21 : ∀ (n21 : Nat) (i21 : Nat) (pl : va_W) (ls : Array Slot) (H : Heap) (locs : List Loc), n21 + i21 = 201 → (1 ≤ i21) → lv_has ls 8 [(7, .int (nI i21)), (0, .ref h0), (1, .ref st), (6, .ref to)] → okx g T xs pl → va_P g.1 vcl ([] ++ pl) H → va_D A ([] ++ pl) → va_S A s.heap H locs → W p l e ({ frames := 6, cells := 0, slots := 0, locals := 176 } : Room) s m args below meth c H locs 0 0 (MQ below (va_Qi (fun (r : Int32) (u : va_W) => (True) ∧ okx g T xs u) (po g.1 vcl A (fun (u : va_W) => [] ++ u)) A) args s 0 0 A) (F0 m 99 ls []) := by
    intro n21
    induction n21 with
    | zero =>
      intro i21 pl ls H locs hm21 hi21 hl hO hP hD hS
      refine lv_iload hx hb dDA_makeSignature_99 (lv_at hl 0 rfl) ?_
      refine lv_sipush (v := nI 200) hx hb dDA_makeSignature_101 (by decide) ?_
      refine mi_gt (tgt := 161) hx hb dDA_makeSignature_104 (by decide) (by omega) (by omega) (fun h21 => ?_) (fun h21 => absurd h21 (by omega))
      refine lv_iconst (v := nI 0) hx hb dDA_makeSignature_161 (by decide) ?_
      exact mp_iret hx hb hr hlk hP hD hS pl ⟨trivial, hO⟩ [] rfl rfl rfl (by omega) (by omega) dDA_makeSignature_162
    | succ n21 ih21 =>
      intro i21 pl ls H locs hm21 hi21 hl hO hP hD hS
      refine lv_iload hx hb dDA_makeSignature_99 (lv_at hl 0 rfl) ?_
      refine lv_sipush (v := nI 200) hx hb dDA_makeSignature_101 (by decide) ?_
      refine mi_gt (tgt := 161) hx hb dDA_makeSignature_104 (by decide) (by omega) (by omega) (fun h22 => absurd h22 (by omega)) (fun h22 => ?_)
      refine lv_aload_n hx hb dDA_makeSignature_107 rfl (lv_at hl 1 rfl) ?_
      refine lv_aload_n hx hb dDA_makeSignature_108 rfl (lv_at hl 2 rfl) ?_
      refine lv_aload_n hx hb dDA_makeSignature_109 rfl (lv_at hl 2 rfl) ?_
      refine ty_get (ci := 2) (C := "LatticeKeys$DsaSet") (TT := T_DS) (N := 17) (kd := (43, 0)) hx hb hts (wg_ft i_DS) hown hK hO k_st (nxg hc0 k_st rfl) hP (fun _ h9 => h9) rfl 1 (by decide) (hts _ (wg_t kw_305)) (fun _ h9 => h9) (cd := (1, 0, 4)) rfl dDA_makeSignature_110 (fun v30 hv30 => ?_)
      obtain rfl := (show v30 = .int (nI 4) from hv30)
      refine lv_iload hx hb dDA_makeSignature_113 (lv_at hl 0 rfl) ?_
      refine lv_iconst (v := nI 1) hx hb dDA_makeSignature_115 (by decide) ?_
      refine mi_isub hx hb dDA_makeSignature_116 (by omega) ?_
      refine mi_imul hx hb dDA_makeSignature_117 ?_
      refine mp_v (cx := []) (wr := []) hP hD hS hA [] [] rfl rfl rfl (by decide) (va_runV (As := [.ref st, .int (nI (4 * (i21 - 1)))]) (rest := []) F (t_DA_commit_0 l g _ T xs pl hO hU hc0 hc3 hc4 h0 st (nI (4 * (i21 - 1))) k_h0 k_st) (cwV 2 hts (wg_app (wg_c kw_1192 (wg_c kw_1194 (wg_c ks_37 (wg_c kw_5 wg_n)))) kw_1195) rfl rfl rfl (by decide +kernel) ⟨by decide, by decide⟩) (pp_VT (en_ok g) (ci := 6) (kd := (15, 0)) hK hO k_h0 (nxg hc0 k_h0 rfl) (fun _ h9 => ko1 h9) hP hD hS hA hE [] rfl rfl rfl) rfl rfl hl.1 rfl (lv_room (Nat.le_of_ble_eq_true rfl)) dDA_makeSignature_118 ⟨by omega, by omega⟩) (fun  pl H locs hu29 hP hD hS => ?_)
      obtain ⟨hq29, hO⟩ := hu29
      have hP : va_P g.1 vcl ([] ++ pl) _ := hP
      have hD : va_D _ ([] ++ pl) := hD
      refine W.widen (k := 0) (n := 0) (by omega) (by omega) ?_
      refine lv_aload_n hx hb dDA_makeSignature_121 rfl (lv_at hl 1 rfl) ?_
      refine lv_aload_n hx hb dDA_makeSignature_122 rfl (lv_at hl 2 rfl) ?_
      refine mp_i (cx := []) (wr := []) hP hD hS hA [] [] rfl rfl rfl (by decide) (va_runV (As := [.ref st]) (rest := []) F (t_DA_answerIsShort_0 l g _ T xs pl hO hU hc0 h0 st k_h0 k_st) (cwV 1 hts (wg_app (wg_c kw_1220 (wg_c kw_1222 (wg_c ks_40 (wg_c kw_5 wg_n)))) kw_1223) rfl rfl rfl (by decide +kernel) ⟨by decide, by decide⟩) (pp_VT (en_ok g) (ci := 6) (kd := (15, 0)) hK hO k_h0 (nxg hc0 k_h0 rfl) (fun _ h9 => ko1 h9) hP hD hS hA hE [] rfl rfl rfl) rfl rfl hl.1 rfl (lv_room (Nat.le_of_ble_eq_true rfl)) dDA_makeSignature_123 ⟨by omega, by omega⟩) (fun r30 pl H locs hu30 hP hD hS => ?_)
      obtain ⟨hq30, hO⟩ := hu30
      have hP : va_P g.1 vcl ([] ++ pl) _ := hP
      have hD : va_D _ ([] ++ pl) := hD
      refine W.widen (k := 0) (n := 0) (by omega) (by omega) ?_
      refine lv_if_eq (tgt := 155) hx hb dDA_makeSignature_126 (by decide) (fun h23 => ?_) (fun h23 => ?_)
      · refine mi_iinc (k := 0) (x := i21) (d := 1) (y := i21 + 1) (lv' := [(7, .int (nI (i21 + 1))), (0, .ref h0), (1, .ref st), (6, .ref to)]) hx hb dDA_makeSignature_155 hl rfl (by decide) rfl (by decide) rfl (fun ls hl => ?_)
        refine lv_goto (tgt := 99) hx hb dDA_makeSignature_158 (by decide) ?_
        exact ih21 (i21 + 1) pl ls H locs (by omega) (by omega) (lv_sub hl [0, 1, 2, 3] rfl) hO hP hD hS
      · refine lv_aload_n hx hb dDA_makeSignature_129 rfl (lv_at hl 1 rfl) ?_
        refine lv_aload_n hx hb dDA_makeSignature_130 rfl (lv_at hl 2 rfl) ?_
        refine mp_i (cx := []) (wr := []) hP hD hS hA [] [] rfl rfl rfl (by decide) (va_runV (As := [.ref st]) (rest := []) F (t_DA_restIsShort_0 l g _ T xs pl hO hU hc0 h0 st k_h0 k_st) (cwV 1 hts (wg_app (wg_c kw_1232 (wg_c kw_1234 (wg_c ks_42 (wg_c kw_5 wg_n)))) kw_1235) rfl rfl rfl (by decide +kernel) ⟨by decide, by decide⟩) (pp_VT (en_ok g) (ci := 6) (kd := (15, 0)) hK hO k_h0 (nxg hc0 k_h0 rfl) (fun _ h9 => ko1 h9) hP hD hS hA hE [] rfl rfl rfl) rfl rfl hl.1 rfl (lv_room (Nat.le_of_ble_eq_true rfl)) dDA_makeSignature_131 ⟨by omega, by omega⟩) (fun r31 pl H locs hu31 hP hD hS => ?_)
        obtain ⟨hq31, hO⟩ := hu31
        have hP : va_P g.1 vcl ([] ++ pl) _ := hP
        have hD : va_D _ ([] ++ pl) := hD
        refine W.widen (k := 0) (n := 0) (by omega) (by omega) ?_
        refine lv_if_eq (tgt := 155) hx hb dDA_makeSignature_134 (by decide) (fun h24 => ?_) (fun h24 => ?_)
        · refine mi_iinc (k := 0) (x := i21) (d := 1) (y := i21 + 1) (lv' := [(7, .int (nI (i21 + 1))), (0, .ref h0), (1, .ref st), (6, .ref to)]) hx hb dDA_makeSignature_155 hl rfl (by decide) rfl (by decide) rfl (fun ls hl => ?_)
          refine lv_goto (tgt := 99) hx hb dDA_makeSignature_158 (by decide) ?_
          exact ih21 (i21 + 1) pl ls H locs (by omega) (by omega) (lv_sub hl [0, 1, 2, 3] rfl) hO hP hD hS
        · refine lv_aload_n hx hb dDA_makeSignature_137 rfl (lv_at hl 1 rfl) ?_
          refine lv_aload_n hx hb dDA_makeSignature_138 rfl (lv_at hl 2 rfl) ?_
          refine mp_i (cx := []) (wr := []) hP hD hS hA [] [] rfl rfl rfl (by decide) (va_runV (As := [.ref st]) (rest := []) F (t_DA_makeHints_0 l g _ T xs pl hO hU hc0 hc20 h0 st k_h0 k_st) (cwV 1 hts (wg_app (wg_c kw_1241 (wg_c kw_1243 (wg_c ks_43 (wg_c kw_5 wg_n)))) kw_1244) rfl rfl rfl (by decide +kernel) ⟨by decide, by decide⟩) (pp_VT (en_ok g) (ci := 6) (kd := (15, 0)) hK hO k_h0 (nxg hc0 k_h0 rfl) (fun _ h9 => ko1 h9) hP hD hS hA hE [] rfl rfl rfl) rfl rfl hl.1 rfl (lv_room (Nat.le_of_ble_eq_true rfl)) dDA_makeSignature_139 ⟨by omega, by omega⟩) (fun r32 pl H locs hu32 hP hD hS => ?_)
          obtain ⟨hq32, hO⟩ := hu32
          have hP : va_P g.1 vcl ([] ++ pl) _ := hP
          have hD : va_D _ ([] ++ pl) := hD
          refine W.widen (k := 0) (n := 0) (by omega) (by omega) ?_
          refine lv_if_eq (tgt := 155) hx hb dDA_makeSignature_142 (by decide) (fun h25 => ?_) (fun h25 => ?_)
          · refine mi_iinc (k := 0) (x := i21) (d := 1) (y := i21 + 1) (lv' := [(7, .int (nI (i21 + 1))), (0, .ref h0), (1, .ref st), (6, .ref to)]) hx hb dDA_makeSignature_155 hl rfl (by decide) rfl (by decide) rfl (fun ls hl => ?_)
            refine lv_goto (tgt := 99) hx hb dDA_makeSignature_158 (by decide) ?_
            exact ih21 (i21 + 1) pl ls H locs (by omega) (by omega) (lv_sub hl [0, 1, 2, 3] rfl) hO hP hD hS
          · refine lv_aload_n hx hb dDA_makeSignature_145 rfl (lv_at hl 1 rfl) ?_
            refine lv_aload_n hx hb dDA_makeSignature_146 rfl (lv_at hl 2 rfl) ?_
            refine lv_aload hx hb dDA_makeSignature_147 (lv_at hl 3 rfl) ?_
            refine mp_v (cx := []) (wr := []) hP hD hS hA [] [] rfl rfl rfl (by decide) (va_runV (As := [.ref st, .ref to]) (rest := []) F (t_DA_writeSignature_0 l g _ T xs pl hO hU hc0 hc20 h0 st to k_h0 k_st k_to) (cwV 2 hts (wg_app (wg_c kw_1248 (wg_c kw_1250 (wg_c ks_44 (wg_c kw_5 wg_n)))) kw_1251) rfl rfl rfl (by decide +kernel) ⟨by decide, by decide⟩) (pp_VT (en_ok g) (ci := 6) (kd := (15, 0)) hK hO k_h0 (nxg hc0 k_h0 rfl) (fun _ h9 => ko1 h9) hP hD hS hA hE [] rfl rfl rfl) rfl rfl hl.1 rfl (lv_room (Nat.le_of_ble_eq_true rfl)) dDA_makeSignature_149 ⟨by omega, by omega⟩) (fun  pl H locs hu33 hP hD hS => ?_)
            obtain ⟨hq33, hO⟩ := hu33
            have hP : va_P g.1 vcl ([] ++ pl) _ := hP
            have hD : va_D _ ([] ++ pl) := hD
            refine W.widen (k := 0) (n := 0) (by omega) (by omega) ?_
            refine lv_iload hx hb dDA_makeSignature_152 (lv_at hl 0 rfl) ?_
            exact mp_iret hx hb hr hlk hP hD hS pl ⟨trivial, hO⟩ [] rfl rfl rfl (by omega) (by omega) dDA_makeSignature_154
  exact lp21 (201 - 1) 1 pl ls _ _ (by omega) (by omega) (lv_sub hl [0, 1, 2, 7] rfl) hO hP hD hS
set_option maxHeartbeats 400000 in
set_option maxRecDepth 100000 in
theorem t_DA_makeSignature_1 (l : Launch) (g : Gd) (sz : Nat) (T : Ty) (xs : List Nat) (pl : va_W) (hO : okx g T xs pl) (hU : uni T) (hc0 : clo T xs 0) (hc3 : clo T xs 3) (hc4 : clo T xs 4) (hc20 : clo T xs 20) (h0 st sk tp to n len : Nat) (cl : Int32) (k_h0 : T h0 = some (15, 0)) (k_st : T st = some (44, 0)) (k_sk : T sk = some (1, 4032)) (k_tp : T tp = some (1, n)) (k_to : T to = some (1, 8192)) (h1 : 32 ≤ len) (h3 : len ≤ n) (h2 : n < 65536)  : Met l y_DA_makeSignature w_DA_makeSignature ({ frames := 6, cells := 0, slots := 0, locals := 176 } : Room) (va_Pc [.ref h0, .ref st, .ref sk, .ref tp, .int (nI len), .int cl, .ref to] (pr (en g) g.1 vcl sz ([] ++ pl))) (va_Qi (fun (r : Int32) (u : va_W) => (True) ∧ okx g T xs u) (po g.1 vcl (va_A ([] ++ pl) sz) (fun (u : va_W) => [] ++ u)) (va_A ([] ++ pl) sz)) 0 0 (va_A ([] ++ pl) sz) := by
  refine mc_entry (cc := c_DA_makeSignature) (maxL := 8) (ret := (some .int)) (by decide) rfl (Nat.le_of_ble_eq_true rfl) ?_
  intro p e s m args below meth c ls F hr hlk hnm hsz hP hD hE hA hl
  obtain ⟨hx, hb, hml, hown, hts⟩ := id F
  have hK := hE.1
  generalize va_A ([] ++ pl) sz = A at hD hE hA ⊢
  have hS : va_S A s.heap s.heap [] := va_S.rf
  have hl : lv_has ls 8 [(0, .ref h0), (1, .ref st), (2, .ref sk), (3, .ref tp), (4, .int (nI len)), (5, .int cl), (6, .ref to)] := hl
  refine lv_aload_n hx hb dDA_makeSignature_0 rfl (lv_at hl 0 rfl) ?_
  refine lv_aload_n hx hb dDA_makeSignature_1 rfl (lv_at hl 1 rfl) ?_
  refine lv_aload_n hx hb dDA_makeSignature_2 rfl (lv_at hl 2 rfl) ?_
  refine mp_v (cx := []) (wr := []) hP hD hS hA [] [] rfl rfl rfl (by decide) (va_runV (As := [.ref st, .ref sk]) (rest := []) F (t_DA_readSecret_1 l g _ T xs pl hO hU hc0 hc4 h0 st sk k_h0 k_st k_sk) (cwV 2 hts (wg_app (wg_c kw_1179 (wg_c kw_1181 (wg_c ks_34 (wg_c kw_5 wg_n)))) kw_1182) rfl rfl rfl (by decide +kernel) ⟨by decide, by decide⟩) (pp_VT (en_ok g) (ci := 6) (kd := (15, 0)) hK hO k_h0 (nxg hc0 k_h0 rfl) (fun _ h9 => ko1 h9) hP hD hS hA hE [] rfl rfl rfl) rfl rfl hl.1 rfl (lv_room (Nat.le_of_ble_eq_true rfl)) dDA_makeSignature_3 ⟨by omega, by omega⟩) (fun  pl H locs hu21 hP hD hS => ?_)
  obtain ⟨hq21, hO⟩ := hu21
  have hP : va_P g.1 vcl ([] ++ pl) _ := hP
  have hD : va_D _ ([] ++ pl) := hD
  refine W.widen (k := 0) (n := 0) (by omega) (by omega) ?_
  refine lv_aload_n hx hb dDA_makeSignature_6 rfl (lv_at hl 2 rfl) ?_
  refine lv_bipush (v := nI 64) hx hb dDA_makeSignature_7 (by decide) ?_
  refine lv_aload_n hx hb dDA_makeSignature_9 rfl (lv_at hl 0 rfl) ?_
  refine ty_get (ci := 6) (C := "LatticeKeys$Dsa") (TT := T_DA) (N := 17) (kd := (15, 0)) hx hb hts (wg_ft i_DA) hown hK hO k_h0 (nxg hc0 k_h0 rfl) hP (fun _ h9 => h9) rfl 12 (by decide) (hts _ (wg_t kw_177)) (fun _ h9 => h9) (cd := (3, 1, 64)) rfl dDA_makeSignature_10 (fun v21 hv21 => ?_)
  obtain ⟨r21, rfl, kr21⟩ := (show ∃ r : Nat, v21 = .ref r ∧ T r = some (1, 64) from hv21)
  refine lv_iconst (v := nI 0) hx hb dDA_makeSignature_13 (by decide) ?_
  refine lv_bipush (v := nI 64) hx hb dDA_makeSignature_14 (by decide) ?_
  refine ty_copyb11 hx hb (hml.trans hl.1.symm) hown (hts _ (wg_t kw_674)) (hts _ (wg_t kw_526)) (hts _ (wg_t kw_525)) (hts _ (wg_t kw_19)) hK hO k_sk (nxg hc0 k_sk rfl) kr21 (nxg hc0 kr21 rfl) hP hD hS (sp := 64) (dp := 0) (n := 64) (by omega) (by omega) (by omega) (by decide) (Nat.le_of_ble_eq_true rfl) dDA_makeSignature_16 (fun pl H locs hO hP hD hS => ?_)
  refine lv_aload_n hx hb dDA_makeSignature_19 rfl (lv_at hl 0 rfl) ?_
  refine lv_aload_n hx hb dDA_makeSignature_20 rfl (lv_at hl 3 rfl) ?_
  refine lv_bipush (v := nI 32) hx hb dDA_makeSignature_21 (by decide) ?_
  refine lv_iload hx hb dDA_makeSignature_23 (lv_at hl 4 rfl) ?_
  refine lv_iload hx hb dDA_makeSignature_25 (lv_at hl 5 rfl) ?_
  refine mp_v (cx := []) (wr := []) hP hD hS hA [] [] rfl rfl rfl (by decide) (va_runV (As := [.ref tp, .int (nI 32), .int (nI len), .int cl]) (rest := []) F (t_DA_digestMessage l g _ T xs pl hO hU hc0 hc3 h0 tp n 32 len cl k_h0 k_tp (by omega) (by omega) (by omega)) (cwV 4 hts (wg_app (wg_c kw_1188 (wg_c kw_1190 (wg_c ks_36 (wg_c kw_5 wg_n)))) kw_1191) rfl rfl rfl (by decide +kernel) ⟨by decide, by decide⟩) (pp_VT (en_ok g) (ci := 6) (kd := (15, 0)) hK hO k_h0 (nxg hc0 k_h0 rfl) (fun _ h9 => ko1 h9) hP hD hS hA hE [] rfl rfl rfl) rfl rfl hl.1 rfl (lv_room (Nat.le_of_ble_eq_true rfl)) dDA_makeSignature_27 ⟨by omega, by omega⟩) (fun  pl H locs hu22 hP hD hS => ?_)
  obtain ⟨hq22, hO⟩ := hu22
  have hP : va_P g.1 vcl ([] ++ pl) _ := hP
  have hD : va_D _ ([] ++ pl) := hD
  refine W.widen (k := 0) (n := 0) (by omega) (by omega) ?_
  refine lv_aload_n hx hb dDA_makeSignature_30 rfl (lv_at hl 0 rfl) ?_
  refine ty_get (ci := 6) (C := "LatticeKeys$Dsa") (TT := T_DA) (N := 17) (kd := (15, 0)) hx hb hts (wg_ft i_DA) hown hK hO k_h0 (nxg hc0 k_h0 rfl) hP (fun _ h9 => h9) rfl 0 (by decide) (hts _ (wg_t kw_165)) (fun _ h9 => h9) (cd := (3, 10, 2)) rfl dDA_makeSignature_31 (fun v22 hv22 => ?_)
  obtain ⟨r22, rfl, kr22⟩ := (show ∃ r : Nat, v22 = .ref r ∧ T r = some (10, 2) from hv22)
  refine lv_iconst (v := nI 3) hx hb dDA_makeSignature_34 (by decide) ?_
  obtain ⟨e21, pl, hP, hD, hk21, hO⟩ := open1 hP hD hO kr22 (nxg hc3 kr22 rfl)
  obtain ⟨ln21, rt21, ps21, x21, rfl, kl21, hr21, hr22, hr23⟩ := hk21
  have kl21 : T ln21 = some (19, 2) := kl21
  obtain ⟨e22, pl, hP, hD, hk22, hO⟩ := open1 hP hD hO kl21 (nmc (knd_ne kl21 kr22 (by decide)) (nxg hc3 kl21 rfl))
  obtain ⟨f21, rfl⟩ := hk22
  have hP : va_P g.1 vcl ([(r22, .inr (3, [.ref ln21, .int (nI rt21), .int x21, .int (nI ps21)])), (ln21, .inl (g.2.1 2, 25, .inr (.inl f21)))] ++ pl) _ := hP
  have hD : va_D _ ([(r22, .inr (3, [.ref ln21, .int (nI rt21), .int x21, .int (nI ps21)])), (ln21, .inl (g.2.1 2, 25, .inr (.inl f21)))] ++ pl) := hD
  refine mp_v (cx := [(r22, .inr (3, [.ref ln21, .int (nI rt21), .int x21, .int (nI ps21)])), (ln21, .inl (g.2.1 2, 25, .inr (.inl f21)))]) (wr := []) hP hD hS hA [0, 1] [] rfl rfl rfl (by decide) (va_runV (As := [.int (nI 3)]) (rest := []) F (t_SP_start_3 l g _ T (ln21 :: (r22 :: xs)) pl hO hU  r22 ln21 rt21 ps21 x21 f21) (cwV 1 hts (wg_app (wg_c kw_669 (wg_c kw_579 (wg_c kw_580 (wg_c kw_2 wg_n)))) kw_581) rfl rfl rfl (by decide +kernel) ⟨by decide, by decide⟩) (pp_V (en_ok g) (q0 := 0) hK hP hD hS hA hE [0, 1] rfl rfl rfl rfl) rfl rfl hl.1 rfl (lv_room (Nat.le_of_ble_eq_true rfl)) dDA_makeSignature_35 ⟨by omega, by omega⟩) (fun  u21 H locs hu23 hP hD hS => ?_)
  obtain ⟨u22, pl⟩ := u21
  obtain ⟨hq23, hO⟩ := hu23
  have hP : va_P g.1 vcl ([(r22, .inr (3, [.ref ln21, .int (nI 136), .int (nI 31), .int (nI 0)])), (ln21, .inl (g.2.1 2, 25, .inr (.inl u22)))] ++ pl) _ := hP
  have hD : va_D _ ([(r22, .inr (3, [.ref ln21, .int (nI 136), .int (nI 31), .int (nI 0)])), (ln21, .inl (g.2.1 2, 25, .inr (.inl u22)))] ++ pl) := hD
  refine W.widen (k := 0) (n := 0) (by omega) (by omega) ?_
  refine lv_aload_n hx hb dDA_makeSignature_38 rfl (lv_at hl 0 rfl) ?_
  refine ty_get (ci := 6) (C := "LatticeKeys$Dsa") (TT := T_DA) (N := 17) (kd := (15, 0)) hx hb hts (wg_ft i_DA) hown hK hO k_h0 (nxg (clo_cons (clo_cons hc0 kr22 (by decide)) kl21 (by decide)) k_h0 rfl) hP (fun _ h9 => h9) rfl 0 (by decide) (hts _ (wg_t kw_165)) (fun _ h9 => h9) (cd := (3, 10, 2)) rfl dDA_makeSignature_39 (fun v23 hv23 => ?_)
  obtain ⟨r23, rfl, kr23⟩ := (show ∃ r : Nat, v23 = .ref r ∧ T r = some (10, 2) from hv23)
  obtain rfl : r22 = r23 := hU _ _ _ (by decide) kr22 kr23
  refine lv_aload_n hx hb dDA_makeSignature_42 rfl (lv_at hl 2 rfl) ?_
  refine lv_bipush (v := nI 32) hx hb dDA_makeSignature_43 (by decide) ?_
  refine lv_bipush (v := nI 32) hx hb dDA_makeSignature_45 (by decide) ?_
  refine mp_v (cx := [(r22, .inr (3, [.ref ln21, .int (nI 136), .int (nI 31), .int (nI 0)])), (ln21, .inl (g.2.1 2, 25, .inr (.inl u22)))]) (wr := []) hP hD hS hA [0, 1] [] rfl rfl rfl (by decide) (va_runV (As := [.ref sk, .int (nI 32), .int (nI 32)]) (rest := []) F (t_SP_absorb l g _ T (ln21 :: (r22 :: xs)) pl hO hU (clo_cons (clo_cons hc0 kr22 (by decide)) kl21 (by decide)) sk 4032 32 32 r22 ln21 136 0 (nI 31) u22 k_sk (by omega) (by omega) (by omega) (by omega)) (cwV 3 hts (wg_app (wg_c kw_670 (wg_c kw_586 (wg_c kw_587 (wg_c kw_2 wg_n)))) kw_588) rfl rfl rfl (by decide +kernel) ⟨by decide, by decide⟩) (pp_V (en_ok g) (q0 := 0) hK hP hD hS hA hE [0, 1] rfl rfl rfl rfl) rfl rfl hl.1 rfl (lv_room (Nat.le_of_ble_eq_true rfl)) dDA_makeSignature_47 ⟨by omega, by omega⟩) (fun  u23 H locs hu24 hP hD hS => ?_)
  obtain ⟨u24, pl⟩ := u23
  obtain ⟨hq24, hO⟩ := hu24
  obtain ⟨k21, f22⟩ := u24
  have hP : va_P g.1 vcl ([(r22, .inr (3, [.ref ln21, .int (nI 136), .int (nI 31), .int (nI k21)])), (ln21, .inl (g.2.1 2, 25, .inr (.inl f22)))] ++ pl) _ := hP
  have hD : va_D _ ([(r22, .inr (3, [.ref ln21, .int (nI 136), .int (nI 31), .int (nI k21)])), (ln21, .inl (g.2.1 2, 25, .inr (.inl f22)))] ++ pl) := hD
  have hq24 : k21 < 136 := hq24
  refine W.widen (k := 0) (n := 0) (by omega) (by omega) ?_
  refine lv_aload_n hx hb dDA_makeSignature_50 rfl (lv_at hl 0 rfl) ?_
  refine ty_get (ci := 6) (C := "LatticeKeys$Dsa") (TT := T_DA) (N := 17) (kd := (15, 0)) hx hb hts (wg_ft i_DA) hown hK hO k_h0 (nxg (clo_cons (clo_cons hc0 kr22 (by decide)) kl21 (by decide)) k_h0 rfl) hP (fun _ h9 => h9) rfl 0 (by decide) (hts _ (wg_t kw_165)) (fun _ h9 => h9) (cd := (3, 10, 2)) rfl dDA_makeSignature_51 (fun v24 hv24 => ?_)
  obtain ⟨r24, rfl, kr24⟩ := (show ∃ r : Nat, v24 = .ref r ∧ T r = some (10, 2) from hv24)
  obtain rfl : r22 = r24 := hU _ _ _ (by decide) kr22 kr24
  refine lv_aload_n hx hb dDA_makeSignature_54 rfl (lv_at hl 3 rfl) ?_
  refine lv_iconst (v := nI 0) hx hb dDA_makeSignature_55 (by decide) ?_
  refine lv_bipush (v := nI 32) hx hb dDA_makeSignature_56 (by decide) ?_
  refine mp_v (cx := [(r22, .inr (3, [.ref ln21, .int (nI 136), .int (nI 31), .int (nI k21)])), (ln21, .inl (g.2.1 2, 25, .inr (.inl f22)))]) (wr := []) hP hD hS hA [0, 1] [] rfl rfl rfl (by decide) (va_runV (As := [.ref tp, .int (nI 0), .int (nI 32)]) (rest := []) F (t_SP_absorb l g _ T (ln21 :: (r22 :: xs)) pl hO hU (clo_cons (clo_cons hc0 kr22 (by decide)) kl21 (by decide)) tp n 0 32 r22 ln21 136 k21 (nI 31) f22 k_tp (by omega) (by omega) (by omega) (by omega)) (cwV 3 hts (wg_app (wg_c kw_670 (wg_c kw_586 (wg_c kw_587 (wg_c kw_2 wg_n)))) kw_588) rfl rfl rfl (by decide +kernel) ⟨by decide, by decide⟩) (pp_V (en_ok g) (q0 := 0) hK hP hD hS hA hE [0, 1] rfl rfl rfl rfl) rfl rfl hl.1 rfl (lv_room (Nat.le_of_ble_eq_true rfl)) dDA_makeSignature_58 ⟨by omega, by omega⟩) (fun  u25 H locs hu25 hP hD hS => ?_)
  obtain ⟨u26, pl⟩ := u25
  obtain ⟨hq25, hO⟩ := hu25
  obtain ⟨k22, f23⟩ := u26
  have hP : va_P g.1 vcl ([(r22, .inr (3, [.ref ln21, .int (nI 136), .int (nI 31), .int (nI k22)])), (ln21, .inl (g.2.1 2, 25, .inr (.inl f23)))] ++ pl) _ := hP
  have hD : va_D _ ([(r22, .inr (3, [.ref ln21, .int (nI 136), .int (nI 31), .int (nI k22)])), (ln21, .inl (g.2.1 2, 25, .inr (.inl f23)))] ++ pl) := hD
  have hq25 : k22 < 136 := hq25
  refine W.widen (k := 0) (n := 0) (by omega) (by omega) ?_
  refine lv_aload_n hx hb dDA_makeSignature_61 rfl (lv_at hl 0 rfl) ?_
  refine ty_get (ci := 6) (C := "LatticeKeys$Dsa") (TT := T_DA) (N := 17) (kd := (15, 0)) hx hb hts (wg_ft i_DA) hown hK hO k_h0 (nxg (clo_cons (clo_cons hc0 kr22 (by decide)) kl21 (by decide)) k_h0 rfl) hP (fun _ h9 => h9) rfl 0 (by decide) (hts _ (wg_t kw_165)) (fun _ h9 => h9) (cd := (3, 10, 2)) rfl dDA_makeSignature_62 (fun v25 hv25 => ?_)
  obtain ⟨r25, rfl, kr25⟩ := (show ∃ r : Nat, v25 = .ref r ∧ T r = some (10, 2) from hv25)
  obtain rfl : r22 = r25 := hU _ _ _ (by decide) kr22 kr25
  refine lv_aload_n hx hb dDA_makeSignature_65 rfl (lv_at hl 0 rfl) ?_
  refine ty_get (ci := 6) (C := "LatticeKeys$Dsa") (TT := T_DA) (N := 17) (kd := (15, 0)) hx hb hts (wg_ft i_DA) hown hK hO k_h0 (nxg (clo_cons (clo_cons hc0 kr22 (by decide)) kl21 (by decide)) k_h0 rfl) hP (fun _ h9 => h9) rfl 12 (by decide) (hts _ (wg_t kw_177)) (fun _ h9 => h9) (cd := (3, 1, 64)) rfl dDA_makeSignature_66 (fun v26 hv26 => ?_)
  obtain ⟨r26, rfl, kr26⟩ := (show ∃ r : Nat, v26 = .ref r ∧ T r = some (1, 64) from hv26)
  refine lv_iconst (v := nI 0) hx hb dDA_makeSignature_69 (by decide) ?_
  refine lv_bipush (v := nI 64) hx hb dDA_makeSignature_70 (by decide) ?_
  refine mp_v (cx := [(r22, .inr (3, [.ref ln21, .int (nI 136), .int (nI 31), .int (nI k22)])), (ln21, .inl (g.2.1 2, 25, .inr (.inl f23)))]) (wr := []) hP hD hS hA [0, 1] [] rfl rfl rfl (by decide) (va_runV (As := [.ref r26, .int (nI 0), .int (nI 64)]) (rest := []) F (t_SP_absorb l g _ T (ln21 :: (r22 :: xs)) pl hO hU (clo_cons (clo_cons hc0 kr22 (by decide)) kl21 (by decide)) r26 64 0 64 r22 ln21 136 k22 (nI 31) f23 kr26 (by omega) (by omega) (by omega) (by omega)) (cwV 3 hts (wg_app (wg_c kw_670 (wg_c kw_586 (wg_c kw_587 (wg_c kw_2 wg_n)))) kw_588) rfl rfl rfl (by decide +kernel) ⟨by decide, by decide⟩) (pp_V (en_ok g) (q0 := 0) hK hP hD hS hA hE [0, 1] rfl rfl rfl rfl) rfl rfl hl.1 rfl (lv_room (Nat.le_of_ble_eq_true rfl)) dDA_makeSignature_72 ⟨by omega, by omega⟩) (fun  u27 H locs hu26 hP hD hS => ?_)
  obtain ⟨u28, pl⟩ := u27
  obtain ⟨hq26, hO⟩ := hu26
  obtain ⟨k23, f24⟩ := u28
  have hP : va_P g.1 vcl ([(r22, .inr (3, [.ref ln21, .int (nI 136), .int (nI 31), .int (nI k23)])), (ln21, .inl (g.2.1 2, 25, .inr (.inl f24)))] ++ pl) _ := hP
  have hD : va_D _ ([(r22, .inr (3, [.ref ln21, .int (nI 136), .int (nI 31), .int (nI k23)])), (ln21, .inl (g.2.1 2, 25, .inr (.inl f24)))] ++ pl) := hD
  have hq26 : k23 < 136 := hq26
  refine W.widen (k := 0) (n := 0) (by omega) (by omega) ?_
  refine lv_aload_n hx hb dDA_makeSignature_75 rfl (lv_at hl 0 rfl) ?_
  refine ty_get (ci := 6) (C := "LatticeKeys$Dsa") (TT := T_DA) (N := 17) (kd := (15, 0)) hx hb hts (wg_ft i_DA) hown hK hO k_h0 (nxg (clo_cons (clo_cons hc0 kr22 (by decide)) kl21 (by decide)) k_h0 rfl) hP (fun _ h9 => h9) rfl 0 (by decide) (hts _ (wg_t kw_165)) (fun _ h9 => h9) (cd := (3, 10, 2)) rfl dDA_makeSignature_76 (fun v27 hv27 => ?_)
  obtain ⟨r27, rfl, kr27⟩ := (show ∃ r : Nat, v27 = .ref r ∧ T r = some (10, 2) from hv27)
  obtain rfl : r22 = r27 := hU _ _ _ (by decide) kr22 kr27
  refine mp_v (cx := [(r22, .inr (3, [.ref ln21, .int (nI 136), .int (nI 31), .int (nI k23)])), (ln21, .inl (g.2.1 2, 25, .inr (.inl f24)))]) (wr := []) hP hD hS hA [0, 1] [] rfl rfl rfl (by decide) (va_runV (As := []) (rest := []) F (t_SP_finish l g _ T (ln21 :: (r22 :: xs)) pl hO hU  r22 ln21 136 k23 (nI 31) f24 (by omega) (by omega)) (cwV 0 hts (wg_app (wg_c kw_672 (wg_c kw_611 (wg_c kw_612 (wg_c kw_2 wg_n)))) kw_613) rfl rfl rfl (by decide +kernel) ⟨by decide, by decide⟩) (pp_V (en_ok g) (q0 := 0) hK hP hD hS hA hE [0, 1] rfl rfl rfl rfl) rfl rfl hl.1 rfl (lv_room (Nat.le_of_ble_eq_true rfl)) dDA_makeSignature_79 ⟨by omega, by omega⟩) (fun  u29 H locs hu27 hP hD hS => ?_)
  obtain ⟨u30, pl⟩ := u29
  obtain ⟨hq27, hO⟩ := hu27
  have hP : va_P g.1 vcl ([(r22, .inr (3, [.ref ln21, .int (nI 136), .int (nI 31), .int (nI 136)])), (ln21, .inl (g.2.1 2, 25, .inr (.inl u30)))] ++ pl) _ := hP
  have hD : va_D _ ([(r22, .inr (3, [.ref ln21, .int (nI 136), .int (nI 31), .int (nI 136)])), (ln21, .inl (g.2.1 2, 25, .inr (.inl u30)))] ++ pl) := hD
  refine W.widen (k := 0) (n := 0) (by omega) (by omega) ?_
  refine lv_aload_n hx hb dDA_makeSignature_82 rfl (lv_at hl 0 rfl) ?_
  refine ty_get (ci := 6) (C := "LatticeKeys$Dsa") (TT := T_DA) (N := 17) (kd := (15, 0)) hx hb hts (wg_ft i_DA) hown hK hO k_h0 (nxg (clo_cons (clo_cons hc0 kr22 (by decide)) kl21 (by decide)) k_h0 rfl) hP (fun _ h9 => h9) rfl 0 (by decide) (hts _ (wg_t kw_165)) (fun _ h9 => h9) (cd := (3, 10, 2)) rfl dDA_makeSignature_83 (fun v28 hv28 => ?_)
  obtain ⟨r28, rfl, kr28⟩ := (show ∃ r : Nat, v28 = .ref r ∧ T r = some (10, 2) from hv28)
  obtain rfl : r22 = r28 := hU _ _ _ (by decide) kr22 kr28
  refine lv_aload_n hx hb dDA_makeSignature_86 rfl (lv_at hl 0 rfl) ?_
  refine ty_get (ci := 6) (C := "LatticeKeys$Dsa") (TT := T_DA) (N := 17) (kd := (15, 0)) hx hb hts (wg_ft i_DA) hown hK hO k_h0 (nxg (clo_cons (clo_cons hc0 kr22 (by decide)) kl21 (by decide)) k_h0 rfl) hP (fun _ h9 => h9) rfl 11 (by decide) (hts _ (wg_t kw_176)) (fun _ h9 => h9) (cd := (3, 1, 128)) rfl dDA_makeSignature_87 (fun v29 hv29 => ?_)
  obtain ⟨r29, rfl, kr29⟩ := (show ∃ r : Nat, v29 = .ref r ∧ T r = some (1, 128) from hv29)
  refine lv_iconst (v := nI 0) hx hb dDA_makeSignature_90 (by decide) ?_
  refine lv_bipush (v := nI 64) hx hb dDA_makeSignature_91 (by decide) ?_
  refine mp_v (cx := [(r22, .inr (3, [.ref ln21, .int (nI 136), .int (nI 31), .int (nI 136)])), (ln21, .inl (g.2.1 2, 25, .inr (.inl u30)))]) (wr := []) hP hD hS hA [0, 1] [] rfl rfl rfl (by decide) (va_runV (As := [.ref r29, .int (nI 0), .int (nI 64)]) (rest := []) F (t_SP_squeeze l g _ T (ln21 :: (r22 :: xs)) pl hO hU (clo_cons (clo_cons hc0 kr22 (by decide)) kl21 (by decide)) r29 128 0 64 r22 ln21 136 136 (nI 31) u30 kr29 (by omega) (by omega) (by omega) (by omega)) (cwV 3 hts (wg_app (wg_c kw_673 (wg_c kw_615 (wg_c kw_616 (wg_c kw_2 wg_n)))) kw_617) rfl rfl rfl (by decide +kernel) ⟨by decide, by decide⟩) (pp_V (en_ok g) (q0 := 0) hK hP hD hS hA hE [0, 1] rfl rfl rfl rfl) rfl rfl hl.1 rfl (lv_room (Nat.le_of_ble_eq_true rfl)) dDA_makeSignature_93 ⟨by omega, by omega⟩) (fun  u31 H locs hu28 hP hD hS => ?_)
  obtain ⟨u32, pl⟩ := u31
  obtain ⟨hq28, hO⟩ := hu28
  obtain ⟨k24, f25⟩ := u32
  have hP : va_P g.1 vcl ([(r22, .inr (3, [.ref ln21, .int (nI 136), .int (nI 31), .int (nI k24)])), (ln21, .inl (g.2.1 2, 25, .inr (.inl f25)))] ++ pl) _ := hP
  have hD : va_D _ ([(r22, .inr (3, [.ref ln21, .int (nI 136), .int (nI 31), .int (nI k24)])), (ln21, .inl (g.2.1 2, 25, .inr (.inl f25)))] ++ pl) := hD
  have hq28 : k24 ≤ 136 := hq28
  refine W.widen (k := 0) (n := 0) (by omega) (by omega) ?_
  refine lv_iconst (v := nI 1) hx hb dDA_makeSignature_96 (by decide) ?_
  refine lv_istore (lv' := [(7, .int (nI 1)), (0, .ref h0), (1, .ref st), (2, .ref sk), (3, .ref tp), (4, .int (nI len)), (5, .int cl), (6, .ref to)]) hx hb dDA_makeSignature_97 hl (by decide) rfl (fun ls hl => ?_)
  have hO := close1 (e := .inl (g.2.1 2, 25, .inr (.inl f25))) hO kl21 ⟨_, rfl⟩
  have hO := close1 (e := .inr (3, [.ref ln21, .int (nI 136), .int (nI 31), .int (nI k24)])) hO kr22 ⟨_, _, _, _, rfl, kl21, by omega, by omega, by omega⟩
  have hO : okx g T xs ((r22, .inr (3, [.ref ln21, .int (nI 136), .int (nI 31), .int (nI k24)])) :: (ln21, .inl (g.2.1 2, 25, .inr (.inl f25))) :: pl) := hO
  have hP : va_P g.1 vcl ([] ++ ((r22, .inr (3, [.ref ln21, .int (nI 136), .int (nI 31), .int (nI k24)])) :: (ln21, .inl (g.2.1 2, 25, .inr (.inl f25))) :: pl)) _ := hP
  have hD : va_D _ ([] ++ ((r22, .inr (3, [.ref ln21, .int (nI 136), .int (nI 31), .int (nI k24)])) :: (ln21, .inl (g.2.1 2, 25, .inr (.inl f25))) :: pl)) := hD
  generalize ((r22, .inr (3, [.ref ln21, .int (nI 136), .int (nI 31), .int (nI k24)])) :: (ln21, .inl (g.2.1 2, 25, .inr (.inl f25))) :: pl) = pl at hO hP hD
  have lp21 : ∀ (n21 : Nat) (i21 : Nat) (pl : va_W) (ls : Array Slot) (H : Heap) (locs : List Loc), n21 + i21 = 201 → (1 ≤ i21) → lv_has ls 8 [(7, .int (nI i21)), (0, .ref h0), (1, .ref st), (6, .ref to)] → okx g T xs pl → va_P g.1 vcl ([] ++ pl) H → va_D A ([] ++ pl) → va_S A s.heap H locs → W p l e ({ frames := 6, cells := 0, slots := 0, locals := 176 } : Room) s m args below meth c H locs 0 0 (MQ below (va_Qi (fun (r : Int32) (u : va_W) => (True) ∧ okx g T xs u) (po g.1 vcl A (fun (u : va_W) => [] ++ u)) A) args s 0 0 A) (F0 m 99 ls []) := by
    intro n21
    induction n21 with
    | zero =>
      intro i21 pl ls H locs hm21 hi21 hl hO hP hD hS
      refine lv_iload hx hb dDA_makeSignature_99 (lv_at hl 0 rfl) ?_
      refine lv_sipush (v := nI 200) hx hb dDA_makeSignature_101 (by decide) ?_
      refine mi_gt (tgt := 161) hx hb dDA_makeSignature_104 (by decide) (by omega) (by omega) (fun h21 => ?_) (fun h21 => absurd h21 (by omega))
      refine lv_iconst (v := nI 0) hx hb dDA_makeSignature_161 (by decide) ?_
      exact mp_iret hx hb hr hlk hP hD hS pl ⟨trivial, hO⟩ [] rfl rfl rfl (by omega) (by omega) dDA_makeSignature_162
    | succ n21 ih21 =>
      intro i21 pl ls H locs hm21 hi21 hl hO hP hD hS
      refine lv_iload hx hb dDA_makeSignature_99 (lv_at hl 0 rfl) ?_
      refine lv_sipush (v := nI 200) hx hb dDA_makeSignature_101 (by decide) ?_
      refine mi_gt (tgt := 161) hx hb dDA_makeSignature_104 (by decide) (by omega) (by omega) (fun h22 => absurd h22 (by omega)) (fun h22 => ?_)
      refine lv_aload_n hx hb dDA_makeSignature_107 rfl (lv_at hl 1 rfl) ?_
      refine lv_aload_n hx hb dDA_makeSignature_108 rfl (lv_at hl 2 rfl) ?_
      refine lv_aload_n hx hb dDA_makeSignature_109 rfl (lv_at hl 2 rfl) ?_
      refine ty_get (ci := 2) (C := "LatticeKeys$DsaSet") (TT := T_DS) (N := 17) (kd := (44, 0)) hx hb hts (wg_ft i_DS) hown hK hO k_st (nxg hc0 k_st rfl) hP (fun _ h9 => h9) rfl 1 (by decide) (hts _ (wg_t kw_305)) (fun _ h9 => h9) (cd := (1, 0, 5)) rfl dDA_makeSignature_110 (fun v30 hv30 => ?_)
      obtain rfl := (show v30 = .int (nI 5) from hv30)
      refine lv_iload hx hb dDA_makeSignature_113 (lv_at hl 0 rfl) ?_
      refine lv_iconst (v := nI 1) hx hb dDA_makeSignature_115 (by decide) ?_
      refine mi_isub hx hb dDA_makeSignature_116 (by omega) ?_
      refine mi_imul hx hb dDA_makeSignature_117 ?_
      refine mp_v (cx := []) (wr := []) hP hD hS hA [] [] rfl rfl rfl (by decide) (va_runV (As := [.ref st, .int (nI (5 * (i21 - 1)))]) (rest := []) F (t_DA_commit_1 l g _ T xs pl hO hU hc0 hc3 hc4 h0 st (nI (5 * (i21 - 1))) k_h0 k_st) (cwV 2 hts (wg_app (wg_c kw_1192 (wg_c kw_1194 (wg_c ks_37 (wg_c kw_5 wg_n)))) kw_1195) rfl rfl rfl (by decide +kernel) ⟨by decide, by decide⟩) (pp_VT (en_ok g) (ci := 6) (kd := (15, 0)) hK hO k_h0 (nxg hc0 k_h0 rfl) (fun _ h9 => ko1 h9) hP hD hS hA hE [] rfl rfl rfl) rfl rfl hl.1 rfl (lv_room (Nat.le_of_ble_eq_true rfl)) dDA_makeSignature_118 ⟨by omega, by omega⟩) (fun  pl H locs hu29 hP hD hS => ?_)
      obtain ⟨hq29, hO⟩ := hu29
      have hP : va_P g.1 vcl ([] ++ pl) _ := hP
      have hD : va_D _ ([] ++ pl) := hD
      refine W.widen (k := 0) (n := 0) (by omega) (by omega) ?_
      refine lv_aload_n hx hb dDA_makeSignature_121 rfl (lv_at hl 1 rfl) ?_
      refine lv_aload_n hx hb dDA_makeSignature_122 rfl (lv_at hl 2 rfl) ?_
      refine mp_i (cx := []) (wr := []) hP hD hS hA [] [] rfl rfl rfl (by decide) (va_runV (As := [.ref st]) (rest := []) F (t_DA_answerIsShort_1 l g _ T xs pl hO hU hc0 h0 st k_h0 k_st) (cwV 1 hts (wg_app (wg_c kw_1220 (wg_c kw_1222 (wg_c ks_40 (wg_c kw_5 wg_n)))) kw_1223) rfl rfl rfl (by decide +kernel) ⟨by decide, by decide⟩) (pp_VT (en_ok g) (ci := 6) (kd := (15, 0)) hK hO k_h0 (nxg hc0 k_h0 rfl) (fun _ h9 => ko1 h9) hP hD hS hA hE [] rfl rfl rfl) rfl rfl hl.1 rfl (lv_room (Nat.le_of_ble_eq_true rfl)) dDA_makeSignature_123 ⟨by omega, by omega⟩) (fun r30 pl H locs hu30 hP hD hS => ?_)
      obtain ⟨hq30, hO⟩ := hu30
      have hP : va_P g.1 vcl ([] ++ pl) _ := hP
      have hD : va_D _ ([] ++ pl) := hD
      refine W.widen (k := 0) (n := 0) (by omega) (by omega) ?_
      refine lv_if_eq (tgt := 155) hx hb dDA_makeSignature_126 (by decide) (fun h23 => ?_) (fun h23 => ?_)
      · refine mi_iinc (k := 0) (x := i21) (d := 1) (y := i21 + 1) (lv' := [(7, .int (nI (i21 + 1))), (0, .ref h0), (1, .ref st), (6, .ref to)]) hx hb dDA_makeSignature_155 hl rfl (by decide) rfl (by decide) rfl (fun ls hl => ?_)
        refine lv_goto (tgt := 99) hx hb dDA_makeSignature_158 (by decide) ?_
        exact ih21 (i21 + 1) pl ls H locs (by omega) (by omega) (lv_sub hl [0, 1, 2, 3] rfl) hO hP hD hS
      · refine lv_aload_n hx hb dDA_makeSignature_129 rfl (lv_at hl 1 rfl) ?_
        refine lv_aload_n hx hb dDA_makeSignature_130 rfl (lv_at hl 2 rfl) ?_
        refine mp_i (cx := []) (wr := []) hP hD hS hA [] [] rfl rfl rfl (by decide) (va_runV (As := [.ref st]) (rest := []) F (t_DA_restIsShort_1 l g _ T xs pl hO hU hc0 h0 st k_h0 k_st) (cwV 1 hts (wg_app (wg_c kw_1232 (wg_c kw_1234 (wg_c ks_42 (wg_c kw_5 wg_n)))) kw_1235) rfl rfl rfl (by decide +kernel) ⟨by decide, by decide⟩) (pp_VT (en_ok g) (ci := 6) (kd := (15, 0)) hK hO k_h0 (nxg hc0 k_h0 rfl) (fun _ h9 => ko1 h9) hP hD hS hA hE [] rfl rfl rfl) rfl rfl hl.1 rfl (lv_room (Nat.le_of_ble_eq_true rfl)) dDA_makeSignature_131 ⟨by omega, by omega⟩) (fun r31 pl H locs hu31 hP hD hS => ?_)
        obtain ⟨hq31, hO⟩ := hu31
        have hP : va_P g.1 vcl ([] ++ pl) _ := hP
        have hD : va_D _ ([] ++ pl) := hD
        refine W.widen (k := 0) (n := 0) (by omega) (by omega) ?_
        refine lv_if_eq (tgt := 155) hx hb dDA_makeSignature_134 (by decide) (fun h24 => ?_) (fun h24 => ?_)
        · refine mi_iinc (k := 0) (x := i21) (d := 1) (y := i21 + 1) (lv' := [(7, .int (nI (i21 + 1))), (0, .ref h0), (1, .ref st), (6, .ref to)]) hx hb dDA_makeSignature_155 hl rfl (by decide) rfl (by decide) rfl (fun ls hl => ?_)
          refine lv_goto (tgt := 99) hx hb dDA_makeSignature_158 (by decide) ?_
          exact ih21 (i21 + 1) pl ls H locs (by omega) (by omega) (lv_sub hl [0, 1, 2, 3] rfl) hO hP hD hS
        · refine lv_aload_n hx hb dDA_makeSignature_137 rfl (lv_at hl 1 rfl) ?_
          refine lv_aload_n hx hb dDA_makeSignature_138 rfl (lv_at hl 2 rfl) ?_
          refine mp_i (cx := []) (wr := []) hP hD hS hA [] [] rfl rfl rfl (by decide) (va_runV (As := [.ref st]) (rest := []) F (t_DA_makeHints_1 l g _ T xs pl hO hU hc0 hc20 h0 st k_h0 k_st) (cwV 1 hts (wg_app (wg_c kw_1241 (wg_c kw_1243 (wg_c ks_43 (wg_c kw_5 wg_n)))) kw_1244) rfl rfl rfl (by decide +kernel) ⟨by decide, by decide⟩) (pp_VT (en_ok g) (ci := 6) (kd := (15, 0)) hK hO k_h0 (nxg hc0 k_h0 rfl) (fun _ h9 => ko1 h9) hP hD hS hA hE [] rfl rfl rfl) rfl rfl hl.1 rfl (lv_room (Nat.le_of_ble_eq_true rfl)) dDA_makeSignature_139 ⟨by omega, by omega⟩) (fun r32 pl H locs hu32 hP hD hS => ?_)
          obtain ⟨hq32, hO⟩ := hu32
          have hP : va_P g.1 vcl ([] ++ pl) _ := hP
          have hD : va_D _ ([] ++ pl) := hD
          refine W.widen (k := 0) (n := 0) (by omega) (by omega) ?_
          refine lv_if_eq (tgt := 155) hx hb dDA_makeSignature_142 (by decide) (fun h25 => ?_) (fun h25 => ?_)
          · refine mi_iinc (k := 0) (x := i21) (d := 1) (y := i21 + 1) (lv' := [(7, .int (nI (i21 + 1))), (0, .ref h0), (1, .ref st), (6, .ref to)]) hx hb dDA_makeSignature_155 hl rfl (by decide) rfl (by decide) rfl (fun ls hl => ?_)
            refine lv_goto (tgt := 99) hx hb dDA_makeSignature_158 (by decide) ?_
            exact ih21 (i21 + 1) pl ls H locs (by omega) (by omega) (lv_sub hl [0, 1, 2, 3] rfl) hO hP hD hS
          · refine lv_aload_n hx hb dDA_makeSignature_145 rfl (lv_at hl 1 rfl) ?_
            refine lv_aload_n hx hb dDA_makeSignature_146 rfl (lv_at hl 2 rfl) ?_
            refine lv_aload hx hb dDA_makeSignature_147 (lv_at hl 3 rfl) ?_
            refine mp_v (cx := []) (wr := []) hP hD hS hA [] [] rfl rfl rfl (by decide) (va_runV (As := [.ref st, .ref to]) (rest := []) F (t_DA_writeSignature_1 l g _ T xs pl hO hU hc0 hc20 h0 st to k_h0 k_st k_to) (cwV 2 hts (wg_app (wg_c kw_1248 (wg_c kw_1250 (wg_c ks_44 (wg_c kw_5 wg_n)))) kw_1251) rfl rfl rfl (by decide +kernel) ⟨by decide, by decide⟩) (pp_VT (en_ok g) (ci := 6) (kd := (15, 0)) hK hO k_h0 (nxg hc0 k_h0 rfl) (fun _ h9 => ko1 h9) hP hD hS hA hE [] rfl rfl rfl) rfl rfl hl.1 rfl (lv_room (Nat.le_of_ble_eq_true rfl)) dDA_makeSignature_149 ⟨by omega, by omega⟩) (fun  pl H locs hu33 hP hD hS => ?_)
            obtain ⟨hq33, hO⟩ := hu33
            have hP : va_P g.1 vcl ([] ++ pl) _ := hP
            have hD : va_D _ ([] ++ pl) := hD
            refine W.widen (k := 0) (n := 0) (by omega) (by omega) ?_
            refine lv_iload hx hb dDA_makeSignature_152 (lv_at hl 0 rfl) ?_
            exact mp_iret hx hb hr hlk hP hD hS pl ⟨trivial, hO⟩ [] rfl rfl rfl (by omega) (by omega) dDA_makeSignature_154
  exact lp21 (201 - 1) 1 pl ls _ _ (by omega) (by omega) (lv_sub hl [0, 1, 2, 7] rfl) hO hP hD hS
set_option maxHeartbeats 400000 in
set_option maxRecDepth 100000 in
theorem t_DA_makeSignature_2 (l : Launch) (g : Gd) (sz : Nat) (T : Ty) (xs : List Nat) (pl : va_W) (hO : okx g T xs pl) (hU : uni T) (hc0 : clo T xs 0) (hc3 : clo T xs 3) (hc4 : clo T xs 4) (hc20 : clo T xs 20) (h0 st sk tp to n len : Nat) (cl : Int32) (k_h0 : T h0 = some (15, 0)) (k_st : T st = some (45, 0)) (k_sk : T sk = some (1, 4896)) (k_tp : T tp = some (1, n)) (k_to : T to = some (1, 8192)) (h1 : 32 ≤ len) (h3 : len ≤ n) (h2 : n < 65536)  : Met l y_DA_makeSignature w_DA_makeSignature ({ frames := 6, cells := 0, slots := 0, locals := 176 } : Room) (va_Pc [.ref h0, .ref st, .ref sk, .ref tp, .int (nI len), .int cl, .ref to] (pr (en g) g.1 vcl sz ([] ++ pl))) (va_Qi (fun (r : Int32) (u : va_W) => (True) ∧ okx g T xs u) (po g.1 vcl (va_A ([] ++ pl) sz) (fun (u : va_W) => [] ++ u)) (va_A ([] ++ pl) sz)) 0 0 (va_A ([] ++ pl) sz) := by
  refine mc_entry (cc := c_DA_makeSignature) (maxL := 8) (ret := (some .int)) (by decide) rfl (Nat.le_of_ble_eq_true rfl) ?_
  intro p e s m args below meth c ls F hr hlk hnm hsz hP hD hE hA hl
  obtain ⟨hx, hb, hml, hown, hts⟩ := id F
  have hK := hE.1
  generalize va_A ([] ++ pl) sz = A at hD hE hA ⊢
  have hS : va_S A s.heap s.heap [] := va_S.rf
  have hl : lv_has ls 8 [(0, .ref h0), (1, .ref st), (2, .ref sk), (3, .ref tp), (4, .int (nI len)), (5, .int cl), (6, .ref to)] := hl
  refine lv_aload_n hx hb dDA_makeSignature_0 rfl (lv_at hl 0 rfl) ?_
  refine lv_aload_n hx hb dDA_makeSignature_1 rfl (lv_at hl 1 rfl) ?_
  refine lv_aload_n hx hb dDA_makeSignature_2 rfl (lv_at hl 2 rfl) ?_
  refine mp_v (cx := []) (wr := []) hP hD hS hA [] [] rfl rfl rfl (by decide) (va_runV (As := [.ref st, .ref sk]) (rest := []) F (t_DA_readSecret_2 l g _ T xs pl hO hU hc0 hc4 h0 st sk k_h0 k_st k_sk) (cwV 2 hts (wg_app (wg_c kw_1179 (wg_c kw_1181 (wg_c ks_34 (wg_c kw_5 wg_n)))) kw_1182) rfl rfl rfl (by decide +kernel) ⟨by decide, by decide⟩) (pp_VT (en_ok g) (ci := 6) (kd := (15, 0)) hK hO k_h0 (nxg hc0 k_h0 rfl) (fun _ h9 => ko1 h9) hP hD hS hA hE [] rfl rfl rfl) rfl rfl hl.1 rfl (lv_room (Nat.le_of_ble_eq_true rfl)) dDA_makeSignature_3 ⟨by omega, by omega⟩) (fun  pl H locs hu21 hP hD hS => ?_)
  obtain ⟨hq21, hO⟩ := hu21
  have hP : va_P g.1 vcl ([] ++ pl) _ := hP
  have hD : va_D _ ([] ++ pl) := hD
  refine W.widen (k := 0) (n := 0) (by omega) (by omega) ?_
  refine lv_aload_n hx hb dDA_makeSignature_6 rfl (lv_at hl 2 rfl) ?_
  refine lv_bipush (v := nI 64) hx hb dDA_makeSignature_7 (by decide) ?_
  refine lv_aload_n hx hb dDA_makeSignature_9 rfl (lv_at hl 0 rfl) ?_
  refine ty_get (ci := 6) (C := "LatticeKeys$Dsa") (TT := T_DA) (N := 17) (kd := (15, 0)) hx hb hts (wg_ft i_DA) hown hK hO k_h0 (nxg hc0 k_h0 rfl) hP (fun _ h9 => h9) rfl 12 (by decide) (hts _ (wg_t kw_177)) (fun _ h9 => h9) (cd := (3, 1, 64)) rfl dDA_makeSignature_10 (fun v21 hv21 => ?_)
  obtain ⟨r21, rfl, kr21⟩ := (show ∃ r : Nat, v21 = .ref r ∧ T r = some (1, 64) from hv21)
  refine lv_iconst (v := nI 0) hx hb dDA_makeSignature_13 (by decide) ?_
  refine lv_bipush (v := nI 64) hx hb dDA_makeSignature_14 (by decide) ?_
  refine ty_copyb11 hx hb (hml.trans hl.1.symm) hown (hts _ (wg_t kw_674)) (hts _ (wg_t kw_526)) (hts _ (wg_t kw_525)) (hts _ (wg_t kw_19)) hK hO k_sk (nxg hc0 k_sk rfl) kr21 (nxg hc0 kr21 rfl) hP hD hS (sp := 64) (dp := 0) (n := 64) (by omega) (by omega) (by omega) (by decide) (Nat.le_of_ble_eq_true rfl) dDA_makeSignature_16 (fun pl H locs hO hP hD hS => ?_)
  refine lv_aload_n hx hb dDA_makeSignature_19 rfl (lv_at hl 0 rfl) ?_
  refine lv_aload_n hx hb dDA_makeSignature_20 rfl (lv_at hl 3 rfl) ?_
  refine lv_bipush (v := nI 32) hx hb dDA_makeSignature_21 (by decide) ?_
  refine lv_iload hx hb dDA_makeSignature_23 (lv_at hl 4 rfl) ?_
  refine lv_iload hx hb dDA_makeSignature_25 (lv_at hl 5 rfl) ?_
  refine mp_v (cx := []) (wr := []) hP hD hS hA [] [] rfl rfl rfl (by decide) (va_runV (As := [.ref tp, .int (nI 32), .int (nI len), .int cl]) (rest := []) F (t_DA_digestMessage l g _ T xs pl hO hU hc0 hc3 h0 tp n 32 len cl k_h0 k_tp (by omega) (by omega) (by omega)) (cwV 4 hts (wg_app (wg_c kw_1188 (wg_c kw_1190 (wg_c ks_36 (wg_c kw_5 wg_n)))) kw_1191) rfl rfl rfl (by decide +kernel) ⟨by decide, by decide⟩) (pp_VT (en_ok g) (ci := 6) (kd := (15, 0)) hK hO k_h0 (nxg hc0 k_h0 rfl) (fun _ h9 => ko1 h9) hP hD hS hA hE [] rfl rfl rfl) rfl rfl hl.1 rfl (lv_room (Nat.le_of_ble_eq_true rfl)) dDA_makeSignature_27 ⟨by omega, by omega⟩) (fun  pl H locs hu22 hP hD hS => ?_)
  obtain ⟨hq22, hO⟩ := hu22
  have hP : va_P g.1 vcl ([] ++ pl) _ := hP
  have hD : va_D _ ([] ++ pl) := hD
  refine W.widen (k := 0) (n := 0) (by omega) (by omega) ?_
  refine lv_aload_n hx hb dDA_makeSignature_30 rfl (lv_at hl 0 rfl) ?_
  refine ty_get (ci := 6) (C := "LatticeKeys$Dsa") (TT := T_DA) (N := 17) (kd := (15, 0)) hx hb hts (wg_ft i_DA) hown hK hO k_h0 (nxg hc0 k_h0 rfl) hP (fun _ h9 => h9) rfl 0 (by decide) (hts _ (wg_t kw_165)) (fun _ h9 => h9) (cd := (3, 10, 2)) rfl dDA_makeSignature_31 (fun v22 hv22 => ?_)
  obtain ⟨r22, rfl, kr22⟩ := (show ∃ r : Nat, v22 = .ref r ∧ T r = some (10, 2) from hv22)
  refine lv_iconst (v := nI 3) hx hb dDA_makeSignature_34 (by decide) ?_
  obtain ⟨e21, pl, hP, hD, hk21, hO⟩ := open1 hP hD hO kr22 (nxg hc3 kr22 rfl)
  obtain ⟨ln21, rt21, ps21, x21, rfl, kl21, hr21, hr22, hr23⟩ := hk21
  have kl21 : T ln21 = some (19, 2) := kl21
  obtain ⟨e22, pl, hP, hD, hk22, hO⟩ := open1 hP hD hO kl21 (nmc (knd_ne kl21 kr22 (by decide)) (nxg hc3 kl21 rfl))
  obtain ⟨f21, rfl⟩ := hk22
  have hP : va_P g.1 vcl ([(r22, .inr (3, [.ref ln21, .int (nI rt21), .int x21, .int (nI ps21)])), (ln21, .inl (g.2.1 2, 25, .inr (.inl f21)))] ++ pl) _ := hP
  have hD : va_D _ ([(r22, .inr (3, [.ref ln21, .int (nI rt21), .int x21, .int (nI ps21)])), (ln21, .inl (g.2.1 2, 25, .inr (.inl f21)))] ++ pl) := hD
  refine mp_v (cx := [(r22, .inr (3, [.ref ln21, .int (nI rt21), .int x21, .int (nI ps21)])), (ln21, .inl (g.2.1 2, 25, .inr (.inl f21)))]) (wr := []) hP hD hS hA [0, 1] [] rfl rfl rfl (by decide) (va_runV (As := [.int (nI 3)]) (rest := []) F (t_SP_start_3 l g _ T (ln21 :: (r22 :: xs)) pl hO hU  r22 ln21 rt21 ps21 x21 f21) (cwV 1 hts (wg_app (wg_c kw_669 (wg_c kw_579 (wg_c kw_580 (wg_c kw_2 wg_n)))) kw_581) rfl rfl rfl (by decide +kernel) ⟨by decide, by decide⟩) (pp_V (en_ok g) (q0 := 0) hK hP hD hS hA hE [0, 1] rfl rfl rfl rfl) rfl rfl hl.1 rfl (lv_room (Nat.le_of_ble_eq_true rfl)) dDA_makeSignature_35 ⟨by omega, by omega⟩) (fun  u21 H locs hu23 hP hD hS => ?_)
  obtain ⟨u22, pl⟩ := u21
  obtain ⟨hq23, hO⟩ := hu23
  have hP : va_P g.1 vcl ([(r22, .inr (3, [.ref ln21, .int (nI 136), .int (nI 31), .int (nI 0)])), (ln21, .inl (g.2.1 2, 25, .inr (.inl u22)))] ++ pl) _ := hP
  have hD : va_D _ ([(r22, .inr (3, [.ref ln21, .int (nI 136), .int (nI 31), .int (nI 0)])), (ln21, .inl (g.2.1 2, 25, .inr (.inl u22)))] ++ pl) := hD
  refine W.widen (k := 0) (n := 0) (by omega) (by omega) ?_
  refine lv_aload_n hx hb dDA_makeSignature_38 rfl (lv_at hl 0 rfl) ?_
  refine ty_get (ci := 6) (C := "LatticeKeys$Dsa") (TT := T_DA) (N := 17) (kd := (15, 0)) hx hb hts (wg_ft i_DA) hown hK hO k_h0 (nxg (clo_cons (clo_cons hc0 kr22 (by decide)) kl21 (by decide)) k_h0 rfl) hP (fun _ h9 => h9) rfl 0 (by decide) (hts _ (wg_t kw_165)) (fun _ h9 => h9) (cd := (3, 10, 2)) rfl dDA_makeSignature_39 (fun v23 hv23 => ?_)
  obtain ⟨r23, rfl, kr23⟩ := (show ∃ r : Nat, v23 = .ref r ∧ T r = some (10, 2) from hv23)
  obtain rfl : r22 = r23 := hU _ _ _ (by decide) kr22 kr23
  refine lv_aload_n hx hb dDA_makeSignature_42 rfl (lv_at hl 2 rfl) ?_
  refine lv_bipush (v := nI 32) hx hb dDA_makeSignature_43 (by decide) ?_
  refine lv_bipush (v := nI 32) hx hb dDA_makeSignature_45 (by decide) ?_
  refine mp_v (cx := [(r22, .inr (3, [.ref ln21, .int (nI 136), .int (nI 31), .int (nI 0)])), (ln21, .inl (g.2.1 2, 25, .inr (.inl u22)))]) (wr := []) hP hD hS hA [0, 1] [] rfl rfl rfl (by decide) (va_runV (As := [.ref sk, .int (nI 32), .int (nI 32)]) (rest := []) F (t_SP_absorb l g _ T (ln21 :: (r22 :: xs)) pl hO hU (clo_cons (clo_cons hc0 kr22 (by decide)) kl21 (by decide)) sk 4896 32 32 r22 ln21 136 0 (nI 31) u22 k_sk (by omega) (by omega) (by omega) (by omega)) (cwV 3 hts (wg_app (wg_c kw_670 (wg_c kw_586 (wg_c kw_587 (wg_c kw_2 wg_n)))) kw_588) rfl rfl rfl (by decide +kernel) ⟨by decide, by decide⟩) (pp_V (en_ok g) (q0 := 0) hK hP hD hS hA hE [0, 1] rfl rfl rfl rfl) rfl rfl hl.1 rfl (lv_room (Nat.le_of_ble_eq_true rfl)) dDA_makeSignature_47 ⟨by omega, by omega⟩) (fun  u23 H locs hu24 hP hD hS => ?_)
  obtain ⟨u24, pl⟩ := u23
  obtain ⟨hq24, hO⟩ := hu24
  obtain ⟨k21, f22⟩ := u24
  have hP : va_P g.1 vcl ([(r22, .inr (3, [.ref ln21, .int (nI 136), .int (nI 31), .int (nI k21)])), (ln21, .inl (g.2.1 2, 25, .inr (.inl f22)))] ++ pl) _ := hP
  have hD : va_D _ ([(r22, .inr (3, [.ref ln21, .int (nI 136), .int (nI 31), .int (nI k21)])), (ln21, .inl (g.2.1 2, 25, .inr (.inl f22)))] ++ pl) := hD
  have hq24 : k21 < 136 := hq24
  refine W.widen (k := 0) (n := 0) (by omega) (by omega) ?_
  refine lv_aload_n hx hb dDA_makeSignature_50 rfl (lv_at hl 0 rfl) ?_
  refine ty_get (ci := 6) (C := "LatticeKeys$Dsa") (TT := T_DA) (N := 17) (kd := (15, 0)) hx hb hts (wg_ft i_DA) hown hK hO k_h0 (nxg (clo_cons (clo_cons hc0 kr22 (by decide)) kl21 (by decide)) k_h0 rfl) hP (fun _ h9 => h9) rfl 0 (by decide) (hts _ (wg_t kw_165)) (fun _ h9 => h9) (cd := (3, 10, 2)) rfl dDA_makeSignature_51 (fun v24 hv24 => ?_)
  obtain ⟨r24, rfl, kr24⟩ := (show ∃ r : Nat, v24 = .ref r ∧ T r = some (10, 2) from hv24)
  obtain rfl : r22 = r24 := hU _ _ _ (by decide) kr22 kr24
  refine lv_aload_n hx hb dDA_makeSignature_54 rfl (lv_at hl 3 rfl) ?_
  refine lv_iconst (v := nI 0) hx hb dDA_makeSignature_55 (by decide) ?_
  refine lv_bipush (v := nI 32) hx hb dDA_makeSignature_56 (by decide) ?_
  refine mp_v (cx := [(r22, .inr (3, [.ref ln21, .int (nI 136), .int (nI 31), .int (nI k21)])), (ln21, .inl (g.2.1 2, 25, .inr (.inl f22)))]) (wr := []) hP hD hS hA [0, 1] [] rfl rfl rfl (by decide) (va_runV (As := [.ref tp, .int (nI 0), .int (nI 32)]) (rest := []) F (t_SP_absorb l g _ T (ln21 :: (r22 :: xs)) pl hO hU (clo_cons (clo_cons hc0 kr22 (by decide)) kl21 (by decide)) tp n 0 32 r22 ln21 136 k21 (nI 31) f22 k_tp (by omega) (by omega) (by omega) (by omega)) (cwV 3 hts (wg_app (wg_c kw_670 (wg_c kw_586 (wg_c kw_587 (wg_c kw_2 wg_n)))) kw_588) rfl rfl rfl (by decide +kernel) ⟨by decide, by decide⟩) (pp_V (en_ok g) (q0 := 0) hK hP hD hS hA hE [0, 1] rfl rfl rfl rfl) rfl rfl hl.1 rfl (lv_room (Nat.le_of_ble_eq_true rfl)) dDA_makeSignature_58 ⟨by omega, by omega⟩) (fun  u25 H locs hu25 hP hD hS => ?_)
  obtain ⟨u26, pl⟩ := u25
  obtain ⟨hq25, hO⟩ := hu25
  obtain ⟨k22, f23⟩ := u26
  have hP : va_P g.1 vcl ([(r22, .inr (3, [.ref ln21, .int (nI 136), .int (nI 31), .int (nI k22)])), (ln21, .inl (g.2.1 2, 25, .inr (.inl f23)))] ++ pl) _ := hP
  have hD : va_D _ ([(r22, .inr (3, [.ref ln21, .int (nI 136), .int (nI 31), .int (nI k22)])), (ln21, .inl (g.2.1 2, 25, .inr (.inl f23)))] ++ pl) := hD
  have hq25 : k22 < 136 := hq25
  refine W.widen (k := 0) (n := 0) (by omega) (by omega) ?_
  refine lv_aload_n hx hb dDA_makeSignature_61 rfl (lv_at hl 0 rfl) ?_
  refine ty_get (ci := 6) (C := "LatticeKeys$Dsa") (TT := T_DA) (N := 17) (kd := (15, 0)) hx hb hts (wg_ft i_DA) hown hK hO k_h0 (nxg (clo_cons (clo_cons hc0 kr22 (by decide)) kl21 (by decide)) k_h0 rfl) hP (fun _ h9 => h9) rfl 0 (by decide) (hts _ (wg_t kw_165)) (fun _ h9 => h9) (cd := (3, 10, 2)) rfl dDA_makeSignature_62 (fun v25 hv25 => ?_)
  obtain ⟨r25, rfl, kr25⟩ := (show ∃ r : Nat, v25 = .ref r ∧ T r = some (10, 2) from hv25)
  obtain rfl : r22 = r25 := hU _ _ _ (by decide) kr22 kr25
  refine lv_aload_n hx hb dDA_makeSignature_65 rfl (lv_at hl 0 rfl) ?_
  refine ty_get (ci := 6) (C := "LatticeKeys$Dsa") (TT := T_DA) (N := 17) (kd := (15, 0)) hx hb hts (wg_ft i_DA) hown hK hO k_h0 (nxg (clo_cons (clo_cons hc0 kr22 (by decide)) kl21 (by decide)) k_h0 rfl) hP (fun _ h9 => h9) rfl 12 (by decide) (hts _ (wg_t kw_177)) (fun _ h9 => h9) (cd := (3, 1, 64)) rfl dDA_makeSignature_66 (fun v26 hv26 => ?_)
  obtain ⟨r26, rfl, kr26⟩ := (show ∃ r : Nat, v26 = .ref r ∧ T r = some (1, 64) from hv26)
  refine lv_iconst (v := nI 0) hx hb dDA_makeSignature_69 (by decide) ?_
  refine lv_bipush (v := nI 64) hx hb dDA_makeSignature_70 (by decide) ?_
  refine mp_v (cx := [(r22, .inr (3, [.ref ln21, .int (nI 136), .int (nI 31), .int (nI k22)])), (ln21, .inl (g.2.1 2, 25, .inr (.inl f23)))]) (wr := []) hP hD hS hA [0, 1] [] rfl rfl rfl (by decide) (va_runV (As := [.ref r26, .int (nI 0), .int (nI 64)]) (rest := []) F (t_SP_absorb l g _ T (ln21 :: (r22 :: xs)) pl hO hU (clo_cons (clo_cons hc0 kr22 (by decide)) kl21 (by decide)) r26 64 0 64 r22 ln21 136 k22 (nI 31) f23 kr26 (by omega) (by omega) (by omega) (by omega)) (cwV 3 hts (wg_app (wg_c kw_670 (wg_c kw_586 (wg_c kw_587 (wg_c kw_2 wg_n)))) kw_588) rfl rfl rfl (by decide +kernel) ⟨by decide, by decide⟩) (pp_V (en_ok g) (q0 := 0) hK hP hD hS hA hE [0, 1] rfl rfl rfl rfl) rfl rfl hl.1 rfl (lv_room (Nat.le_of_ble_eq_true rfl)) dDA_makeSignature_72 ⟨by omega, by omega⟩) (fun  u27 H locs hu26 hP hD hS => ?_)
  obtain ⟨u28, pl⟩ := u27
  obtain ⟨hq26, hO⟩ := hu26
  obtain ⟨k23, f24⟩ := u28
  have hP : va_P g.1 vcl ([(r22, .inr (3, [.ref ln21, .int (nI 136), .int (nI 31), .int (nI k23)])), (ln21, .inl (g.2.1 2, 25, .inr (.inl f24)))] ++ pl) _ := hP
  have hD : va_D _ ([(r22, .inr (3, [.ref ln21, .int (nI 136), .int (nI 31), .int (nI k23)])), (ln21, .inl (g.2.1 2, 25, .inr (.inl f24)))] ++ pl) := hD
  have hq26 : k23 < 136 := hq26
  refine W.widen (k := 0) (n := 0) (by omega) (by omega) ?_
  refine lv_aload_n hx hb dDA_makeSignature_75 rfl (lv_at hl 0 rfl) ?_
  refine ty_get (ci := 6) (C := "LatticeKeys$Dsa") (TT := T_DA) (N := 17) (kd := (15, 0)) hx hb hts (wg_ft i_DA) hown hK hO k_h0 (nxg (clo_cons (clo_cons hc0 kr22 (by decide)) kl21 (by decide)) k_h0 rfl) hP (fun _ h9 => h9) rfl 0 (by decide) (hts _ (wg_t kw_165)) (fun _ h9 => h9) (cd := (3, 10, 2)) rfl dDA_makeSignature_76 (fun v27 hv27 => ?_)
  obtain ⟨r27, rfl, kr27⟩ := (show ∃ r : Nat, v27 = .ref r ∧ T r = some (10, 2) from hv27)
  obtain rfl : r22 = r27 := hU _ _ _ (by decide) kr22 kr27
  refine mp_v (cx := [(r22, .inr (3, [.ref ln21, .int (nI 136), .int (nI 31), .int (nI k23)])), (ln21, .inl (g.2.1 2, 25, .inr (.inl f24)))]) (wr := []) hP hD hS hA [0, 1] [] rfl rfl rfl (by decide) (va_runV (As := []) (rest := []) F (t_SP_finish l g _ T (ln21 :: (r22 :: xs)) pl hO hU  r22 ln21 136 k23 (nI 31) f24 (by omega) (by omega)) (cwV 0 hts (wg_app (wg_c kw_672 (wg_c kw_611 (wg_c kw_612 (wg_c kw_2 wg_n)))) kw_613) rfl rfl rfl (by decide +kernel) ⟨by decide, by decide⟩) (pp_V (en_ok g) (q0 := 0) hK hP hD hS hA hE [0, 1] rfl rfl rfl rfl) rfl rfl hl.1 rfl (lv_room (Nat.le_of_ble_eq_true rfl)) dDA_makeSignature_79 ⟨by omega, by omega⟩) (fun  u29 H locs hu27 hP hD hS => ?_)
  obtain ⟨u30, pl⟩ := u29
  obtain ⟨hq27, hO⟩ := hu27
  have hP : va_P g.1 vcl ([(r22, .inr (3, [.ref ln21, .int (nI 136), .int (nI 31), .int (nI 136)])), (ln21, .inl (g.2.1 2, 25, .inr (.inl u30)))] ++ pl) _ := hP
  have hD : va_D _ ([(r22, .inr (3, [.ref ln21, .int (nI 136), .int (nI 31), .int (nI 136)])), (ln21, .inl (g.2.1 2, 25, .inr (.inl u30)))] ++ pl) := hD
  refine W.widen (k := 0) (n := 0) (by omega) (by omega) ?_
  refine lv_aload_n hx hb dDA_makeSignature_82 rfl (lv_at hl 0 rfl) ?_
  refine ty_get (ci := 6) (C := "LatticeKeys$Dsa") (TT := T_DA) (N := 17) (kd := (15, 0)) hx hb hts (wg_ft i_DA) hown hK hO k_h0 (nxg (clo_cons (clo_cons hc0 kr22 (by decide)) kl21 (by decide)) k_h0 rfl) hP (fun _ h9 => h9) rfl 0 (by decide) (hts _ (wg_t kw_165)) (fun _ h9 => h9) (cd := (3, 10, 2)) rfl dDA_makeSignature_83 (fun v28 hv28 => ?_)
  obtain ⟨r28, rfl, kr28⟩ := (show ∃ r : Nat, v28 = .ref r ∧ T r = some (10, 2) from hv28)
  obtain rfl : r22 = r28 := hU _ _ _ (by decide) kr22 kr28
  refine lv_aload_n hx hb dDA_makeSignature_86 rfl (lv_at hl 0 rfl) ?_
  refine ty_get (ci := 6) (C := "LatticeKeys$Dsa") (TT := T_DA) (N := 17) (kd := (15, 0)) hx hb hts (wg_ft i_DA) hown hK hO k_h0 (nxg (clo_cons (clo_cons hc0 kr22 (by decide)) kl21 (by decide)) k_h0 rfl) hP (fun _ h9 => h9) rfl 11 (by decide) (hts _ (wg_t kw_176)) (fun _ h9 => h9) (cd := (3, 1, 128)) rfl dDA_makeSignature_87 (fun v29 hv29 => ?_)
  obtain ⟨r29, rfl, kr29⟩ := (show ∃ r : Nat, v29 = .ref r ∧ T r = some (1, 128) from hv29)
  refine lv_iconst (v := nI 0) hx hb dDA_makeSignature_90 (by decide) ?_
  refine lv_bipush (v := nI 64) hx hb dDA_makeSignature_91 (by decide) ?_
  refine mp_v (cx := [(r22, .inr (3, [.ref ln21, .int (nI 136), .int (nI 31), .int (nI 136)])), (ln21, .inl (g.2.1 2, 25, .inr (.inl u30)))]) (wr := []) hP hD hS hA [0, 1] [] rfl rfl rfl (by decide) (va_runV (As := [.ref r29, .int (nI 0), .int (nI 64)]) (rest := []) F (t_SP_squeeze l g _ T (ln21 :: (r22 :: xs)) pl hO hU (clo_cons (clo_cons hc0 kr22 (by decide)) kl21 (by decide)) r29 128 0 64 r22 ln21 136 136 (nI 31) u30 kr29 (by omega) (by omega) (by omega) (by omega)) (cwV 3 hts (wg_app (wg_c kw_673 (wg_c kw_615 (wg_c kw_616 (wg_c kw_2 wg_n)))) kw_617) rfl rfl rfl (by decide +kernel) ⟨by decide, by decide⟩) (pp_V (en_ok g) (q0 := 0) hK hP hD hS hA hE [0, 1] rfl rfl rfl rfl) rfl rfl hl.1 rfl (lv_room (Nat.le_of_ble_eq_true rfl)) dDA_makeSignature_93 ⟨by omega, by omega⟩) (fun  u31 H locs hu28 hP hD hS => ?_)
  obtain ⟨u32, pl⟩ := u31
  obtain ⟨hq28, hO⟩ := hu28
  obtain ⟨k24, f25⟩ := u32
  have hP : va_P g.1 vcl ([(r22, .inr (3, [.ref ln21, .int (nI 136), .int (nI 31), .int (nI k24)])), (ln21, .inl (g.2.1 2, 25, .inr (.inl f25)))] ++ pl) _ := hP
  have hD : va_D _ ([(r22, .inr (3, [.ref ln21, .int (nI 136), .int (nI 31), .int (nI k24)])), (ln21, .inl (g.2.1 2, 25, .inr (.inl f25)))] ++ pl) := hD
  have hq28 : k24 ≤ 136 := hq28
  refine W.widen (k := 0) (n := 0) (by omega) (by omega) ?_
  refine lv_iconst (v := nI 1) hx hb dDA_makeSignature_96 (by decide) ?_
  refine lv_istore (lv' := [(7, .int (nI 1)), (0, .ref h0), (1, .ref st), (2, .ref sk), (3, .ref tp), (4, .int (nI len)), (5, .int cl), (6, .ref to)]) hx hb dDA_makeSignature_97 hl (by decide) rfl (fun ls hl => ?_)
  have hO := close1 (e := .inl (g.2.1 2, 25, .inr (.inl f25))) hO kl21 ⟨_, rfl⟩
  have hO := close1 (e := .inr (3, [.ref ln21, .int (nI 136), .int (nI 31), .int (nI k24)])) hO kr22 ⟨_, _, _, _, rfl, kl21, by omega, by omega, by omega⟩
  have hO : okx g T xs ((r22, .inr (3, [.ref ln21, .int (nI 136), .int (nI 31), .int (nI k24)])) :: (ln21, .inl (g.2.1 2, 25, .inr (.inl f25))) :: pl) := hO
  have hP : va_P g.1 vcl ([] ++ ((r22, .inr (3, [.ref ln21, .int (nI 136), .int (nI 31), .int (nI k24)])) :: (ln21, .inl (g.2.1 2, 25, .inr (.inl f25))) :: pl)) _ := hP
  have hD : va_D _ ([] ++ ((r22, .inr (3, [.ref ln21, .int (nI 136), .int (nI 31), .int (nI k24)])) :: (ln21, .inl (g.2.1 2, 25, .inr (.inl f25))) :: pl)) := hD
  generalize ((r22, .inr (3, [.ref ln21, .int (nI 136), .int (nI 31), .int (nI k24)])) :: (ln21, .inl (g.2.1 2, 25, .inr (.inl f25))) :: pl) = pl at hO hP hD
  have lp21 : ∀ (n21 : Nat) (i21 : Nat) (pl : va_W) (ls : Array Slot) (H : Heap) (locs : List Loc), n21 + i21 = 201 → (1 ≤ i21) → lv_has ls 8 [(7, .int (nI i21)), (0, .ref h0), (1, .ref st), (6, .ref to)] → okx g T xs pl → va_P g.1 vcl ([] ++ pl) H → va_D A ([] ++ pl) → va_S A s.heap H locs → W p l e ({ frames := 6, cells := 0, slots := 0, locals := 176 } : Room) s m args below meth c H locs 0 0 (MQ below (va_Qi (fun (r : Int32) (u : va_W) => (True) ∧ okx g T xs u) (po g.1 vcl A (fun (u : va_W) => [] ++ u)) A) args s 0 0 A) (F0 m 99 ls []) := by
    intro n21
    induction n21 with
    | zero =>
      intro i21 pl ls H locs hm21 hi21 hl hO hP hD hS
      refine lv_iload hx hb dDA_makeSignature_99 (lv_at hl 0 rfl) ?_
      refine lv_sipush (v := nI 200) hx hb dDA_makeSignature_101 (by decide) ?_
      refine mi_gt (tgt := 161) hx hb dDA_makeSignature_104 (by decide) (by omega) (by omega) (fun h21 => ?_) (fun h21 => absurd h21 (by omega))
      refine lv_iconst (v := nI 0) hx hb dDA_makeSignature_161 (by decide) ?_
      exact mp_iret hx hb hr hlk hP hD hS pl ⟨trivial, hO⟩ [] rfl rfl rfl (by omega) (by omega) dDA_makeSignature_162
    | succ n21 ih21 =>
      intro i21 pl ls H locs hm21 hi21 hl hO hP hD hS
      refine lv_iload hx hb dDA_makeSignature_99 (lv_at hl 0 rfl) ?_
      refine lv_sipush (v := nI 200) hx hb dDA_makeSignature_101 (by decide) ?_
      refine mi_gt (tgt := 161) hx hb dDA_makeSignature_104 (by decide) (by omega) (by omega) (fun h22 => absurd h22 (by omega)) (fun h22 => ?_)
      refine lv_aload_n hx hb dDA_makeSignature_107 rfl (lv_at hl 1 rfl) ?_
      refine lv_aload_n hx hb dDA_makeSignature_108 rfl (lv_at hl 2 rfl) ?_
      refine lv_aload_n hx hb dDA_makeSignature_109 rfl (lv_at hl 2 rfl) ?_
      refine ty_get (ci := 2) (C := "LatticeKeys$DsaSet") (TT := T_DS) (N := 17) (kd := (45, 0)) hx hb hts (wg_ft i_DS) hown hK hO k_st (nxg hc0 k_st rfl) hP (fun _ h9 => h9) rfl 1 (by decide) (hts _ (wg_t kw_305)) (fun _ h9 => h9) (cd := (1, 0, 7)) rfl dDA_makeSignature_110 (fun v30 hv30 => ?_)
      obtain rfl := (show v30 = .int (nI 7) from hv30)
      refine lv_iload hx hb dDA_makeSignature_113 (lv_at hl 0 rfl) ?_
      refine lv_iconst (v := nI 1) hx hb dDA_makeSignature_115 (by decide) ?_
      refine mi_isub hx hb dDA_makeSignature_116 (by omega) ?_
      refine mi_imul hx hb dDA_makeSignature_117 ?_
      refine mp_v (cx := []) (wr := []) hP hD hS hA [] [] rfl rfl rfl (by decide) (va_runV (As := [.ref st, .int (nI (7 * (i21 - 1)))]) (rest := []) F (t_DA_commit_2 l g _ T xs pl hO hU hc0 hc3 hc4 h0 st (nI (7 * (i21 - 1))) k_h0 k_st) (cwV 2 hts (wg_app (wg_c kw_1192 (wg_c kw_1194 (wg_c ks_37 (wg_c kw_5 wg_n)))) kw_1195) rfl rfl rfl (by decide +kernel) ⟨by decide, by decide⟩) (pp_VT (en_ok g) (ci := 6) (kd := (15, 0)) hK hO k_h0 (nxg hc0 k_h0 rfl) (fun _ h9 => ko1 h9) hP hD hS hA hE [] rfl rfl rfl) rfl rfl hl.1 rfl (lv_room (Nat.le_of_ble_eq_true rfl)) dDA_makeSignature_118 ⟨by omega, by omega⟩) (fun  pl H locs hu29 hP hD hS => ?_)
      obtain ⟨hq29, hO⟩ := hu29
      have hP : va_P g.1 vcl ([] ++ pl) _ := hP
      have hD : va_D _ ([] ++ pl) := hD
      refine W.widen (k := 0) (n := 0) (by omega) (by omega) ?_
      refine lv_aload_n hx hb dDA_makeSignature_121 rfl (lv_at hl 1 rfl) ?_
      refine lv_aload_n hx hb dDA_makeSignature_122 rfl (lv_at hl 2 rfl) ?_
      refine mp_i (cx := []) (wr := []) hP hD hS hA [] [] rfl rfl rfl (by decide) (va_runV (As := [.ref st]) (rest := []) F (t_DA_answerIsShort_2 l g _ T xs pl hO hU hc0 h0 st k_h0 k_st) (cwV 1 hts (wg_app (wg_c kw_1220 (wg_c kw_1222 (wg_c ks_40 (wg_c kw_5 wg_n)))) kw_1223) rfl rfl rfl (by decide +kernel) ⟨by decide, by decide⟩) (pp_VT (en_ok g) (ci := 6) (kd := (15, 0)) hK hO k_h0 (nxg hc0 k_h0 rfl) (fun _ h9 => ko1 h9) hP hD hS hA hE [] rfl rfl rfl) rfl rfl hl.1 rfl (lv_room (Nat.le_of_ble_eq_true rfl)) dDA_makeSignature_123 ⟨by omega, by omega⟩) (fun r30 pl H locs hu30 hP hD hS => ?_)
      obtain ⟨hq30, hO⟩ := hu30
      have hP : va_P g.1 vcl ([] ++ pl) _ := hP
      have hD : va_D _ ([] ++ pl) := hD
      refine W.widen (k := 0) (n := 0) (by omega) (by omega) ?_
      refine lv_if_eq (tgt := 155) hx hb dDA_makeSignature_126 (by decide) (fun h23 => ?_) (fun h23 => ?_)
      · refine mi_iinc (k := 0) (x := i21) (d := 1) (y := i21 + 1) (lv' := [(7, .int (nI (i21 + 1))), (0, .ref h0), (1, .ref st), (6, .ref to)]) hx hb dDA_makeSignature_155 hl rfl (by decide) rfl (by decide) rfl (fun ls hl => ?_)
        refine lv_goto (tgt := 99) hx hb dDA_makeSignature_158 (by decide) ?_
        exact ih21 (i21 + 1) pl ls H locs (by omega) (by omega) (lv_sub hl [0, 1, 2, 3] rfl) hO hP hD hS
      · refine lv_aload_n hx hb dDA_makeSignature_129 rfl (lv_at hl 1 rfl) ?_
        refine lv_aload_n hx hb dDA_makeSignature_130 rfl (lv_at hl 2 rfl) ?_
        refine mp_i (cx := []) (wr := []) hP hD hS hA [] [] rfl rfl rfl (by decide) (va_runV (As := [.ref st]) (rest := []) F (t_DA_restIsShort_2 l g _ T xs pl hO hU hc0 h0 st k_h0 k_st) (cwV 1 hts (wg_app (wg_c kw_1232 (wg_c kw_1234 (wg_c ks_42 (wg_c kw_5 wg_n)))) kw_1235) rfl rfl rfl (by decide +kernel) ⟨by decide, by decide⟩) (pp_VT (en_ok g) (ci := 6) (kd := (15, 0)) hK hO k_h0 (nxg hc0 k_h0 rfl) (fun _ h9 => ko1 h9) hP hD hS hA hE [] rfl rfl rfl) rfl rfl hl.1 rfl (lv_room (Nat.le_of_ble_eq_true rfl)) dDA_makeSignature_131 ⟨by omega, by omega⟩) (fun r31 pl H locs hu31 hP hD hS => ?_)
        obtain ⟨hq31, hO⟩ := hu31
        have hP : va_P g.1 vcl ([] ++ pl) _ := hP
        have hD : va_D _ ([] ++ pl) := hD
        refine W.widen (k := 0) (n := 0) (by omega) (by omega) ?_
        refine lv_if_eq (tgt := 155) hx hb dDA_makeSignature_134 (by decide) (fun h24 => ?_) (fun h24 => ?_)
        · refine mi_iinc (k := 0) (x := i21) (d := 1) (y := i21 + 1) (lv' := [(7, .int (nI (i21 + 1))), (0, .ref h0), (1, .ref st), (6, .ref to)]) hx hb dDA_makeSignature_155 hl rfl (by decide) rfl (by decide) rfl (fun ls hl => ?_)
          refine lv_goto (tgt := 99) hx hb dDA_makeSignature_158 (by decide) ?_
          exact ih21 (i21 + 1) pl ls H locs (by omega) (by omega) (lv_sub hl [0, 1, 2, 3] rfl) hO hP hD hS
        · refine lv_aload_n hx hb dDA_makeSignature_137 rfl (lv_at hl 1 rfl) ?_
          refine lv_aload_n hx hb dDA_makeSignature_138 rfl (lv_at hl 2 rfl) ?_
          refine mp_i (cx := []) (wr := []) hP hD hS hA [] [] rfl rfl rfl (by decide) (va_runV (As := [.ref st]) (rest := []) F (t_DA_makeHints_2 l g _ T xs pl hO hU hc0 hc20 h0 st k_h0 k_st) (cwV 1 hts (wg_app (wg_c kw_1241 (wg_c kw_1243 (wg_c ks_43 (wg_c kw_5 wg_n)))) kw_1244) rfl rfl rfl (by decide +kernel) ⟨by decide, by decide⟩) (pp_VT (en_ok g) (ci := 6) (kd := (15, 0)) hK hO k_h0 (nxg hc0 k_h0 rfl) (fun _ h9 => ko1 h9) hP hD hS hA hE [] rfl rfl rfl) rfl rfl hl.1 rfl (lv_room (Nat.le_of_ble_eq_true rfl)) dDA_makeSignature_139 ⟨by omega, by omega⟩) (fun r32 pl H locs hu32 hP hD hS => ?_)
          obtain ⟨hq32, hO⟩ := hu32
          have hP : va_P g.1 vcl ([] ++ pl) _ := hP
          have hD : va_D _ ([] ++ pl) := hD
          refine W.widen (k := 0) (n := 0) (by omega) (by omega) ?_
          refine lv_if_eq (tgt := 155) hx hb dDA_makeSignature_142 (by decide) (fun h25 => ?_) (fun h25 => ?_)
          · refine mi_iinc (k := 0) (x := i21) (d := 1) (y := i21 + 1) (lv' := [(7, .int (nI (i21 + 1))), (0, .ref h0), (1, .ref st), (6, .ref to)]) hx hb dDA_makeSignature_155 hl rfl (by decide) rfl (by decide) rfl (fun ls hl => ?_)
            refine lv_goto (tgt := 99) hx hb dDA_makeSignature_158 (by decide) ?_
            exact ih21 (i21 + 1) pl ls H locs (by omega) (by omega) (lv_sub hl [0, 1, 2, 3] rfl) hO hP hD hS
          · refine lv_aload_n hx hb dDA_makeSignature_145 rfl (lv_at hl 1 rfl) ?_
            refine lv_aload_n hx hb dDA_makeSignature_146 rfl (lv_at hl 2 rfl) ?_
            refine lv_aload hx hb dDA_makeSignature_147 (lv_at hl 3 rfl) ?_
            refine mp_v (cx := []) (wr := []) hP hD hS hA [] [] rfl rfl rfl (by decide) (va_runV (As := [.ref st, .ref to]) (rest := []) F (t_DA_writeSignature_2 l g _ T xs pl hO hU hc0 hc20 h0 st to k_h0 k_st k_to) (cwV 2 hts (wg_app (wg_c kw_1248 (wg_c kw_1250 (wg_c ks_44 (wg_c kw_5 wg_n)))) kw_1251) rfl rfl rfl (by decide +kernel) ⟨by decide, by decide⟩) (pp_VT (en_ok g) (ci := 6) (kd := (15, 0)) hK hO k_h0 (nxg hc0 k_h0 rfl) (fun _ h9 => ko1 h9) hP hD hS hA hE [] rfl rfl rfl) rfl rfl hl.1 rfl (lv_room (Nat.le_of_ble_eq_true rfl)) dDA_makeSignature_149 ⟨by omega, by omega⟩) (fun  pl H locs hu33 hP hD hS => ?_)
            obtain ⟨hq33, hO⟩ := hu33
            have hP : va_P g.1 vcl ([] ++ pl) _ := hP
            have hD : va_D _ ([] ++ pl) := hD
            refine W.widen (k := 0) (n := 0) (by omega) (by omega) ?_
            refine lv_iload hx hb dDA_makeSignature_152 (lv_at hl 0 rfl) ?_
            exact mp_iret hx hb hr hlk hP hD hS pl ⟨trivial, hO⟩ [] rfl rfl rfl (by omega) (by omega) dDA_makeSignature_154
  exact lp21 (201 - 1) 1 pl ls _ _ (by omega) (by omega) (lv_sub hl [0, 1, 2, 7] rfl) hO hP hD hS
