abbrev c_DA_answerIsShort : ByteArray := prog_3_method_15_code
abbrev y_DA_answerIsShort : MethodName := ⟨"LatticeKeys$Dsa", "answerIsShort", "(LLatticeKeys$DsaSet;)Z"⟩
abbrev w_DA_answerIsShort : List Cond := Cond.code y_DA_answerIsShort c_DA_answerIsShort 3 (some .boolean) :: WG
theorem dDA_answerIsShort_0 : decode c_DA_answerIsShort 0 = .ok (.iconst 0, 1) := by decide +kernel
theorem dDA_answerIsShort_1 : decode c_DA_answerIsShort 1 = .ok (.istore_n 2, 1) := by decide +kernel
theorem dDA_answerIsShort_2 : decode c_DA_answerIsShort 2 = .ok (.iload_n 2, 1) := by decide +kernel
theorem dDA_answerIsShort_3 : decode c_DA_answerIsShort 3 = .ok (.aload_n 1, 1) := by decide +kernel
theorem dDA_answerIsShort_4 : decode c_DA_answerIsShort 4 = .ok (.getfield 96, 3) := by decide +kernel
theorem dDA_answerIsShort_7 : decode c_DA_answerIsShort 7 = .ok (.if_icmp .ge 63, 3) := by decide +kernel
theorem dDA_answerIsShort_10 : decode c_DA_answerIsShort 10 = .ok (.aload_n 0, 1) := by decide +kernel
theorem dDA_answerIsShort_11 : decode c_DA_answerIsShort 11 = .ok (.aload_n 0, 1) := by decide +kernel
theorem dDA_answerIsShort_12 : decode c_DA_answerIsShort 12 = .ok (.getfield 38, 3) := by decide +kernel
theorem dDA_answerIsShort_15 : decode c_DA_answerIsShort 15 = .ok (.iload_n 2, 1) := by decide +kernel
theorem dDA_answerIsShort_16 : decode c_DA_answerIsShort 16 = .ok (.aaload, 1) := by decide +kernel
theorem dDA_answerIsShort_17 : decode c_DA_answerIsShort 17 = .ok (.invokevirtual 230, 3) := by decide +kernel
theorem dDA_answerIsShort_20 : decode c_DA_answerIsShort 20 = .ok (.aload_n 0, 1) := by decide +kernel
theorem dDA_answerIsShort_21 : decode c_DA_answerIsShort 21 = .ok (.getfield 22, 3) := by decide +kernel
theorem dDA_answerIsShort_24 : decode c_DA_answerIsShort 24 = .ok (.aload_n 0, 1) := by decide +kernel
theorem dDA_answerIsShort_25 : decode c_DA_answerIsShort 25 = .ok (.getfield 47, 3) := by decide +kernel
theorem dDA_answerIsShort_28 : decode c_DA_answerIsShort 28 = .ok (.iload_n 2, 1) := by decide +kernel
theorem dDA_answerIsShort_29 : decode c_DA_answerIsShort 29 = .ok (.aaload, 1) := by decide +kernel
theorem dDA_answerIsShort_30 : decode c_DA_answerIsShort 30 = .ok (.aload_n 0, 1) := by decide +kernel
theorem dDA_answerIsShort_31 : decode c_DA_answerIsShort 31 = .ok (.getfield 57, 3) := by decide +kernel
theorem dDA_answerIsShort_34 : decode c_DA_answerIsShort 34 = .ok (.invokevirtual 133, 3) := by decide +kernel
theorem dDA_answerIsShort_37 : decode c_DA_answerIsShort 37 = .ok (.aload_n 0, 1) := by decide +kernel
theorem dDA_answerIsShort_38 : decode c_DA_answerIsShort 38 = .ok (.getfield 22, 3) := by decide +kernel
theorem dDA_answerIsShort_41 : decode c_DA_answerIsShort 41 = .ok (.aload_n 0, 1) := by decide +kernel
theorem dDA_answerIsShort_42 : decode c_DA_answerIsShort 42 = .ok (.getfield 47, 3) := by decide +kernel
theorem dDA_answerIsShort_45 : decode c_DA_answerIsShort 45 = .ok (.iload_n 2, 1) := by decide +kernel
theorem dDA_answerIsShort_46 : decode c_DA_answerIsShort 46 = .ok (.aaload, 1) := by decide +kernel
theorem dDA_answerIsShort_47 : decode c_DA_answerIsShort 47 = .ok (.aload_n 1, 1) := by decide +kernel
theorem dDA_answerIsShort_48 : decode c_DA_answerIsShort 48 = .ok (.getfield 202, 3) := by decide +kernel
theorem dDA_answerIsShort_51 : decode c_DA_answerIsShort 51 = .ok (.aload_n 1, 1) := by decide +kernel
theorem dDA_answerIsShort_52 : decode c_DA_answerIsShort 52 = .ok (.getfield 233, 3) := by decide +kernel
theorem dDA_answerIsShort_55 : decode c_DA_answerIsShort 55 = .ok (.isub, 1) := by decide +kernel
theorem dDA_answerIsShort_56 : decode c_DA_answerIsShort 56 = .ok (.invokevirtual 236, 3) := by decide +kernel
theorem dDA_answerIsShort_59 : decode c_DA_answerIsShort 59 = .ok (.ifCond .ne 5, 3) := by decide +kernel
theorem dDA_answerIsShort_62 : decode c_DA_answerIsShort 62 = .ok (.iconst 0, 1) := by decide +kernel
theorem dDA_answerIsShort_63 : decode c_DA_answerIsShort 63 = .ok (.ireturn, 1) := by decide +kernel
theorem dDA_answerIsShort_64 : decode c_DA_answerIsShort 64 = .ok (.iinc 2 1, 3) := by decide +kernel
theorem dDA_answerIsShort_67 : decode c_DA_answerIsShort 67 = .ok (.goto (-65), 3) := by decide +kernel
theorem dDA_answerIsShort_70 : decode c_DA_answerIsShort 70 = .ok (.iconst 1, 1) := by decide +kernel
theorem dDA_answerIsShort_71 : decode c_DA_answerIsShort 71 = .ok (.ireturn, 1) := by decide +kernel
abbrev c_DA_restIsShort : ByteArray := prog_3_method_16_code
abbrev y_DA_restIsShort : MethodName := ⟨"LatticeKeys$Dsa", "restIsShort", "(LLatticeKeys$DsaSet;)Z"⟩
abbrev w_DA_restIsShort : List Cond := Cond.code y_DA_restIsShort c_DA_restIsShort 6 (some .boolean) :: WG
theorem dDA_restIsShort_0 : decode c_DA_restIsShort 0 = .ok (.aload_n 1, 1) := by decide +kernel
theorem dDA_restIsShort_1 : decode c_DA_restIsShort 1 = .ok (.getfield 240, 3) := by decide +kernel
theorem dDA_restIsShort_4 : decode c_DA_restIsShort 4 = .ok (.aload_n 1, 1) := by decide +kernel
theorem dDA_restIsShort_5 : decode c_DA_restIsShort 5 = .ok (.getfield 233, 3) := by decide +kernel
theorem dDA_restIsShort_8 : decode c_DA_restIsShort 8 = .ok (.isub, 1) := by decide +kernel
theorem dDA_restIsShort_9 : decode c_DA_restIsShort 9 = .ok (.istore_n 2, 1) := by decide +kernel
theorem dDA_restIsShort_10 : decode c_DA_restIsShort 10 = .ok (.iconst 0, 1) := by decide +kernel
theorem dDA_restIsShort_11 : decode c_DA_restIsShort 11 = .ok (.istore_n 3, 1) := by decide +kernel
theorem dDA_restIsShort_12 : decode c_DA_restIsShort 12 = .ok (.iload_n 3, 1) := by decide +kernel
theorem dDA_restIsShort_13 : decode c_DA_restIsShort 13 = .ok (.aload_n 1, 1) := by decide +kernel
theorem dDA_restIsShort_14 : decode c_DA_restIsShort 14 = .ok (.getfield 87, 3) := by decide +kernel
theorem dDA_restIsShort_17 : decode c_DA_restIsShort 17 = .ok (.if_icmp .ge 83, 3) := by decide +kernel
theorem dDA_restIsShort_20 : decode c_DA_restIsShort 20 = .ok (.aload_n 0, 1) := by decide +kernel
theorem dDA_restIsShort_21 : decode c_DA_restIsShort 21 = .ok (.aload_n 0, 1) := by decide +kernel
theorem dDA_restIsShort_22 : decode c_DA_restIsShort 22 = .ok (.getfield 41, 3) := by decide +kernel
theorem dDA_restIsShort_25 : decode c_DA_restIsShort 25 = .ok (.iload_n 3, 1) := by decide +kernel
theorem dDA_restIsShort_26 : decode c_DA_restIsShort 26 = .ok (.aaload, 1) := by decide +kernel
theorem dDA_restIsShort_27 : decode c_DA_restIsShort 27 = .ok (.invokevirtual 230, 3) := by decide +kernel
theorem dDA_restIsShort_30 : decode c_DA_restIsShort 30 = .ok (.aload_n 0, 1) := by decide +kernel
theorem dDA_restIsShort_31 : decode c_DA_restIsShort 31 = .ok (.getfield 22, 3) := by decide +kernel
theorem dDA_restIsShort_34 : decode c_DA_restIsShort 34 = .ok (.aload_n 0, 1) := by decide +kernel
theorem dDA_restIsShort_35 : decode c_DA_restIsShort 35 = .ok (.getfield 50, 3) := by decide +kernel
theorem dDA_restIsShort_38 : decode c_DA_restIsShort 38 = .ok (.iload_n 3, 1) := by decide +kernel
theorem dDA_restIsShort_39 : decode c_DA_restIsShort 39 = .ok (.aaload, 1) := by decide +kernel
theorem dDA_restIsShort_40 : decode c_DA_restIsShort 40 = .ok (.aload_n 0, 1) := by decide +kernel
theorem dDA_restIsShort_41 : decode c_DA_restIsShort 41 = .ok (.getfield 57, 3) := by decide +kernel
theorem dDA_restIsShort_44 : decode c_DA_restIsShort 44 = .ok (.invokevirtual 243, 3) := by decide +kernel
theorem dDA_restIsShort_47 : decode c_DA_restIsShort 47 = .ok (.iconst 0, 1) := by decide +kernel
theorem dDA_restIsShort_48 : decode c_DA_restIsShort 48 = .ok (.istore 4, 2) := by decide +kernel
theorem dDA_restIsShort_50 : decode c_DA_restIsShort 50 = .ok (.iload 4, 2) := by decide +kernel
theorem dDA_restIsShort_52 : decode c_DA_restIsShort 52 = .ok (.sipush 256, 3) := by decide +kernel
theorem dDA_restIsShort_55 : decode c_DA_restIsShort 55 = .ok (.if_icmp .ge 39, 3) := by decide +kernel
theorem dDA_restIsShort_58 : decode c_DA_restIsShort 58 = .ok (.aload_n 1, 1) := by decide +kernel
theorem dDA_restIsShort_59 : decode c_DA_restIsShort 59 = .ok (.aload_n 0, 1) := by decide +kernel
theorem dDA_restIsShort_60 : decode c_DA_restIsShort 60 = .ok (.getfield 50, 3) := by decide +kernel
theorem dDA_restIsShort_63 : decode c_DA_restIsShort 63 = .ok (.iload_n 3, 1) := by decide +kernel
theorem dDA_restIsShort_64 : decode c_DA_restIsShort 64 = .ok (.aaload, 1) := by decide +kernel
theorem dDA_restIsShort_65 : decode c_DA_restIsShort 65 = .ok (.iload 4, 2) := by decide +kernel
theorem dDA_restIsShort_67 : decode c_DA_restIsShort 67 = .ok (.iaload, 1) := by decide +kernel
theorem dDA_restIsShort_68 : decode c_DA_restIsShort 68 = .ok (.invokevirtual 246, 3) := by decide +kernel
theorem dDA_restIsShort_71 : decode c_DA_restIsShort 71 = .ok (.istore 5, 2) := by decide +kernel
theorem dDA_restIsShort_73 : decode c_DA_restIsShort 73 = .ok (.iload 5, 2) := by decide +kernel
theorem dDA_restIsShort_75 : decode c_DA_restIsShort 75 = .ok (.iload_n 2, 1) := by decide +kernel
theorem dDA_restIsShort_76 : decode c_DA_restIsShort 76 = .ok (.if_icmp .ge 10, 3) := by decide +kernel
theorem dDA_restIsShort_79 : decode c_DA_restIsShort 79 = .ok (.iload 5, 2) := by decide +kernel
theorem dDA_restIsShort_81 : decode c_DA_restIsShort 81 = .ok (.iload_n 2, 1) := by decide +kernel
theorem dDA_restIsShort_82 : decode c_DA_restIsShort 82 = .ok (.ineg, 1) := by decide +kernel
theorem dDA_restIsShort_83 : decode c_DA_restIsShort 83 = .ok (.if_icmp .gt 5, 3) := by decide +kernel
theorem dDA_restIsShort_86 : decode c_DA_restIsShort 86 = .ok (.iconst 0, 1) := by decide +kernel
theorem dDA_restIsShort_87 : decode c_DA_restIsShort 87 = .ok (.ireturn, 1) := by decide +kernel
theorem dDA_restIsShort_88 : decode c_DA_restIsShort 88 = .ok (.iinc 4 1, 3) := by decide +kernel
theorem dDA_restIsShort_91 : decode c_DA_restIsShort 91 = .ok (.goto (-41), 3) := by decide +kernel
theorem dDA_restIsShort_94 : decode c_DA_restIsShort 94 = .ok (.iinc 3 1, 3) := by decide +kernel
theorem dDA_restIsShort_97 : decode c_DA_restIsShort 97 = .ok (.goto (-85), 3) := by decide +kernel
theorem dDA_restIsShort_100 : decode c_DA_restIsShort 100 = .ok (.iconst 1, 1) := by decide +kernel
theorem dDA_restIsShort_101 : decode c_DA_restIsShort 101 = .ok (.ireturn, 1) := by decide +kernel
abbrev c_DA_makeHints : ByteArray := prog_3_method_17_code
abbrev y_DA_makeHints : MethodName := ⟨"LatticeKeys$Dsa", "makeHints", "(LLatticeKeys$DsaSet;)Z"⟩
abbrev w_DA_makeHints : List Cond := Cond.code y_DA_makeHints c_DA_makeHints 5 (some .boolean) :: WG
theorem dDA_makeHints_0 : decode c_DA_makeHints 0 = .ok (.aload_n 0, 1) := by decide +kernel
theorem dDA_makeHints_1 : decode c_DA_makeHints 1 = .ok (.getfield 73, 3) := by decide +kernel
theorem dDA_makeHints_4 : decode c_DA_makeHints 4 = .ok (.iconst 0, 1) := by decide +kernel
theorem dDA_makeHints_5 : decode c_DA_makeHints 5 = .ok (.invokestatic 249, 3) := by decide +kernel
theorem dDA_makeHints_8 : decode c_DA_makeHints 8 = .ok (.iconst 0, 1) := by decide +kernel
theorem dDA_makeHints_9 : decode c_DA_makeHints 9 = .ok (.istore_n 2, 1) := by decide +kernel
theorem dDA_makeHints_10 : decode c_DA_makeHints 10 = .ok (.iconst 0, 1) := by decide +kernel
theorem dDA_makeHints_11 : decode c_DA_makeHints 11 = .ok (.istore_n 3, 1) := by decide +kernel
theorem dDA_makeHints_12 : decode c_DA_makeHints 12 = .ok (.iload_n 3, 1) := by decide +kernel
theorem dDA_makeHints_13 : decode c_DA_makeHints 13 = .ok (.aload_n 1, 1) := by decide +kernel
theorem dDA_makeHints_14 : decode c_DA_makeHints 14 = .ok (.getfield 87, 3) := by decide +kernel
theorem dDA_makeHints_17 : decode c_DA_makeHints 17 = .ok (.if_icmp .ge 135, 3) := by decide +kernel
theorem dDA_makeHints_20 : decode c_DA_makeHints 20 = .ok (.aload_n 0, 1) := by decide +kernel
theorem dDA_makeHints_21 : decode c_DA_makeHints 21 = .ok (.aload_n 0, 1) := by decide +kernel
theorem dDA_makeHints_22 : decode c_DA_makeHints 22 = .ok (.getfield 44, 3) := by decide +kernel
theorem dDA_makeHints_25 : decode c_DA_makeHints 25 = .ok (.iload_n 3, 1) := by decide +kernel
theorem dDA_makeHints_26 : decode c_DA_makeHints 26 = .ok (.aaload, 1) := by decide +kernel
theorem dDA_makeHints_27 : decode c_DA_makeHints 27 = .ok (.invokevirtual 230, 3) := by decide +kernel
theorem dDA_makeHints_30 : decode c_DA_makeHints 30 = .ok (.aload_n 0, 1) := by decide +kernel
theorem dDA_makeHints_31 : decode c_DA_makeHints 31 = .ok (.getfield 22, 3) := by decide +kernel
theorem dDA_makeHints_34 : decode c_DA_makeHints 34 = .ok (.aload_n 0, 1) := by decide +kernel
theorem dDA_makeHints_35 : decode c_DA_makeHints 35 = .ok (.getfield 57, 3) := by decide +kernel
theorem dDA_makeHints_38 : decode c_DA_makeHints 38 = .ok (.aload_n 1, 1) := by decide +kernel
theorem dDA_makeHints_39 : decode c_DA_makeHints 39 = .ok (.getfield 240, 3) := by decide +kernel
theorem dDA_makeHints_42 : decode c_DA_makeHints 42 = .ok (.invokevirtual 236, 3) := by decide +kernel
theorem dDA_makeHints_45 : decode c_DA_makeHints 45 = .ok (.ifCond .ne 5, 3) := by decide +kernel
theorem dDA_makeHints_48 : decode c_DA_makeHints 48 = .ok (.iconst 0, 1) := by decide +kernel
theorem dDA_makeHints_49 : decode c_DA_makeHints 49 = .ok (.ireturn, 1) := by decide +kernel
theorem dDA_makeHints_50 : decode c_DA_makeHints 50 = .ok (.aload_n 0, 1) := by decide +kernel
theorem dDA_makeHints_51 : decode c_DA_makeHints 51 = .ok (.getfield 22, 3) := by decide +kernel
theorem dDA_makeHints_54 : decode c_DA_makeHints 54 = .ok (.aload_n 0, 1) := by decide +kernel
theorem dDA_makeHints_55 : decode c_DA_makeHints 55 = .ok (.getfield 57, 3) := by decide +kernel
theorem dDA_makeHints_58 : decode c_DA_makeHints 58 = .ok (.aload_n 0, 1) := by decide +kernel
theorem dDA_makeHints_59 : decode c_DA_makeHints 59 = .ok (.getfield 50, 3) := by decide +kernel
theorem dDA_makeHints_62 : decode c_DA_makeHints 62 = .ok (.iload_n 3, 1) := by decide +kernel
theorem dDA_makeHints_63 : decode c_DA_makeHints 63 = .ok (.aaload, 1) := by decide +kernel
theorem dDA_makeHints_64 : decode c_DA_makeHints 64 = .ok (.invokevirtual 133, 3) := by decide +kernel
theorem dDA_makeHints_67 : decode c_DA_makeHints 67 = .ok (.iconst 0, 1) := by decide +kernel
theorem dDA_makeHints_68 : decode c_DA_makeHints 68 = .ok (.istore 4, 2) := by decide +kernel
theorem dDA_makeHints_70 : decode c_DA_makeHints 70 = .ok (.iload 4, 2) := by decide +kernel
theorem dDA_makeHints_72 : decode c_DA_makeHints 72 = .ok (.sipush 256, 3) := by decide +kernel
theorem dDA_makeHints_75 : decode c_DA_makeHints 75 = .ok (.if_icmp .ge 58, 3) := by decide +kernel
theorem dDA_makeHints_78 : decode c_DA_makeHints 78 = .ok (.aload_n 1, 1) := by decide +kernel
theorem dDA_makeHints_79 : decode c_DA_makeHints 79 = .ok (.aload_n 0, 1) := by decide +kernel
theorem dDA_makeHints_80 : decode c_DA_makeHints 80 = .ok (.getfield 57, 3) := by decide +kernel
theorem dDA_makeHints_83 : decode c_DA_makeHints 83 = .ok (.iload 4, 2) := by decide +kernel
theorem dDA_makeHints_85 : decode c_DA_makeHints 85 = .ok (.iaload, 1) := by decide +kernel
theorem dDA_makeHints_86 : decode c_DA_makeHints 86 = .ok (.invokevirtual 212, 3) := by decide +kernel
theorem dDA_makeHints_89 : decode c_DA_makeHints 89 = .ok (.aload_n 1, 1) := by decide +kernel
theorem dDA_makeHints_90 : decode c_DA_makeHints 90 = .ok (.aload_n 0, 1) := by decide +kernel
theorem dDA_makeHints_91 : decode c_DA_makeHints 91 = .ok (.getfield 50, 3) := by decide +kernel
theorem dDA_makeHints_94 : decode c_DA_makeHints 94 = .ok (.iload_n 3, 1) := by decide +kernel
theorem dDA_makeHints_95 : decode c_DA_makeHints 95 = .ok (.aaload, 1) := by decide +kernel
theorem dDA_makeHints_96 : decode c_DA_makeHints 96 = .ok (.iload 4, 2) := by decide +kernel
theorem dDA_makeHints_98 : decode c_DA_makeHints 98 = .ok (.iaload, 1) := by decide +kernel
theorem dDA_makeHints_99 : decode c_DA_makeHints 99 = .ok (.invokevirtual 212, 3) := by decide +kernel
theorem dDA_makeHints_102 : decode c_DA_makeHints 102 = .ok (.if_icmp .eq 25, 3) := by decide +kernel
theorem dDA_makeHints_105 : decode c_DA_makeHints 105 = .ok (.iload_n 2, 1) := by decide +kernel
theorem dDA_makeHints_106 : decode c_DA_makeHints 106 = .ok (.aload_n 1, 1) := by decide +kernel
theorem dDA_makeHints_107 : decode c_DA_makeHints 107 = .ok (.getfield 252, 3) := by decide +kernel
theorem dDA_makeHints_110 : decode c_DA_makeHints 110 = .ok (.if_icmp .lt 5, 3) := by decide +kernel
theorem dDA_makeHints_113 : decode c_DA_makeHints 113 = .ok (.iconst 0, 1) := by decide +kernel
theorem dDA_makeHints_114 : decode c_DA_makeHints 114 = .ok (.ireturn, 1) := by decide +kernel
theorem dDA_makeHints_115 : decode c_DA_makeHints 115 = .ok (.aload_n 0, 1) := by decide +kernel
theorem dDA_makeHints_116 : decode c_DA_makeHints 116 = .ok (.getfield 73, 3) := by decide +kernel
theorem dDA_makeHints_119 : decode c_DA_makeHints 119 = .ok (.iload_n 2, 1) := by decide +kernel
theorem dDA_makeHints_120 : decode c_DA_makeHints 120 = .ok (.iload 4, 2) := by decide +kernel
theorem dDA_makeHints_122 : decode c_DA_makeHints 122 = .ok (.i2b, 1) := by decide +kernel
theorem dDA_makeHints_123 : decode c_DA_makeHints 123 = .ok (.bastore, 1) := by decide +kernel
theorem dDA_makeHints_124 : decode c_DA_makeHints 124 = .ok (.iinc 2 1, 3) := by decide +kernel
theorem dDA_makeHints_127 : decode c_DA_makeHints 127 = .ok (.iinc 4 1, 3) := by decide +kernel
theorem dDA_makeHints_130 : decode c_DA_makeHints 130 = .ok (.goto (-60), 3) := by decide +kernel
theorem dDA_makeHints_133 : decode c_DA_makeHints 133 = .ok (.aload_n 0, 1) := by decide +kernel
theorem dDA_makeHints_134 : decode c_DA_makeHints 134 = .ok (.getfield 73, 3) := by decide +kernel
theorem dDA_makeHints_137 : decode c_DA_makeHints 137 = .ok (.aload_n 1, 1) := by decide +kernel
theorem dDA_makeHints_138 : decode c_DA_makeHints 138 = .ok (.getfield 252, 3) := by decide +kernel
theorem dDA_makeHints_141 : decode c_DA_makeHints 141 = .ok (.iload_n 3, 1) := by decide +kernel
theorem dDA_makeHints_142 : decode c_DA_makeHints 142 = .ok (.iadd, 1) := by decide +kernel
theorem dDA_makeHints_143 : decode c_DA_makeHints 143 = .ok (.iload_n 2, 1) := by decide +kernel
theorem dDA_makeHints_144 : decode c_DA_makeHints 144 = .ok (.i2b, 1) := by decide +kernel
theorem dDA_makeHints_145 : decode c_DA_makeHints 145 = .ok (.bastore, 1) := by decide +kernel
theorem dDA_makeHints_146 : decode c_DA_makeHints 146 = .ok (.iinc 3 1, 3) := by decide +kernel
theorem dDA_makeHints_149 : decode c_DA_makeHints 149 = .ok (.goto (-137), 3) := by decide +kernel
theorem dDA_makeHints_152 : decode c_DA_makeHints 152 = .ok (.iconst 1, 1) := by decide +kernel
theorem dDA_makeHints_153 : decode c_DA_makeHints 153 = .ok (.ireturn, 1) := by decide +kernel
abbrev c_DA_writeSignature : ByteArray := prog_3_method_18_code
abbrev y_DA_writeSignature : MethodName := ⟨"LatticeKeys$Dsa", "writeSignature", "(LLatticeKeys$DsaSet;[B)V"⟩
abbrev w_DA_writeSignature : List Cond := Cond.code y_DA_writeSignature c_DA_writeSignature 4 none :: WG
theorem dDA_writeSignature_0 : decode c_DA_writeSignature 0 = .ok (.aload_n 0, 1) := by decide +kernel
theorem dDA_writeSignature_1 : decode c_DA_writeSignature 1 = .ok (.getfield 67, 3) := by decide +kernel
theorem dDA_writeSignature_4 : decode c_DA_writeSignature 4 = .ok (.iconst 0, 1) := by decide +kernel
theorem dDA_writeSignature_5 : decode c_DA_writeSignature 5 = .ok (.aload_n 2, 1) := by decide +kernel
theorem dDA_writeSignature_6 : decode c_DA_writeSignature 6 = .ok (.iconst 0, 1) := by decide +kernel
theorem dDA_writeSignature_7 : decode c_DA_writeSignature 7 = .ok (.aload_n 1, 1) := by decide +kernel
theorem dDA_writeSignature_8 : decode c_DA_writeSignature 8 = .ok (.getfield 220, 3) := by decide +kernel
theorem dDA_writeSignature_11 : decode c_DA_writeSignature 11 = .ok (.invokestatic 105, 3) := by decide +kernel
theorem dDA_writeSignature_14 : decode c_DA_writeSignature 14 = .ok (.iconst 0, 1) := by decide +kernel
theorem dDA_writeSignature_15 : decode c_DA_writeSignature 15 = .ok (.istore_n 3, 1) := by decide +kernel
theorem dDA_writeSignature_16 : decode c_DA_writeSignature 16 = .ok (.iload_n 3, 1) := by decide +kernel
theorem dDA_writeSignature_17 : decode c_DA_writeSignature 17 = .ok (.aload_n 1, 1) := by decide +kernel
theorem dDA_writeSignature_18 : decode c_DA_writeSignature 18 = .ok (.getfield 96, 3) := by decide +kernel
theorem dDA_writeSignature_21 : decode c_DA_writeSignature 21 = .ok (.if_icmp .ge 56, 3) := by decide +kernel
theorem dDA_writeSignature_24 : decode c_DA_writeSignature 24 = .ok (.aload_n 0, 1) := by decide +kernel
theorem dDA_writeSignature_25 : decode c_DA_writeSignature 25 = .ok (.getfield 22, 3) := by decide +kernel
theorem dDA_writeSignature_28 : decode c_DA_writeSignature 28 = .ok (.aload_n 0, 1) := by decide +kernel
theorem dDA_writeSignature_29 : decode c_DA_writeSignature 29 = .ok (.getfield 47, 3) := by decide +kernel
theorem dDA_writeSignature_32 : decode c_DA_writeSignature 32 = .ok (.iload_n 3, 1) := by decide +kernel
theorem dDA_writeSignature_33 : decode c_DA_writeSignature 33 = .ok (.aaload, 1) := by decide +kernel
theorem dDA_writeSignature_34 : decode c_DA_writeSignature 34 = .ok (.aload_n 1, 1) := by decide +kernel
theorem dDA_writeSignature_35 : decode c_DA_writeSignature 35 = .ok (.getfield 202, 3) := by decide +kernel
theorem dDA_writeSignature_38 : decode c_DA_writeSignature 38 = .ok (.aload_n 0, 1) := by decide +kernel
theorem dDA_writeSignature_39 : decode c_DA_writeSignature 39 = .ok (.getfield 57, 3) := by decide +kernel
theorem dDA_writeSignature_42 : decode c_DA_writeSignature 42 = .ok (.invokevirtual 157, 3) := by decide +kernel
theorem dDA_writeSignature_45 : decode c_DA_writeSignature 45 = .ok (.aload_n 0, 1) := by decide +kernel
theorem dDA_writeSignature_46 : decode c_DA_writeSignature 46 = .ok (.getfield 57, 3) := by decide +kernel
theorem dDA_writeSignature_49 : decode c_DA_writeSignature 49 = .ok (.aload_n 1, 1) := by decide +kernel
theorem dDA_writeSignature_50 : decode c_DA_writeSignature 50 = .ok (.getfield 255, 3) := by decide +kernel
theorem dDA_writeSignature_53 : decode c_DA_writeSignature 53 = .ok (.aload_n 2, 1) := by decide +kernel
theorem dDA_writeSignature_54 : decode c_DA_writeSignature 54 = .ok (.aload_n 1, 1) := by decide +kernel
theorem dDA_writeSignature_55 : decode c_DA_writeSignature 55 = .ok (.getfield 220, 3) := by decide +kernel
theorem dDA_writeSignature_58 : decode c_DA_writeSignature 58 = .ok (.bipush 32, 2) := by decide +kernel
theorem dDA_writeSignature_60 : decode c_DA_writeSignature 60 = .ok (.aload_n 1, 1) := by decide +kernel
theorem dDA_writeSignature_61 : decode c_DA_writeSignature 61 = .ok (.getfield 255, 3) := by decide +kernel
theorem dDA_writeSignature_64 : decode c_DA_writeSignature 64 = .ok (.imul, 1) := by decide +kernel
theorem dDA_writeSignature_65 : decode c_DA_writeSignature 65 = .ok (.iload_n 3, 1) := by decide +kernel
theorem dDA_writeSignature_66 : decode c_DA_writeSignature 66 = .ok (.imul, 1) := by decide +kernel
theorem dDA_writeSignature_67 : decode c_DA_writeSignature 67 = .ok (.iadd, 1) := by decide +kernel
theorem dDA_writeSignature_68 : decode c_DA_writeSignature 68 = .ok (.invokestatic 140, 3) := by decide +kernel
theorem dDA_writeSignature_71 : decode c_DA_writeSignature 71 = .ok (.iinc 3 1, 3) := by decide +kernel
theorem dDA_writeSignature_74 : decode c_DA_writeSignature 74 = .ok (.goto (-58), 3) := by decide +kernel
theorem dDA_writeSignature_77 : decode c_DA_writeSignature 77 = .ok (.aload_n 0, 1) := by decide +kernel
theorem dDA_writeSignature_78 : decode c_DA_writeSignature 78 = .ok (.getfield 73, 3) := by decide +kernel
theorem dDA_writeSignature_81 : decode c_DA_writeSignature 81 = .ok (.iconst 0, 1) := by decide +kernel
theorem dDA_writeSignature_82 : decode c_DA_writeSignature 82 = .ok (.aload_n 2, 1) := by decide +kernel
theorem dDA_writeSignature_83 : decode c_DA_writeSignature 83 = .ok (.aload_n 1, 1) := by decide +kernel
theorem dDA_writeSignature_84 : decode c_DA_writeSignature 84 = .ok (.getfield 258, 3) := by decide +kernel
theorem dDA_writeSignature_87 : decode c_DA_writeSignature 87 = .ok (.aload_n 1, 1) := by decide +kernel
theorem dDA_writeSignature_88 : decode c_DA_writeSignature 88 = .ok (.getfield 252, 3) := by decide +kernel
theorem dDA_writeSignature_91 : decode c_DA_writeSignature 91 = .ok (.aload_n 1, 1) := by decide +kernel
theorem dDA_writeSignature_92 : decode c_DA_writeSignature 92 = .ok (.getfield 87, 3) := by decide +kernel
theorem dDA_writeSignature_95 : decode c_DA_writeSignature 95 = .ok (.iadd, 1) := by decide +kernel
theorem dDA_writeSignature_96 : decode c_DA_writeSignature 96 = .ok (.invokestatic 105, 3) := by decide +kernel
theorem dDA_writeSignature_99 : decode c_DA_writeSignature 99 = .ok (.return_, 1) := by decide +kernel
abbrev c_DA_startChallenge : ByteArray := prog_3_method_11_code
abbrev y_DA_startChallenge : MethodName := ⟨"LatticeKeys$Dsa", "startChallenge", "()V"⟩
abbrev w_DA_startChallenge : List Cond := Cond.code y_DA_startChallenge c_DA_startChallenge 1 none :: WG
theorem dDA_startChallenge_0 : decode c_DA_startChallenge 0 = .ok (.aload_n 0, 1) := by decide +kernel
theorem dDA_startChallenge_1 : decode c_DA_startChallenge 1 = .ok (.getfield 10, 3) := by decide +kernel
theorem dDA_startChallenge_4 : decode c_DA_startChallenge 4 = .ok (.iconst 3, 1) := by decide +kernel
theorem dDA_startChallenge_5 : decode c_DA_startChallenge 5 = .ok (.invokevirtual 79, 3) := by decide +kernel
theorem dDA_startChallenge_8 : decode c_DA_startChallenge 8 = .ok (.aload_n 0, 1) := by decide +kernel
theorem dDA_startChallenge_9 : decode c_DA_startChallenge 9 = .ok (.getfield 10, 3) := by decide +kernel
theorem dDA_startChallenge_12 : decode c_DA_startChallenge 12 = .ok (.aload_n 0, 1) := by decide +kernel
theorem dDA_startChallenge_13 : decode c_DA_startChallenge 13 = .ok (.getfield 64, 3) := by decide +kernel
theorem dDA_startChallenge_16 : decode c_DA_startChallenge 16 = .ok (.iconst 0, 1) := by decide +kernel
theorem dDA_startChallenge_17 : decode c_DA_startChallenge 17 = .ok (.bipush 64, 2) := by decide +kernel
theorem dDA_startChallenge_19 : decode c_DA_startChallenge 19 = .ok (.invokevirtual 83, 3) := by decide +kernel
theorem dDA_startChallenge_22 : decode c_DA_startChallenge 22 = .ok (.return_, 1) := by decide +kernel
abbrev c_DA_absorbHigh : ByteArray := prog_3_method_12_code
abbrev y_DA_absorbHigh : MethodName := ⟨"LatticeKeys$Dsa", "absorbHigh", "(LLatticeKeys$DsaSet;)V"⟩
abbrev w_DA_absorbHigh : List Cond := Cond.code y_DA_absorbHigh c_DA_absorbHigh 2 none :: WG
theorem dDA_absorbHigh_0 : decode c_DA_absorbHigh 0 = .ok (.aload_n 0, 1) := by decide +kernel
theorem dDA_absorbHigh_1 : decode c_DA_absorbHigh 1 = .ok (.getfield 57, 3) := by decide +kernel
theorem dDA_absorbHigh_4 : decode c_DA_absorbHigh 4 = .ok (.aload_n 1, 1) := by decide +kernel
theorem dDA_absorbHigh_5 : decode c_DA_absorbHigh 5 = .ok (.getfield 227, 3) := by decide +kernel
theorem dDA_absorbHigh_8 : decode c_DA_absorbHigh 8 = .ok (.aload_n 0, 1) := by decide +kernel
theorem dDA_absorbHigh_9 : decode c_DA_absorbHigh 9 = .ok (.getfield 76, 3) := by decide +kernel
theorem dDA_absorbHigh_12 : decode c_DA_absorbHigh 12 = .ok (.iconst 0, 1) := by decide +kernel
theorem dDA_absorbHigh_13 : decode c_DA_absorbHigh 13 = .ok (.invokestatic 140, 3) := by decide +kernel
theorem dDA_absorbHigh_16 : decode c_DA_absorbHigh 16 = .ok (.aload_n 0, 1) := by decide +kernel
theorem dDA_absorbHigh_17 : decode c_DA_absorbHigh 17 = .ok (.getfield 10, 3) := by decide +kernel
theorem dDA_absorbHigh_20 : decode c_DA_absorbHigh 20 = .ok (.aload_n 0, 1) := by decide +kernel
theorem dDA_absorbHigh_21 : decode c_DA_absorbHigh 21 = .ok (.getfield 76, 3) := by decide +kernel
theorem dDA_absorbHigh_24 : decode c_DA_absorbHigh 24 = .ok (.iconst 0, 1) := by decide +kernel
theorem dDA_absorbHigh_25 : decode c_DA_absorbHigh 25 = .ok (.bipush 32, 2) := by decide +kernel
theorem dDA_absorbHigh_27 : decode c_DA_absorbHigh 27 = .ok (.aload_n 1, 1) := by decide +kernel
theorem dDA_absorbHigh_28 : decode c_DA_absorbHigh 28 = .ok (.getfield 227, 3) := by decide +kernel
theorem dDA_absorbHigh_31 : decode c_DA_absorbHigh 31 = .ok (.imul, 1) := by decide +kernel
theorem dDA_absorbHigh_32 : decode c_DA_absorbHigh 32 = .ok (.invokevirtual 83, 3) := by decide +kernel
theorem dDA_absorbHigh_35 : decode c_DA_absorbHigh 35 = .ok (.return_, 1) := by decide +kernel
abbrev c_DA_commit : ByteArray := prog_3_method_10_code
abbrev y_DA_commit : MethodName := ⟨"LatticeKeys$Dsa", "commit", "(LLatticeKeys$DsaSet;I)V"⟩
abbrev w_DA_commit : List Cond := Cond.code y_DA_commit c_DA_commit 5 none :: WG
theorem dDA_commit_0 : decode c_DA_commit 0 = .ok (.iconst 0, 1) := by decide +kernel
theorem dDA_commit_1 : decode c_DA_commit 1 = .ok (.istore_n 3, 1) := by decide +kernel
theorem dDA_commit_2 : decode c_DA_commit 2 = .ok (.iload_n 3, 1) := by decide +kernel
theorem dDA_commit_3 : decode c_DA_commit 3 = .ok (.aload_n 1, 1) := by decide +kernel
theorem dDA_commit_4 : decode c_DA_commit 4 = .ok (.getfield 87, 3) := by decide +kernel
theorem dDA_commit_7 : decode c_DA_commit 7 = .ok (.if_icmp .ge 19, 3) := by decide +kernel
theorem dDA_commit_10 : decode c_DA_commit 10 = .ok (.aload_n 0, 1) := by decide +kernel
theorem dDA_commit_11 : decode c_DA_commit 11 = .ok (.getfield 50, 3) := by decide +kernel
theorem dDA_commit_14 : decode c_DA_commit 14 = .ok (.iload_n 3, 1) := by decide +kernel
theorem dDA_commit_15 : decode c_DA_commit 15 = .ok (.aaload, 1) := by decide +kernel
theorem dDA_commit_16 : decode c_DA_commit 16 = .ok (.iconst 0, 1) := by decide +kernel
theorem dDA_commit_17 : decode c_DA_commit 17 = .ok (.invokestatic 192, 3) := by decide +kernel
theorem dDA_commit_20 : decode c_DA_commit 20 = .ok (.iinc 3 1, 3) := by decide +kernel
theorem dDA_commit_23 : decode c_DA_commit 23 = .ok (.goto (-21), 3) := by decide +kernel
theorem dDA_commit_26 : decode c_DA_commit 26 = .ok (.iconst 0, 1) := by decide +kernel
theorem dDA_commit_27 : decode c_DA_commit 27 = .ok (.istore_n 3, 1) := by decide +kernel
theorem dDA_commit_28 : decode c_DA_commit 28 = .ok (.iload_n 3, 1) := by decide +kernel
theorem dDA_commit_29 : decode c_DA_commit 29 = .ok (.aload_n 1, 1) := by decide +kernel
theorem dDA_commit_30 : decode c_DA_commit 30 = .ok (.getfield 96, 3) := by decide +kernel
theorem dDA_commit_33 : decode c_DA_commit 33 = .ok (.if_icmp .ge 132, 3) := by decide +kernel
theorem dDA_commit_36 : decode c_DA_commit 36 = .ok (.aload_n 0, 1) := by decide +kernel
theorem dDA_commit_37 : decode c_DA_commit 37 = .ok (.getfield 29, 3) := by decide +kernel
theorem dDA_commit_40 : decode c_DA_commit 40 = .ok (.aload_n 1, 1) := by decide +kernel
theorem dDA_commit_41 : decode c_DA_commit 41 = .ok (.aload_n 0, 1) := by decide +kernel
theorem dDA_commit_42 : decode c_DA_commit 42 = .ok (.getfield 47, 3) := by decide +kernel
theorem dDA_commit_45 : decode c_DA_commit 45 = .ok (.iload_n 3, 1) := by decide +kernel
theorem dDA_commit_46 : decode c_DA_commit 46 = .ok (.aaload, 1) := by decide +kernel
theorem dDA_commit_47 : decode c_DA_commit 47 = .ok (.aload_n 0, 1) := by decide +kernel
theorem dDA_commit_48 : decode c_DA_commit 48 = .ok (.getfield 60, 3) := by decide +kernel
theorem dDA_commit_51 : decode c_DA_commit 51 = .ok (.iload_n 2, 1) := by decide +kernel
theorem dDA_commit_52 : decode c_DA_commit 52 = .ok (.iload_n 3, 1) := by decide +kernel
theorem dDA_commit_53 : decode c_DA_commit 53 = .ok (.iadd, 1) := by decide +kernel
theorem dDA_commit_54 : decode c_DA_commit 54 = .ok (.invokevirtual 198, 3) := by decide +kernel
theorem dDA_commit_57 : decode c_DA_commit 57 = .ok (.aload_n 0, 1) := by decide +kernel
theorem dDA_commit_58 : decode c_DA_commit 58 = .ok (.getfield 22, 3) := by decide +kernel
theorem dDA_commit_61 : decode c_DA_commit 61 = .ok (.aload_n 0, 1) := by decide +kernel
theorem dDA_commit_62 : decode c_DA_commit 62 = .ok (.getfield 47, 3) := by decide +kernel
theorem dDA_commit_65 : decode c_DA_commit 65 = .ok (.iload_n 3, 1) := by decide +kernel
theorem dDA_commit_66 : decode c_DA_commit 66 = .ok (.aaload, 1) := by decide +kernel
theorem dDA_commit_67 : decode c_DA_commit 67 = .ok (.aload_n 1, 1) := by decide +kernel
theorem dDA_commit_68 : decode c_DA_commit 68 = .ok (.getfield 202, 3) := by decide +kernel
theorem dDA_commit_71 : decode c_DA_commit 71 = .ok (.aload_n 0, 1) := by decide +kernel
theorem dDA_commit_72 : decode c_DA_commit 72 = .ok (.getfield 47, 3) := by decide +kernel
theorem dDA_commit_75 : decode c_DA_commit 75 = .ok (.iload_n 3, 1) := by decide +kernel
theorem dDA_commit_76 : decode c_DA_commit 76 = .ok (.aaload, 1) := by decide +kernel
theorem dDA_commit_77 : decode c_DA_commit 77 = .ok (.invokevirtual 157, 3) := by decide +kernel
theorem dDA_commit_80 : decode c_DA_commit 80 = .ok (.aload_n 0, 1) := by decide +kernel
theorem dDA_commit_81 : decode c_DA_commit 81 = .ok (.getfield 47, 3) := by decide +kernel
theorem dDA_commit_84 : decode c_DA_commit 84 = .ok (.iload_n 3, 1) := by decide +kernel
theorem dDA_commit_85 : decode c_DA_commit 85 = .ok (.aaload, 1) := by decide +kernel
theorem dDA_commit_86 : decode c_DA_commit 86 = .ok (.iconst 0, 1) := by decide +kernel
theorem dDA_commit_87 : decode c_DA_commit 87 = .ok (.aload_n 0, 1) := by decide +kernel
theorem dDA_commit_88 : decode c_DA_commit 88 = .ok (.getfield 57, 3) := by decide +kernel
theorem dDA_commit_91 : decode c_DA_commit 91 = .ok (.iconst 0, 1) := by decide +kernel
theorem dDA_commit_92 : decode c_DA_commit 92 = .ok (.sipush 256, 3) := by decide +kernel
theorem dDA_commit_95 : decode c_DA_commit 95 = .ok (.invokestatic 105, 3) := by decide +kernel
theorem dDA_commit_98 : decode c_DA_commit 98 = .ok (.aload_n 0, 1) := by decide +kernel
theorem dDA_commit_99 : decode c_DA_commit 99 = .ok (.getfield 22, 3) := by decide +kernel
theorem dDA_commit_102 : decode c_DA_commit 102 = .ok (.aload_n 0, 1) := by decide +kernel
theorem dDA_commit_103 : decode c_DA_commit 103 = .ok (.getfield 57, 3) := by decide +kernel
theorem dDA_commit_106 : decode c_DA_commit 106 = .ok (.invokevirtual 119, 3) := by decide +kernel
theorem dDA_commit_109 : decode c_DA_commit 109 = .ok (.iconst 0, 1) := by decide +kernel
theorem dDA_commit_110 : decode c_DA_commit 110 = .ok (.istore 4, 2) := by decide +kernel
theorem dDA_commit_112 : decode c_DA_commit 112 = .ok (.iload 4, 2) := by decide +kernel
theorem dDA_commit_114 : decode c_DA_commit 114 = .ok (.aload_n 1, 1) := by decide +kernel
theorem dDA_commit_115 : decode c_DA_commit 115 = .ok (.getfield 87, 3) := by decide +kernel
theorem dDA_commit_118 : decode c_DA_commit 118 = .ok (.if_icmp .ge 41, 3) := by decide +kernel
theorem dDA_commit_121 : decode c_DA_commit 121 = .ok (.aload_n 0, 1) := by decide +kernel
theorem dDA_commit_122 : decode c_DA_commit 122 = .ok (.getfield 22, 3) := by decide +kernel
theorem dDA_commit_125 : decode c_DA_commit 125 = .ok (.aload_n 0, 1) := by decide +kernel
theorem dDA_commit_126 : decode c_DA_commit 126 = .ok (.getfield 50, 3) := by decide +kernel
theorem dDA_commit_129 : decode c_DA_commit 129 = .ok (.iload 4, 2) := by decide +kernel
theorem dDA_commit_131 : decode c_DA_commit 131 = .ok (.aaload, 1) := by decide +kernel
theorem dDA_commit_132 : decode c_DA_commit 132 = .ok (.aload_n 0, 1) := by decide +kernel
theorem dDA_commit_133 : decode c_DA_commit 133 = .ok (.getfield 35, 3) := by decide +kernel
theorem dDA_commit_136 : decode c_DA_commit 136 = .ok (.aload_n 1, 1) := by decide +kernel
theorem dDA_commit_137 : decode c_DA_commit 137 = .ok (.getfield 96, 3) := by decide +kernel
theorem dDA_commit_140 : decode c_DA_commit 140 = .ok (.iload 4, 2) := by decide +kernel
theorem dDA_commit_142 : decode c_DA_commit 142 = .ok (.imul, 1) := by decide +kernel
theorem dDA_commit_143 : decode c_DA_commit 143 = .ok (.iload_n 3, 1) := by decide +kernel
theorem dDA_commit_144 : decode c_DA_commit 144 = .ok (.iadd, 1) := by decide +kernel
theorem dDA_commit_145 : decode c_DA_commit 145 = .ok (.aaload, 1) := by decide +kernel
theorem dDA_commit_146 : decode c_DA_commit 146 = .ok (.aload_n 0, 1) := by decide +kernel
theorem dDA_commit_147 : decode c_DA_commit 147 = .ok (.getfield 57, 3) := by decide +kernel
theorem dDA_commit_150 : decode c_DA_commit 150 = .ok (.invokevirtual 205, 3) := by decide +kernel
theorem dDA_commit_153 : decode c_DA_commit 153 = .ok (.iinc 4 1, 3) := by decide +kernel
theorem dDA_commit_156 : decode c_DA_commit 156 = .ok (.goto (-44), 3) := by decide +kernel
theorem dDA_commit_159 : decode c_DA_commit 159 = .ok (.iinc 3 1, 3) := by decide +kernel
theorem dDA_commit_162 : decode c_DA_commit 162 = .ok (.goto (-134), 3) := by decide +kernel
theorem dDA_commit_165 : decode c_DA_commit 165 = .ok (.aload_n 0, 1) := by decide +kernel
theorem dDA_commit_166 : decode c_DA_commit 166 = .ok (.invokevirtual 209, 3) := by decide +kernel
theorem dDA_commit_169 : decode c_DA_commit 169 = .ok (.iconst 0, 1) := by decide +kernel
theorem dDA_commit_170 : decode c_DA_commit 170 = .ok (.istore_n 3, 1) := by decide +kernel
theorem dDA_commit_171 : decode c_DA_commit 171 = .ok (.iload_n 3, 1) := by decide +kernel
theorem dDA_commit_172 : decode c_DA_commit 172 = .ok (.aload_n 1, 1) := by decide +kernel
theorem dDA_commit_173 : decode c_DA_commit 173 = .ok (.getfield 87, 3) := by decide +kernel
theorem dDA_commit_176 : decode c_DA_commit 176 = .ok (.if_icmp .ge 64, 3) := by decide +kernel
theorem dDA_commit_179 : decode c_DA_commit 179 = .ok (.aload_n 0, 1) := by decide +kernel
theorem dDA_commit_180 : decode c_DA_commit 180 = .ok (.getfield 22, 3) := by decide +kernel
theorem dDA_commit_183 : decode c_DA_commit 183 = .ok (.aload_n 0, 1) := by decide +kernel
theorem dDA_commit_184 : decode c_DA_commit 184 = .ok (.getfield 50, 3) := by decide +kernel
theorem dDA_commit_187 : decode c_DA_commit 187 = .ok (.iload_n 3, 1) := by decide +kernel
theorem dDA_commit_188 : decode c_DA_commit 188 = .ok (.aaload, 1) := by decide +kernel
theorem dDA_commit_189 : decode c_DA_commit 189 = .ok (.invokevirtual 130, 3) := by decide +kernel
theorem dDA_commit_192 : decode c_DA_commit 192 = .ok (.iconst 0, 1) := by decide +kernel
theorem dDA_commit_193 : decode c_DA_commit 193 = .ok (.istore 4, 2) := by decide +kernel
theorem dDA_commit_195 : decode c_DA_commit 195 = .ok (.iload 4, 2) := by decide +kernel
theorem dDA_commit_197 : decode c_DA_commit 197 = .ok (.sipush 256, 3) := by decide +kernel
theorem dDA_commit_200 : decode c_DA_commit 200 = .ok (.if_icmp .ge 29, 3) := by decide +kernel
theorem dDA_commit_203 : decode c_DA_commit 203 = .ok (.aload_n 0, 1) := by decide +kernel
theorem dDA_commit_204 : decode c_DA_commit 204 = .ok (.getfield 57, 3) := by decide +kernel
theorem dDA_commit_207 : decode c_DA_commit 207 = .ok (.iload 4, 2) := by decide +kernel
theorem dDA_commit_209 : decode c_DA_commit 209 = .ok (.aload_n 1, 1) := by decide +kernel
theorem dDA_commit_210 : decode c_DA_commit 210 = .ok (.aload_n 0, 1) := by decide +kernel
theorem dDA_commit_211 : decode c_DA_commit 211 = .ok (.getfield 50, 3) := by decide +kernel
theorem dDA_commit_214 : decode c_DA_commit 214 = .ok (.iload_n 3, 1) := by decide +kernel
theorem dDA_commit_215 : decode c_DA_commit 215 = .ok (.aaload, 1) := by decide +kernel
theorem dDA_commit_216 : decode c_DA_commit 216 = .ok (.iload 4, 2) := by decide +kernel
theorem dDA_commit_218 : decode c_DA_commit 218 = .ok (.iaload, 1) := by decide +kernel
theorem dDA_commit_219 : decode c_DA_commit 219 = .ok (.invokevirtual 212, 3) := by decide +kernel
theorem dDA_commit_222 : decode c_DA_commit 222 = .ok (.iastore, 1) := by decide +kernel
theorem dDA_commit_223 : decode c_DA_commit 223 = .ok (.iinc 4 1, 3) := by decide +kernel
theorem dDA_commit_226 : decode c_DA_commit 226 = .ok (.goto (-31), 3) := by decide +kernel
theorem dDA_commit_229 : decode c_DA_commit 229 = .ok (.aload_n 0, 1) := by decide +kernel
theorem dDA_commit_230 : decode c_DA_commit 230 = .ok (.aload_n 1, 1) := by decide +kernel
theorem dDA_commit_231 : decode c_DA_commit 231 = .ok (.invokevirtual 216, 3) := by decide +kernel
theorem dDA_commit_234 : decode c_DA_commit 234 = .ok (.iinc 3 1, 3) := by decide +kernel
theorem dDA_commit_237 : decode c_DA_commit 237 = .ok (.goto (-66), 3) := by decide +kernel
theorem dDA_commit_240 : decode c_DA_commit 240 = .ok (.aload_n 0, 1) := by decide +kernel
theorem dDA_commit_241 : decode c_DA_commit 241 = .ok (.getfield 10, 3) := by decide +kernel
theorem dDA_commit_244 : decode c_DA_commit 244 = .ok (.invokevirtual 99, 3) := by decide +kernel
theorem dDA_commit_247 : decode c_DA_commit 247 = .ok (.aload_n 0, 1) := by decide +kernel
theorem dDA_commit_248 : decode c_DA_commit 248 = .ok (.getfield 10, 3) := by decide +kernel
theorem dDA_commit_251 : decode c_DA_commit 251 = .ok (.aload_n 0, 1) := by decide +kernel
theorem dDA_commit_252 : decode c_DA_commit 252 = .ok (.getfield 67, 3) := by decide +kernel
theorem dDA_commit_255 : decode c_DA_commit 255 = .ok (.iconst 0, 1) := by decide +kernel
theorem dDA_commit_256 : decode c_DA_commit 256 = .ok (.aload_n 1, 1) := by decide +kernel
theorem dDA_commit_257 : decode c_DA_commit 257 = .ok (.getfield 220, 3) := by decide +kernel
theorem dDA_commit_260 : decode c_DA_commit 260 = .ok (.invokevirtual 102, 3) := by decide +kernel
theorem dDA_commit_263 : decode c_DA_commit 263 = .ok (.aload_n 0, 1) := by decide +kernel
theorem dDA_commit_264 : decode c_DA_commit 264 = .ok (.getfield 29, 3) := by decide +kernel
theorem dDA_commit_267 : decode c_DA_commit 267 = .ok (.aload_n 1, 1) := by decide +kernel
theorem dDA_commit_268 : decode c_DA_commit 268 = .ok (.aload_n 0, 1) := by decide +kernel
theorem dDA_commit_269 : decode c_DA_commit 269 = .ok (.getfield 53, 3) := by decide +kernel
theorem dDA_commit_272 : decode c_DA_commit 272 = .ok (.aload_n 0, 1) := by decide +kernel
theorem dDA_commit_273 : decode c_DA_commit 273 = .ok (.getfield 67, 3) := by decide +kernel
theorem dDA_commit_276 : decode c_DA_commit 276 = .ok (.invokevirtual 223, 3) := by decide +kernel
theorem dDA_commit_279 : decode c_DA_commit 279 = .ok (.aload_n 0, 1) := by decide +kernel
theorem dDA_commit_280 : decode c_DA_commit 280 = .ok (.getfield 22, 3) := by decide +kernel
theorem dDA_commit_283 : decode c_DA_commit 283 = .ok (.aload_n 0, 1) := by decide +kernel
theorem dDA_commit_284 : decode c_DA_commit 284 = .ok (.getfield 53, 3) := by decide +kernel
theorem dDA_commit_287 : decode c_DA_commit 287 = .ok (.invokevirtual 119, 3) := by decide +kernel
theorem dDA_commit_290 : decode c_DA_commit 290 = .ok (.return_, 1) := by decide +kernel
abbrev c_DA_makeSignature : ByteArray := prog_3_method_5_code
abbrev y_DA_makeSignature : MethodName := ⟨"LatticeKeys$Dsa", "makeSignature", "(LLatticeKeys$DsaSet;[B[BII[B)I"⟩
abbrev w_DA_makeSignature : List Cond := Cond.code y_DA_makeSignature c_DA_makeSignature 8 (some .int) :: WG
theorem dDA_makeSignature_0 : decode c_DA_makeSignature 0 = .ok (.aload_n 0, 1) := by decide +kernel
theorem dDA_makeSignature_1 : decode c_DA_makeSignature 1 = .ok (.aload_n 1, 1) := by decide +kernel
theorem dDA_makeSignature_2 : decode c_DA_makeSignature 2 = .ok (.aload_n 2, 1) := by decide +kernel
theorem dDA_makeSignature_3 : decode c_DA_makeSignature 3 = .ok (.invokevirtual 161, 3) := by decide +kernel
theorem dDA_makeSignature_6 : decode c_DA_makeSignature 6 = .ok (.aload_n 2, 1) := by decide +kernel
theorem dDA_makeSignature_7 : decode c_DA_makeSignature 7 = .ok (.bipush 64, 2) := by decide +kernel
theorem dDA_makeSignature_9 : decode c_DA_makeSignature 9 = .ok (.aload_n 0, 1) := by decide +kernel
theorem dDA_makeSignature_10 : decode c_DA_makeSignature 10 = .ok (.getfield 64, 3) := by decide +kernel
theorem dDA_makeSignature_13 : decode c_DA_makeSignature 13 = .ok (.iconst 0, 1) := by decide +kernel
theorem dDA_makeSignature_14 : decode c_DA_makeSignature 14 = .ok (.bipush 64, 2) := by decide +kernel
theorem dDA_makeSignature_16 : decode c_DA_makeSignature 16 = .ok (.invokestatic 105, 3) := by decide +kernel
theorem dDA_makeSignature_19 : decode c_DA_makeSignature 19 = .ok (.aload_n 0, 1) := by decide +kernel
theorem dDA_makeSignature_20 : decode c_DA_makeSignature 20 = .ok (.aload_n 3, 1) := by decide +kernel
theorem dDA_makeSignature_21 : decode c_DA_makeSignature 21 = .ok (.bipush 32, 2) := by decide +kernel
theorem dDA_makeSignature_23 : decode c_DA_makeSignature 23 = .ok (.iload 4, 2) := by decide +kernel
theorem dDA_makeSignature_25 : decode c_DA_makeSignature 25 = .ok (.iload 5, 2) := by decide +kernel
theorem dDA_makeSignature_27 : decode c_DA_makeSignature 27 = .ok (.invokevirtual 164, 3) := by decide +kernel
theorem dDA_makeSignature_30 : decode c_DA_makeSignature 30 = .ok (.aload_n 0, 1) := by decide +kernel
theorem dDA_makeSignature_31 : decode c_DA_makeSignature 31 = .ok (.getfield 10, 3) := by decide +kernel
theorem dDA_makeSignature_34 : decode c_DA_makeSignature 34 = .ok (.iconst 3, 1) := by decide +kernel
theorem dDA_makeSignature_35 : decode c_DA_makeSignature 35 = .ok (.invokevirtual 79, 3) := by decide +kernel
theorem dDA_makeSignature_38 : decode c_DA_makeSignature 38 = .ok (.aload_n 0, 1) := by decide +kernel
theorem dDA_makeSignature_39 : decode c_DA_makeSignature 39 = .ok (.getfield 10, 3) := by decide +kernel
theorem dDA_makeSignature_42 : decode c_DA_makeSignature 42 = .ok (.aload_n 2, 1) := by decide +kernel
theorem dDA_makeSignature_43 : decode c_DA_makeSignature 43 = .ok (.bipush 32, 2) := by decide +kernel
theorem dDA_makeSignature_45 : decode c_DA_makeSignature 45 = .ok (.bipush 32, 2) := by decide +kernel
theorem dDA_makeSignature_47 : decode c_DA_makeSignature 47 = .ok (.invokevirtual 83, 3) := by decide +kernel
theorem dDA_makeSignature_50 : decode c_DA_makeSignature 50 = .ok (.aload_n 0, 1) := by decide +kernel
theorem dDA_makeSignature_51 : decode c_DA_makeSignature 51 = .ok (.getfield 10, 3) := by decide +kernel
theorem dDA_makeSignature_54 : decode c_DA_makeSignature 54 = .ok (.aload_n 3, 1) := by decide +kernel
theorem dDA_makeSignature_55 : decode c_DA_makeSignature 55 = .ok (.iconst 0, 1) := by decide +kernel
theorem dDA_makeSignature_56 : decode c_DA_makeSignature 56 = .ok (.bipush 32, 2) := by decide +kernel
theorem dDA_makeSignature_58 : decode c_DA_makeSignature 58 = .ok (.invokevirtual 83, 3) := by decide +kernel
theorem dDA_makeSignature_61 : decode c_DA_makeSignature 61 = .ok (.aload_n 0, 1) := by decide +kernel
theorem dDA_makeSignature_62 : decode c_DA_makeSignature 62 = .ok (.getfield 10, 3) := by decide +kernel
theorem dDA_makeSignature_65 : decode c_DA_makeSignature 65 = .ok (.aload_n 0, 1) := by decide +kernel
theorem dDA_makeSignature_66 : decode c_DA_makeSignature 66 = .ok (.getfield 64, 3) := by decide +kernel
theorem dDA_makeSignature_69 : decode c_DA_makeSignature 69 = .ok (.iconst 0, 1) := by decide +kernel
theorem dDA_makeSignature_70 : decode c_DA_makeSignature 70 = .ok (.bipush 64, 2) := by decide +kernel
theorem dDA_makeSignature_72 : decode c_DA_makeSignature 72 = .ok (.invokevirtual 83, 3) := by decide +kernel
theorem dDA_makeSignature_75 : decode c_DA_makeSignature 75 = .ok (.aload_n 0, 1) := by decide +kernel
theorem dDA_makeSignature_76 : decode c_DA_makeSignature 76 = .ok (.getfield 10, 3) := by decide +kernel
theorem dDA_makeSignature_79 : decode c_DA_makeSignature 79 = .ok (.invokevirtual 99, 3) := by decide +kernel
theorem dDA_makeSignature_82 : decode c_DA_makeSignature 82 = .ok (.aload_n 0, 1) := by decide +kernel
theorem dDA_makeSignature_83 : decode c_DA_makeSignature 83 = .ok (.getfield 10, 3) := by decide +kernel
theorem dDA_makeSignature_86 : decode c_DA_makeSignature 86 = .ok (.aload_n 0, 1) := by decide +kernel
theorem dDA_makeSignature_87 : decode c_DA_makeSignature 87 = .ok (.getfield 60, 3) := by decide +kernel
theorem dDA_makeSignature_90 : decode c_DA_makeSignature 90 = .ok (.iconst 0, 1) := by decide +kernel
theorem dDA_makeSignature_91 : decode c_DA_makeSignature 91 = .ok (.bipush 64, 2) := by decide +kernel
theorem dDA_makeSignature_93 : decode c_DA_makeSignature 93 = .ok (.invokevirtual 102, 3) := by decide +kernel
theorem dDA_makeSignature_96 : decode c_DA_makeSignature 96 = .ok (.iconst 1, 1) := by decide +kernel
theorem dDA_makeSignature_97 : decode c_DA_makeSignature 97 = .ok (.istore 7, 2) := by decide +kernel
theorem dDA_makeSignature_99 : decode c_DA_makeSignature 99 = .ok (.iload 7, 2) := by decide +kernel
theorem dDA_makeSignature_101 : decode c_DA_makeSignature 101 = .ok (.sipush 200, 3) := by decide +kernel
theorem dDA_makeSignature_104 : decode c_DA_makeSignature 104 = .ok (.if_icmp .gt 57, 3) := by decide +kernel
theorem dDA_makeSignature_107 : decode c_DA_makeSignature 107 = .ok (.aload_n 0, 1) := by decide +kernel
theorem dDA_makeSignature_108 : decode c_DA_makeSignature 108 = .ok (.aload_n 1, 1) := by decide +kernel
theorem dDA_makeSignature_109 : decode c_DA_makeSignature 109 = .ok (.aload_n 1, 1) := by decide +kernel
theorem dDA_makeSignature_110 : decode c_DA_makeSignature 110 = .ok (.getfield 96, 3) := by decide +kernel
theorem dDA_makeSignature_113 : decode c_DA_makeSignature 113 = .ok (.iload 7, 2) := by decide +kernel
theorem dDA_makeSignature_115 : decode c_DA_makeSignature 115 = .ok (.iconst 1, 1) := by decide +kernel
theorem dDA_makeSignature_116 : decode c_DA_makeSignature 116 = .ok (.isub, 1) := by decide +kernel
theorem dDA_makeSignature_117 : decode c_DA_makeSignature 117 = .ok (.imul, 1) := by decide +kernel
theorem dDA_makeSignature_118 : decode c_DA_makeSignature 118 = .ok (.invokevirtual 168, 3) := by decide +kernel
theorem dDA_makeSignature_121 : decode c_DA_makeSignature 121 = .ok (.aload_n 0, 1) := by decide +kernel
theorem dDA_makeSignature_122 : decode c_DA_makeSignature 122 = .ok (.aload_n 1, 1) := by decide +kernel
theorem dDA_makeSignature_123 : decode c_DA_makeSignature 123 = .ok (.invokevirtual 172, 3) := by decide +kernel
theorem dDA_makeSignature_126 : decode c_DA_makeSignature 126 = .ok (.ifCond .eq 29, 3) := by decide +kernel
theorem dDA_makeSignature_129 : decode c_DA_makeSignature 129 = .ok (.aload_n 0, 1) := by decide +kernel
theorem dDA_makeSignature_130 : decode c_DA_makeSignature 130 = .ok (.aload_n 1, 1) := by decide +kernel
theorem dDA_makeSignature_131 : decode c_DA_makeSignature 131 = .ok (.invokevirtual 176, 3) := by decide +kernel
theorem dDA_makeSignature_134 : decode c_DA_makeSignature 134 = .ok (.ifCond .eq 21, 3) := by decide +kernel
theorem dDA_makeSignature_137 : decode c_DA_makeSignature 137 = .ok (.aload_n 0, 1) := by decide +kernel
theorem dDA_makeSignature_138 : decode c_DA_makeSignature 138 = .ok (.aload_n 1, 1) := by decide +kernel
theorem dDA_makeSignature_139 : decode c_DA_makeSignature 139 = .ok (.invokevirtual 179, 3) := by decide +kernel
theorem dDA_makeSignature_142 : decode c_DA_makeSignature 142 = .ok (.ifCond .eq 13, 3) := by decide +kernel
theorem dDA_makeSignature_145 : decode c_DA_makeSignature 145 = .ok (.aload_n 0, 1) := by decide +kernel
theorem dDA_makeSignature_146 : decode c_DA_makeSignature 146 = .ok (.aload_n 1, 1) := by decide +kernel
theorem dDA_makeSignature_147 : decode c_DA_makeSignature 147 = .ok (.aload 6, 2) := by decide +kernel
theorem dDA_makeSignature_149 : decode c_DA_makeSignature 149 = .ok (.invokevirtual 182, 3) := by decide +kernel
theorem dDA_makeSignature_152 : decode c_DA_makeSignature 152 = .ok (.iload 7, 2) := by decide +kernel
theorem dDA_makeSignature_154 : decode c_DA_makeSignature 154 = .ok (.ireturn, 1) := by decide +kernel
theorem dDA_makeSignature_155 : decode c_DA_makeSignature 155 = .ok (.iinc 7 1, 3) := by decide +kernel
theorem dDA_makeSignature_158 : decode c_DA_makeSignature 158 = .ok (.goto (-59), 3) := by decide +kernel
theorem dDA_makeSignature_161 : decode c_DA_makeSignature 161 = .ok (.iconst 0, 1) := by decide +kernel
theorem dDA_makeSignature_162 : decode c_DA_makeSignature 162 = .ok (.ireturn, 1) := by decide +kernel
set_option maxHeartbeats 400000 in
set_option maxRecDepth 100000 in
theorem t_DA_answerIsShort_0 (l : Launch) (g : Gd) (sz : Nat) (T : Ty) (xs : List Nat) (pl : va_W) (hO : okx g T xs pl) (hU : uni T) (hc0 : clo T xs 0) (h0 st : Nat) (k_h0 : T h0 = some (15, 0)) (k_st : T st = some (43, 0))  : Met l y_DA_answerIsShort w_DA_answerIsShort ({ frames := 3, cells := 0, slots := 0, locals := 74 } : Room) (va_Pc [.ref h0, .ref st] (pr (en g) g.1 vcl sz ([] ++ pl))) (va_Qi (fun (r : Int32) (u : va_W) => (r = nI 0 ∨ r = nI 1) ∧ okx g T xs u) (po g.1 vcl (va_A ([] ++ pl) sz) (fun (u : va_W) => [] ++ u)) (va_A ([] ++ pl) sz)) 0 0 (va_A ([] ++ pl) sz) := by
  sorry
set_option maxHeartbeats 400000 in
set_option maxRecDepth 100000 in
theorem t_DA_answerIsShort_1 (l : Launch) (g : Gd) (sz : Nat) (T : Ty) (xs : List Nat) (pl : va_W) (hO : okx g T xs pl) (hU : uni T) (hc0 : clo T xs 0) (h0 st : Nat) (k_h0 : T h0 = some (15, 0)) (k_st : T st = some (44, 0))  : Met l y_DA_answerIsShort w_DA_answerIsShort ({ frames := 3, cells := 0, slots := 0, locals := 74 } : Room) (va_Pc [.ref h0, .ref st] (pr (en g) g.1 vcl sz ([] ++ pl))) (va_Qi (fun (r : Int32) (u : va_W) => (r = nI 0 ∨ r = nI 1) ∧ okx g T xs u) (po g.1 vcl (va_A ([] ++ pl) sz) (fun (u : va_W) => [] ++ u)) (va_A ([] ++ pl) sz)) 0 0 (va_A ([] ++ pl) sz) := by
  sorry
set_option maxHeartbeats 400000 in
set_option maxRecDepth 100000 in
theorem t_DA_answerIsShort_2 (l : Launch) (g : Gd) (sz : Nat) (T : Ty) (xs : List Nat) (pl : va_W) (hO : okx g T xs pl) (hU : uni T) (hc0 : clo T xs 0) (h0 st : Nat) (k_h0 : T h0 = some (15, 0)) (k_st : T st = some (45, 0))  : Met l y_DA_answerIsShort w_DA_answerIsShort ({ frames := 3, cells := 0, slots := 0, locals := 74 } : Room) (va_Pc [.ref h0, .ref st] (pr (en g) g.1 vcl sz ([] ++ pl))) (va_Qi (fun (r : Int32) (u : va_W) => (r = nI 0 ∨ r = nI 1) ∧ okx g T xs u) (po g.1 vcl (va_A ([] ++ pl) sz) (fun (u : va_W) => [] ++ u)) (va_A ([] ++ pl) sz)) 0 0 (va_A ([] ++ pl) sz) := by
  sorry
set_option maxHeartbeats 400000 in
set_option maxRecDepth 100000 in
theorem t_DA_restIsShort_0 (l : Launch) (g : Gd) (sz : Nat) (T : Ty) (xs : List Nat) (pl : va_W) (hO : okx g T xs pl) (hU : uni T) (hc0 : clo T xs 0) (h0 st : Nat) (k_h0 : T h0 = some (15, 0)) (k_st : T st = some (43, 0))  : Met l y_DA_restIsShort w_DA_restIsShort ({ frames := 3, cells := 0, slots := 0, locals := 74 } : Room) (va_Pc [.ref h0, .ref st] (pr (en g) g.1 vcl sz ([] ++ pl))) (va_Qi (fun (r : Int32) (u : va_W) => (r = nI 0 ∨ r = nI 1) ∧ okx g T xs u) (po g.1 vcl (va_A ([] ++ pl) sz) (fun (u : va_W) => [] ++ u)) (va_A ([] ++ pl) sz)) 0 0 (va_A ([] ++ pl) sz) := by
  sorry
set_option maxHeartbeats 400000 in
set_option maxRecDepth 100000 in
theorem t_DA_restIsShort_1 (l : Launch) (g : Gd) (sz : Nat) (T : Ty) (xs : List Nat) (pl : va_W) (hO : okx g T xs pl) (hU : uni T) (hc0 : clo T xs 0) (h0 st : Nat) (k_h0 : T h0 = some (15, 0)) (k_st : T st = some (44, 0))  : Met l y_DA_restIsShort w_DA_restIsShort ({ frames := 3, cells := 0, slots := 0, locals := 74 } : Room) (va_Pc [.ref h0, .ref st] (pr (en g) g.1 vcl sz ([] ++ pl))) (va_Qi (fun (r : Int32) (u : va_W) => (r = nI 0 ∨ r = nI 1) ∧ okx g T xs u) (po g.1 vcl (va_A ([] ++ pl) sz) (fun (u : va_W) => [] ++ u)) (va_A ([] ++ pl) sz)) 0 0 (va_A ([] ++ pl) sz) := by
  sorry
set_option maxHeartbeats 400000 in
set_option maxRecDepth 100000 in
theorem t_DA_restIsShort_2 (l : Launch) (g : Gd) (sz : Nat) (T : Ty) (xs : List Nat) (pl : va_W) (hO : okx g T xs pl) (hU : uni T) (hc0 : clo T xs 0) (h0 st : Nat) (k_h0 : T h0 = some (15, 0)) (k_st : T st = some (45, 0))  : Met l y_DA_restIsShort w_DA_restIsShort ({ frames := 3, cells := 0, slots := 0, locals := 74 } : Room) (va_Pc [.ref h0, .ref st] (pr (en g) g.1 vcl sz ([] ++ pl))) (va_Qi (fun (r : Int32) (u : va_W) => (r = nI 0 ∨ r = nI 1) ∧ okx g T xs u) (po g.1 vcl (va_A ([] ++ pl) sz) (fun (u : va_W) => [] ++ u)) (va_A ([] ++ pl) sz)) 0 0 (va_A ([] ++ pl) sz) := by
  sorry
set_option maxHeartbeats 400000 in
set_option maxRecDepth 100000 in
theorem t_DA_makeHints_0 (l : Launch) (g : Gd) (sz : Nat) (T : Ty) (xs : List Nat) (pl : va_W) (hO : okx g T xs pl) (hU : uni T) (hc0 : clo T xs 0) (hc20 : clo T xs 20) (h0 st : Nat) (k_h0 : T h0 = some (15, 0)) (k_st : T st = some (43, 0))  : Met l y_DA_makeHints w_DA_makeHints ({ frames := 3, cells := 0, slots := 0, locals := 74 } : Room) (va_Pc [.ref h0, .ref st] (pr (en g) g.1 vcl sz ([] ++ pl))) (va_Qi (fun (r : Int32) (u : va_W) => (r = nI 0 ∨ r = nI 1) ∧ okx g T xs u) (po g.1 vcl (va_A ([] ++ pl) sz) (fun (u : va_W) => [] ++ u)) (va_A ([] ++ pl) sz)) 0 0 (va_A ([] ++ pl) sz) := by
  sorry
set_option maxHeartbeats 400000 in
set_option maxRecDepth 100000 in
theorem t_DA_makeHints_1 (l : Launch) (g : Gd) (sz : Nat) (T : Ty) (xs : List Nat) (pl : va_W) (hO : okx g T xs pl) (hU : uni T) (hc0 : clo T xs 0) (hc20 : clo T xs 20) (h0 st : Nat) (k_h0 : T h0 = some (15, 0)) (k_st : T st = some (44, 0))  : Met l y_DA_makeHints w_DA_makeHints ({ frames := 3, cells := 0, slots := 0, locals := 74 } : Room) (va_Pc [.ref h0, .ref st] (pr (en g) g.1 vcl sz ([] ++ pl))) (va_Qi (fun (r : Int32) (u : va_W) => (r = nI 0 ∨ r = nI 1) ∧ okx g T xs u) (po g.1 vcl (va_A ([] ++ pl) sz) (fun (u : va_W) => [] ++ u)) (va_A ([] ++ pl) sz)) 0 0 (va_A ([] ++ pl) sz) := by
  sorry
set_option maxHeartbeats 400000 in
set_option maxRecDepth 100000 in
theorem t_DA_makeHints_2 (l : Launch) (g : Gd) (sz : Nat) (T : Ty) (xs : List Nat) (pl : va_W) (hO : okx g T xs pl) (hU : uni T) (hc0 : clo T xs 0) (hc20 : clo T xs 20) (h0 st : Nat) (k_h0 : T h0 = some (15, 0)) (k_st : T st = some (45, 0))  : Met l y_DA_makeHints w_DA_makeHints ({ frames := 3, cells := 0, slots := 0, locals := 74 } : Room) (va_Pc [.ref h0, .ref st] (pr (en g) g.1 vcl sz ([] ++ pl))) (va_Qi (fun (r : Int32) (u : va_W) => (r = nI 0 ∨ r = nI 1) ∧ okx g T xs u) (po g.1 vcl (va_A ([] ++ pl) sz) (fun (u : va_W) => [] ++ u)) (va_A ([] ++ pl) sz)) 0 0 (va_A ([] ++ pl) sz) := by
  sorry
set_option maxHeartbeats 400000 in
set_option maxRecDepth 100000 in
theorem t_DA_writeSignature_0 (l : Launch) (g : Gd) (sz : Nat) (T : Ty) (xs : List Nat) (pl : va_W) (hO : okx g T xs pl) (hU : uni T) (hc0 : clo T xs 0) (hc20 : clo T xs 20) (h0 st to : Nat) (k_h0 : T h0 = some (15, 0)) (k_st : T st = some (43, 0)) (k_to : T to = some (1, 8192))  : Met l y_DA_writeSignature w_DA_writeSignature ({ frames := 1, cells := 0, slots := 0, locals := 60 } : Room) (va_Pc [.ref h0, .ref st, .ref to] (pr (en g) g.1 vcl sz ([] ++ pl))) (va_Qv (fun (u : va_W) => (True) ∧ okx g T xs u) (po g.1 vcl (va_A ([] ++ pl) sz) (fun (u : va_W) => [] ++ u)) (va_A ([] ++ pl) sz)) 0 0 (va_A ([] ++ pl) sz) := by
  sorry
set_option maxHeartbeats 400000 in
set_option maxRecDepth 100000 in
theorem t_DA_writeSignature_1 (l : Launch) (g : Gd) (sz : Nat) (T : Ty) (xs : List Nat) (pl : va_W) (hO : okx g T xs pl) (hU : uni T) (hc0 : clo T xs 0) (hc20 : clo T xs 20) (h0 st to : Nat) (k_h0 : T h0 = some (15, 0)) (k_st : T st = some (44, 0)) (k_to : T to = some (1, 8192))  : Met l y_DA_writeSignature w_DA_writeSignature ({ frames := 1, cells := 0, slots := 0, locals := 60 } : Room) (va_Pc [.ref h0, .ref st, .ref to] (pr (en g) g.1 vcl sz ([] ++ pl))) (va_Qv (fun (u : va_W) => (True) ∧ okx g T xs u) (po g.1 vcl (va_A ([] ++ pl) sz) (fun (u : va_W) => [] ++ u)) (va_A ([] ++ pl) sz)) 0 0 (va_A ([] ++ pl) sz) := by
  sorry
set_option maxHeartbeats 400000 in
set_option maxRecDepth 100000 in
theorem t_DA_writeSignature_2 (l : Launch) (g : Gd) (sz : Nat) (T : Ty) (xs : List Nat) (pl : va_W) (hO : okx g T xs pl) (hU : uni T) (hc0 : clo T xs 0) (hc20 : clo T xs 20) (h0 st to : Nat) (k_h0 : T h0 = some (15, 0)) (k_st : T st = some (45, 0)) (k_to : T to = some (1, 8192))  : Met l y_DA_writeSignature w_DA_writeSignature ({ frames := 1, cells := 0, slots := 0, locals := 60 } : Room) (va_Pc [.ref h0, .ref st, .ref to] (pr (en g) g.1 vcl sz ([] ++ pl))) (va_Qv (fun (u : va_W) => (True) ∧ okx g T xs u) (po g.1 vcl (va_A ([] ++ pl) sz) (fun (u : va_W) => [] ++ u)) (va_A ([] ++ pl) sz)) 0 0 (va_A ([] ++ pl) sz) := by
  sorry
set_option maxHeartbeats 400000 in
set_option maxRecDepth 100000 in
theorem t_DA_startChallenge (l : Launch) (g : Gd) (sz : Nat) (T : Ty) (xs : List Nat) (pl : va_W) (hO : okx g T xs pl) (hU : uni T) (hc0 : clo T xs 0) (sponge : Nat) (h0 : Nat) (ln rt ps : Nat) (x2 : Int32) (f : Nat → Int64) (k_sponge : T sponge = some (10, 2)) (k_h0 : T h0 = some (15, 0))  : Met l y_DA_startChallenge w_DA_startChallenge ({ frames := 3, cells := 0, slots := 0, locals := 100 } : Room) (va_Pc [.ref h0] (pr (en g) g.1 vcl sz ([(sponge, .inr (3, [.ref ln, .int (nI rt), .int x2, .int (nI ps)])), (ln, .inl (g.2.1 2, 25, .inr (.inl f)))] ++ pl))) (va_Qv (fun (u : (Nat × (Nat → Int64)) × va_W) => (u.1.1 < 136) ∧ okx g T xs u.2) (po g.1 vcl (va_A ([(sponge, .inr (3, [.ref ln, .int (nI rt), .int x2, .int (nI ps)])), (ln, .inl (g.2.1 2, 25, .inr (.inl f)))] ++ pl) sz) (fun (u : (Nat × (Nat → Int64)) × va_W) => [(sponge, .inr (3, [.ref ln, .int (nI 136), .int (nI 31), .int (nI (u.1.1))])), (ln, .inl (g.2.1 2, 25, .inr (.inl (u.1.2))))] ++ u.2)) (va_A ([(sponge, .inr (3, [.ref ln, .int (nI rt), .int x2, .int (nI ps)])), (ln, .inl (g.2.1 2, 25, .inr (.inl f)))] ++ pl) sz)) 0 0 (va_A ([(sponge, .inr (3, [.ref ln, .int (nI rt), .int x2, .int (nI ps)])), (ln, .inl (g.2.1 2, 25, .inr (.inl f)))] ++ pl) sz) := by
  sorry
set_option maxHeartbeats 400000 in
set_option maxRecDepth 100000 in
theorem t_DA_absorbHigh_0 (l : Launch) (g : Gd) (sz : Nat) (T : Ty) (xs : List Nat) (pl : va_W) (hO : okx g T xs pl) (hU : uni T) (hc0 : clo T xs 0) (sponge : Nat) (h0 st : Nat) (ln rt ps : Nat) (x2 : Int32) (f : Nat → Int64) (k_sponge : T sponge = some (10, 2)) (k_h0 : T h0 = some (15, 0)) (k_st : T st = some (43, 0)) (hrt : 0 < rt ∧ rt < 200) (hps : ps < rt)  : Met l y_DA_absorbHigh w_DA_absorbHigh ({ frames := 3, cells := 0, slots := 0, locals := 100 } : Room) (va_Pc [.ref h0, .ref st] (pr (en g) g.1 vcl sz ([(sponge, .inr (3, [.ref ln, .int (nI rt), .int x2, .int (nI ps)])), (ln, .inl (g.2.1 2, 25, .inr (.inl f)))] ++ pl))) (va_Qv (fun (u : (Nat × (Nat → Int64)) × va_W) => (u.1.1 < rt) ∧ okx g T xs u.2) (po g.1 vcl (va_A ([(sponge, .inr (3, [.ref ln, .int (nI rt), .int x2, .int (nI ps)])), (ln, .inl (g.2.1 2, 25, .inr (.inl f)))] ++ pl) sz) (fun (u : (Nat × (Nat → Int64)) × va_W) => [(sponge, .inr (3, [.ref ln, .int (nI rt), .int x2, .int (nI (u.1.1))])), (ln, .inl (g.2.1 2, 25, .inr (.inl (u.1.2))))] ++ u.2)) (va_A ([(sponge, .inr (3, [.ref ln, .int (nI rt), .int x2, .int (nI ps)])), (ln, .inl (g.2.1 2, 25, .inr (.inl f)))] ++ pl) sz)) 0 0 (va_A ([(sponge, .inr (3, [.ref ln, .int (nI rt), .int x2, .int (nI ps)])), (ln, .inl (g.2.1 2, 25, .inr (.inl f)))] ++ pl) sz) := by
  sorry
set_option maxHeartbeats 400000 in
set_option maxRecDepth 100000 in
theorem t_DA_absorbHigh_1 (l : Launch) (g : Gd) (sz : Nat) (T : Ty) (xs : List Nat) (pl : va_W) (hO : okx g T xs pl) (hU : uni T) (hc0 : clo T xs 0) (sponge : Nat) (h0 st : Nat) (ln rt ps : Nat) (x2 : Int32) (f : Nat → Int64) (k_sponge : T sponge = some (10, 2)) (k_h0 : T h0 = some (15, 0)) (k_st : T st = some (44, 0)) (hrt : 0 < rt ∧ rt < 200) (hps : ps < rt)  : Met l y_DA_absorbHigh w_DA_absorbHigh ({ frames := 3, cells := 0, slots := 0, locals := 100 } : Room) (va_Pc [.ref h0, .ref st] (pr (en g) g.1 vcl sz ([(sponge, .inr (3, [.ref ln, .int (nI rt), .int x2, .int (nI ps)])), (ln, .inl (g.2.1 2, 25, .inr (.inl f)))] ++ pl))) (va_Qv (fun (u : (Nat × (Nat → Int64)) × va_W) => (u.1.1 < rt) ∧ okx g T xs u.2) (po g.1 vcl (va_A ([(sponge, .inr (3, [.ref ln, .int (nI rt), .int x2, .int (nI ps)])), (ln, .inl (g.2.1 2, 25, .inr (.inl f)))] ++ pl) sz) (fun (u : (Nat × (Nat → Int64)) × va_W) => [(sponge, .inr (3, [.ref ln, .int (nI rt), .int x2, .int (nI (u.1.1))])), (ln, .inl (g.2.1 2, 25, .inr (.inl (u.1.2))))] ++ u.2)) (va_A ([(sponge, .inr (3, [.ref ln, .int (nI rt), .int x2, .int (nI ps)])), (ln, .inl (g.2.1 2, 25, .inr (.inl f)))] ++ pl) sz)) 0 0 (va_A ([(sponge, .inr (3, [.ref ln, .int (nI rt), .int x2, .int (nI ps)])), (ln, .inl (g.2.1 2, 25, .inr (.inl f)))] ++ pl) sz) := by
  sorry
set_option maxHeartbeats 400000 in
set_option maxRecDepth 100000 in
theorem t_DA_absorbHigh_2 (l : Launch) (g : Gd) (sz : Nat) (T : Ty) (xs : List Nat) (pl : va_W) (hO : okx g T xs pl) (hU : uni T) (hc0 : clo T xs 0) (sponge : Nat) (h0 st : Nat) (ln rt ps : Nat) (x2 : Int32) (f : Nat → Int64) (k_sponge : T sponge = some (10, 2)) (k_h0 : T h0 = some (15, 0)) (k_st : T st = some (45, 0)) (hrt : 0 < rt ∧ rt < 200) (hps : ps < rt)  : Met l y_DA_absorbHigh w_DA_absorbHigh ({ frames := 3, cells := 0, slots := 0, locals := 100 } : Room) (va_Pc [.ref h0, .ref st] (pr (en g) g.1 vcl sz ([(sponge, .inr (3, [.ref ln, .int (nI rt), .int x2, .int (nI ps)])), (ln, .inl (g.2.1 2, 25, .inr (.inl f)))] ++ pl))) (va_Qv (fun (u : (Nat × (Nat → Int64)) × va_W) => (u.1.1 < rt) ∧ okx g T xs u.2) (po g.1 vcl (va_A ([(sponge, .inr (3, [.ref ln, .int (nI rt), .int x2, .int (nI ps)])), (ln, .inl (g.2.1 2, 25, .inr (.inl f)))] ++ pl) sz) (fun (u : (Nat × (Nat → Int64)) × va_W) => [(sponge, .inr (3, [.ref ln, .int (nI rt), .int x2, .int (nI (u.1.1))])), (ln, .inl (g.2.1 2, 25, .inr (.inl (u.1.2))))] ++ u.2)) (va_A ([(sponge, .inr (3, [.ref ln, .int (nI rt), .int x2, .int (nI ps)])), (ln, .inl (g.2.1 2, 25, .inr (.inl f)))] ++ pl) sz)) 0 0 (va_A ([(sponge, .inr (3, [.ref ln, .int (nI rt), .int x2, .int (nI ps)])), (ln, .inl (g.2.1 2, 25, .inr (.inl f)))] ++ pl) sz) := by
  sorry
set_option maxHeartbeats 400000 in
set_option maxRecDepth 100000 in
theorem t_DA_commit_0 (l : Launch) (g : Gd) (sz : Nat) (T : Ty) (xs : List Nat) (pl : va_W) (hO : okx g T xs pl) (hU : uni T) (hc0 : clo T xs 0) (hc3 : clo T xs 3) (hc4 : clo T xs 4) (h0 st : Nat) (cn : Int32) (k_h0 : T h0 = some (15, 0)) (k_st : T st = some (43, 0))  : Met l y_DA_commit w_DA_commit ({ frames := 5, cells := 0, slots := 0, locals := 147 } : Room) (va_Pc [.ref h0, .ref st, .int cn] (pr (en g) g.1 vcl sz ([] ++ pl))) (va_Qv (fun (u : va_W) => (True) ∧ okx g T xs u) (po g.1 vcl (va_A ([] ++ pl) sz) (fun (u : va_W) => [] ++ u)) (va_A ([] ++ pl) sz)) 0 0 (va_A ([] ++ pl) sz) := by
  sorry
set_option maxHeartbeats 400000 in
set_option maxRecDepth 100000 in
theorem t_DA_commit_1 (l : Launch) (g : Gd) (sz : Nat) (T : Ty) (xs : List Nat) (pl : va_W) (hO : okx g T xs pl) (hU : uni T) (hc0 : clo T xs 0) (hc3 : clo T xs 3) (hc4 : clo T xs 4) (h0 st : Nat) (cn : Int32) (k_h0 : T h0 = some (15, 0)) (k_st : T st = some (44, 0))  : Met l y_DA_commit w_DA_commit ({ frames := 5, cells := 0, slots := 0, locals := 147 } : Room) (va_Pc [.ref h0, .ref st, .int cn] (pr (en g) g.1 vcl sz ([] ++ pl))) (va_Qv (fun (u : va_W) => (True) ∧ okx g T xs u) (po g.1 vcl (va_A ([] ++ pl) sz) (fun (u : va_W) => [] ++ u)) (va_A ([] ++ pl) sz)) 0 0 (va_A ([] ++ pl) sz) := by
  sorry
set_option maxHeartbeats 400000 in
set_option maxRecDepth 100000 in
theorem t_DA_commit_2 (l : Launch) (g : Gd) (sz : Nat) (T : Ty) (xs : List Nat) (pl : va_W) (hO : okx g T xs pl) (hU : uni T) (hc0 : clo T xs 0) (hc3 : clo T xs 3) (hc4 : clo T xs 4) (h0 st : Nat) (cn : Int32) (k_h0 : T h0 = some (15, 0)) (k_st : T st = some (45, 0))  : Met l y_DA_commit w_DA_commit ({ frames := 5, cells := 0, slots := 0, locals := 147 } : Room) (va_Pc [.ref h0, .ref st, .int cn] (pr (en g) g.1 vcl sz ([] ++ pl))) (va_Qv (fun (u : va_W) => (True) ∧ okx g T xs u) (po g.1 vcl (va_A ([] ++ pl) sz) (fun (u : va_W) => [] ++ u)) (va_A ([] ++ pl) sz)) 0 0 (va_A ([] ++ pl) sz) := by
  sorry
set_option maxHeartbeats 400000 in
set_option maxRecDepth 100000 in
theorem t_DA_makeSignature_0 (l : Launch) (g : Gd) (sz : Nat) (T : Ty) (xs : List Nat) (pl : va_W) (hO : okx g T xs pl) (hU : uni T) (hc0 : clo T xs 0) (hc3 : clo T xs 3) (hc4 : clo T xs 4) (hc20 : clo T xs 20) (h0 st sk tp to n len : Nat) (cl : Int32) (k_h0 : T h0 = some (15, 0)) (k_st : T st = some (43, 0)) (k_sk : T sk = some (1, 2560)) (k_tp : T tp = some (1, n)) (k_to : T to = some (1, 8192)) (h1 : 32 ≤ len) (h3 : len ≤ n) (h2 : n < 65536)  : Met l y_DA_makeSignature w_DA_makeSignature ({ frames := 6, cells := 0, slots := 0, locals := 176 } : Room) (va_Pc [.ref h0, .ref st, .ref sk, .ref tp, .int (nI len), .int cl, .ref to] (pr (en g) g.1 vcl sz ([] ++ pl))) (va_Qi (fun (r : Int32) (u : va_W) => (True) ∧ okx g T xs u) (po g.1 vcl (va_A ([] ++ pl) sz) (fun (u : va_W) => [] ++ u)) (va_A ([] ++ pl) sz)) 0 0 (va_A ([] ++ pl) sz) := by
  sorry
set_option maxHeartbeats 400000 in
set_option maxRecDepth 100000 in
theorem t_DA_makeSignature_1 (l : Launch) (g : Gd) (sz : Nat) (T : Ty) (xs : List Nat) (pl : va_W) (hO : okx g T xs pl) (hU : uni T) (hc0 : clo T xs 0) (hc3 : clo T xs 3) (hc4 : clo T xs 4) (hc20 : clo T xs 20) (h0 st sk tp to n len : Nat) (cl : Int32) (k_h0 : T h0 = some (15, 0)) (k_st : T st = some (44, 0)) (k_sk : T sk = some (1, 4032)) (k_tp : T tp = some (1, n)) (k_to : T to = some (1, 8192)) (h1 : 32 ≤ len) (h3 : len ≤ n) (h2 : n < 65536)  : Met l y_DA_makeSignature w_DA_makeSignature ({ frames := 6, cells := 0, slots := 0, locals := 176 } : Room) (va_Pc [.ref h0, .ref st, .ref sk, .ref tp, .int (nI len), .int cl, .ref to] (pr (en g) g.1 vcl sz ([] ++ pl))) (va_Qi (fun (r : Int32) (u : va_W) => (True) ∧ okx g T xs u) (po g.1 vcl (va_A ([] ++ pl) sz) (fun (u : va_W) => [] ++ u)) (va_A ([] ++ pl) sz)) 0 0 (va_A ([] ++ pl) sz) := by
  sorry
set_option maxHeartbeats 400000 in
set_option maxRecDepth 100000 in
theorem t_DA_makeSignature_2 (l : Launch) (g : Gd) (sz : Nat) (T : Ty) (xs : List Nat) (pl : va_W) (hO : okx g T xs pl) (hU : uni T) (hc0 : clo T xs 0) (hc3 : clo T xs 3) (hc4 : clo T xs 4) (hc20 : clo T xs 20) (h0 st sk tp to n len : Nat) (cl : Int32) (k_h0 : T h0 = some (15, 0)) (k_st : T st = some (45, 0)) (k_sk : T sk = some (1, 4896)) (k_tp : T tp = some (1, n)) (k_to : T to = some (1, 8192)) (h1 : 32 ≤ len) (h3 : len ≤ n) (h2 : n < 65536)  : Met l y_DA_makeSignature w_DA_makeSignature ({ frames := 6, cells := 0, slots := 0, locals := 176 } : Room) (va_Pc [.ref h0, .ref st, .ref sk, .ref tp, .int (nI len), .int cl, .ref to] (pr (en g) g.1 vcl sz ([] ++ pl))) (va_Qi (fun (r : Int32) (u : va_W) => (True) ∧ okx g T xs u) (po g.1 vcl (va_A ([] ++ pl) sz) (fun (u : va_W) => [] ++ u)) (va_A ([] ++ pl) sz)) 0 0 (va_A ([] ++ pl) sz) := by
  sorry
