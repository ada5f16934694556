set_option linter.all false
abbrev c_DA_answerIsShort : ByteArray := prog_3_method_15_code
abbrev y_DA_answerIsShort : MethodName := ⟨"LatticeKeys$Dsa", "answerIsShort", "(LLatticeKeys$DsaSet;)Z"⟩
abbrev w_DA_answerIsShort : List Cond := Cond.code y_DA_answerIsShort c_DA_answerIsShort 3 (some .boolean) :: WG
theorem dDA_answerIsShort_0 : decode c_DA_answerIsShort 0 = .ok (.iconst 0, 1) := by decide +kernel
theorem dDA_answerIsShort_1 : decode c_DA_answerIsShort 1 = .ok (.istore_n 2, 1) := by decide +kernel
theorem dDA_answerIsShort_2 : decode c_DA_answerIsShort 2 = .ok (.iload_n 2, 1) := by decide +kernel
theorem dDA_answerIsShort_3 : decode c_DA_answerIsShort 3 = .ok (.aload_n 1, 1) := by decide +kernel
theorem dDA_answerIsShort_4 : decode c_DA_answerIsShort 4 = .ok (.getfield 96, 3) := by decide +kernel
theorem dDA_answerIsShort_7 : decode c_DA_answerIsShort 7 = .ok (.if_icmp .ge 63, 3) := by decide +kernel
theorem dDA_answerIsShort_10 : decode c_DA_answerIsShort 10 = .ok (.aload_n 0, 1) := by decide +kernel
theorem dDA_answerIsShort_11 : decode c_DA_answerIsShort 11 = .ok (.aload_n 0, 1) := by decide +kernel
theorem dDA_answerIsShort_12 : decode c_DA_answerIsShort 12 = .ok (.getfield 38, 3) := by decide +kernel
theorem dDA_answerIsShort_15 : decode c_DA_answerIsShort 15 = .ok (.iload_n 2, 1) := by decide +kernel
theorem dDA_answerIsShort_16 : decode c_DA_answerIsShort 16 = .ok (.aaload, 1) := by decide +kernel
theorem dDA_answerIsShort_17 : decode c_DA_answerIsShort 17 = .ok (.invokevirtual 230, 3) := by decide +kernel
theorem dDA_answerIsShort_20 : decode c_DA_answerIsShort 20 = .ok (.aload_n 0, 1) := by decide +kernel
theorem dDA_answerIsShort_21 : decode c_DA_answerIsShort 21 = .ok (.getfield 22, 3) := by decide +kernel
theorem dDA_answerIsShort_24 : decode c_DA_answerIsShort 24 = .ok (.aload_n 0, 1) := by decide +kernel
theorem dDA_answerIsShort_25 : decode c_DA_answerIsShort 25 = .ok (.getfield 47, 3) := by decide +kernel
theorem dDA_answerIsShort_28 : decode c_DA_answerIsShort 28 = .ok (.iload_n 2, 1) := by decide +kernel
theorem dDA_answerIsShort_29 : decode c_DA_answerIsShort 29 = .ok (.aaload, 1) := by decide +kernel
theorem dDA_answerIsShort_30 : decode c_DA_answerIsShort 30 = .ok (.aload_n 0, 1) := by decide +kernel
theorem dDA_answerIsShort_31 : decode c_DA_answerIsShort 31 = .ok (.getfield 57, 3) := by decide +kernel
theorem dDA_answerIsShort_34 : decode c_DA_answerIsShort 34 = .ok (.invokevirtual 133, 3) := by decide +kernel
theorem dDA_answerIsShort_37 : decode c_DA_answerIsShort 37 = .ok (.aload_n 0, 1) := by decide +kernel
theorem dDA_answerIsShort_38 : decode c_DA_answerIsShort 38 = .ok (.getfield 22, 3) := by decide +kernel
theorem dDA_answerIsShort_41 : decode c_DA_answerIsShort 41 = .ok (.aload_n 0, 1) := by decide +kernel
theorem dDA_answerIsShort_42 : decode c_DA_answerIsShort 42 = .ok (.getfield 47, 3) := by decide +kernel
theorem dDA_answerIsShort_45 : decode c_DA_answerIsShort 45 = .ok (.iload_n 2, 1) := by decide +kernel
theorem dDA_answerIsShort_46 : decode c_DA_answerIsShort 46 = .ok (.aaload, 1) := by decide +kernel
theorem dDA_answerIsShort_47 : decode c_DA_answerIsShort 47 = .ok (.aload_n 1, 1) := by decide +kernel
theorem dDA_answerIsShort_48 : decode c_DA_answerIsShort 48 = .ok (.getfield 202, 3) := by decide +kernel
theorem dDA_answerIsShort_51 : decode c_DA_answerIsShort 51 = .ok (.aload_n 1, 1) := by decide +kernel
theorem dDA_answerIsShort_52 : decode c_DA_answerIsShort 52 = .ok (.getfield 233, 3) := by decide +kernel
theorem dDA_answerIsShort_55 : decode c_DA_answerIsShort 55 = .ok (.isub, 1) := by decide +kernel
theorem dDA_answerIsShort_56 : decode c_DA_answerIsShort 56 = .ok (.invokevirtual 236, 3) := by decide +kernel
theorem dDA_answerIsShort_59 : decode c_DA_answerIsShort 59 = .ok (.ifCond .ne 5, 3) := by decide +kernel
theorem dDA_answerIsShort_62 : decode c_DA_answerIsShort 62 = .ok (.iconst 0, 1) := by decide +kernel
theorem dDA_answerIsShort_63 : decode c_DA_answerIsShort 63 = .ok (.ireturn, 1) := by decide +kernel
theorem dDA_answerIsShort_64 : decode c_DA_answerIsShort 64 = .ok (.iinc 2 1, 3) := by decide +kernel
theorem dDA_answerIsShort_67 : decode c_DA_answerIsShort 67 = .ok (.goto (-65), 3) := by decide +kernel
theorem dDA_answerIsShort_70 : decode c_DA_answerIsShort 70 = .ok (.iconst 1, 1) := by decide +kernel
theorem dDA_answerIsShort_71 : decode c_DA_answerIsShort 71 = .ok (.ireturn, 1) := by decide +kernel
abbrev c_DA_restIsShort : ByteArray := prog_3_method_16_code
abbrev y_DA_restIsShort : MethodName := ⟨"LatticeKeys$Dsa", "restIsShort", "(LLatticeKeys$DsaSet;)Z"⟩
abbrev w_DA_restIsShort : List Cond := Cond.code y_DA_restIsShort c_DA_restIsShort 6 (some .boolean) :: WG
theorem dDA_restIsShort_0 : decode c_DA_restIsShort 0 = .ok (.aload_n 1, 1) := by decide +kernel
theorem dDA_restIsShort_1 : decode c_DA_restIsShort 1 = .ok (.getfield 240, 3) := by decide +kernel
theorem dDA_restIsShort_4 : decode c_DA_restIsShort 4 = .ok (.aload_n 1, 1) := by decide +kernel
theorem dDA_restIsShort_5 : decode c_DA_restIsShort 5 = .ok (.getfield 233, 3) := by decide +kernel
theorem dDA_restIsShort_8 : decode c_DA_restIsShort 8 = .ok (.isub, 1) := by decide +kernel
theorem dDA_restIsShort_9 : decode c_DA_restIsShort 9 = .ok (.istore_n 2, 1) := by decide +kernel
theorem dDA_restIsShort_10 : decode c_DA_restIsShort 10 = .ok (.iconst 0, 1) := by decide +kernel
theorem dDA_restIsShort_11 : decode c_DA_restIsShort 11 = .ok (.istore_n 3, 1) := by decide +kernel
theorem dDA_restIsShort_12 : decode c_DA_restIsShort 12 = .ok (.iload_n 3, 1) := by decide +kernel
theorem dDA_restIsShort_13 : decode c_DA_restIsShort 13 = .ok (.aload_n 1, 1) := by decide +kernel
theorem dDA_restIsShort_14 : decode c_DA_restIsShort 14 = .ok (.getfield 87, 3) := by decide +kernel
theorem dDA_restIsShort_17 : decode c_DA_restIsShort 17 = .ok (.if_icmp .ge 83, 3) := by decide +kernel
theorem dDA_restIsShort_20 : decode c_DA_restIsShort 20 = .ok (.aload_n 0, 1) := by decide +kernel
theorem dDA_restIsShort_21 : decode c_DA_restIsShort 21 = .ok (.aload_n 0, 1) := by decide +kernel
theorem dDA_restIsShort_22 : decode c_DA_restIsShort 22 = .ok (.getfield 41, 3) := by decide +kernel
theorem dDA_restIsShort_25 : decode c_DA_restIsShort 25 = .ok (.iload_n 3, 1) := by decide +kernel
theorem dDA_restIsShort_26 : decode c_DA_restIsShort 26 = .ok (.aaload, 1) := by decide +kernel
theorem dDA_restIsShort_27 : decode c_DA_restIsShort 27 = .ok (.invokevirtual 230, 3) := by decide +kernel
theorem dDA_restIsShort_30 : decode c_DA_restIsShort 30 = .ok (.aload_n 0, 1) := by decide +kernel
theorem dDA_restIsShort_31 : decode c_DA_restIsShort 31 = .ok (.getfield 22, 3) := by decide +kernel
theorem dDA_restIsShort_34 : decode c_DA_restIsShort 34 = .ok (.aload_n 0, 1) := by decide +kernel
theorem dDA_restIsShort_35 : decode c_DA_restIsShort 35 = .ok (.getfield 50, 3) := by decide +kernel
theorem dDA_restIsShort_38 : decode c_DA_restIsShort 38 = .ok (.iload_n 3, 1) := by decide +kernel
theorem dDA_restIsShort_39 : decode c_DA_restIsShort 39 = .ok (.aaload, 1) := by decide +kernel
theorem dDA_restIsShort_40 : decode c_DA_restIsShort 40 = .ok (.aload_n 0, 1) := by decide +kernel
theorem dDA_restIsShort_41 : decode c_DA_restIsShort 41 = .ok (.getfield 57, 3) := by decide +kernel
theorem dDA_restIsShort_44 : decode c_DA_restIsShort 44 = .ok (.invokevirtual 243, 3) := by decide +kernel
theorem dDA_restIsShort_47 : decode c_DA_restIsShort 47 = .ok (.iconst 0, 1) := by decide +kernel
theorem dDA_restIsShort_48 : decode c_DA_restIsShort 48 = .ok (.istore 4, 2) := by decide +kernel
theorem dDA_restIsShort_50 : decode c_DA_restIsShort 50 = .ok (.iload 4, 2) := by decide +kernel
theorem dDA_restIsShort_52 : decode c_DA_restIsShort 52 = .ok (.sipush 256, 3) := by decide +kernel
theorem dDA_restIsShort_55 : decode c_DA_restIsShort 55 = .ok (.if_icmp .ge 39, 3) := by decide +kernel
theorem dDA_restIsShort_58 : decode c_DA_restIsShort 58 = .ok (.aload_n 1, 1) := by decide +kernel
theorem dDA_restIsShort_59 : decode c_DA_restIsShort 59 = .ok (.aload_n 0, 1) := by decide +kernel
theorem dDA_restIsShort_60 : decode c_DA_restIsShort 60 = .ok (.getfield 50, 3) := by decide +kernel
theorem dDA_restIsShort_63 : decode c_DA_restIsShort 63 = .ok (.iload_n 3, 1) := by decide +kernel
theorem dDA_restIsShort_64 : decode c_DA_restIsShort 64 = .ok (.aaload, 1) := by decide +kernel
theorem dDA_restIsShort_65 : decode c_DA_restIsShort 65 = .ok (.iload 4, 2) := by decide +kernel
theorem dDA_restIsShort_67 : decode c_DA_restIsShort 67 = .ok (.iaload, 1) := by decide +kernel
theorem dDA_restIsShort_68 : decode c_DA_restIsShort 68 = .ok (.invokevirtual 246, 3) := by decide +kernel
theorem dDA_restIsShort_71 : decode c_DA_restIsShort 71 = .ok (.istore 5, 2) := by decide +kernel
theorem dDA_restIsShort_73 : decode c_DA_restIsShort 73 = .ok (.iload 5, 2) := by decide +kernel
theorem dDA_restIsShort_75 : decode c_DA_restIsShort 75 = .ok (.iload_n 2, 1) := by decide +kernel
theorem dDA_restIsShort_76 : decode c_DA_restIsShort 76 = .ok (.if_icmp .ge 10, 3) := by decide +kernel
theorem dDA_restIsShort_79 : decode c_DA_restIsShort 79 = .ok (.iload 5, 2) := by decide +kernel
theorem dDA_restIsShort_81 : decode c_DA_restIsShort 81 = .ok (.iload_n 2, 1) := by decide +kernel
theorem dDA_restIsShort_82 : decode c_DA_restIsShort 82 = .ok (.ineg, 1) := by decide +kernel
theorem dDA_restIsShort_83 : decode c_DA_restIsShort 83 = .ok (.if_icmp .gt 5, 3) := by decide +kernel
theorem dDA_restIsShort_86 : decode c_DA_restIsShort 86 = .ok (.iconst 0, 1) := by decide +kernel
theorem dDA_restIsShort_87 : decode c_DA_restIsShort 87 = .ok (.ireturn, 1) := by decide +kernel
theorem dDA_restIsShort_88 : decode c_DA_restIsShort 88 = .ok (.iinc 4 1, 3) := by decide +kernel
theorem dDA_restIsShort_91 : decode c_DA_restIsShort 91 = .ok (.goto (-41), 3) := by decide +kernel
theorem dDA_restIsShort_94 : decode c_DA_restIsShort 94 = .ok (.iinc 3 1, 3) := by decide +kernel
theorem dDA_restIsShort_97 : decode c_DA_restIsShort 97 = .ok (.goto (-85), 3) := by decide +kernel
theorem dDA_restIsShort_100 : decode c_DA_restIsShort 100 = .ok (.iconst 1, 1) := by decide +kernel
theorem dDA_restIsShort_101 : decode c_DA_restIsShort 101 = .ok (.ireturn, 1) := by decide +kernel
abbrev c_DA_makeHints : ByteArray := prog_3_method_17_code
abbrev y_DA_makeHints : MethodName := ⟨"LatticeKeys$Dsa", "makeHints", "(LLatticeKeys$DsaSet;)Z"⟩
abbrev w_DA_makeHints : List Cond := Cond.code y_DA_makeHints c_DA_makeHints 5 (some .boolean) :: WG
theorem dDA_makeHints_0 : decode c_DA_makeHints 0 = .ok (.aload_n 0, 1) := by decide +kernel
theorem dDA_makeHints_1 : decode c_DA_makeHints 1 = .ok (.getfield 73, 3) := by decide +kernel
theorem dDA_makeHints_4 : decode c_DA_makeHints 4 = .ok (.iconst 0, 1) := by decide +kernel
theorem dDA_makeHints_5 : decode c_DA_makeHints 5 = .ok (.invokestatic 249, 3) := by decide +kernel
theorem dDA_makeHints_8 : decode c_DA_makeHints 8 = .ok (.iconst 0, 1) := by decide +kernel
theorem dDA_makeHints_9 : decode c_DA_makeHints 9 = .ok (.istore_n 2, 1) := by decide +kernel
theorem dDA_makeHints_10 : decode c_DA_makeHints 10 = .ok (.iconst 0, 1) := by decide +kernel
theorem dDA_makeHints_11 : decode c_DA_makeHints 11 = .ok (.istore_n 3, 1) := by decide +kernel
theorem dDA_makeHints_12 : decode c_DA_makeHints 12 = .ok (.iload_n 3, 1) := by decide +kernel
theorem dDA_makeHints_13 : decode c_DA_makeHints 13 = .ok (.aload_n 1, 1) := by decide +kernel
theorem dDA_makeHints_14 : decode c_DA_makeHints 14 = .ok (.getfield 87, 3) := by decide +kernel
theorem dDA_makeHints_17 : decode c_DA_makeHints 17 = .ok (.if_icmp .ge 135, 3) := by decide +kernel
theorem dDA_makeHints_20 : decode c_DA_makeHints 20 = .ok (.aload_n 0, 1) := by decide +kernel
theorem dDA_makeHints_21 : decode c_DA_makeHints 21 = .ok (.aload_n 0, 1) := by decide +kernel
theorem dDA_makeHints_22 : decode c_DA_makeHints 22 = .ok (.getfield 44, 3) := by decide +kernel
theorem dDA_makeHints_25 : decode c_DA_makeHints 25 = .ok (.iload_n 3, 1) := by decide +kernel
theorem dDA_makeHints_26 : decode c_DA_makeHints 26 = .ok (.aaload, 1) := by decide +kernel
theorem dDA_makeHints_27 : decode c_DA_makeHints 27 = .ok (.invokevirtual 230, 3) := by decide +kernel
theorem dDA_makeHints_30 : decode c_DA_makeHints 30 = .ok (.aload_n 0, 1) := by decide +kernel
theorem dDA_makeHints_31 : decode c_DA_makeHints 31 = .ok (.getfield 22, 3) := by decide +kernel
theorem dDA_makeHints_34 : decode c_DA_makeHints 34 = .ok (.aload_n 0, 1) := by decide +kernel
theorem dDA_makeHints_35 : decode c_DA_makeHints 35 = .ok (.getfield 57, 3) := by decide +kernel
theorem dDA_makeHints_38 : decode c_DA_makeHints 38 = .ok (.aload_n 1, 1) := by decide +kernel
theorem dDA_makeHints_39 : decode c_DA_makeHints 39 = .ok (.getfield 240, 3) := by decide +kernel
theorem dDA_makeHints_42 : decode c_DA_makeHints 42 = .ok (.invokevirtual 236, 3) := by decide +kernel
theorem dDA_makeHints_45 : decode c_DA_makeHints 45 = .ok (.ifCond .ne 5, 3) := by decide +kernel
theorem dDA_makeHints_48 : decode c_DA_makeHints 48 = .ok (.iconst 0, 1) := by decide +kernel
theorem dDA_makeHints_49 : decode c_DA_makeHints 49 = .ok (.ireturn, 1) := by decide +kernel
theorem dDA_makeHints_50 : decode c_DA_makeHints 50 = .ok (.aload_n 0, 1) := by decide +kernel
theorem dDA_makeHints_51 : decode c_DA_makeHints 51 = .ok (.getfield 22, 3) := by decide +kernel
theorem dDA_makeHints_54 : decode c_DA_makeHints 54 = .ok (.aload_n 0, 1) := by decide +kernel
theorem dDA_makeHints_55 : decode c_DA_makeHints 55 = .ok (.getfield 57, 3) := by decide +kernel
theorem dDA_makeHints_58 : decode c_DA_makeHints 58 = .ok (.aload_n 0, 1) := by decide +kernel
theorem dDA_makeHints_59 : decode c_DA_makeHints 59 = .ok (.getfield 50, 3) := by decide +kernel
theorem dDA_makeHints_62 : decode c_DA_makeHints 62 = .ok (.iload_n 3, 1) := by decide +kernel
theorem dDA_makeHints_63 : decode c_DA_makeHints 63 = .ok (.aaload, 1) := by decide +kernel
theorem dDA_makeHints_64 : decode c_DA_makeHints 64 = .ok (.invokevirtual 133, 3) := by decide +kernel
theorem dDA_makeHints_67 : decode c_DA_makeHints 67 = .ok (.iconst 0, 1) := by decide +kernel
theorem dDA_makeHints_68 : decode c_DA_makeHints 68 = .ok (.istore 4, 2) := by decide +kernel
theorem dDA_makeHints_70 : decode c_DA_makeHints 70 = .ok (.iload 4, 2) := by decide +kernel
theorem dDA_makeHints_72 : decode c_DA_makeHints 72 = .ok (.sipush 256, 3) := by decide +kernel
theorem dDA_makeHints_75 : decode c_DA_makeHints 75 = .ok (.if_icmp .ge 58, 3) := by decide +kernel
theorem dDA_makeHints_78 : decode c_DA_makeHints 78 = .ok (.aload_n 1, 1) := by decide +kernel
theorem dDA_makeHints_79 : decode c_DA_makeHints 79 = .ok (.aload_n 0, 1) := by decide +kernel
theorem dDA_makeHints_80 : decode c_DA_makeHints 80 = .ok (.getfield 57, 3) := by decide +kernel
theorem dDA_makeHints_83 : decode c_DA_makeHints 83 = .ok (.iload 4, 2) := by decide +kernel
theorem dDA_makeHints_85 : decode c_DA_makeHints 85 = .ok (.iaload, 1) := by decide +kernel
theorem dDA_makeHints_86 : decode c_DA_makeHints 86 = .ok (.invokevirtual 212, 3) := by decide +kernel
theorem dDA_makeHints_89 : decode c_DA_makeHints 89 = .ok (.aload_n 1, 1) := by decide +kernel
theorem dDA_makeHints_90 : decode c_DA_makeHints 90 = .ok (.aload_n 0, 1) := by decide +kernel
theorem dDA_makeHints_91 : decode c_DA_makeHints 91 = .ok (.getfield 50, 3) := by decide +kernel
theorem dDA_makeHints_94 : decode c_DA_makeHints 94 = .ok (.iload_n 3, 1) := by decide +kernel
theorem dDA_makeHints_95 : decode c_DA_makeHints 95 = .ok (.aaload, 1) := by decide +kernel
theorem dDA_makeHints_96 : decode c_DA_makeHints 96 = .ok (.iload 4, 2) := by decide +kernel
theorem dDA_makeHints_98 : decode c_DA_makeHints 98 = .ok (.iaload, 1) := by decide +kernel
theorem dDA_makeHints_99 : decode c_DA_makeHints 99 = .ok (.invokevirtual 212, 3) := by decide +kernel
theorem dDA_makeHints_102 : decode c_DA_makeHints 102 = .ok (.if_icmp .eq 25, 3) := by decide +kernel
theorem dDA_makeHints_105 : decode c_DA_makeHints 105 = .ok (.iload_n 2, 1) := by decide +kernel
theorem dDA_makeHints_106 : decode c_DA_makeHints 106 = .ok (.aload_n 1, 1) := by decide +kernel
theorem dDA_makeHints_107 : decode c_DA_makeHints 107 = .ok (.getfield 252, 3) := by decide +kernel
theorem dDA_makeHints_110 : decode c_DA_makeHints 110 = .ok (.if_icmp .lt 5, 3) := by decide +kernel
theorem dDA_makeHints_113 : decode c_DA_makeHints 113 = .ok (.iconst 0, 1) := by decide +kernel
theorem dDA_makeHints_114 : decode c_DA_makeHints 114 = .ok (.ireturn, 1) := by decide +kernel
theorem dDA_makeHints_115 : decode c_DA_makeHints 115 = .ok (.aload_n 0, 1) := by decide +kernel
theorem dDA_makeHints_116 : decode c_DA_makeHints 116 = .ok (.getfield 73, 3) := by decide +kernel
theorem dDA_makeHints_119 : decode c_DA_makeHints 119 = .ok (.iload_n 2, 1) := by decide +kernel
theorem dDA_makeHints_120 : decode c_DA_makeHints 120 = .ok (.iload 4, 2) := by decide +kernel
theorem dDA_makeHints_122 : decode c_DA_makeHints 122 = .ok (.i2b, 1) := by decide +kernel
theorem dDA_makeHints_123 : decode c_DA_makeHints 123 = .ok (.bastore, 1) := by decide +kernel
theorem dDA_makeHints_124 : decode c_DA_makeHints 124 = .ok (.iinc 2 1, 3) := by decide +kernel
theorem dDA_makeHints_127 : decode c_DA_makeHints 127 = .ok (.iinc 4 1, 3) := by decide +kernel
theorem dDA_makeHints_130 : decode c_DA_makeHints 130 = .ok (.goto (-60), 3) := by decide +kernel
theorem dDA_makeHints_133 : decode c_DA_makeHints 133 = .ok (.aload_n 0, 1) := by decide +kernel
theorem dDA_makeHints_134 : decode c_DA_makeHints 134 = .ok (.getfield 73, 3) := by decide +kernel
theorem dDA_makeHints_137 : decode c_DA_makeHints 137 = .ok (.aload_n 1, 1) := by decide +kernel
theorem dDA_makeHints_138 : decode c_DA_makeHints 138 = .ok (.getfield 252, 3) := by decide +kernel
theorem dDA_makeHints_141 : decode c_DA_makeHints 141 = .ok (.iload_n 3, 1) := by decide +kernel
theorem dDA_makeHints_142 : decode c_DA_makeHints 142 = .ok (.iadd, 1) := by decide +kernel
theorem dDA_makeHints_143 : decode c_DA_makeHints 143 = .ok (.iload_n 2, 1) := by decide +kernel
theorem dDA_makeHints_144 : decode c_DA_makeHints 144 = .ok (.i2b, 1) := by decide +kernel
theorem dDA_makeHints_145 : decode c_DA_makeHints 145 = .ok (.bastore, 1) := by decide +kernel
theorem dDA_makeHints_146 : decode c_DA_makeHints 146 = .ok (.iinc 3 1, 3) := by decide +kernel
theorem dDA_makeHints_149 : decode c_DA_makeHints 149 = .ok (.goto (-137), 3) := by decide +kernel
theorem dDA_makeHints_152 : decode c_DA_makeHints 152 = .ok (.iconst 1, 1) := by decide +kernel
theorem dDA_makeHints_153 : decode c_DA_makeHints 153 = .ok (.ireturn, 1) := by decide +kernel
abbrev c_DA_writeSignature : ByteArray := prog_3_method_18_code
abbrev y_DA_writeSignature : MethodName := ⟨"LatticeKeys$Dsa", "writeSignature", "(LLatticeKeys$DsaSet;[B)V"⟩
abbrev w_DA_writeSignature : List Cond := Cond.code y_DA_writeSignature c_DA_writeSignature 4 none :: WG
theorem dDA_writeSignature_0 : decode c_DA_writeSignature 0 = .ok (.aload_n 0, 1) := by decide +kernel
theorem dDA_writeSignature_1 : decode c_DA_writeSignature 1 = .ok (.getfield 67, 3) := by decide +kernel
theorem dDA_writeSignature_4 : decode c_DA_writeSignature 4 = .ok (.iconst 0, 1) := by decide +kernel
theorem dDA_writeSignature_5 : decode c_DA_writeSignature 5 = .ok (.aload_n 2, 1) := by decide +kernel
theorem dDA_writeSignature_6 : decode c_DA_writeSignature 6 = .ok (.iconst 0, 1) := by decide +kernel
theorem dDA_writeSignature_7 : decode c_DA_writeSignature 7 = .ok (.aload_n 1, 1) := by decide +kernel
theorem dDA_writeSignature_8 : decode c_DA_writeSignature 8 = .ok (.getfield 220, 3) := by decide +kernel
theorem dDA_writeSignature_11 : decode c_DA_writeSignature 11 = .ok (.invokestatic 105, 3) := by decide +kernel
theorem dDA_writeSignature_14 : decode c_DA_writeSignature 14 = .ok (.iconst 0, 1) := by decide +kernel
theorem dDA_writeSignature_15 : decode c_DA_writeSignature 15 = .ok (.istore_n 3, 1) := by decide +kernel
theorem dDA_writeSignature_16 : decode c_DA_writeSignature 16 = .ok (.iload_n 3, 1) := by decide +kernel
theorem dDA_writeSignature_17 : decode c_DA_writeSignature 17 = .ok (.aload_n 1, 1) := by decide +kernel
theorem dDA_writeSignature_18 : decode c_DA_writeSignature 18 = .ok (.getfield 96, 3) := by decide +kernel
theorem dDA_writeSignature_21 : decode c_DA_writeSignature 21 = .ok (.if_icmp .ge 56, 3) := by decide +kernel
theorem dDA_writeSignature_24 : decode c_DA_writeSignature 24 = .ok (.aload_n 0, 1) := by decide +kernel
theorem dDA_writeSignature_25 : decode c_DA_writeSignature 25 = .ok (.getfield 22, 3) := by decide +kernel
theorem dDA_writeSignature_28 : decode c_DA_writeSignature 28 = .ok (.aload_n 0, 1) := by decide +kernel
theorem dDA_writeSignature_29 : decode c_DA_writeSignature 29 = .ok (.getfield 47, 3) := by decide +kernel
theorem dDA_writeSignature_32 : decode c_DA_writeSignature 32 = .ok (.iload_n 3, 1) := by decide +kernel
theorem dDA_writeSignature_33 : decode c_DA_writeSignature 33 = .ok (.aaload, 1) := by decide +kernel
theorem dDA_writeSignature_34 : decode c_DA_writeSignature 34 = .ok (.aload_n 1, 1) := by decide +kernel
theorem dDA_writeSignature_35 : decode c_DA_writeSignature 35 = .ok (.getfield 202, 3) := by decide +kernel
theorem dDA_writeSignature_38 : decode c_DA_writeSignature 38 = .ok (.aload_n 0, 1) := by decide +kernel
theorem dDA_writeSignature_39 : decode c_DA_writeSignature 39 = .ok (.getfield 57, 3) := by decide +kernel
theorem dDA_writeSignature_42 : decode c_DA_writeSignature 42 = .ok (.invokevirtual 157, 3) := by decide +kernel
theorem dDA_writeSignature_45 : decode c_DA_writeSignature 45 = .ok (.aload_n 0, 1) := by decide +kernel
theorem dDA_writeSignature_46 : decode c_DA_writeSignature 46 = .ok (.getfield 57, 3) := by decide +kernel
theorem dDA_writeSignature_49 : decode c_DA_writeSignature 49 = .ok (.aload_n 1, 1) := by decide +kernel
theorem dDA_writeSignature_50 : decode c_DA_writeSignature 50 = .ok (.getfield 255, 3) := by decide +kernel
theorem dDA_writeSignature_53 : decode c_DA_writeSignature 53 = .ok (.aload_n 2, 1) := by decide +kernel
theorem dDA_writeSignature_54 : decode c_DA_writeSignature 54 = .ok (.aload_n 1, 1) := by decide +kernel
theorem dDA_writeSignature_55 : decode c_DA_writeSignature 55 = .ok (.getfield 220, 3) := by decide +kernel
theorem dDA_writeSignature_58 : decode c_DA_writeSignature 58 = .ok (.bipush 32, 2) := by decide +kernel
theorem dDA_writeSignature_60 : decode c_DA_writeSignature 60 = .ok (.aload_n 1, 1) := by decide +kernel
theorem dDA_writeSignature_61 : decode c_DA_writeSignature 61 = .ok (.getfield 255, 3) := by decide +kernel
theorem dDA_writeSignature_64 : decode c_DA_writeSignature 64 = .ok (.imul, 1) := by decide +kernel
theorem dDA_writeSignature_65 : decode c_DA_writeSignature 65 = .ok (.iload_n 3, 1) := by decide +kernel
theorem dDA_writeSignature_66 : decode c_DA_writeSignature 66 = .ok (.imul, 1) := by decide +kernel
theorem dDA_writeSignature_67 : decode c_DA_writeSignature 67 = .ok (.iadd, 1) := by decide +kernel
theorem dDA_writeSignature_68 : decode c_DA_writeSignature 68 = .ok (.invokestatic 140, 3) := by decide +kernel
theorem dDA_writeSignature_71 : decode c_DA_writeSignature 71 = .ok (.iinc 3 1, 3) := by decide +kernel
theorem dDA_writeSignature_74 : decode c_DA_writeSignature 74 = .ok (.goto (-58), 3) := by decide +kernel
theorem dDA_writeSignature_77 : decode c_DA_writeSignature 77 = .ok (.aload_n 0, 1) := by decide +kernel
theorem dDA_writeSignature_78 : decode c_DA_writeSignature 78 = .ok (.getfield 73, 3) := by decide +kernel
theorem dDA_writeSignature_81 : decode c_DA_writeSignature 81 = .ok (.iconst 0, 1) := by decide +kernel
theorem dDA_writeSignature_82 : decode c_DA_writeSignature 82 = .ok (.aload_n 2, 1) := by decide +kernel
theorem dDA_writeSignature_83 : decode c_DA_writeSignature 83 = .ok (.aload_n 1, 1) := by decide +kernel
theorem dDA_writeSignature_84 : decode c_DA_writeSignature 84 = .ok (.getfield 258, 3) := by decide +kernel
theorem dDA_writeSignature_87 : decode c_DA_writeSignature 87 = .ok (.aload_n 1, 1) := by decide +kernel
theorem dDA_writeSignature_88 : decode c_DA_writeSignature 88 = .ok (.getfield 252, 3) := by decide +kernel
theorem dDA_writeSignature_91 : decode c_DA_writeSignature 91 = .ok (.aload_n 1, 1) := by decide +kernel
theorem dDA_writeSignature_92 : decode c_DA_writeSignature 92 = .ok (.getfield 87, 3) := by decide +kernel
theorem dDA_writeSignature_95 : decode c_DA_writeSignature 95 = .ok (.iadd, 1) := by decide +kernel
theorem dDA_writeSignature_96 : decode c_DA_writeSignature 96 = .ok (.invokestatic 105, 3) := by decide +kernel
theorem dDA_writeSignature_99 : decode c_DA_writeSignature 99 = .ok (.return_, 1) := by decide +kernel
abbrev c_DA_startChallenge : ByteArray := prog_3_method_11_code
abbrev y_DA_startChallenge : MethodName := ⟨"LatticeKeys$Dsa", "startChallenge", "()V"⟩
abbrev w_DA_startChallenge : List Cond := Cond.code y_DA_startChallenge c_DA_startChallenge 1 none :: WG
theorem dDA_startChallenge_0 : decode c_DA_startChallenge 0 = .ok (.aload_n 0, 1) := by decide +kernel
theorem dDA_startChallenge_1 : decode c_DA_startChallenge 1 = .ok (.getfield 10, 3) := by decide +kernel
theorem dDA_startChallenge_4 : decode c_DA_startChallenge 4 = .ok (.iconst 3, 1) := by decide +kernel
theorem dDA_startChallenge_5 : decode c_DA_startChallenge 5 = .ok (.invokevirtual 79, 3) := by decide +kernel
theorem dDA_startChallenge_8 : decode c_DA_startChallenge 8 = .ok (.aload_n 0, 1) := by decide +kernel
theorem dDA_startChallenge_9 : decode c_DA_startChallenge 9 = .ok (.getfield 10, 3) := by decide +kernel
theorem dDA_startChallenge_12 : decode c_DA_startChallenge 12 = .ok (.aload_n 0, 1) := by decide +kernel
theorem dDA_startChallenge_13 : decode c_DA_startChallenge 13 = .ok (.getfield 64, 3) := by decide +kernel
theorem dDA_startChallenge_16 : decode c_DA_startChallenge 16 = .ok (.iconst 0, 1) := by decide +kernel
theorem dDA_startChallenge_17 : decode c_DA_startChallenge 17 = .ok (.bipush 64, 2) := by decide +kernel
theorem dDA_startChallenge_19 : decode c_DA_startChallenge 19 = .ok (.invokevirtual 83, 3) := by decide +kernel
theorem dDA_startChallenge_22 : decode c_DA_startChallenge 22 = .ok (.return_, 1) := by decide +kernel
abbrev c_DA_absorbHigh : ByteArray := prog_3_method_12_code
abbrev y_DA_absorbHigh : MethodName := ⟨"LatticeKeys$Dsa", "absorbHigh", "(LLatticeKeys$DsaSet;)V"⟩
abbrev w_DA_absorbHigh : List Cond := Cond.code y_DA_absorbHigh c_DA_absorbHigh 2 none :: WG
theorem dDA_absorbHigh_0 : decode c_DA_absorbHigh 0 = .ok (.aload_n 0, 1) := by decide +kernel
theorem dDA_absorbHigh_1 : decode c_DA_absorbHigh 1 = .ok (.getfield 57, 3) := by decide +kernel
theorem dDA_absorbHigh_4 : decode c_DA_absorbHigh 4 = .ok (.aload_n 1, 1) := by decide +kernel
theorem dDA_absorbHigh_5 : decode c_DA_absorbHigh 5 = .ok (.getfield 227, 3) := by decide +kernel
theorem dDA_absorbHigh_8 : decode c_DA_absorbHigh 8 = .ok (.aload_n 0, 1) := by decide +kernel
theorem dDA_absorbHigh_9 : decode c_DA_absorbHigh 9 = .ok (.getfield 76, 3) := by decide +kernel
theorem dDA_absorbHigh_12 : decode c_DA_absorbHigh 12 = .ok (.iconst 0, 1) := by decide +kernel
theorem dDA_absorbHigh_13 : decode c_DA_absorbHigh 13 = .ok (.invokestatic 140, 3) := by decide +kernel
theorem dDA_absorbHigh_16 : decode c_DA_absorbHigh 16 = .ok (.aload_n 0, 1) := by decide +kernel
theorem dDA_absorbHigh_17 : decode c_DA_absorbHigh 17 = .ok (.getfield 10, 3) := by decide +kernel
theorem dDA_absorbHigh_20 : decode c_DA_absorbHigh 20 = .ok (.aload_n 0, 1) := by decide +kernel
theorem dDA_absorbHigh_21 : decode c_DA_absorbHigh 21 = .ok (.getfield 76, 3) := by decide +kernel
theorem dDA_absorbHigh_24 : decode c_DA_absorbHigh 24 = .ok (.iconst 0, 1) := by decide +kernel
theorem dDA_absorbHigh_25 : decode c_DA_absorbHigh 25 = .ok (.bipush 32, 2) := by decide +kernel
theorem dDA_absorbHigh_27 : decode c_DA_absorbHigh 27 = .ok (.aload_n 1, 1) := by decide +kernel
theorem dDA_absorbHigh_28 : decode c_DA_absorbHigh 28 = .ok (.getfield 227, 3) := by decide +kernel
theorem dDA_absorbHigh_31 : decode c_DA_absorbHigh 31 = .ok (.imul, 1) := by decide +kernel
theorem dDA_absorbHigh_32 : decode c_DA_absorbHigh 32 = .ok (.invokevirtual 83, 3) := by decide +kernel
theorem dDA_absorbHigh_35 : decode c_DA_absorbHigh 35 = .ok (.return_, 1) := by decide +kernel
def M_DA_answerIsShort_0 (k : Nat) : Prop := (124 ≤ k ∧ k < 131) ∨ k = 141 ∨ (0 : Nat) = 1
noncomputable def F_DA_answerIsShort_0_L0 : Nat → Nat → Sto → Int32 × Sto
  | 0, i21, s21 => (nI 1, s21)
  | n21 + 1, i21, s21 => bnd (F_DA_multiplyBall (98 + i21) s21) fun s22 => bnd (F_RG_add_8 (124 + i21) 141 s22) fun s23 => bnd (F_RG_isShort_8 (124 + i21) (nI 130994) s23) fun q21 => if (q21.1) = 0 then (nI 0, q21.2) else F_DA_answerIsShort_0_L0  n21 (i21 + 1) q21.2
noncomputable def F_DA_answerIsShort_0 (s : Sto) : Int32 × Sto := F_DA_answerIsShort_0_L0 4 0 s
set_option maxHeartbeats 8000000 in
set_option maxRecDepth 100000 in
theorem N_DA_answerIsShort_0 (l : Launch) (g : Gd) (sz : Nat) (T : TyN) (s : Sto) (pl : va_W) (hO : okn g T s pl) (hU : inj T) (h0 st : Nat) (k_h0 : T h0 = some 39) (k_st : T st = some 9)  : Met l y_DA_answerIsShort w_DA_answerIsShort ({ frames := 3, cells := 0, slots := 0, locals := 74 } : Room) (va_Pc [.ref h0, .ref st] (pr (en g) g.1 vcl sz ([] ++ pl))) (va_Qi (fun (r : Int32) (u : (Int32 × Sto) × va_W) => (u.1 = F_DA_answerIsShort_0 s ∧ r = u.1.1 ∧ frm (M_DA_answerIsShort_0) s u.1.2 ∧ True) ∧ okn g T u.1.2 u.2) (po g.1 vcl (va_A ([] ++ pl) sz) (fun (u : (Int32 × Sto) × va_W) => [] ++ u.2)) (va_A ([] ++ pl) sz)) 0 0 (va_A ([] ++ pl) sz) := by
  refine mc_entry (cc := c_DA_answerIsShort) (maxL := 3) (ret := (some .boolean)) (by decide) rfl (Nat.le_of_ble_eq_true rfl) ?_
  intro p e s0 m args below meth c ls F hr hlk hnm hsz hP hD hE hA hl
  obtain ⟨hx, hb, hml, hown, hts⟩ := id F
  have hK := hE.1
  generalize va_A ([] ++ pl) sz = A at hD hE hA ⊢
  have hS : va_S A s0.heap s0.heap [] := va_S.rf
  have hl : lv_has ls 3 [(0, .ref h0), (1, .ref st)] := hl
  have hR : F_DA_answerIsShort_0 s = F_DA_answerIsShort_0 s := rfl
  have hF : frm (M_DA_answerIsShort_0) s s := frm_rf
  refine lv_iconst (v := nI 0) hx hb dDA_answerIsShort_0 (by decide) ?_
  refine lv_istore_n (lv' := [(2, .int (nI 0)), (0, .ref h0), (1, .ref st)]) hx hb dDA_answerIsShort_1 rfl hl (by decide) rfl (fun ls hl => ?_)
  have lp21 : ∀ (n21 : Nat) (i21 : Nat) (s21 : Sto) (pl : va_W) (ls : Array Slot) (H : Heap) (locs : List Loc), n21 + i21 = 4 → frm (M_DA_answerIsShort_0) s s21 → F_DA_answerIsShort_0 s = F_DA_answerIsShort_0_L0 n21 i21 s21 → lv_has ls 3 [(2, .int (nI i21)), (0, .ref h0), (1, .ref st)] → okn g T s21 pl → va_P g.1 vcl ([] ++ pl) H → va_D A ([] ++ pl) → va_S A s0.heap H locs → W p l e ({ frames := 3, cells := 0, slots := 0, locals := 74 } : Room) s0 m args below meth c H locs 0 0 (MQ below (va_Qi (fun (r : Int32) (u : (Int32 × Sto) × va_W) => (u.1 = F_DA_answerIsShort_0 s ∧ r = u.1.1 ∧ frm (M_DA_answerIsShort_0) s u.1.2 ∧ True) ∧ okn g T u.1.2 u.2) (po g.1 vcl A (fun (u : (Int32 × Sto) × va_W) => [] ++ u.2)) A) args s0 0 0 A) (F0 m 2 ls []) := by
    intro n21
    induction n21 with
    | zero =>
      intro i21 s21 pl ls H locs hm21 hF hR hl hO hP hD hS
      refine lv_iload_n hx hb dDA_answerIsShort_2 rfl (lv_at hl 0 rfl) ?_
      refine lv_aload_n hx hb dDA_answerIsShort_3 rfl (lv_at hl 2 rfl) ?_
      refine nw_get (C := "LatticeKeys$DsaSet") (TT := T_DS) (N := 17) hx hb hts (wg_ft i_DS) hown hK hO k_st (kn := 9) (ci := 2) (fl := [(1, 4), (1, 4), (1, 2), (1, 3), (1, 39), (1, 32), (1, 18), (1, 131072), (1, 44), (1, 6), (1, 95232), (1, 80), (1, 78), (1, 1312), (1, 2560), (1, 2336), (1, 2420)]) rfl hP rfl 1 (by decide) (hts _ (wg_t kw_305)) (fun _ h9 => h9) (cd := (1, 4)) rfl dDA_answerIsShort_4 (fun v21 hv21 => ?_)
      obtain rfl := (show v21 = .int (nI 4) from hv21)
      refine mi_ge (tgt := 70) hx hb dDA_answerIsShort_7 (by decide) (by omega) (by omega) (fun h21 => ?_) (fun h21 => absurd h21 (by omega))
      refine lv_iconst (v := nI 1) hx hb dDA_answerIsShort_70 (by decide) ?_
      exact mp_zret hx hb hr hlk rfl hP hD hS ((nI 1, s21), pl) ⟨⟨hR.symm, rfl, hF, trivial⟩, hO⟩ [] rfl rfl rfl (by omega) (by omega) dDA_answerIsShort_71
    | succ n21 ih21 =>
      intro i21 s21 pl ls H locs hm21 hF hR hl hO hP hD hS
      refine lv_iload_n hx hb dDA_answerIsShort_2 rfl (lv_at hl 0 rfl) ?_
      refine lv_aload_n hx hb dDA_answerIsShort_3 rfl (lv_at hl 2 rfl) ?_
      refine nw_get (C := "LatticeKeys$DsaSet") (TT := T_DS) (N := 17) hx hb hts (wg_ft i_DS) hown hK hO k_st (kn := 9) (ci := 2) (fl := [(1, 4), (1, 4), (1, 2), (1, 3), (1, 39), (1, 32), (1, 18), (1, 131072), (1, 44), (1, 6), (1, 95232), (1, 80), (1, 78), (1, 1312), (1, 2560), (1, 2336), (1, 2420)]) rfl hP rfl 1 (by decide) (hts _ (wg_t kw_305)) (fun _ h9 => h9) (cd := (1, 4)) rfl dDA_answerIsShort_4 (fun v22 hv22 => ?_)
      obtain rfl := (show v22 = .int (nI 4) from hv22)
      refine mi_ge (tgt := 70) hx hb dDA_answerIsShort_7 (by decide) (by omega) (by omega) (fun h22 => absurd h22 (by omega)) (fun h22 => ?_)
      refine lv_aload_n hx hb dDA_answerIsShort_10 rfl (lv_at hl 1 rfl) ?_
      refine lv_aload_n hx hb dDA_answerIsShort_11 rfl (lv_at hl 1 rfl) ?_
      refine nw_get (C := "LatticeKeys$Dsa") (TT := T_DA) (N := 17) hx hb hts (wg_ft i_DA) hown hK hO k_h0 (kn := 39) (ci := 6) (fl := [(3, 16), (3, 22), (3, 37), (3, 40), (3, 97), (3, 105), (3, 114), (3, 123), (3, 131), (3, 140), (3, 141), (3, 142), (3, 143), (3, 144), (3, 145), (3, 146), (3, 147)]) rfl hP rfl 4 (by decide) (hts _ (wg_t kw_169)) (fun _ h9 => h9) (cd := (3, 97)) rfl dDA_answerIsShort_12 (fun v23 hv23 => ?_)
      obtain ⟨r21, rfl, kr21⟩ := (show ∃ r : Nat, v23 = .ref r ∧ T r = some 97 from hv23)
      refine lv_iload_n hx hb dDA_answerIsShort_15 rfl (lv_at hl 0 rfl) ?_
      refine nw_aald3 hx hb hK hO kr21 (k := 97) (b := 98) rfl hP (by omega) (by omega) dDA_answerIsShort_16 (fun r22 kr22 => ?_)
      have hn21 : nsp (98 + i21) = (0, 256, []) := rows_ok 98 7 (by decide) _ (by omega)
      refine mp_v (cx := []) (wr := []) hP hD hS hA [] [] rfl rfl rfl (by decide) (va_runV (As := [.ref r22]) (rest := []) F (N_DA_multiplyBall l g _ T s21 pl hO hU h0 r22 (98 + i21) k_h0 kr22 hn21) (cwV 1 hts (wg_app (wg_c kw_1224 (wg_c kw_1226 (wg_c ks_41 (wg_c kw_5 wg_n)))) kw_1227) rfl rfl rfl (by decide +kernel) ⟨by decide, by decide⟩) (pn_W "LatticeKeys$Dsa" (en_ok g) (ci := 6) (kn := 39) (fl := [(3, 16), (3, 22), (3, 37), (3, 40), (3, 97), (3, 105), (3, 114), (3, 123), (3, 131), (3, 140), (3, 141), (3, 142), (3, 143), (3, 144), (3, 145), (3, 146), (3, 147)]) hK hO k_h0 rfl hP hD hS hA hE [] rfl rfl rfl) rfl rfl hl.1 rfl (lv_room (Nat.le_of_ble_eq_true rfl)) dDA_answerIsShort_17 ⟨by omega, by omega⟩) (fun  u21 H locs hu21 hP hD hS => ?_)
      obtain ⟨s22, pl⟩ := u21
      obtain ⟨⟨eq21, hFc21, -⟩, hO⟩ := hu21
      have hO : okn g T s22 pl := hO
      have hP : va_P g.1 vcl ([] ++ pl) _ := hP
      have hD : va_D _ ([] ++ pl) := hD
      have hFc21 : frm (M_DA_multiplyBall) s21 s22 := hFc21
      replace hR := bnd_step hR eq21
      have hF := frm_tr hF hFc21 (fun k hk => by unfold M_DA_multiplyBall at hk; unfold M_DA_answerIsShort_0; omega)
      refine W.widen (k := 0) (n := 0) (by omega) (by omega) ?_
      refine lv_aload_n hx hb dDA_answerIsShort_20 rfl (lv_at hl 1 rfl) ?_
      refine nw_get (C := "LatticeKeys$Dsa") (TT := T_DA) (N := 17) hx hb hts (wg_ft i_DA) hown hK hO k_h0 (kn := 39) (ci := 6) (fl := [(3, 16), (3, 22), (3, 37), (3, 40), (3, 97), (3, 105), (3, 114), (3, 123), (3, 131), (3, 140), (3, 141), (3, 142), (3, 143), (3, 144), (3, 145), (3, 146), (3, 147)]) rfl hP rfl 1 (by decide) (hts _ (wg_t kw_166)) (fun _ h9 => h9) (cd := (3, 22)) rfl dDA_answerIsShort_21 (fun v24 hv24 => ?_)
      obtain ⟨r23, rfl, kr23⟩ := (show ∃ r : Nat, v24 = .ref r ∧ T r = some 22 from hv24)
      refine lv_aload_n hx hb dDA_answerIsShort_24 rfl (lv_at hl 1 rfl) ?_
      refine nw_get (C := "LatticeKeys$Dsa") (TT := T_DA) (N := 17) hx hb hts (wg_ft i_DA) hown hK hO k_h0 (kn := 39) (ci := 6) (fl := [(3, 16), (3, 22), (3, 37), (3, 40), (3, 97), (3, 105), (3, 114), (3, 123), (3, 131), (3, 140), (3, 141), (3, 142), (3, 143), (3, 144), (3, 145), (3, 146), (3, 147)]) rfl hP rfl 7 (by decide) (hts _ (wg_t kw_172)) (fun _ h9 => h9) (cd := (3, 123)) rfl dDA_answerIsShort_25 (fun v25 hv25 => ?_)
      obtain ⟨r24, rfl, kr24⟩ := (show ∃ r : Nat, v25 = .ref r ∧ T r = some 123 from hv25)
      refine lv_iload_n hx hb dDA_answerIsShort_28 rfl (lv_at hl 0 rfl) ?_
      refine nw_aald3 hx hb hK hO kr24 (k := 123) (b := 124) rfl hP (by omega) (by omega) dDA_answerIsShort_29 (fun r25 kr25 => ?_)
      have hn22 : nsp (124 + i21) = (0, 256, []) := rows_ok 124 7 (by decide) _ (by omega)
      refine lv_aload_n hx hb dDA_answerIsShort_30 rfl (lv_at hl 1 rfl) ?_
      refine nw_get (C := "LatticeKeys$Dsa") (TT := T_DA) (N := 17) hx hb hts (wg_ft i_DA) hown hK hO k_h0 (kn := 39) (ci := 6) (fl := [(3, 16), (3, 22), (3, 37), (3, 40), (3, 97), (3, 105), (3, 114), (3, 123), (3, 131), (3, 140), (3, 141), (3, 142), (3, 143), (3, 144), (3, 145), (3, 146), (3, 147)]) rfl hP rfl 10 (by decide) (hts _ (wg_t kw_175)) (fun _ h9 => h9) (cd := (3, 141)) rfl dDA_answerIsShort_31 (fun v26 hv26 => ?_)
      obtain ⟨r26, rfl, kr26⟩ := (show ∃ r : Nat, v26 = .ref r ∧ T r = some 141 from hv26)
      refine mp_v (cx := []) (wr := []) hP hD hS hA [] [] rfl rfl rfl (by decide) (va_runV (As := [.ref r25, .ref r26]) (rest := []) F (N_RG_add_8 l g _ T s22 pl hO hU r23 r25 r26 (124 + i21) 141 kr23 kr25 hn22 kr26 rfl) (cwV 2 hts (wg_app (wg_c kw_728 (wg_c kw_729 (wg_c kw_730 (wg_c kw_4 wg_n)))) kw_731) rfl rfl rfl (by decide +kernel) ⟨by decide, by decide⟩) (pn_W "LatticeKeys$Ring" (en_ok g) (ci := 4) (kn := 22) (fl := [(1, 8380417), (1, 8), (1, 8347681), (3, 23)]) hK hO kr23 rfl hP hD hS hA hE [] rfl rfl rfl) rfl rfl hl.1 rfl (lv_room (Nat.le_of_ble_eq_true rfl)) dDA_answerIsShort_34 ⟨by omega, by omega⟩) (fun  u22 H locs hu22 hP hD hS => ?_)
      obtain ⟨s23, pl⟩ := u22
      obtain ⟨⟨eq22, hFc22, -⟩, hO⟩ := hu22
      have hO : okn g T s23 pl := hO
      have hP : va_P g.1 vcl ([] ++ pl) _ := hP
      have hD : va_D _ ([] ++ pl) := hD
      have hFc22 : frm (M_RG_add_8 (124 + i21)) s22 s23 := hFc22
      replace hR := bnd_step hR eq22
      have hF := frm_tr hF hFc22 (fun k hk => by unfold M_RG_add_8 at hk; unfold M_DA_answerIsShort_0; omega)
      refine W.widen (k := 0) (n := 0) (by omega) (by omega) ?_
      refine lv_aload_n hx hb dDA_answerIsShort_37 rfl (lv_at hl 1 rfl) ?_
      refine nw_get (C := "LatticeKeys$Dsa") (TT := T_DA) (N := 17) hx hb hts (wg_ft i_DA) hown hK hO k_h0 (kn := 39) (ci := 6) (fl := [(3, 16), (3, 22), (3, 37), (3, 40), (3, 97), (3, 105), (3, 114), (3, 123), (3, 131), (3, 140), (3, 141), (3, 142), (3, 143), (3, 144), (3, 145), (3, 146), (3, 147)]) rfl hP rfl 1 (by decide) (hts _ (wg_t kw_166)) (fun _ h9 => h9) (cd := (3, 22)) rfl dDA_answerIsShort_38 (fun v27 hv27 => ?_)
      obtain ⟨r27, rfl, kr27⟩ := (show ∃ r : Nat, v27 = .ref r ∧ T r = some 22 from hv27)
      refine lv_aload_n hx hb dDA_answerIsShort_41 rfl (lv_at hl 1 rfl) ?_
      refine nw_get (C := "LatticeKeys$Dsa") (TT := T_DA) (N := 17) hx hb hts (wg_ft i_DA) hown hK hO k_h0 (kn := 39) (ci := 6) (fl := [(3, 16), (3, 22), (3, 37), (3, 40), (3, 97), (3, 105), (3, 114), (3, 123), (3, 131), (3, 140), (3, 141), (3, 142), (3, 143), (3, 144), (3, 145), (3, 146), (3, 147)]) rfl hP rfl 7 (by decide) (hts _ (wg_t kw_172)) (fun _ h9 => h9) (cd := (3, 123)) rfl dDA_answerIsShort_42 (fun v28 hv28 => ?_)
      obtain ⟨r28, rfl, kr28⟩ := (show ∃ r : Nat, v28 = .ref r ∧ T r = some 123 from hv28)
      refine lv_iload_n hx hb dDA_answerIsShort_45 rfl (lv_at hl 0 rfl) ?_
      refine nw_aald3 hx hb hK hO kr28 (k := 123) (b := 124) rfl hP (by omega) (by omega) dDA_answerIsShort_46 (fun r29 kr29 => ?_)
      have hn23 : nsp (124 + i21) = (0, 256, []) := rows_ok 124 7 (by decide) _ (by omega)
      refine lv_aload_n hx hb dDA_answerIsShort_47 rfl (lv_at hl 2 rfl) ?_
      refine nw_get (C := "LatticeKeys$DsaSet") (TT := T_DS) (N := 17) hx hb hts (wg_ft i_DS) hown hK hO k_st (kn := 9) (ci := 2) (fl := [(1, 4), (1, 4), (1, 2), (1, 3), (1, 39), (1, 32), (1, 18), (1, 131072), (1, 44), (1, 6), (1, 95232), (1, 80), (1, 78), (1, 1312), (1, 2560), (1, 2336), (1, 2420)]) rfl hP rfl 7 (by decide) (hts _ (wg_t kw_320)) (fun _ h9 => h9) (cd := (1, 131072)) rfl dDA_answerIsShort_48 (fun v29 hv29 => ?_)
      obtain rfl := (show v29 = .int (nI 131072) from hv29)
      refine lv_aload_n hx hb dDA_answerIsShort_51 rfl (lv_at hl 2 rfl) ?_
      refine nw_get (C := "LatticeKeys$DsaSet") (TT := T_DS) (N := 17) hx hb hts (wg_ft i_DS) hown hK hO k_st (kn := 9) (ci := 2) (fl := [(1, 4), (1, 4), (1, 2), (1, 3), (1, 39), (1, 32), (1, 18), (1, 131072), (1, 44), (1, 6), (1, 95232), (1, 80), (1, 78), (1, 1312), (1, 2560), (1, 2336), (1, 2420)]) rfl hP rfl 12 (by decide) (hts _ (wg_t kw_329)) (fun _ h9 => h9) (cd := (1, 78)) rfl dDA_answerIsShort_52 (fun v30 hv30 => ?_)
      obtain rfl := (show v30 = .int (nI 78) from hv30)
      refine mi_isub hx hb dDA_answerIsShort_55 (by omega) ?_
      refine mi_as (show nI (131072 - 78) = nI 130994 from rfl) ?_
      refine mp_i (cx := []) (wr := []) hP hD hS hA [] [] rfl rfl rfl (by decide) (va_runV (As := [.ref r29, .int (nI 130994)]) (rest := []) F (N_RG_isShort_8 l g _ T s23 pl hO hU r27 r29 (124 + i21) (nI 130994) kr27 kr29 hn23) (cwV 2 hts (wg_app (wg_c kw_1228 (wg_c kw_1229 (wg_c kw_1230 (wg_c kw_4 wg_n)))) kw_1231) rfl rfl rfl (by decide +kernel) ⟨by decide, by decide⟩) (pn_W "LatticeKeys$Ring" (en_ok g) (ci := 4) (kn := 22) (fl := [(1, 8380417), (1, 8), (1, 8347681), (3, 23)]) hK hO kr27 rfl hP hD hS hA hE [] rfl rfl rfl) rfl rfl hl.1 rfl (lv_room (Nat.le_of_ble_eq_true rfl)) dDA_answerIsShort_56 ⟨by omega, by omega⟩) (fun r30 u23 H locs hu23 hP hD hS => ?_)
      obtain ⟨q21, pl⟩ := u23
      obtain ⟨⟨eq23, rfl, hFc23, -⟩, hO⟩ := hu23
      have hO : okn g T q21.2 pl := hO
      have hP : va_P g.1 vcl ([] ++ pl) _ := hP
      have hD : va_D _ ([] ++ pl) := hD
      have hFc23 : frm (M_RG_isShort_8) s23 q21.2 := hFc23
      replace hR := bnd_step hR eq23
      have hF := frm_tr hF hFc23 (fun k hk => by unfold M_RG_isShort_8 at hk; unfold M_DA_answerIsShort_0; omega)
      refine W.widen (k := 0) (n := 0) (by omega) (by omega) ?_
      refine lv_if_ne (tgt := 64) hx hb dDA_answerIsShort_59 (by decide) (fun h23 => ?_) (fun h23 => ?_)
      · replace hR := hR.trans (if_neg h23)
        refine mi_iinc (k := 0) (x := i21) (d := 1) (y := i21 + 1) (lv' := [(2, .int (nI (i21 + 1))), (0, .ref h0), (1, .ref st)]) hx hb dDA_answerIsShort_64 hl rfl (by decide) rfl (by decide) rfl (fun ls hl => ?_)
        refine lv_goto (tgt := 2) hx hb dDA_answerIsShort_67 (by decide) ?_
        exact ih21 (i21 + 1) q21.2 pl ls H locs (by omega) hF hR (lv_sub hl [0, 1, 2] rfl) hO hP hD hS
      · replace hR := hR.trans (if_pos h23)
        refine lv_iconst (v := nI 0) hx hb dDA_answerIsShort_62 (by decide) ?_
        exact mp_zret hx hb hr hlk rfl hP hD hS ((nI 0, q21.2), pl) ⟨⟨hR.symm, rfl, hF, trivial⟩, hO⟩ [] rfl rfl rfl (by omega) (by omega) dDA_answerIsShort_63
  exact lp21 4 0 s pl ls _ _ (by omega) hF hR (lv_sub hl [0, 1, 2] rfl) hO hP hD hS
def M_DA_answerIsShort_1 (k : Nat) : Prop := (124 ≤ k ∧ k < 131) ∨ k = 141 ∨ (0 : Nat) = 1
noncomputable def F_DA_answerIsShort_1_L0 : Nat → Nat → Sto → Int32 × Sto
  | 0, i21, s21 => (nI 1, s21)
  | n21 + 1, i21, s21 => bnd (F_DA_multiplyBall (98 + i21) s21) fun s22 => bnd (F_RG_add_8 (124 + i21) 141 s22) fun s23 => bnd (F_RG_isShort_8 (124 + i21) (nI 524092) s23) fun q21 => if (q21.1) = 0 then (nI 0, q21.2) else F_DA_answerIsShort_1_L0  n21 (i21 + 1) q21.2
noncomputable def F_DA_answerIsShort_1 (s : Sto) : Int32 × Sto := F_DA_answerIsShort_1_L0 5 0 s
set_option maxHeartbeats 8000000 in
set_option maxRecDepth 100000 in
theorem N_DA_answerIsShort_1 (l : Launch) (g : Gd) (sz : Nat) (T : TyN) (s : Sto) (pl : va_W) (hO : okn g T s pl) (hU : inj T) (h0 st : Nat) (k_h0 : T h0 = some 39) (k_st : T st = some 10)  : Met l y_DA_answerIsShort w_DA_answerIsShort ({ frames := 3, cells := 0, slots := 0, locals := 74 } : Room) (va_Pc [.ref h0, .ref st] (pr (en g) g.1 vcl sz ([] ++ pl))) (va_Qi (fun (r : Int32) (u : (Int32 × Sto) × va_W) => (u.1 = F_DA_answerIsShort_1 s ∧ r = u.1.1 ∧ frm (M_DA_answerIsShort_1) s u.1.2 ∧ True) ∧ okn g T u.1.2 u.2) (po g.1 vcl (va_A ([] ++ pl) sz) (fun (u : (Int32 × Sto) × va_W) => [] ++ u.2)) (va_A ([] ++ pl) sz)) 0 0 (va_A ([] ++ pl) sz) := by
  refine mc_entry (cc := c_DA_answerIsShort) (maxL := 3) (ret := (some .boolean)) (by decide) rfl (Nat.le_of_ble_eq_true rfl) ?_
  intro p e s0 m args below meth c ls F hr hlk hnm hsz hP hD hE hA hl
  obtain ⟨hx, hb, hml, hown, hts⟩ := id F
  have hK := hE.1
  generalize va_A ([] ++ pl) sz = A at hD hE hA ⊢
  have hS : va_S A s0.heap s0.heap [] := va_S.rf
  have hl : lv_has ls 3 [(0, .ref h0), (1, .ref st)] := hl
  have hR : F_DA_answerIsShort_1 s = F_DA_answerIsShort_1 s := rfl
  have hF : frm (M_DA_answerIsShort_1) s s := frm_rf
  refine lv_iconst (v := nI 0) hx hb dDA_answerIsShort_0 (by decide) ?_
  refine lv_istore_n (lv' := [(2, .int (nI 0)), (0, .ref h0), (1, .ref st)]) hx hb dDA_answerIsShort_1 rfl hl (by decide) rfl (fun ls hl => ?_)
  have lp21 : ∀ (n21 : Nat) (i21 : Nat) (s21 : Sto) (pl : va_W) (ls : Array Slot) (H : Heap) (locs : List Loc), n21 + i21 = 5 → frm (M_DA_answerIsShort_1) s s21 → F_DA_answerIsShort_1 s = F_DA_answerIsShort_1_L0 n21 i21 s21 → lv_has ls 3 [(2, .int (nI i21)), (0, .ref h0), (1, .ref st)] → okn g T s21 pl → va_P g.1 vcl ([] ++ pl) H → va_D A ([] ++ pl) → va_S A s0.heap H locs → W p l e ({ frames := 3, cells := 0, slots := 0, locals := 74 } : Room) s0 m args below meth c H locs 0 0 (MQ below (va_Qi (fun (r : Int32) (u : (Int32 × Sto) × va_W) => (u.1 = F_DA_answerIsShort_1 s ∧ r = u.1.1 ∧ frm (M_DA_answerIsShort_1) s u.1.2 ∧ True) ∧ okn g T u.1.2 u.2) (po g.1 vcl A (fun (u : (Int32 × Sto) × va_W) => [] ++ u.2)) A) args s0 0 0 A) (F0 m 2 ls []) := by
    intro n21
    induction n21 with
    | zero =>
      intro i21 s21 pl ls H locs hm21 hF hR hl hO hP hD hS
      refine lv_iload_n hx hb dDA_answerIsShort_2 rfl (lv_at hl 0 rfl) ?_
      refine lv_aload_n hx hb dDA_answerIsShort_3 rfl (lv_at hl 2 rfl) ?_
      refine nw_get (C := "LatticeKeys$DsaSet") (TT := T_DS) (N := 17) hx hb hts (wg_ft i_DS) hown hK hO k_st (kn := 10) (ci := 2) (fl := [(1, 6), (1, 5), (1, 4), (1, 4), (1, 49), (1, 48), (1, 20), (1, 524288), (1, 16), (1, 4), (1, 261888), (1, 55), (1, 196), (1, 1952), (1, 4032), (1, 3248), (1, 3309)]) rfl hP rfl 1 (by decide) (hts _ (wg_t kw_305)) (fun _ h9 => h9) (cd := (1, 5)) rfl dDA_answerIsShort_4 (fun v21 hv21 => ?_)
      obtain rfl := (show v21 = .int (nI 5) from hv21)
      refine mi_ge (tgt := 70) hx hb dDA_answerIsShort_7 (by decide) (by omega) (by omega) (fun h21 => ?_) (fun h21 => absurd h21 (by omega))
      refine lv_iconst (v := nI 1) hx hb dDA_answerIsShort_70 (by decide) ?_
      exact mp_zret hx hb hr hlk rfl hP hD hS ((nI 1, s21), pl) ⟨⟨hR.symm, rfl, hF, trivial⟩, hO⟩ [] rfl rfl rfl (by omega) (by omega) dDA_answerIsShort_71
    | succ n21 ih21 =>
      intro i21 s21 pl ls H locs hm21 hF hR hl hO hP hD hS
      refine lv_iload_n hx hb dDA_answerIsShort_2 rfl (lv_at hl 0 rfl) ?_
      refine lv_aload_n hx hb dDA_answerIsShort_3 rfl (lv_at hl 2 rfl) ?_
      refine nw_get (C := "LatticeKeys$DsaSet") (TT := T_DS) (N := 17) hx hb hts (wg_ft i_DS) hown hK hO k_st (kn := 10) (ci := 2) (fl := [(1, 6), (1, 5), (1, 4), (1, 4), (1, 49), (1, 48), (1, 20), (1, 524288), (1, 16), (1, 4), (1, 261888), (1, 55), (1, 196), (1, 1952), (1, 4032), (1, 3248), (1, 3309)]) rfl hP rfl 1 (by decide) (hts _ (wg_t kw_305)) (fun _ h9 => h9) (cd := (1, 5)) rfl dDA_answerIsShort_4 (fun v22 hv22 => ?_)
      obtain rfl := (show v22 = .int (nI 5) from hv22)
      refine mi_ge (tgt := 70) hx hb dDA_answerIsShort_7 (by decide) (by omega) (by omega) (fun h22 => absurd h22 (by omega)) (fun h22 => ?_)
      refine lv_aload_n hx hb dDA_answerIsShort_10 rfl (lv_at hl 1 rfl) ?_
      refine lv_aload_n hx hb dDA_answerIsShort_11 rfl (lv_at hl 1 rfl) ?_
      refine nw_get (C := "LatticeKeys$Dsa") (TT := T_DA) (N := 17) hx hb hts (wg_ft i_DA) hown hK hO k_h0 (kn := 39) (ci := 6) (fl := [(3, 16), (3, 22), (3, 37), (3, 40), (3, 97), (3, 105), (3, 114), (3, 123), (3, 131), (3, 140), (3, 141), (3, 142), (3, 143), (3, 144), (3, 145), (3, 146), (3, 147)]) rfl hP rfl 4 (by decide) (hts _ (wg_t kw_169)) (fun _ h9 => h9) (cd := (3, 97)) rfl dDA_answerIsShort_12 (fun v23 hv23 => ?_)
      obtain ⟨r21, rfl, kr21⟩ := (show ∃ r : Nat, v23 = .ref r ∧ T r = some 97 from hv23)
      refine lv_iload_n hx hb dDA_answerIsShort_15 rfl (lv_at hl 0 rfl) ?_
      refine nw_aald3 hx hb hK hO kr21 (k := 97) (b := 98) rfl hP (by omega) (by omega) dDA_answerIsShort_16 (fun r22 kr22 => ?_)
      have hn21 : nsp (98 + i21) = (0, 256, []) := rows_ok 98 7 (by decide) _ (by omega)
      refine mp_v (cx := []) (wr := []) hP hD hS hA [] [] rfl rfl rfl (by decide) (va_runV (As := [.ref r22]) (rest := []) F (N_DA_multiplyBall l g _ T s21 pl hO hU h0 r22 (98 + i21) k_h0 kr22 hn21) (cwV 1 hts (wg_app (wg_c kw_1224 (wg_c kw_1226 (wg_c ks_41 (wg_c kw_5 wg_n)))) kw_1227) rfl rfl rfl (by decide +kernel) ⟨by decide, by decide⟩) (pn_W "LatticeKeys$Dsa" (en_ok g) (ci := 6) (kn := 39) (fl := [(3, 16), (3, 22), (3, 37), (3, 40), (3, 97), (3, 105), (3, 114), (3, 123), (3, 131), (3, 140), (3, 141), (3, 142), (3, 143), (3, 144), (3, 145), (3, 146), (3, 147)]) hK hO k_h0 rfl hP hD hS hA hE [] rfl rfl rfl) rfl rfl hl.1 rfl (lv_room (Nat.le_of_ble_eq_true rfl)) dDA_answerIsShort_17 ⟨by omega, by omega⟩) (fun  u21 H locs hu21 hP hD hS => ?_)
      obtain ⟨s22, pl⟩ := u21
      obtain ⟨⟨eq21, hFc21, -⟩, hO⟩ := hu21
      have hO : okn g T s22 pl := hO
      have hP : va_P g.1 vcl ([] ++ pl) _ := hP
      have hD : va_D _ ([] ++ pl) := hD
      have hFc21 : frm (M_DA_multiplyBall) s21 s22 := hFc21
      replace hR := bnd_step hR eq21
      have hF := frm_tr hF hFc21 (fun k hk => by unfold M_DA_multiplyBall at hk; unfold M_DA_answerIsShort_1; omega)
      refine W.widen (k := 0) (n := 0) (by omega) (by omega) ?_
      refine lv_aload_n hx hb dDA_answerIsShort_20 rfl (lv_at hl 1 rfl) ?_
      refine nw_get (C := "LatticeKeys$Dsa") (TT := T_DA) (N := 17) hx hb hts (wg_ft i_DA) hown hK hO k_h0 (kn := 39) (ci := 6) (fl := [(3, 16), (3, 22), (3, 37), (3, 40), (3, 97), (3, 105), (3, 114), (3, 123), (3, 131), (3, 140), (3, 141), (3, 142), (3, 143), (3, 144), (3, 145), (3, 146), (3, 147)]) rfl hP rfl 1 (by decide) (hts _ (wg_t kw_166)) (fun _ h9 => h9) (cd := (3, 22)) rfl dDA_answerIsShort_21 (fun v24 hv24 => ?_)
      obtain ⟨r23, rfl, kr23⟩ := (show ∃ r : Nat, v24 = .ref r ∧ T r = some 22 from hv24)
      refine lv_aload_n hx hb dDA_answerIsShort_24 rfl (lv_at hl 1 rfl) ?_
      refine nw_get (C := "LatticeKeys$Dsa") (TT := T_DA) (N := 17) hx hb hts (wg_ft i_DA) hown hK hO k_h0 (kn := 39) (ci := 6) (fl := [(3, 16), (3, 22), (3, 37), (3, 40), (3, 97), (3, 105), (3, 114), (3, 123), (3, 131), (3, 140), (3, 141), (3, 142), (3, 143), (3, 144), (3, 145), (3, 146), (3, 147)]) rfl hP rfl 7 (by decide) (hts _ (wg_t kw_172)) (fun _ h9 => h9) (cd := (3, 123)) rfl dDA_answerIsShort_25 (fun v25 hv25 => ?_)
      obtain ⟨r24, rfl, kr24⟩ := (show ∃ r : Nat, v25 = .ref r ∧ T r = some 123 from hv25)
      refine lv_iload_n hx hb dDA_answerIsShort_28 rfl (lv_at hl 0 rfl) ?_
      refine nw_aald3 hx hb hK hO kr24 (k := 123) (b := 124) rfl hP (by omega) (by omega) dDA_answerIsShort_29 (fun r25 kr25 => ?_)
      have hn22 : nsp (124 + i21) = (0, 256, []) := rows_ok 124 7 (by decide) _ (by omega)
      refine lv_aload_n hx hb dDA_answerIsShort_30 rfl (lv_at hl 1 rfl) ?_
      refine nw_get (C := "LatticeKeys$Dsa") (TT := T_DA) (N := 17) hx hb hts (wg_ft i_DA) hown hK hO k_h0 (kn := 39) (ci := 6) (fl := [(3, 16), (3, 22), (3, 37), (3, 40), (3, 97), (3, 105), (3, 114), (3, 123), (3, 131), (3, 140), (3, 141), (3, 142), (3, 143), (3, 144), (3, 145), (3, 146), (3, 147)]) rfl hP rfl 10 (by decide) (hts _ (wg_t kw_175)) (fun _ h9 => h9) (cd := (3, 141)) rfl dDA_answerIsShort_31 (fun v26 hv26 => ?_)
      obtain ⟨r26, rfl, kr26⟩ := (show ∃ r : Nat, v26 = .ref r ∧ T r = some 141 from hv26)
      refine mp_v (cx := []) (wr := []) hP hD hS hA [] [] rfl rfl rfl (by decide) (va_runV (As := [.ref r25, .ref r26]) (rest := []) F (N_RG_add_8 l g _ T s22 pl hO hU r23 r25 r26 (124 + i21) 141 kr23 kr25 hn22 kr26 rfl) (cwV 2 hts (wg_app (wg_c kw_728 (wg_c kw_729 (wg_c kw_730 (wg_c kw_4 wg_n)))) kw_731) rfl rfl rfl (by decide +kernel) ⟨by decide, by decide⟩) (pn_W "LatticeKeys$Ring" (en_ok g) (ci := 4) (kn := 22) (fl := [(1, 8380417), (1, 8), (1, 8347681), (3, 23)]) hK hO kr23 rfl hP hD hS hA hE [] rfl rfl rfl) rfl rfl hl.1 rfl (lv_room (Nat.le_of_ble_eq_true rfl)) dDA_answerIsShort_34 ⟨by omega, by omega⟩) (fun  u22 H locs hu22 hP hD hS => ?_)
      obtain ⟨s23, pl⟩ := u22
      obtain ⟨⟨eq22, hFc22, -⟩, hO⟩ := hu22
      have hO : okn g T s23 pl := hO
      have hP : va_P g.1 vcl ([] ++ pl) _ := hP
      have hD : va_D _ ([] ++ pl) := hD
      have hFc22 : frm (M_RG_add_8 (124 + i21)) s22 s23 := hFc22
      replace hR := bnd_step hR eq22
      have hF := frm_tr hF hFc22 (fun k hk => by unfold M_RG_add_8 at hk; unfold M_DA_answerIsShort_1; omega)
      refine W.widen (k := 0) (n := 0) (by omega) (by omega) ?_
      refine lv_aload_n hx hb dDA_answerIsShort_37 rfl (lv_at hl 1 rfl) ?_
      refine nw_get (C := "LatticeKeys$Dsa") (TT := T_DA) (N := 17) hx hb hts (wg_ft i_DA) hown hK hO k_h0 (kn := 39) (ci := 6) (fl := [(3, 16), (3, 22), (3, 37), (3, 40), (3, 97), (3, 105), (3, 114), (3, 123), (3, 131), (3, 140), (3, 141), (3, 142), (3, 143), (3, 144), (3, 145), (3, 146), (3, 147)]) rfl hP rfl 1 (by decide) (hts _ (wg_t kw_166)) (fun _ h9 => h9) (cd := (3, 22)) rfl dDA_answerIsShort_38 (fun v27 hv27 => ?_)
      obtain ⟨r27, rfl, kr27⟩ := (show ∃ r : Nat, v27 = .ref r ∧ T r = some 22 from hv27)
      refine lv_aload_n hx hb dDA_answerIsShort_41 rfl (lv_at hl 1 rfl) ?_
      refine nw_get (C := "LatticeKeys$Dsa") (TT := T_DA) (N := 17) hx hb hts (wg_ft i_DA) hown hK hO k_h0 (kn := 39) (ci := 6) (fl := [(3, 16), (3, 22), (3, 37), (3, 40), (3, 97), (3, 105), (3, 114), (3, 123), (3, 131), (3, 140), (3, 141), (3, 142), (3, 143), (3, 144), (3, 145), (3, 146), (3, 147)]) rfl hP rfl 7 (by decide) (hts _ (wg_t kw_172)) (fun _ h9 => h9) (cd := (3, 123)) rfl dDA_answerIsShort_42 (fun v28 hv28 => ?_)
      obtain ⟨r28, rfl, kr28⟩ := (show ∃ r : Nat, v28 = .ref r ∧ T r = some 123 from hv28)
      refine lv_iload_n hx hb dDA_answerIsShort_45 rfl (lv_at hl 0 rfl) ?_
      refine nw_aald3 hx hb hK hO kr28 (k := 123) (b := 124) rfl hP (by omega) (by omega) dDA_answerIsShort_46 (fun r29 kr29 => ?_)
      have hn23 : nsp (124 + i21) = (0, 256, []) := rows_ok 124 7 (by decide) _ (by omega)
      refine lv_aload_n hx hb dDA_answerIsShort_47 rfl (lv_at hl 2 rfl) ?_
      refine nw_get (C := "LatticeKeys$DsaSet") (TT := T_DS) (N := 17) hx hb hts (wg_ft i_DS) hown hK hO k_st (kn := 10) (ci := 2) (fl := [(1, 6), (1, 5), (1, 4), (1, 4), (1, 49), (1, 48), (1, 20), (1, 524288), (1, 16), (1, 4), (1, 261888), (1, 55), (1, 196), (1, 1952), (1, 4032), (1, 3248), (1, 3309)]) rfl hP rfl 7 (by decide) (hts _ (wg_t kw_320)) (fun _ h9 => h9) (cd := (1, 524288)) rfl dDA_answerIsShort_48 (fun v29 hv29 => ?_)
      obtain rfl := (show v29 = .int (nI 524288) from hv29)
      refine lv_aload_n hx hb dDA_answerIsShort_51 rfl (lv_at hl 2 rfl) ?_
      refine nw_get (C := "LatticeKeys$DsaSet") (TT := T_DS) (N := 17) hx hb hts (wg_ft i_DS) hown hK hO k_st (kn := 10) (ci := 2) (fl := [(1, 6), (1, 5), (1, 4), (1, 4), (1, 49), (1, 48), (1, 20), (1, 524288), (1, 16), (1, 4), (1, 261888), (1, 55), (1, 196), (1, 1952), (1, 4032), (1, 3248), (1, 3309)]) rfl hP rfl 12 (by decide) (hts _ (wg_t kw_329)) (fun _ h9 => h9) (cd := (1, 196)) rfl dDA_answerIsShort_52 (fun v30 hv30 => ?_)
      obtain rfl := (show v30 = .int (nI 196) from hv30)
      refine mi_isub hx hb dDA_answerIsShort_55 (by omega) ?_
      refine mi_as (show nI (524288 - 196) = nI 524092 from rfl) ?_
      refine mp_i (cx := []) (wr := []) hP hD hS hA [] [] rfl rfl rfl (by decide) (va_runV (As := [.ref r29, .int (nI 524092)]) (rest := []) F (N_RG_isShort_8 l g _ T s23 pl hO hU r27 r29 (124 + i21) (nI 524092) kr27 kr29 hn23) (cwV 2 hts (wg_app (wg_c kw_1228 (wg_c kw_1229 (wg_c kw_1230 (wg_c kw_4 wg_n)))) kw_1231) rfl rfl rfl (by decide +kernel) ⟨by decide, by decide⟩) (pn_W "LatticeKeys$Ring" (en_ok g) (ci := 4) (kn := 22) (fl := [(1, 8380417), (1, 8), (1, 8347681), (3, 23)]) hK hO kr27 rfl hP hD hS hA hE [] rfl rfl rfl) rfl rfl hl.1 rfl (lv_room (Nat.le_of_ble_eq_true rfl)) dDA_answerIsShort_56 ⟨by omega, by omega⟩) (fun r30 u23 H locs hu23 hP hD hS => ?_)
      obtain ⟨q21, pl⟩ := u23
      obtain ⟨⟨eq23, rfl, hFc23, -⟩, hO⟩ := hu23
      have hO : okn g T q21.2 pl := hO
      have hP : va_P g.1 vcl ([] ++ pl) _ := hP
      have hD : va_D _ ([] ++ pl) := hD
      have hFc23 : frm (M_RG_isShort_8) s23 q21.2 := hFc23
      replace hR := bnd_step hR eq23
      have hF := frm_tr hF hFc23 (fun k hk => by unfold M_RG_isShort_8 at hk; unfold M_DA_answerIsShort_1; omega)
      refine W.widen (k := 0) (n := 0) (by omega) (by omega) ?_
      refine lv_if_ne (tgt := 64) hx hb dDA_answerIsShort_59 (by decide) (fun h23 => ?_) (fun h23 => ?_)
      · replace hR := hR.trans (if_neg h23)
        refine mi_iinc (k := 0) (x := i21) (d := 1) (y := i21 + 1) (lv' := [(2, .int (nI (i21 + 1))), (0, .ref h0), (1, .ref st)]) hx hb dDA_answerIsShort_64 hl rfl (by decide) rfl (by decide) rfl (fun ls hl => ?_)
        refine lv_goto (tgt := 2) hx hb dDA_answerIsShort_67 (by decide) ?_
        exact ih21 (i21 + 1) q21.2 pl ls H locs (by omega) hF hR (lv_sub hl [0, 1, 2] rfl) hO hP hD hS
      · replace hR := hR.trans (if_pos h23)
        refine lv_iconst (v := nI 0) hx hb dDA_answerIsShort_62 (by decide) ?_
        exact mp_zret hx hb hr hlk rfl hP hD hS ((nI 0, q21.2), pl) ⟨⟨hR.symm, rfl, hF, trivial⟩, hO⟩ [] rfl rfl rfl (by omega) (by omega) dDA_answerIsShort_63
  exact lp21 5 0 s pl ls _ _ (by omega) hF hR (lv_sub hl [0, 1, 2] rfl) hO hP hD hS
def M_DA_answerIsShort_2 (k : Nat) : Prop := (124 ≤ k ∧ k < 131) ∨ k = 141 ∨ (0 : Nat) = 1
noncomputable def F_DA_answerIsShort_2_L0 : Nat → Nat → Sto → Int32 × Sto
  | 0, i21, s21 => (nI 1, s21)
  | n21 + 1, i21, s21 => bnd (F_DA_multiplyBall (98 + i21) s21) fun s22 => bnd (F_RG_add_8 (124 + i21) 141 s22) fun s23 => bnd (F_RG_isShort_8 (124 + i21) (nI 524168) s23) fun q21 => if (q21.1) = 0 then (nI 0, q21.2) else F_DA_answerIsShort_2_L0  n21 (i21 + 1) q21.2
noncomputable def F_DA_answerIsShort_2 (s : Sto) : Int32 × Sto := F_DA_answerIsShort_2_L0 7 0 s
set_option maxHeartbeats 8000000 in
set_option maxRecDepth 100000 in
theorem N_DA_answerIsShort_2 (l : Launch) (g : Gd) (sz : Nat) (T : TyN) (s : Sto) (pl : va_W) (hO : okn g T s pl) (hU : inj T) (h0 st : Nat) (k_h0 : T h0 = some 39) (k_st : T st = some 11)  : Met l y_DA_answerIsShort w_DA_answerIsShort ({ frames := 3, cells := 0, slots := 0, locals := 74 } : Room) (va_Pc [.ref h0, .ref st] (pr (en g) g.1 vcl sz ([] ++ pl))) (va_Qi (fun (r : Int32) (u : (Int32 × Sto) × va_W) => (u.1 = F_DA_answerIsShort_2 s ∧ r = u.1.1 ∧ frm (M_DA_answerIsShort_2) s u.1.2 ∧ True) ∧ okn g T u.1.2 u.2) (po g.1 vcl (va_A ([] ++ pl) sz) (fun (u : (Int32 × Sto) × va_W) => [] ++ u.2)) (va_A ([] ++ pl) sz)) 0 0 (va_A ([] ++ pl) sz) := by
  refine mc_entry (cc := c_DA_answerIsShort) (maxL := 3) (ret := (some .boolean)) (by decide) rfl (Nat.le_of_ble_eq_true rfl) ?_
  intro p e s0 m args below meth c ls F hr hlk hnm hsz hP hD hE hA hl
  obtain ⟨hx, hb, hml, hown, hts⟩ := id F
  have hK := hE.1
  generalize va_A ([] ++ pl) sz = A at hD hE hA ⊢
  have hS : va_S A s0.heap s0.heap [] := va_S.rf
  have hl : lv_has ls 3 [(0, .ref h0), (1, .ref st)] := hl
  have hR : F_DA_answerIsShort_2 s = F_DA_answerIsShort_2 s := rfl
  have hF : frm (M_DA_answerIsShort_2) s s := frm_rf
  refine lv_iconst (v := nI 0) hx hb dDA_answerIsShort_0 (by decide) ?_
  refine lv_istore_n (lv' := [(2, .int (nI 0)), (0, .ref h0), (1, .ref st)]) hx hb dDA_answerIsShort_1 rfl hl (by decide) rfl (fun ls hl => ?_)
  have lp21 : ∀ (n21 : Nat) (i21 : Nat) (s21 : Sto) (pl : va_W) (ls : Array Slot) (H : Heap) (locs : List Loc), n21 + i21 = 7 → frm (M_DA_answerIsShort_2) s s21 → F_DA_answerIsShort_2 s = F_DA_answerIsShort_2_L0 n21 i21 s21 → lv_has ls 3 [(2, .int (nI i21)), (0, .ref h0), (1, .ref st)] → okn g T s21 pl → va_P g.1 vcl ([] ++ pl) H → va_D A ([] ++ pl) → va_S A s0.heap H locs → W p l e ({ frames := 3, cells := 0, slots := 0, locals := 74 } : Room) s0 m args below meth c H locs 0 0 (MQ below (va_Qi (fun (r : Int32) (u : (Int32 × Sto) × va_W) => (u.1 = F_DA_answerIsShort_2 s ∧ r = u.1.1 ∧ frm (M_DA_answerIsShort_2) s u.1.2 ∧ True) ∧ okn g T u.1.2 u.2) (po g.1 vcl A (fun (u : (Int32 × Sto) × va_W) => [] ++ u.2)) A) args s0 0 0 A) (F0 m 2 ls []) := by
    intro n21
    induction n21 with
    | zero =>
      intro i21 s21 pl ls H locs hm21 hF hR hl hO hP hD hS
      refine lv_iload_n hx hb dDA_answerIsShort_2 rfl (lv_at hl 0 rfl) ?_
      refine lv_aload_n hx hb dDA_answerIsShort_3 rfl (lv_at hl 2 rfl) ?_
      refine nw_get (C := "LatticeKeys$DsaSet") (TT := T_DS) (N := 17) hx hb hts (wg_ft i_DS) hown hK hO k_st (kn := 11) (ci := 2) (fl := [(1, 8), (1, 7), (1, 2), (1, 3), (1, 60), (1, 64), (1, 20), (1, 524288), (1, 16), (1, 4), (1, 261888), (1, 75), (1, 120), (1, 2592), (1, 4896), (1, 4544), (1, 4627)]) rfl hP rfl 1 (by decide) (hts _ (wg_t kw_305)) (fun _ h9 => h9) (cd := (1, 7)) rfl dDA_answerIsShort_4 (fun v21 hv21 => ?_)
      obtain rfl := (show v21 = .int (nI 7) from hv21)
      refine mi_ge (tgt := 70) hx hb dDA_answerIsShort_7 (by decide) (by omega) (by omega) (fun h21 => ?_) (fun h21 => absurd h21 (by omega))
      refine lv_iconst (v := nI 1) hx hb dDA_answerIsShort_70 (by decide) ?_
      exact mp_zret hx hb hr hlk rfl hP hD hS ((nI 1, s21), pl) ⟨⟨hR.symm, rfl, hF, trivial⟩, hO⟩ [] rfl rfl rfl (by omega) (by omega) dDA_answerIsShort_71
    | succ n21 ih21 =>
      intro i21 s21 pl ls H locs hm21 hF hR hl hO hP hD hS
      refine lv_iload_n hx hb dDA_answerIsShort_2 rfl (lv_at hl 0 rfl) ?_
      refine lv_aload_n hx hb dDA_answerIsShort_3 rfl (lv_at hl 2 rfl) ?_
      refine nw_get (C := "LatticeKeys$DsaSet") (TT := T_DS) (N := 17) hx hb hts (wg_ft i_DS) hown hK hO k_st (kn := 11) (ci := 2) (fl := [(1, 8), (1, 7), (1, 2), (1, 3), (1, 60), (1, 64), (1, 20), (1, 524288), (1, 16), (1, 4), (1, 261888), (1, 75), (1, 120), (1, 2592), (1, 4896), (1, 4544), (1, 4627)]) rfl hP rfl 1 (by decide) (hts _ (wg_t kw_305)) (fun _ h9 => h9) (cd := (1, 7)) rfl dDA_answerIsShort_4 (fun v22 hv22 => ?_)
      obtain rfl := (show v22 = .int (nI 7) from hv22)
      refine mi_ge (tgt := 70) hx hb dDA_answerIsShort_7 (by decide) (by omega) (by omega) (fun h22 => absurd h22 (by omega)) (fun h22 => ?_)
      refine lv_aload_n hx hb dDA_answerIsShort_10 rfl (lv_at hl 1 rfl) ?_
      refine lv_aload_n hx hb dDA_answerIsShort_11 rfl (lv_at hl 1 rfl) ?_
      refine nw_get (C := "LatticeKeys$Dsa") (TT := T_DA) (N := 17) hx hb hts (wg_ft i_DA) hown hK hO k_h0 (kn := 39) (ci := 6) (fl := [(3, 16), (3, 22), (3, 37), (3, 40), (3, 97), (3, 105), (3, 114), (3, 123), (3, 131), (3, 140), (3, 141), (3, 142), (3, 143), (3, 144), (3, 145), (3, 146), (3, 147)]) rfl hP rfl 4 (by decide) (hts _ (wg_t kw_169)) (fun _ h9 => h9) (cd := (3, 97)) rfl dDA_answerIsShort_12 (fun v23 hv23 => ?_)
      obtain ⟨r21, rfl, kr21⟩ := (show ∃ r : Nat, v23 = .ref r ∧ T r = some 97 from hv23)
      refine lv_iload_n hx hb dDA_answerIsShort_15 rfl (lv_at hl 0 rfl) ?_
      refine nw_aald3 hx hb hK hO kr21 (k := 97) (b := 98) rfl hP (by omega) (by omega) dDA_answerIsShort_16 (fun r22 kr22 => ?_)
      have hn21 : nsp (98 + i21) = (0, 256, []) := rows_ok 98 7 (by decide) _ (by omega)
      refine mp_v (cx := []) (wr := []) hP hD hS hA [] [] rfl rfl rfl (by decide) (va_runV (As := [.ref r22]) (rest := []) F (N_DA_multiplyBall l g _ T s21 pl hO hU h0 r22 (98 + i21) k_h0 kr22 hn21) (cwV 1 hts (wg_app (wg_c kw_1224 (wg_c kw_1226 (wg_c ks_41 (wg_c kw_5 wg_n)))) kw_1227) rfl rfl rfl (by decide +kernel) ⟨by decide, by decide⟩) (pn_W "LatticeKeys$Dsa" (en_ok g) (ci := 6) (kn := 39) (fl := [(3, 16), (3, 22), (3, 37), (3, 40), (3, 97), (3, 105), (3, 114), (3, 123), (3, 131), (3, 140), (3, 141), (3, 142), (3, 143), (3, 144), (3, 145), (3, 146), (3, 147)]) hK hO k_h0 rfl hP hD hS hA hE [] rfl rfl rfl) rfl rfl hl.1 rfl (lv_room (Nat.le_of_ble_eq_true rfl)) dDA_answerIsShort_17 ⟨by omega, by omega⟩) (fun  u21 H locs hu21 hP hD hS => ?_)
      obtain ⟨s22, pl⟩ := u21
      obtain ⟨⟨eq21, hFc21, -⟩, hO⟩ := hu21
      have hO : okn g T s22 pl := hO
      have hP : va_P g.1 vcl ([] ++ pl) _ := hP
      have hD : va_D _ ([] ++ pl) := hD
      have hFc21 : frm (M_DA_multiplyBall) s21 s22 := hFc21
      replace hR := bnd_step hR eq21
      have hF := frm_tr hF hFc21 (fun k hk => by unfold M_DA_multiplyBall at hk; unfold M_DA_answerIsShort_2; omega)
      refine W.widen (k := 0) (n := 0) (by omega) (by omega) ?_
      refine lv_aload_n hx hb dDA_answerIsShort_20 rfl (lv_at hl 1 rfl) ?_
      refine nw_get (C := "LatticeKeys$Dsa") (TT := T_DA) (N := 17) hx hb hts (wg_ft i_DA) hown hK hO k_h0 (kn := 39) (ci := 6) (fl := [(3, 16), (3, 22), (3, 37), (3, 40), (3, 97), (3, 105), (3, 114), (3, 123), (3, 131), (3, 140), (3, 141), (3, 142), (3, 143), (3, 144), (3, 145), (3, 146), (3, 147)]) rfl hP rfl 1 (by decide) (hts _ (wg_t kw_166)) (fun _ h9 => h9) (cd := (3, 22)) rfl dDA_answerIsShort_21 (fun v24 hv24 => ?_)
      obtain ⟨r23, rfl, kr23⟩ := (show ∃ r : Nat, v24 = .ref r ∧ T r = some 22 from hv24)
      refine lv_aload_n hx hb dDA_answerIsShort_24 rfl (lv_at hl 1 rfl) ?_
      refine nw_get (C := "LatticeKeys$Dsa") (TT := T_DA) (N := 17) hx hb hts (wg_ft i_DA) hown hK hO k_h0 (kn := 39) (ci := 6) (fl := [(3, 16), (3, 22), (3, 37), (3, 40), (3, 97), (3, 105), (3, 114), (3, 123), (3, 131), (3, 140), (3, 141), (3, 142), (3, 143), (3, 144), (3, 145), (3, 146), (3, 147)]) rfl hP rfl 7 (by decide) (hts _ (wg_t kw_172)) (fun _ h9 => h9) (cd := (3, 123)) rfl dDA_answerIsShort_25 (fun v25 hv25 => ?_)
      obtain ⟨r24, rfl, kr24⟩ := (show ∃ r : Nat, v25 = .ref r ∧ T r = some 123 from hv25)
      refine lv_iload_n hx hb dDA_answerIsShort_28 rfl (lv_at hl 0 rfl) ?_
      refine nw_aald3 hx hb hK hO kr24 (k := 123) (b := 124) rfl hP (by omega) (by omega) dDA_answerIsShort_29 (fun r25 kr25 => ?_)
      have hn22 : nsp (124 + i21) = (0, 256, []) := rows_ok 124 7 (by decide) _ (by omega)
      refine lv_aload_n hx hb dDA_answerIsShort_30 rfl (lv_at hl 1 rfl) ?_
      refine nw_get (C := "LatticeKeys$Dsa") (TT := T_DA) (N := 17) hx hb hts (wg_ft i_DA) hown hK hO k_h0 (kn := 39) (ci := 6) (fl := [(3, 16), (3, 22), (3, 37), (3, 40), (3, 97), (3, 105), (3, 114), (3, 123), (3, 131), (3, 140), (3, 141), (3, 142), (3, 143), (3, 144), (3, 145), (3, 146), (3, 147)]) rfl hP rfl 10 (by decide) (hts _ (wg_t kw_175)) (fun _ h9 => h9) (cd := (3, 141)) rfl dDA_answerIsShort_31 (fun v26 hv26 => ?_)
      obtain ⟨r26, rfl, kr26⟩ := (show ∃ r : Nat, v26 = .ref r ∧ T r = some 141 from hv26)
      refine mp_v (cx := []) (wr := []) hP hD hS hA [] [] rfl rfl rfl (by decide) (va_runV (As := [.ref r25, .ref r26]) (rest := []) F (N_RG_add_8 l g _ T s22 pl hO hU r23 r25 r26 (124 + i21) 141 kr23 kr25 hn22 kr26 rfl) (cwV 2 hts (wg_app (wg_c kw_728 (wg_c kw_729 (wg_c kw_730 (wg_c kw_4 wg_n)))) kw_731) rfl rfl rfl (by decide +kernel) ⟨by decide, by decide⟩) (pn_W "LatticeKeys$Ring" (en_ok g) (ci := 4) (kn := 22) (fl := [(1, 8380417), (1, 8), (1, 8347681), (3, 23)]) hK hO kr23 rfl hP hD hS hA hE [] rfl rfl rfl) rfl rfl hl.1 rfl (lv_room (Nat.le_of_ble_eq_true rfl)) dDA_answerIsShort_34 ⟨by omega, by omega⟩) (fun  u22 H locs hu22 hP hD hS => ?_)
      obtain ⟨s23, pl⟩ := u22
      obtain ⟨⟨eq22, hFc22, -⟩, hO⟩ := hu22
      have hO : okn g T s23 pl := hO
      have hP : va_P g.1 vcl ([] ++ pl) _ := hP
      have hD : va_D _ ([] ++ pl) := hD
      have hFc22 : frm (M_RG_add_8 (124 + i21)) s22 s23 := hFc22
      replace hR := bnd_step hR eq22
      have hF := frm_tr hF hFc22 (fun k hk => by unfold M_RG_add_8 at hk; unfold M_DA_answerIsShort_2; omega)
      refine W.widen (k := 0) (n := 0) (by omega) (by omega) ?_
      refine lv_aload_n hx hb dDA_answerIsShort_37 rfl (lv_at hl 1 rfl) ?_
      refine nw_get (C := "LatticeKeys$Dsa") (TT := T_DA) (N := 17) hx hb hts (wg_ft i_DA) hown hK hO k_h0 (kn := 39) (ci := 6) (fl := [(3, 16), (3, 22), (3, 37), (3, 40), (3, 97), (3, 105), (3, 114), (3, 123), (3, 131), (3, 140), (3, 141), (3, 142), (3, 143), (3, 144), (3, 145), (3, 146), (3, 147)]) rfl hP rfl 1 (by decide) (hts _ (wg_t kw_166)) (fun _ h9 => h9) (cd := (3, 22)) rfl dDA_answerIsShort_38 (fun v27 hv27 => ?_)
      obtain ⟨r27, rfl, kr27⟩ := (show ∃ r : Nat, v27 = .ref r ∧ T r = some 22 from hv27)
      refine lv_aload_n hx hb dDA_answerIsShort_41 rfl (lv_at hl 1 rfl) ?_
      refine nw_get (C := "LatticeKeys$Dsa") (TT := T_DA) (N := 17) hx hb hts (wg_ft i_DA) hown hK hO k_h0 (kn := 39) (ci := 6) (fl := [(3, 16), (3, 22), (3, 37), (3, 40), (3, 97), (3, 105), (3, 114), (3, 123), (3, 131), (3, 140), (3, 141), (3, 142), (3, 143), (3, 144), (3, 145), (3, 146), (3, 147)]) rfl hP rfl 7 (by decide) (hts _ (wg_t kw_172)) (fun _ h9 => h9) (cd := (3, 123)) rfl dDA_answerIsShort_42 (fun v28 hv28 => ?_)
      obtain ⟨r28, rfl, kr28⟩ := (show ∃ r : Nat, v28 = .ref r ∧ T r = some 123 from hv28)
      refine lv_iload_n hx hb dDA_answerIsShort_45 rfl (lv_at hl 0 rfl) ?_
      refine nw_aald3 hx hb hK hO kr28 (k := 123) (b := 124) rfl hP (by omega) (by omega) dDA_answerIsShort_46 (fun r29 kr29 => ?_)
      have hn23 : nsp (124 + i21) = (0, 256, []) := rows_ok 124 7 (by decide) _ (by omega)
      refine lv_aload_n hx hb dDA_answerIsShort_47 rfl (lv_at hl 2 rfl) ?_
      refine nw_get (C := "LatticeKeys$DsaSet") (TT := T_DS) (N := 17) hx hb hts (wg_ft i_DS) hown hK hO k_st (kn := 11) (ci := 2) (fl := [(1, 8), (1, 7), (1, 2), (1, 3), (1, 60), (1, 64), (1, 20), (1, 524288), (1, 16), (1, 4), (1, 261888), (1, 75), (1, 120), (1, 2592), (1, 4896), (1, 4544), (1, 4627)]) rfl hP rfl 7 (by decide) (hts _ (wg_t kw_320)) (fun _ h9 => h9) (cd := (1, 524288)) rfl dDA_answerIsShort_48 (fun v29 hv29 => ?_)
      obtain rfl := (show v29 = .int (nI 524288) from hv29)
      refine lv_aload_n hx hb dDA_answerIsShort_51 rfl (lv_at hl 2 rfl) ?_
      refine nw_get (C := "LatticeKeys$DsaSet") (TT := T_DS) (N := 17) hx hb hts (wg_ft i_DS) hown hK hO k_st (kn := 11) (ci := 2) (fl := [(1, 8), (1, 7), (1, 2), (1, 3), (1, 60), (1, 64), (1, 20), (1, 524288), (1, 16), (1, 4), (1, 261888), (1, 75), (1, 120), (1, 2592), (1, 4896), (1, 4544), (1, 4627)]) rfl hP rfl 12 (by decide) (hts _ (wg_t kw_329)) (fun _ h9 => h9) (cd := (1, 120)) rfl dDA_answerIsShort_52 (fun v30 hv30 => ?_)
      obtain rfl := (show v30 = .int (nI 120) from hv30)
      refine mi_isub hx hb dDA_answerIsShort_55 (by omega) ?_
      refine mi_as (show nI (524288 - 120) = nI 524168 from rfl) ?_
      refine mp_i (cx := []) (wr := []) hP hD hS hA [] [] rfl rfl rfl (by decide) (va_runV (As := [.ref r29, .int (nI 524168)]) (rest := []) F (N_RG_isShort_8 l g _ T s23 pl hO hU r27 r29 (124 + i21) (nI 524168) kr27 kr29 hn23) (cwV 2 hts (wg_app (wg_c kw_1228 (wg_c kw_1229 (wg_c kw_1230 (wg_c kw_4 wg_n)))) kw_1231) rfl rfl rfl (by decide +kernel) ⟨by decide, by decide⟩) (pn_W "LatticeKeys$Ring" (en_ok g) (ci := 4) (kn := 22) (fl := [(1, 8380417), (1, 8), (1, 8347681), (3, 23)]) hK hO kr27 rfl hP hD hS hA hE [] rfl rfl rfl) rfl rfl hl.1 rfl (lv_room (Nat.le_of_ble_eq_true rfl)) dDA_answerIsShort_56 ⟨by omega, by omega⟩) (fun r30 u23 H locs hu23 hP hD hS => ?_)
      obtain ⟨q21, pl⟩ := u23
      obtain ⟨⟨eq23, rfl, hFc23, -⟩, hO⟩ := hu23
      have hO : okn g T q21.2 pl := hO
      have hP : va_P g.1 vcl ([] ++ pl) _ := hP
      have hD : va_D _ ([] ++ pl) := hD
      have hFc23 : frm (M_RG_isShort_8) s23 q21.2 := hFc23
      replace hR := bnd_step hR eq23
      have hF := frm_tr hF hFc23 (fun k hk => by unfold M_RG_isShort_8 at hk; unfold M_DA_answerIsShort_2; omega)
      refine W.widen (k := 0) (n := 0) (by omega) (by omega) ?_
      refine lv_if_ne (tgt := 64) hx hb dDA_answerIsShort_59 (by decide) (fun h23 => ?_) (fun h23 => ?_)
      · replace hR := hR.trans (if_neg h23)
        refine mi_iinc (k := 0) (x := i21) (d := 1) (y := i21 + 1) (lv' := [(2, .int (nI (i21 + 1))), (0, .ref h0), (1, .ref st)]) hx hb dDA_answerIsShort_64 hl rfl (by decide) rfl (by decide) rfl (fun ls hl => ?_)
        refine lv_goto (tgt := 2) hx hb dDA_answerIsShort_67 (by decide) ?_
        exact ih21 (i21 + 1) q21.2 pl ls H locs (by omega) hF hR (lv_sub hl [0, 1, 2] rfl) hO hP hD hS
      · replace hR := hR.trans (if_pos h23)
        refine lv_iconst (v := nI 0) hx hb dDA_answerIsShort_62 (by decide) ?_
        exact mp_zret hx hb hr hlk rfl hP hD hS ((nI 0, q21.2), pl) ⟨⟨hR.symm, rfl, hF, trivial⟩, hO⟩ [] rfl rfl rfl (by omega) (by omega) dDA_answerIsShort_63
  exact lp21 7 0 s pl ls _ _ (by omega) hF hR (lv_sub hl [0, 1, 2] rfl) hO hP hD hS
def M_DA_restIsShort_0 (k : Nat) : Prop := (132 ≤ k ∧ k < 140) ∨ k = 141 ∨ (0 : Nat) = 1
noncomputable def F_DA_restIsShort_0_L1 (i21 : Nat) (kk : Nat → Sto → Int32 × Sto) : Nat → Nat → Sto → Int32 × Sto
  | 0, i22, s24 => kk (i21 + 1) s24
  | n22 + 1, i22, s24 => bnd (F_DS_low_0 (s24.1 ((132 + i21)) i22) s24) fun q21 => bnd (q21.1) fun z21 => if (nI 95154) ≤ z21 then (nI 0, q21.2) else if (-(nI 95154)) < z21 then F_DA_restIsShort_0_L1 i21 kk n22 (i22 + 1) q21.2 else (nI 0, q21.2)
noncomputable def F_DA_restIsShort_0_L0 : Nat → Nat → Sto → Int32 × Sto
  | 0, i21, s21 => (nI 1, s21)
  | n21 + 1, i21, s21 => bnd (F_DA_multiplyBall (106 + i21) s21) fun s22 => bnd (F_RG_subtract_8 (132 + i21) 141 s22) fun s23 => F_DA_restIsShort_0_L1 i21 (F_DA_restIsShort_0_L0  n21) 256 0 s23
noncomputable def F_DA_restIsShort_0 (s : Sto) : Int32 × Sto := F_DA_restIsShort_0_L0 4 0 s
set_option maxHeartbeats 8000000 in
set_option maxRecDepth 100000 in
theorem N_DA_restIsShort_0 (l : Launch) (g : Gd) (sz : Nat) (T : TyN) (s : Sto) (pl : va_W) (hO : okn g T s pl) (hU : inj T) (h0 st : Nat) (k_h0 : T h0 = some 39) (k_st : T st = some 9)  : Met l y_DA_restIsShort w_DA_restIsShort ({ frames := 3, cells := 0, slots := 0, locals := 74 } : Room) (va_Pc [.ref h0, .ref st] (pr (en g) g.1 vcl sz ([] ++ pl))) (va_Qi (fun (r : Int32) (u : (Int32 × Sto) × va_W) => (u.1 = F_DA_restIsShort_0 s ∧ r = u.1.1 ∧ frm (M_DA_restIsShort_0) s u.1.2 ∧ True) ∧ okn g T u.1.2 u.2) (po g.1 vcl (va_A ([] ++ pl) sz) (fun (u : (Int32 × Sto) × va_W) => [] ++ u.2)) (va_A ([] ++ pl) sz)) 0 0 (va_A ([] ++ pl) sz) := by
  refine mc_entry (cc := c_DA_restIsShort) (maxL := 6) (ret := (some .boolean)) (by decide) rfl (Nat.le_of_ble_eq_true rfl) ?_
  intro p e s0 m args below meth c ls F hr hlk hnm hsz hP hD hE hA hl
  obtain ⟨hx, hb, hml, hown, hts⟩ := id F
  have hK := hE.1
  generalize va_A ([] ++ pl) sz = A at hD hE hA ⊢
  have hS : va_S A s0.heap s0.heap [] := va_S.rf
  have hl : lv_has ls 6 [(0, .ref h0), (1, .ref st)] := hl
  have hR : F_DA_restIsShort_0 s = F_DA_restIsShort_0 s := rfl
  have hF : frm (M_DA_restIsShort_0) s s := frm_rf
  refine lv_aload_n hx hb dDA_restIsShort_0 rfl (lv_at hl 1 rfl) ?_
  refine nw_get (C := "LatticeKeys$DsaSet") (TT := T_DS) (N := 17) hx hb hts (wg_ft i_DS) hown hK hO k_st (kn := 9) (ci := 2) (fl := [(1, 4), (1, 4), (1, 2), (1, 3), (1, 39), (1, 32), (1, 18), (1, 131072), (1, 44), (1, 6), (1, 95232), (1, 80), (1, 78), (1, 1312), (1, 2560), (1, 2336), (1, 2420)]) rfl hP rfl 10 (by decide) (hts _ (wg_t kw_325)) (fun _ h9 => h9) (cd := (1, 95232)) rfl dDA_restIsShort_1 (fun v21 hv21 => ?_)
  obtain rfl := (show v21 = .int (nI 95232) from hv21)
  refine lv_aload_n hx hb dDA_restIsShort_4 rfl (lv_at hl 1 rfl) ?_
  refine nw_get (C := "LatticeKeys$DsaSet") (TT := T_DS) (N := 17) hx hb hts (wg_ft i_DS) hown hK hO k_st (kn := 9) (ci := 2) (fl := [(1, 4), (1, 4), (1, 2), (1, 3), (1, 39), (1, 32), (1, 18), (1, 131072), (1, 44), (1, 6), (1, 95232), (1, 80), (1, 78), (1, 1312), (1, 2560), (1, 2336), (1, 2420)]) rfl hP rfl 12 (by decide) (hts _ (wg_t kw_329)) (fun _ h9 => h9) (cd := (1, 78)) rfl dDA_restIsShort_5 (fun v22 hv22 => ?_)
  obtain rfl := (show v22 = .int (nI 78) from hv22)
  refine mi_isub hx hb dDA_restIsShort_8 (by omega) ?_
  refine mi_as (show nI (95232 - 78) = nI 95154 from rfl) ?_
  refine lv_istore_n (lv' := [(2, .int (nI 95154)), (0, .ref h0), (1, .ref st)]) hx hb dDA_restIsShort_9 rfl hl (by decide) rfl (fun ls hl => ?_)
  refine lv_iconst (v := nI 0) hx hb dDA_restIsShort_10 (by decide) ?_
  refine lv_istore_n (lv' := [(3, .int (nI 0)), (2, .int (nI 95154)), (0, .ref h0), (1, .ref st)]) hx hb dDA_restIsShort_11 rfl hl (by decide) rfl (fun ls hl => ?_)
  have lp21 : ∀ (n21 : Nat) (i21 : Nat) (s21 : Sto) (pl : va_W) (ls : Array Slot) (H : Heap) (locs : List Loc), n21 + i21 = 4 → frm (M_DA_restIsShort_0) s s21 → F_DA_restIsShort_0 s = F_DA_restIsShort_0_L0 n21 i21 s21 → lv_has ls 6 [(3, .int (nI i21)), (2, .int (nI 95154)), (0, .ref h0), (1, .ref st)] → okn g T s21 pl → va_P g.1 vcl ([] ++ pl) H → va_D A ([] ++ pl) → va_S A s0.heap H locs → W p l e ({ frames := 3, cells := 0, slots := 0, locals := 74 } : Room) s0 m args below meth c H locs 0 0 (MQ below (va_Qi (fun (r : Int32) (u : (Int32 × Sto) × va_W) => (u.1 = F_DA_restIsShort_0 s ∧ r = u.1.1 ∧ frm (M_DA_restIsShort_0) s u.1.2 ∧ True) ∧ okn g T u.1.2 u.2) (po g.1 vcl A (fun (u : (Int32 × Sto) × va_W) => [] ++ u.2)) A) args s0 0 0 A) (F0 m 12 ls []) := by
    intro n21
    induction n21 with
    | zero =>
      intro i21 s21 pl ls H locs hm21 hF hR hl hO hP hD hS
      refine lv_iload_n hx hb dDA_restIsShort_12 rfl (lv_at hl 0 rfl) ?_
      refine lv_aload_n hx hb dDA_restIsShort_13 rfl (lv_at hl 3 rfl) ?_
      refine nw_get (C := "LatticeKeys$DsaSet") (TT := T_DS) (N := 17) hx hb hts (wg_ft i_DS) hown hK hO k_st (kn := 9) (ci := 2) (fl := [(1, 4), (1, 4), (1, 2), (1, 3), (1, 39), (1, 32), (1, 18), (1, 131072), (1, 44), (1, 6), (1, 95232), (1, 80), (1, 78), (1, 1312), (1, 2560), (1, 2336), (1, 2420)]) rfl hP rfl 0 (by decide) (hts _ (wg_t kw_302)) (fun _ h9 => h9) (cd := (1, 4)) rfl dDA_restIsShort_14 (fun v23 hv23 => ?_)
      obtain rfl := (show v23 = .int (nI 4) from hv23)
      refine mi_ge (tgt := 100) hx hb dDA_restIsShort_17 (by decide) (by omega) (by omega) (fun h21 => ?_) (fun h21 => absurd h21 (by omega))
      refine lv_iconst (v := nI 1) hx hb dDA_restIsShort_100 (by decide) ?_
      exact mp_zret hx hb hr hlk rfl hP hD hS ((nI 1, s21), pl) ⟨⟨hR.symm, rfl, hF, trivial⟩, hO⟩ [] rfl rfl rfl (by omega) (by omega) dDA_restIsShort_101
    | succ n21 ih21 =>
      intro i21 s21 pl ls H locs hm21 hF hR hl hO hP hD hS
      refine lv_iload_n hx hb dDA_restIsShort_12 rfl (lv_at hl 0 rfl) ?_
      refine lv_aload_n hx hb dDA_restIsShort_13 rfl (lv_at hl 3 rfl) ?_
      refine nw_get (C := "LatticeKeys$DsaSet") (TT := T_DS) (N := 17) hx hb hts (wg_ft i_DS) hown hK hO k_st (kn := 9) (ci := 2) (fl := [(1, 4), (1, 4), (1, 2), (1, 3), (1, 39), (1, 32), (1, 18), (1, 131072), (1, 44), (1, 6), (1, 95232), (1, 80), (1, 78), (1, 1312), (1, 2560), (1, 2336), (1, 2420)]) rfl hP rfl 0 (by decide) (hts _ (wg_t kw_302)) (fun _ h9 => h9) (cd := (1, 4)) rfl dDA_restIsShort_14 (fun v24 hv24 => ?_)
      obtain rfl := (show v24 = .int (nI 4) from hv24)
      refine mi_ge (tgt := 100) hx hb dDA_restIsShort_17 (by decide) (by omega) (by omega) (fun h22 => absurd h22 (by omega)) (fun h22 => ?_)
      refine lv_aload_n hx hb dDA_restIsShort_20 rfl (lv_at hl 2 rfl) ?_
      refine lv_aload_n hx hb dDA_restIsShort_21 rfl (lv_at hl 2 rfl) ?_
      refine nw_get (C := "LatticeKeys$Dsa") (TT := T_DA) (N := 17) hx hb hts (wg_ft i_DA) hown hK hO k_h0 (kn := 39) (ci := 6) (fl := [(3, 16), (3, 22), (3, 37), (3, 40), (3, 97), (3, 105), (3, 114), (3, 123), (3, 131), (3, 140), (3, 141), (3, 142), (3, 143), (3, 144), (3, 145), (3, 146), (3, 147)]) rfl hP rfl 5 (by decide) (hts _ (wg_t kw_170)) (fun _ h9 => h9) (cd := (3, 105)) rfl dDA_restIsShort_22 (fun v25 hv25 => ?_)
      obtain ⟨r21, rfl, kr21⟩ := (show ∃ r : Nat, v25 = .ref r ∧ T r = some 105 from hv25)
      refine lv_iload_n hx hb dDA_restIsShort_25 rfl (lv_at hl 0 rfl) ?_
      refine nw_aald3 hx hb hK hO kr21 (k := 105) (b := 106) rfl hP (by omega) (by omega) dDA_restIsShort_26 (fun r22 kr22 => ?_)
      have hn21 : nsp (106 + i21) = (0, 256, []) := rows_ok 106 8 (by decide) _ (by omega)
      refine mp_v (cx := []) (wr := []) hP hD hS hA [] [] rfl rfl rfl (by decide) (va_runV (As := [.ref r22]) (rest := []) F (N_DA_multiplyBall l g _ T s21 pl hO hU h0 r22 (106 + i21) k_h0 kr22 hn21) (cwV 1 hts (wg_app (wg_c kw_1224 (wg_c kw_1226 (wg_c ks_41 (wg_c kw_5 wg_n)))) kw_1227) rfl rfl rfl (by decide +kernel) ⟨by decide, by decide⟩) (pn_W "LatticeKeys$Dsa" (en_ok g) (ci := 6) (kn := 39) (fl := [(3, 16), (3, 22), (3, 37), (3, 40), (3, 97), (3, 105), (3, 114), (3, 123), (3, 131), (3, 140), (3, 141), (3, 142), (3, 143), (3, 144), (3, 145), (3, 146), (3, 147)]) hK hO k_h0 rfl hP hD hS hA hE [] rfl rfl rfl) rfl rfl hl.1 rfl (lv_room (Nat.le_of_ble_eq_true rfl)) dDA_restIsShort_27 ⟨by omega, by omega⟩) (fun  u21 H locs hu21 hP hD hS => ?_)
      obtain ⟨s22, pl⟩ := u21
      obtain ⟨⟨eq21, hFc21, -⟩, hO⟩ := hu21
      have hO : okn g T s22 pl := hO
      have hP : va_P g.1 vcl ([] ++ pl) _ := hP
      have hD : va_D _ ([] ++ pl) := hD
      have hFc21 : frm (M_DA_multiplyBall) s21 s22 := hFc21
      replace hR := bnd_step hR eq21
      have hF := frm_tr hF hFc21 (fun k hk => by unfold M_DA_multiplyBall at hk; unfold M_DA_restIsShort_0; omega)
      refine W.widen (k := 0) (n := 0) (by omega) (by omega) ?_
      refine lv_aload_n hx hb dDA_restIsShort_30 rfl (lv_at hl 2 rfl) ?_
      refine nw_get (C := "LatticeKeys$Dsa") (TT := T_DA) (N := 17) hx hb hts (wg_ft i_DA) hown hK hO k_h0 (kn := 39) (ci := 6) (fl := [(3, 16), (3, 22), (3, 37), (3, 40), (3, 97), (3, 105), (3, 114), (3, 123), (3, 131), (3, 140), (3, 141), (3, 142), (3, 143), (3, 144), (3, 145), (3, 146), (3, 147)]) rfl hP rfl 1 (by decide) (hts _ (wg_t kw_166)) (fun _ h9 => h9) (cd := (3, 22)) rfl dDA_restIsShort_31 (fun v26 hv26 => ?_)
      obtain ⟨r23, rfl, kr23⟩ := (show ∃ r : Nat, v26 = .ref r ∧ T r = some 22 from hv26)
      refine lv_aload_n hx hb dDA_restIsShort_34 rfl (lv_at hl 2 rfl) ?_
      refine nw_get (C := "LatticeKeys$Dsa") (TT := T_DA) (N := 17) hx hb hts (wg_ft i_DA) hown hK hO k_h0 (kn := 39) (ci := 6) (fl := [(3, 16), (3, 22), (3, 37), (3, 40), (3, 97), (3, 105), (3, 114), (3, 123), (3, 131), (3, 140), (3, 141), (3, 142), (3, 143), (3, 144), (3, 145), (3, 146), (3, 147)]) rfl hP rfl 8 (by decide) (hts _ (wg_t kw_173)) (fun _ h9 => h9) (cd := (3, 131)) rfl dDA_restIsShort_35 (fun v27 hv27 => ?_)
      obtain ⟨r24, rfl, kr24⟩ := (show ∃ r : Nat, v27 = .ref r ∧ T r = some 131 from hv27)
      refine lv_iload_n hx hb dDA_restIsShort_38 rfl (lv_at hl 0 rfl) ?_
      refine nw_aald3 hx hb hK hO kr24 (k := 131) (b := 132) rfl hP (by omega) (by omega) dDA_restIsShort_39 (fun r25 kr25 => ?_)
      have hn22 : nsp (132 + i21) = (0, 256, []) := rows_ok 132 8 (by decide) _ (by omega)
      refine lv_aload_n hx hb dDA_restIsShort_40 rfl (lv_at hl 2 rfl) ?_
      refine nw_get (C := "LatticeKeys$Dsa") (TT := T_DA) (N := 17) hx hb hts (wg_ft i_DA) hown hK hO k_h0 (kn := 39) (ci := 6) (fl := [(3, 16), (3, 22), (3, 37), (3, 40), (3, 97), (3, 105), (3, 114), (3, 123), (3, 131), (3, 140), (3, 141), (3, 142), (3, 143), (3, 144), (3, 145), (3, 146), (3, 147)]) rfl hP rfl 10 (by decide) (hts _ (wg_t kw_175)) (fun _ h9 => h9) (cd := (3, 141)) rfl dDA_restIsShort_41 (fun v28 hv28 => ?_)
      obtain ⟨r26, rfl, kr26⟩ := (show ∃ r : Nat, v28 = .ref r ∧ T r = some 141 from hv28)
      refine mp_v (cx := []) (wr := []) hP hD hS hA [] [] rfl rfl rfl (by decide) (va_runV (As := [.ref r25, .ref r26]) (rest := []) F (N_RG_subtract_8 l g _ T s22 pl hO hU r23 r25 r26 (132 + i21) 141 kr23 kr25 hn22 kr26 rfl) (cwV 2 hts (wg_app (wg_c kw_1236 (wg_c kw_1155 (wg_c kw_1156 (wg_c kw_4 wg_n)))) kw_1157) rfl rfl rfl (by decide +kernel) ⟨by decide, by decide⟩) (pn_W "LatticeKeys$Ring" (en_ok g) (ci := 4) (kn := 22) (fl := [(1, 8380417), (1, 8), (1, 8347681), (3, 23)]) hK hO kr23 rfl hP hD hS hA hE [] rfl rfl rfl) rfl rfl hl.1 rfl (lv_room (Nat.le_of_ble_eq_true rfl)) dDA_restIsShort_44 ⟨by omega, by omega⟩) (fun  u22 H locs hu22 hP hD hS => ?_)
      obtain ⟨s23, pl⟩ := u22
      obtain ⟨⟨eq22, hFc22, -⟩, hO⟩ := hu22
      have hO : okn g T s23 pl := hO
      have hP : va_P g.1 vcl ([] ++ pl) _ := hP
      have hD : va_D _ ([] ++ pl) := hD
      have hFc22 : frm (M_RG_subtract_8 (132 + i21)) s22 s23 := hFc22
      replace hR := bnd_step hR eq22
      have hF := frm_tr hF hFc22 (fun k hk => by unfold M_RG_subtract_8 at hk; unfold M_DA_restIsShort_0; omega)
      refine W.widen (k := 0) (n := 0) (by omega) (by omega) ?_
      refine lv_iconst (v := nI 0) hx hb dDA_restIsShort_47 (by decide) ?_
      refine lv_istore (lv' := [(4, .int (nI 0)), (3, .int (nI i21)), (2, .int (nI 95154)), (0, .ref h0), (1, .ref st)]) hx hb dDA_restIsShort_48 hl (by decide) rfl (fun ls hl => ?_)
      have lp22 : ∀ (n22 : Nat) (i22 : Nat) (s24 : Sto) (pl : va_W) (ls : Array Slot) (H : Heap) (locs : List Loc), n22 + i22 = 256 → frm (M_DA_restIsShort_0) s s24 → F_DA_restIsShort_0 s = F_DA_restIsShort_0_L1 i21 (F_DA_restIsShort_0_L0 n21) n22 i22 s24 → lv_has ls 6 [(4, .int (nI i22)), (3, .int (nI i21)), (2, .int (nI 95154)), (0, .ref h0), (1, .ref st)] → okn g T s24 pl → va_P g.1 vcl ([] ++ pl) H → va_D A ([] ++ pl) → va_S A s0.heap H locs → W p l e ({ frames := 3, cells := 0, slots := 0, locals := 74 } : Room) s0 m args below meth c H locs 0 0 (MQ below (va_Qi (fun (r : Int32) (u : (Int32 × Sto) × va_W) => (u.1 = F_DA_restIsShort_0 s ∧ r = u.1.1 ∧ frm (M_DA_restIsShort_0) s u.1.2 ∧ True) ∧ okn g T u.1.2 u.2) (po g.1 vcl A (fun (u : (Int32 × Sto) × va_W) => [] ++ u.2)) A) args s0 0 0 A) (F0 m 50 ls []) := by
        intro n22
        induction n22 with
        | zero =>
          intro i22 s24 pl ls H locs hm22 hF hR hl hO hP hD hS
          refine lv_iload hx hb dDA_restIsShort_50 (lv_at hl 0 rfl) ?_
          refine lv_sipush (v := nI 256) hx hb dDA_restIsShort_52 (by decide) ?_
          refine mi_ge (tgt := 94) hx hb dDA_restIsShort_55 (by decide) (by omega) (by omega) (fun h23 => ?_) (fun h23 => absurd h23 (by omega))
          refine mi_iinc (k := 1) (x := i21) (d := 1) (y := i21 + 1) (lv' := [(3, .int (nI (i21 + 1))), (4, .int (nI i22)), (2, .int (nI 95154)), (0, .ref h0), (1, .ref st)]) hx hb dDA_restIsShort_94 hl rfl (by decide) rfl (by decide) rfl (fun ls hl => ?_)
          refine lv_goto (tgt := 12) hx hb dDA_restIsShort_97 (by decide) ?_
          exact ih21 (i21 + 1) s24 pl ls H locs (by omega) hF hR (lv_sub hl [0, 2, 3, 4] rfl) hO hP hD hS
        | succ n22 ih22 =>
          intro i22 s24 pl ls H locs hm22 hF hR hl hO hP hD hS
          refine lv_iload hx hb dDA_restIsShort_50 (lv_at hl 0 rfl) ?_
          refine lv_sipush (v := nI 256) hx hb dDA_restIsShort_52 (by decide) ?_
          refine mi_ge (tgt := 94) hx hb dDA_restIsShort_55 (by decide) (by omega) (by omega) (fun h24 => absurd h24 (by omega)) (fun h24 => ?_)
          refine lv_aload_n hx hb dDA_restIsShort_58 rfl (lv_at hl 4 rfl) ?_
          refine lv_aload_n hx hb dDA_restIsShort_59 rfl (lv_at hl 3 rfl) ?_
          refine nw_get (C := "LatticeKeys$Dsa") (TT := T_DA) (N := 17) hx hb hts (wg_ft i_DA) hown hK hO k_h0 (kn := 39) (ci := 6) (fl := [(3, 16), (3, 22), (3, 37), (3, 40), (3, 97), (3, 105), (3, 114), (3, 123), (3, 131), (3, 140), (3, 141), (3, 142), (3, 143), (3, 144), (3, 145), (3, 146), (3, 147)]) rfl hP rfl 8 (by decide) (hts _ (wg_t kw_173)) (fun _ h9 => h9) (cd := (3, 131)) rfl dDA_restIsShort_60 (fun v29 hv29 => ?_)
          obtain ⟨r27, rfl, kr27⟩ := (show ∃ r : Nat, v29 = .ref r ∧ T r = some 131 from hv29)
          refine lv_iload_n hx hb dDA_restIsShort_63 rfl (lv_at hl 1 rfl) ?_
          refine nw_aald3 hx hb hK hO kr27 (k := 131) (b := 132) rfl hP (by omega) (by omega) dDA_restIsShort_64 (fun r28 kr28 => ?_)
          have hn23 : nsp (132 + i21) = (0, 256, []) := rows_ok 132 8 (by decide) _ (by omega)
          refine lv_iload hx hb dDA_restIsShort_65 (lv_at hl 0 rfl) ?_
          refine nw_iald hx hb hK hO kr28 (k := (132 + i21)) hn23 hP (by omega) (by omega) dDA_restIsShort_67 ?_
          refine mp_i (cx := []) (wr := []) hP hD hS hA [] [] rfl rfl rfl (by decide) (va_runV (As := [.int ((s24.1 ((132 + i21)) i22))]) (rest := []) F (N_DS_low_0 l g _ T s24 pl hO hU st (s24.1 ((132 + i21)) i22) k_st) (cwV 1 hts (wg_app (wg_c kw_1237 (wg_c kw_1238 (wg_c kw_1239 (wg_c kw_8 wg_n)))) kw_1240) rfl rfl rfl (by decide +kernel) ⟨by decide, by decide⟩) (pn_W "LatticeKeys$DsaSet" (en_ok g) (ci := 2) (kn := 9) (fl := [(1, 4), (1, 4), (1, 2), (1, 3), (1, 39), (1, 32), (1, 18), (1, 131072), (1, 44), (1, 6), (1, 95232), (1, 80), (1, 78), (1, 1312), (1, 2560), (1, 2336), (1, 2420)]) hK hO k_st rfl hP hD hS hA hE [] rfl rfl rfl) rfl rfl hl.1 rfl (lv_room (Nat.le_of_ble_eq_true rfl)) dDA_restIsShort_68 ⟨by omega, by omega⟩) (fun r29 u23 H locs hu23 hP hD hS => ?_)
          obtain ⟨q21, pl⟩ := u23
          obtain ⟨⟨eq23, rfl, hFc23, -⟩, hO⟩ := hu23
          have hO : okn g T q21.2 pl := hO
          have hP : va_P g.1 vcl ([] ++ pl) _ := hP
          have hD : va_D _ ([] ++ pl) := hD
          have hFc23 : frm (M_DS_low_0) s24 q21.2 := hFc23
          replace hR := bnd_step hR eq23
          have hF := frm_tr hF hFc23 (fun k hk => by unfold M_DS_low_0 at hk; unfold M_DA_restIsShort_0; omega)
          refine W.widen (k := 0) (n := 0) (by omega) (by omega) ?_
          refine mi_eqv (fun z21 ez21 => ?_)
          replace hR := bnd_step hR ez21
          refine lv_istore (lv' := [(5, .int z21), (4, .int (nI i22)), (3, .int (nI i21)), (2, .int (nI 95154)), (0, .ref h0), (1, .ref st)]) hx hb dDA_restIsShort_71 hl (by decide) rfl (fun ls hl => ?_)
          refine lv_iload hx hb dDA_restIsShort_73 (lv_at hl 0 rfl) ?_
          refine lv_iload_n hx hb dDA_restIsShort_75 rfl (lv_at hl 3 rfl) ?_
          refine lv_icmp_ge (tgt := 86) hx hb dDA_restIsShort_76 (by decide) (fun h25 => ?_) (fun h25 => ?_)
          · replace hR := hR.trans (if_pos h25)
            refine lv_iconst (v := nI 0) hx hb dDA_restIsShort_86 (by decide) ?_
            exact mp_zret hx hb hr hlk rfl hP hD hS ((nI 0, q21.2), pl) ⟨⟨hR.symm, rfl, hF, trivial⟩, hO⟩ [] rfl rfl rfl (by omega) (by omega) dDA_restIsShort_87
          · replace hR := hR.trans (if_neg h25)
            refine lv_iload hx hb dDA_restIsShort_79 (lv_at hl 0 rfl) ?_
            refine lv_iload_n hx hb dDA_restIsShort_81 rfl (lv_at hl 3 rfl) ?_
            refine lv_ineg hx hb dDA_restIsShort_82 ?_
            refine lv_icmp_gt (tgt := 88) hx hb dDA_restIsShort_83 (by decide) (fun h26 => ?_) (fun h26 => ?_)
            · replace hR := hR.trans (if_pos h26)
              refine mi_iinc (k := 1) (x := i22) (d := 1) (y := i22 + 1) (lv' := [(4, .int (nI (i22 + 1))), (5, .int z21), (3, .int (nI i21)), (2, .int (nI 95154)), (0, .ref h0), (1, .ref st)]) hx hb dDA_restIsShort_88 hl rfl (by decide) rfl (by decide) rfl (fun ls hl => ?_)
              refine lv_goto (tgt := 50) hx hb dDA_restIsShort_91 (by decide) ?_
              exact ih22 (i22 + 1) q21.2 pl ls H locs (by omega) hF hR (lv_sub hl [0, 2, 3, 4, 5] rfl) hO hP hD hS
            · replace hR := hR.trans (if_neg h26)
              refine lv_iconst (v := nI 0) hx hb dDA_restIsShort_86 (by decide) ?_
              exact mp_zret hx hb hr hlk rfl hP hD hS ((nI 0, q21.2), pl) ⟨⟨hR.symm, rfl, hF, trivial⟩, hO⟩ [] rfl rfl rfl (by omega) (by omega) dDA_restIsShort_87
      exact lp22 256 0 s23 pl ls _ _ (by omega) hF hR (lv_sub hl [0, 1, 2, 3, 4] rfl) hO hP hD hS
  exact lp21 4 0 s pl ls _ _ (by omega) hF hR (lv_sub hl [0, 1, 2, 3] rfl) hO hP hD hS
def M_DA_restIsShort_1 (k : Nat) : Prop := (132 ≤ k ∧ k < 140) ∨ k = 141 ∨ (0 : Nat) = 1
noncomputable def F_DA_restIsShort_1_L1 (i21 : Nat) (kk : Nat → Sto → Int32 × Sto) : Nat → Nat → Sto → Int32 × Sto
  | 0, i22, s24 => kk (i21 + 1) s24
  | n22 + 1, i22, s24 => bnd (F_DS_low_1 (s24.1 ((132 + i21)) i22) s24) fun q21 => bnd (q21.1) fun z21 => if (nI 261692) ≤ z21 then (nI 0, q21.2) else if (-(nI 261692)) < z21 then F_DA_restIsShort_1_L1 i21 kk n22 (i22 + 1) q21.2 else (nI 0, q21.2)
noncomputable def F_DA_restIsShort_1_L0 : Nat → Nat → Sto → Int32 × Sto
  | 0, i21, s21 => (nI 1, s21)
  | n21 + 1, i21, s21 => bnd (F_DA_multiplyBall (106 + i21) s21) fun s22 => bnd (F_RG_subtract_8 (132 + i21) 141 s22) fun s23 => F_DA_restIsShort_1_L1 i21 (F_DA_restIsShort_1_L0  n21) 256 0 s23
noncomputable def F_DA_restIsShort_1 (s : Sto) : Int32 × Sto := F_DA_restIsShort_1_L0 6 0 s
set_option maxHeartbeats 8000000 in
set_option maxRecDepth 100000 in
theorem N_DA_restIsShort_1 (l : Launch) (g : Gd) (sz : Nat) (T : TyN) (s : Sto) (pl : va_W) (hO : okn g T s pl) (hU : inj T) (h0 st : Nat) (k_h0 : T h0 = some 39) (k_st : T st = some 10)  : Met l y_DA_restIsShort w_DA_restIsShort ({ frames := 3, cells := 0, slots := 0, locals := 74 } : Room) (va_Pc [.ref h0, .ref st] (pr (en g) g.1 vcl sz ([] ++ pl))) (va_Qi (fun (r : Int32) (u : (Int32 × Sto) × va_W) => (u.1 = F_DA_restIsShort_1 s ∧ r = u.1.1 ∧ frm (M_DA_restIsShort_1) s u.1.2 ∧ True) ∧ okn g T u.1.2 u.2) (po g.1 vcl (va_A ([] ++ pl) sz) (fun (u : (Int32 × Sto) × va_W) => [] ++ u.2)) (va_A ([] ++ pl) sz)) 0 0 (va_A ([] ++ pl) sz) := by
  refine mc_entry (cc := c_DA_restIsShort) (maxL := 6) (ret := (some .boolean)) (by decide) rfl (Nat.le_of_ble_eq_true rfl) ?_
  intro p e s0 m args below meth c ls F hr hlk hnm hsz hP hD hE hA hl
  obtain ⟨hx, hb, hml, hown, hts⟩ := id F
  have hK := hE.1
  generalize va_A ([] ++ pl) sz = A at hD hE hA ⊢
  have hS : va_S A s0.heap s0.heap [] := va_S.rf
  have hl : lv_has ls 6 [(0, .ref h0), (1, .ref st)] := hl
  have hR : F_DA_restIsShort_1 s = F_DA_restIsShort_1 s := rfl
  have hF : frm (M_DA_restIsShort_1) s s := frm_rf
  refine lv_aload_n hx hb dDA_restIsShort_0 rfl (lv_at hl 1 rfl) ?_
  refine nw_get (C := "LatticeKeys$DsaSet") (TT := T_DS) (N := 17) hx hb hts (wg_ft i_DS) hown hK hO k_st (kn := 10) (ci := 2) (fl := [(1, 6), (1, 5), (1, 4), (1, 4), (1, 49), (1, 48), (1, 20), (1, 524288), (1, 16), (1, 4), (1, 261888), (1, 55), (1, 196), (1, 1952), (1, 4032), (1, 3248), (1, 3309)]) rfl hP rfl 10 (by decide) (hts _ (wg_t kw_325)) (fun _ h9 => h9) (cd := (1, 261888)) rfl dDA_restIsShort_1 (fun v21 hv21 => ?_)
  obtain rfl := (show v21 = .int (nI 261888) from hv21)
  refine lv_aload_n hx hb dDA_restIsShort_4 rfl (lv_at hl 1 rfl) ?_
  refine nw_get (C := "LatticeKeys$DsaSet") (TT := T_DS) (N := 17) hx hb hts (wg_ft i_DS) hown hK hO k_st (kn := 10) (ci := 2) (fl := [(1, 6), (1, 5), (1, 4), (1, 4), (1, 49), (1, 48), (1, 20), (1, 524288), (1, 16), (1, 4), (1, 261888), (1, 55), (1, 196), (1, 1952), (1, 4032), (1, 3248), (1, 3309)]) rfl hP rfl 12 (by decide) (hts _ (wg_t kw_329)) (fun _ h9 => h9) (cd := (1, 196)) rfl dDA_restIsShort_5 (fun v22 hv22 => ?_)
  obtain rfl := (show v22 = .int (nI 196) from hv22)
  refine mi_isub hx hb dDA_restIsShort_8 (by omega) ?_
  refine mi_as (show nI (261888 - 196) = nI 261692 from rfl) ?_
  refine lv_istore_n (lv' := [(2, .int (nI 261692)), (0, .ref h0), (1, .ref st)]) hx hb dDA_restIsShort_9 rfl hl (by decide) rfl (fun ls hl => ?_)
  refine lv_iconst (v := nI 0) hx hb dDA_restIsShort_10 (by decide) ?_
  refine lv_istore_n (lv' := [(3, .int (nI 0)), (2, .int (nI 261692)), (0, .ref h0), (1, .ref st)]) hx hb dDA_restIsShort_11 rfl hl (by decide) rfl (fun ls hl => ?_)
  have lp21 : ∀ (n21 : Nat) (i21 : Nat) (s21 : Sto) (pl : va_W) (ls : Array Slot) (H : Heap) (locs : List Loc), n21 + i21 = 6 → frm (M_DA_restIsShort_1) s s21 → F_DA_restIsShort_1 s = F_DA_restIsShort_1_L0 n21 i21 s21 → lv_has ls 6 [(3, .int (nI i21)), (2, .int (nI 261692)), (0, .ref h0), (1, .ref st)] → okn g T s21 pl → va_P g.1 vcl ([] ++ pl) H → va_D A ([] ++ pl) → va_S A s0.heap H locs → W p l e ({ frames := 3, cells := 0, slots := 0, locals := 74 } : Room) s0 m args below meth c H locs 0 0 (MQ below (va_Qi (fun (r : Int32) (u : (Int32 × Sto) × va_W) => (u.1 = F_DA_restIsShort_1 s ∧ r = u.1.1 ∧ frm (M_DA_restIsShort_1) s u.1.2 ∧ True) ∧ okn g T u.1.2 u.2) (po g.1 vcl A (fun (u : (Int32 × Sto) × va_W) => [] ++ u.2)) A) args s0 0 0 A) (F0 m 12 ls []) := by
    intro n21
    induction n21 with
    | zero =>
      intro i21 s21 pl ls H locs hm21 hF hR hl hO hP hD hS
      refine lv_iload_n hx hb dDA_restIsShort_12 rfl (lv_at hl 0 rfl) ?_
      refine lv_aload_n hx hb dDA_restIsShort_13 rfl (lv_at hl 3 rfl) ?_
      refine nw_get (C := "LatticeKeys$DsaSet") (TT := T_DS) (N := 17) hx hb hts (wg_ft i_DS) hown hK hO k_st (kn := 10) (ci := 2) (fl := [(1, 6), (1, 5), (1, 4), (1, 4), (1, 49), (1, 48), (1, 20), (1, 524288), (1, 16), (1, 4), (1, 261888), (1, 55), (1, 196), (1, 1952), (1, 4032), (1, 3248), (1, 3309)]) rfl hP rfl 0 (by decide) (hts _ (wg_t kw_302)) (fun _ h9 => h9) (cd := (1, 6)) rfl dDA_restIsShort_14 (fun v23 hv23 => ?_)
      obtain rfl := (show v23 = .int (nI 6) from hv23)
      refine mi_ge (tgt := 100) hx hb dDA_restIsShort_17 (by decide) (by omega) (by omega) (fun h21 => ?_) (fun h21 => absurd h21 (by omega))
      refine lv_iconst (v := nI 1) hx hb dDA_restIsShort_100 (by decide) ?_
      exact mp_zret hx hb hr hlk rfl hP hD hS ((nI 1, s21), pl) ⟨⟨hR.symm, rfl, hF, trivial⟩, hO⟩ [] rfl rfl rfl (by omega) (by omega) dDA_restIsShort_101
    | succ n21 ih21 =>
      intro i21 s21 pl ls H locs hm21 hF hR hl hO hP hD hS
      refine lv_iload_n hx hb dDA_restIsShort_12 rfl (lv_at hl 0 rfl) ?_
      refine lv_aload_n hx hb dDA_restIsShort_13 rfl (lv_at hl 3 rfl) ?_
      refine nw_get (C := "LatticeKeys$DsaSet") (TT := T_DS) (N := 17) hx hb hts (wg_ft i_DS) hown hK hO k_st (kn := 10) (ci := 2) (fl := [(1, 6), (1, 5), (1, 4), (1, 4), (1, 49), (1, 48), (1, 20), (1, 524288), (1, 16), (1, 4), (1, 261888), (1, 55), (1, 196), (1, 1952), (1, 4032), (1, 3248), (1, 3309)]) rfl hP rfl 0 (by decide) (hts _ (wg_t kw_302)) (fun _ h9 => h9) (cd := (1, 6)) rfl dDA_restIsShort_14 (fun v24 hv24 => ?_)
      obtain rfl := (show v24 = .int (nI 6) from hv24)
      refine mi_ge (tgt := 100) hx hb dDA_restIsShort_17 (by decide) (by omega) (by omega) (fun h22 => absurd h22 (by omega)) (fun h22 => ?_)
      refine lv_aload_n hx hb dDA_restIsShort_20 rfl (lv_at hl 2 rfl) ?_
      refine lv_aload_n hx hb dDA_restIsShort_21 rfl (lv_at hl 2 rfl) ?_
      refine nw_get (C := "LatticeKeys$Dsa") (TT := T_DA) (N := 17) hx hb hts (wg_ft i_DA) hown hK hO k_h0 (kn := 39) (ci := 6) (fl := [(3, 16), (3, 22), (3, 37), (3, 40), (3, 97), (3, 105), (3, 114), (3, 123), (3, 131), (3, 140), (3, 141), (3, 142), (3, 143), (3, 144), (3, 145), (3, 146), (3, 147)]) rfl hP rfl 5 (by decide) (hts _ (wg_t kw_170)) (fun _ h9 => h9) (cd := (3, 105)) rfl dDA_restIsShort_22 (fun v25 hv25 => ?_)
      obtain ⟨r21, rfl, kr21⟩ := (show ∃ r : Nat, v25 = .ref r ∧ T r = some 105 from hv25)
      refine lv_iload_n hx hb dDA_restIsShort_25 rfl (lv_at hl 0 rfl) ?_
      refine nw_aald3 hx hb hK hO kr21 (k := 105) (b := 106) rfl hP (by omega) (by omega) dDA_restIsShort_26 (fun r22 kr22 => ?_)
      have hn21 : nsp (106 + i21) = (0, 256, []) := rows_ok 106 8 (by decide) _ (by omega)
      refine mp_v (cx := []) (wr := []) hP hD hS hA [] [] rfl rfl rfl (by decide) (va_runV (As := [.ref r22]) (rest := []) F (N_DA_multiplyBall l g _ T s21 pl hO hU h0 r22 (106 + i21) k_h0 kr22 hn21) (cwV 1 hts (wg_app (wg_c kw_1224 (wg_c kw_1226 (wg_c ks_41 (wg_c kw_5 wg_n)))) kw_1227) rfl rfl rfl (by decide +kernel) ⟨by decide, by decide⟩) (pn_W "LatticeKeys$Dsa" (en_ok g) (ci := 6) (kn := 39) (fl := [(3, 16), (3, 22), (3, 37), (3, 40), (3, 97), (3, 105), (3, 114), (3, 123), (3, 131), (3, 140), (3, 141), (3, 142), (3, 143), (3, 144), (3, 145), (3, 146), (3, 147)]) hK hO k_h0 rfl hP hD hS hA hE [] rfl rfl rfl) rfl rfl hl.1 rfl (lv_room (Nat.le_of_ble_eq_true rfl)) dDA_restIsShort_27 ⟨by omega, by omega⟩) (fun  u21 H locs hu21 hP hD hS => ?_)
      obtain ⟨s22, pl⟩ := u21
      obtain ⟨⟨eq21, hFc21, -⟩, hO⟩ := hu21
      have hO : okn g T s22 pl := hO
      have hP : va_P g.1 vcl ([] ++ pl) _ := hP
      have hD : va_D _ ([] ++ pl) := hD
      have hFc21 : frm (M_DA_multiplyBall) s21 s22 := hFc21
      replace hR := bnd_step hR eq21
      have hF := frm_tr hF hFc21 (fun k hk => by unfold M_DA_multiplyBall at hk; unfold M_DA_restIsShort_1; omega)
      refine W.widen (k := 0) (n := 0) (by omega) (by omega) ?_
      refine lv_aload_n hx hb dDA_restIsShort_30 rfl (lv_at hl 2 rfl) ?_
      refine nw_get (C := "LatticeKeys$Dsa") (TT := T_DA) (N := 17) hx hb hts (wg_ft i_DA) hown hK hO k_h0 (kn := 39) (ci := 6) (fl := [(3, 16), (3, 22), (3, 37), (3, 40), (3, 97), (3, 105), (3, 114), (3, 123), (3, 131), (3, 140), (3, 141), (3, 142), (3, 143), (3, 144), (3, 145), (3, 146), (3, 147)]) rfl hP rfl 1 (by decide) (hts _ (wg_t kw_166)) (fun _ h9 => h9) (cd := (3, 22)) rfl dDA_restIsShort_31 (fun v26 hv26 => ?_)
      obtain ⟨r23, rfl, kr23⟩ := (show ∃ r : Nat, v26 = .ref r ∧ T r = some 22 from hv26)
      refine lv_aload_n hx hb dDA_restIsShort_34 rfl (lv_at hl 2 rfl) ?_
      refine nw_get (C := "LatticeKeys$Dsa") (TT := T_DA) (N := 17) hx hb hts (wg_ft i_DA) hown hK hO k_h0 (kn := 39) (ci := 6) (fl := [(3, 16), (3, 22), (3, 37), (3, 40), (3, 97), (3, 105), (3, 114), (3, 123), (3, 131), (3, 140), (3, 141), (3, 142), (3, 143), (3, 144), (3, 145), (3, 146), (3, 147)]) rfl hP rfl 8 (by decide) (hts _ (wg_t kw_173)) (fun _ h9 => h9) (cd := (3, 131)) rfl dDA_restIsShort_35 (fun v27 hv27 => ?_)
      obtain ⟨r24, rfl, kr24⟩ := (show ∃ r : Nat, v27 = .ref r ∧ T r = some 131 from hv27)
      refine lv_iload_n hx hb dDA_restIsShort_38 rfl (lv_at hl 0 rfl) ?_
      refine nw_aald3 hx hb hK hO kr24 (k := 131) (b := 132) rfl hP (by omega) (by omega) dDA_restIsShort_39 (fun r25 kr25 => ?_)
      have hn22 : nsp (132 + i21) = (0, 256, []) := rows_ok 132 8 (by decide) _ (by omega)
      refine lv_aload_n hx hb dDA_restIsShort_40 rfl (lv_at hl 2 rfl) ?_
      refine nw_get (C := "LatticeKeys$Dsa") (TT := T_DA) (N := 17) hx hb hts (wg_ft i_DA) hown hK hO k_h0 (kn := 39) (ci := 6) (fl := [(3, 16), (3, 22), (3, 37), (3, 40), (3, 97), (3, 105), (3, 114), (3, 123), (3, 131), (3, 140), (3, 141), (3, 142), (3, 143), (3, 144), (3, 145), (3, 146), (3, 147)]) rfl hP rfl 10 (by decide) (hts _ (wg_t kw_175)) (fun _ h9 => h9) (cd := (3, 141)) rfl dDA_restIsShort_41 (fun v28 hv28 => ?_)
      obtain ⟨r26, rfl, kr26⟩ := (show ∃ r : Nat, v28 = .ref r ∧ T r = some 141 from hv28)
      refine mp_v (cx := []) (wr := []) hP hD hS hA [] [] rfl rfl rfl (by decide) (va_runV (As := [.ref r25, .ref r26]) (rest := []) F (N_RG_subtract_8 l g _ T s22 pl hO hU r23 r25 r26 (132 + i21) 141 kr23 kr25 hn22 kr26 rfl) (cwV 2 hts (wg_app (wg_c kw_1236 (wg_c kw_1155 (wg_c kw_1156 (wg_c kw_4 wg_n)))) kw_1157) rfl rfl rfl (by decide +kernel) ⟨by decide, by decide⟩) (pn_W "LatticeKeys$Ring" (en_ok g) (ci := 4) (kn := 22) (fl := [(1, 8380417), (1, 8), (1, 8347681), (3, 23)]) hK hO kr23 rfl hP hD hS hA hE [] rfl rfl rfl) rfl rfl hl.1 rfl (lv_room (Nat.le_of_ble_eq_true rfl)) dDA_restIsShort_44 ⟨by omega, by omega⟩) (fun  u22 H locs hu22 hP hD hS => ?_)
      obtain ⟨s23, pl⟩ := u22
      obtain ⟨⟨eq22, hFc22, -⟩, hO⟩ := hu22
      have hO : okn g T s23 pl := hO
      have hP : va_P g.1 vcl ([] ++ pl) _ := hP
      have hD : va_D _ ([] ++ pl) := hD
      have hFc22 : frm (M_RG_subtract_8 (132 + i21)) s22 s23 := hFc22
      replace hR := bnd_step hR eq22
      have hF := frm_tr hF hFc22 (fun k hk => by unfold M_RG_subtract_8 at hk; unfold M_DA_restIsShort_1; omega)
      refine W.widen (k := 0) (n := 0) (by omega) (by omega) ?_
      refine lv_iconst (v := nI 0) hx hb dDA_restIsShort_47 (by decide) ?_
      refine lv_istore (lv' := [(4, .int (nI 0)), (3, .int (nI i21)), (2, .int (nI 261692)), (0, .ref h0), (1, .ref st)]) hx hb dDA_restIsShort_48 hl (by decide) rfl (fun ls hl => ?_)
      have lp22 : ∀ (n22 : Nat) (i22 : Nat) (s24 : Sto) (pl : va_W) (ls : Array Slot) (H : Heap) (locs : List Loc), n22 + i22 = 256 → frm (M_DA_restIsShort_1) s s24 → F_DA_restIsShort_1 s = F_DA_restIsShort_1_L1 i21 (F_DA_restIsShort_1_L0 n21) n22 i22 s24 → lv_has ls 6 [(4, .int (nI i22)), (3, .int (nI i21)), (2, .int (nI 261692)), (0, .ref h0), (1, .ref st)] → okn g T s24 pl → va_P g.1 vcl ([] ++ pl) H → va_D A ([] ++ pl) → va_S A s0.heap H locs → W p l e ({ frames := 3, cells := 0, slots := 0, locals := 74 } : Room) s0 m args below meth c H locs 0 0 (MQ below (va_Qi (fun (r : Int32) (u : (Int32 × Sto) × va_W) => (u.1 = F_DA_restIsShort_1 s ∧ r = u.1.1 ∧ frm (M_DA_restIsShort_1) s u.1.2 ∧ True) ∧ okn g T u.1.2 u.2) (po g.1 vcl A (fun (u : (Int32 × Sto) × va_W) => [] ++ u.2)) A) args s0 0 0 A) (F0 m 50 ls []) := by
        intro n22
        induction n22 with
        | zero =>
          intro i22 s24 pl ls H locs hm22 hF hR hl hO hP hD hS
          refine lv_iload hx hb dDA_restIsShort_50 (lv_at hl 0 rfl) ?_
          refine lv_sipush (v := nI 256) hx hb dDA_restIsShort_52 (by decide) ?_
          refine mi_ge (tgt := 94) hx hb dDA_restIsShort_55 (by decide) (by omega) (by omega) (fun h23 => ?_) (fun h23 => absurd h23 (by omega))
          refine mi_iinc (k := 1) (x := i21) (d := 1) (y := i21 + 1) (lv' := [(3, .int (nI (i21 + 1))), (4, .int (nI i22)), (2, .int (nI 261692)), (0, .ref h0), (1, .ref st)]) hx hb dDA_restIsShort_94 hl rfl (by decide) rfl (by decide) rfl (fun ls hl => ?_)
          refine lv_goto (tgt := 12) hx hb dDA_restIsShort_97 (by decide) ?_
          exact ih21 (i21 + 1) s24 pl ls H locs (by omega) hF hR (lv_sub hl [0, 2, 3, 4] rfl) hO hP hD hS
        | succ n22 ih22 =>
          intro i22 s24 pl ls H locs hm22 hF hR hl hO hP hD hS
          refine lv_iload hx hb dDA_restIsShort_50 (lv_at hl 0 rfl) ?_
          refine lv_sipush (v := nI 256) hx hb dDA_restIsShort_52 (by decide) ?_
          refine mi_ge (tgt := 94) hx hb dDA_restIsShort_55 (by decide) (by omega) (by omega) (fun h24 => absurd h24 (by omega)) (fun h24 => ?_)
          refine lv_aload_n hx hb dDA_restIsShort_58 rfl (lv_at hl 4 rfl) ?_
          refine lv_aload_n hx hb dDA_restIsShort_59 rfl (lv_at hl 3 rfl) ?_
          refine nw_get (C := "LatticeKeys$Dsa") (TT := T_DA) (N := 17) hx hb hts (wg_ft i_DA) hown hK hO k_h0 (kn := 39) (ci := 6) (fl := [(3, 16), (3, 22), (3, 37), (3, 40), (3, 97), (3, 105), (3, 114), (3, 123), (3, 131), (3, 140), (3, 141), (3, 142), (3, 143), (3, 144), (3, 145), (3, 146), (3, 147)]) rfl hP rfl 8 (by decide) (hts _ (wg_t kw_173)) (fun _ h9 => h9) (cd := (3, 131)) rfl dDA_restIsShort_60 (fun v29 hv29 => ?_)
          obtain ⟨r27, rfl, kr27⟩ := (show ∃ r : Nat, v29 = .ref r ∧ T r = some 131 from hv29)
          refine lv_iload_n hx hb dDA_restIsShort_63 rfl (lv_at hl 1 rfl) ?_
          refine nw_aald3 hx hb hK hO kr27 (k := 131) (b := 132) rfl hP (by omega) (by omega) dDA_restIsShort_64 (fun r28 kr28 => ?_)
          have hn23 : nsp (132 + i21) = (0, 256, []) := rows_ok 132 8 (by decide) _ (by omega)
          refine lv_iload hx hb dDA_restIsShort_65 (lv_at hl 0 rfl) ?_
          refine nw_iald hx hb hK hO kr28 (k := (132 + i21)) hn23 hP (by omega) (by omega) dDA_restIsShort_67 ?_
          refine mp_i (cx := []) (wr := []) hP hD hS hA [] [] rfl rfl rfl (by decide) (va_runV (As := [.int ((s24.1 ((132 + i21)) i22))]) (rest := []) F (N_DS_low_1 l g _ T s24 pl hO hU st (s24.1 ((132 + i21)) i22) k_st) (cwV 1 hts (wg_app (wg_c kw_1237 (wg_c kw_1238 (wg_c kw_1239 (wg_c kw_8 wg_n)))) kw_1240) rfl rfl rfl (by decide +kernel) ⟨by decide, by decide⟩) (pn_W "LatticeKeys$DsaSet" (en_ok g) (ci := 2) (kn := 10) (fl := [(1, 6), (1, 5), (1, 4), (1, 4), (1, 49), (1, 48), (1, 20), (1, 524288), (1, 16), (1, 4), (1, 261888), (1, 55), (1, 196), (1, 1952), (1, 4032), (1, 3248), (1, 3309)]) hK hO k_st rfl hP hD hS hA hE [] rfl rfl rfl) rfl rfl hl.1 rfl (lv_room (Nat.le_of_ble_eq_true rfl)) dDA_restIsShort_68 ⟨by omega, by omega⟩) (fun r29 u23 H locs hu23 hP hD hS => ?_)
          obtain ⟨q21, pl⟩ := u23
          obtain ⟨⟨eq23, rfl, hFc23, -⟩, hO⟩ := hu23
          have hO : okn g T q21.2 pl := hO
          have hP : va_P g.1 vcl ([] ++ pl) _ := hP
          have hD : va_D _ ([] ++ pl) := hD
          have hFc23 : frm (M_DS_low_1) s24 q21.2 := hFc23
          replace hR := bnd_step hR eq23
          have hF := frm_tr hF hFc23 (fun k hk => by unfold M_DS_low_1 at hk; unfold M_DA_restIsShort_1; omega)
          refine W.widen (k := 0) (n := 0) (by omega) (by omega) ?_
          refine mi_eqv (fun z21 ez21 => ?_)
          replace hR := bnd_step hR ez21
          refine lv_istore (lv' := [(5, .int z21), (4, .int (nI i22)), (3, .int (nI i21)), (2, .int (nI 261692)), (0, .ref h0), (1, .ref st)]) hx hb dDA_restIsShort_71 hl (by decide) rfl (fun ls hl => ?_)
          refine lv_iload hx hb dDA_restIsShort_73 (lv_at hl 0 rfl) ?_
          refine lv_iload_n hx hb dDA_restIsShort_75 rfl (lv_at hl 3 rfl) ?_
          refine lv_icmp_ge (tgt := 86) hx hb dDA_restIsShort_76 (by decide) (fun h25 => ?_) (fun h25 => ?_)
          · replace hR := hR.trans (if_pos h25)
            refine lv_iconst (v := nI 0) hx hb dDA_restIsShort_86 (by decide) ?_
            exact mp_zret hx hb hr hlk rfl hP hD hS ((nI 0, q21.2), pl) ⟨⟨hR.symm, rfl, hF, trivial⟩, hO⟩ [] rfl rfl rfl (by omega) (by omega) dDA_restIsShort_87
          · replace hR := hR.trans (if_neg h25)
            refine lv_iload hx hb dDA_restIsShort_79 (lv_at hl 0 rfl) ?_
            refine lv_iload_n hx hb dDA_restIsShort_81 rfl (lv_at hl 3 rfl) ?_
            refine lv_ineg hx hb dDA_restIsShort_82 ?_
            refine lv_icmp_gt (tgt := 88) hx hb dDA_restIsShort_83 (by decide) (fun h26 => ?_) (fun h26 => ?_)
            · replace hR := hR.trans (if_pos h26)
              refine mi_iinc (k := 1) (x := i22) (d := 1) (y := i22 + 1) (lv' := [(4, .int (nI (i22 + 1))), (5, .int z21), (3, .int (nI i21)), (2, .int (nI 261692)), (0, .ref h0), (1, .ref st)]) hx hb dDA_restIsShort_88 hl rfl (by decide) rfl (by decide) rfl (fun ls hl => ?_)
              refine lv_goto (tgt := 50) hx hb dDA_restIsShort_91 (by decide) ?_
              exact ih22 (i22 + 1) q21.2 pl ls H locs (by omega) hF hR (lv_sub hl [0, 2, 3, 4, 5] rfl) hO hP hD hS
            · replace hR := hR.trans (if_neg h26)
              refine lv_iconst (v := nI 0) hx hb dDA_restIsShort_86 (by decide) ?_
              exact mp_zret hx hb hr hlk rfl hP hD hS ((nI 0, q21.2), pl) ⟨⟨hR.symm, rfl, hF, trivial⟩, hO⟩ [] rfl rfl rfl (by omega) (by omega) dDA_restIsShort_87
      exact lp22 256 0 s23 pl ls _ _ (by omega) hF hR (lv_sub hl [0, 1, 2, 3, 4] rfl) hO hP hD hS
  exact lp21 6 0 s pl ls _ _ (by omega) hF hR (lv_sub hl [0, 1, 2, 3] rfl) hO hP hD hS
def M_DA_restIsShort_2 (k : Nat) : Prop := (132 ≤ k ∧ k < 140) ∨ k = 141 ∨ (0 : Nat) = 1
noncomputable def F_DA_restIsShort_2_L1 (i21 : Nat) (kk : Nat → Sto → Int32 × Sto) : Nat → Nat → Sto → Int32 × Sto
  | 0, i22, s24 => kk (i21 + 1) s24
  | n22 + 1, i22, s24 => bnd (F_DS_low_2 (s24.1 ((132 + i21)) i22) s24) fun q21 => bnd (q21.1) fun z21 => if (nI 261768) ≤ z21 then (nI 0, q21.2) else if (-(nI 261768)) < z21 then F_DA_restIsShort_2_L1 i21 kk n22 (i22 + 1) q21.2 else (nI 0, q21.2)
noncomputable def F_DA_restIsShort_2_L0 : Nat → Nat → Sto → Int32 × Sto
  | 0, i21, s21 => (nI 1, s21)
  | n21 + 1, i21, s21 => bnd (F_DA_multiplyBall (106 + i21) s21) fun s22 => bnd (F_RG_subtract_8 (132 + i21) 141 s22) fun s23 => F_DA_restIsShort_2_L1 i21 (F_DA_restIsShort_2_L0  n21) 256 0 s23
noncomputable def F_DA_restIsShort_2 (s : Sto) : Int32 × Sto := F_DA_restIsShort_2_L0 8 0 s
set_option maxHeartbeats 8000000 in
set_option maxRecDepth 100000 in
theorem N_DA_restIsShort_2 (l : Launch) (g : Gd) (sz : Nat) (T : TyN) (s : Sto) (pl : va_W) (hO : okn g T s pl) (hU : inj T) (h0 st : Nat) (k_h0 : T h0 = some 39) (k_st : T st = some 11)  : Met l y_DA_restIsShort w_DA_restIsShort ({ frames := 3, cells := 0, slots := 0, locals := 74 } : Room) (va_Pc [.ref h0, .ref st] (pr (en g) g.1 vcl sz ([] ++ pl))) (va_Qi (fun (r : Int32) (u : (Int32 × Sto) × va_W) => (u.1 = F_DA_restIsShort_2 s ∧ r = u.1.1 ∧ frm (M_DA_restIsShort_2) s u.1.2 ∧ True) ∧ okn g T u.1.2 u.2) (po g.1 vcl (va_A ([] ++ pl) sz) (fun (u : (Int32 × Sto) × va_W) => [] ++ u.2)) (va_A ([] ++ pl) sz)) 0 0 (va_A ([] ++ pl) sz) := by
  refine mc_entry (cc := c_DA_restIsShort) (maxL := 6) (ret := (some .boolean)) (by decide) rfl (Nat.le_of_ble_eq_true rfl) ?_
  intro p e s0 m args below meth c ls F hr hlk hnm hsz hP hD hE hA hl
  obtain ⟨hx, hb, hml, hown, hts⟩ := id F
  have hK := hE.1
  generalize va_A ([] ++ pl) sz = A at hD hE hA ⊢
  have hS : va_S A s0.heap s0.heap [] := va_S.rf
  have hl : lv_has ls 6 [(0, .ref h0), (1, .ref st)] := hl
  have hR : F_DA_restIsShort_2 s = F_DA_restIsShort_2 s := rfl
  have hF : frm (M_DA_restIsShort_2) s s := frm_rf
  refine lv_aload_n hx hb dDA_restIsShort_0 rfl (lv_at hl 1 rfl) ?_
  refine nw_get (C := "LatticeKeys$DsaSet") (TT := T_DS) (N := 17) hx hb hts (wg_ft i_DS) hown hK hO k_st (kn := 11) (ci := 2) (fl := [(1, 8), (1, 7), (1, 2), (1, 3), (1, 60), (1, 64), (1, 20), (1, 524288), (1, 16), (1, 4), (1, 261888), (1, 75), (1, 120), (1, 2592), (1, 4896), (1, 4544), (1, 4627)]) rfl hP rfl 10 (by decide) (hts _ (wg_t kw_325)) (fun _ h9 => h9) (cd := (1, 261888)) rfl dDA_restIsShort_1 (fun v21 hv21 => ?_)
  obtain rfl := (show v21 = .int (nI 261888) from hv21)
  refine lv_aload_n hx hb dDA_restIsShort_4 rfl (lv_at hl 1 rfl) ?_
  refine nw_get (C := "LatticeKeys$DsaSet") (TT := T_DS) (N := 17) hx hb hts (wg_ft i_DS) hown hK hO k_st (kn := 11) (ci := 2) (fl := [(1, 8), (1, 7), (1, 2), (1, 3), (1, 60), (1, 64), (1, 20), (1, 524288), (1, 16), (1, 4), (1, 261888), (1, 75), (1, 120), (1, 2592), (1, 4896), (1, 4544), (1, 4627)]) rfl hP rfl 12 (by decide) (hts _ (wg_t kw_329)) (fun _ h9 => h9) (cd := (1, 120)) rfl dDA_restIsShort_5 (fun v22 hv22 => ?_)
  obtain rfl := (show v22 = .int (nI 120) from hv22)
  refine mi_isub hx hb dDA_restIsShort_8 (by omega) ?_
  refine mi_as (show nI (261888 - 120) = nI 261768 from rfl) ?_
  refine lv_istore_n (lv' := [(2, .int (nI 261768)), (0, .ref h0), (1, .ref st)]) hx hb dDA_restIsShort_9 rfl hl (by decide) rfl (fun ls hl => ?_)
  refine lv_iconst (v := nI 0) hx hb dDA_restIsShort_10 (by decide) ?_
  refine lv_istore_n (lv' := [(3, .int (nI 0)), (2, .int (nI 261768)), (0, .ref h0), (1, .ref st)]) hx hb dDA_restIsShort_11 rfl hl (by decide) rfl (fun ls hl => ?_)
  have lp21 : ∀ (n21 : Nat) (i21 : Nat) (s21 : Sto) (pl : va_W) (ls : Array Slot) (H : Heap) (locs : List Loc), n21 + i21 = 8 → frm (M_DA_restIsShort_2) s s21 → F_DA_restIsShort_2 s = F_DA_restIsShort_2_L0 n21 i21 s21 → lv_has ls 6 [(3, .int (nI i21)), (2, .int (nI 261768)), (0, .ref h0), (1, .ref st)] → okn g T s21 pl → va_P g.1 vcl ([] ++ pl) H → va_D A ([] ++ pl) → va_S A s0.heap H locs → W p l e ({ frames := 3, cells := 0, slots := 0, locals := 74 } : Room) s0 m args below meth c H locs 0 0 (MQ below (va_Qi (fun (r : Int32) (u : (Int32 × Sto) × va_W) => (u.1 = F_DA_restIsShort_2 s ∧ r = u.1.1 ∧ frm (M_DA_restIsShort_2) s u.1.2 ∧ True) ∧ okn g T u.1.2 u.2) (po g.1 vcl A (fun (u : (Int32 × Sto) × va_W) => [] ++ u.2)) A) args s0 0 0 A) (F0 m 12 ls []) := by
    intro n21
    induction n21 with
    | zero =>
      intro i21 s21 pl ls H locs hm21 hF hR hl hO hP hD hS
      refine lv_iload_n hx hb dDA_restIsShort_12 rfl (lv_at hl 0 rfl) ?_
      refine lv_aload_n hx hb dDA_restIsShort_13 rfl (lv_at hl 3 rfl) ?_
      refine nw_get (C := "LatticeKeys$DsaSet") (TT := T_DS) (N := 17) hx hb hts (wg_ft i_DS) hown hK hO k_st (kn := 11) (ci := 2) (fl := [(1, 8), (1, 7), (1, 2), (1, 3), (1, 60), (1, 64), (1, 20), (1, 524288), (1, 16), (1, 4), (1, 261888), (1, 75), (1, 120), (1, 2592), (1, 4896), (1, 4544), (1, 4627)]) rfl hP rfl 0 (by decide) (hts _ (wg_t kw_302)) (fun _ h9 => h9) (cd := (1, 8)) rfl dDA_restIsShort_14 (fun v23 hv23 => ?_)
      obtain rfl := (show v23 = .int (nI 8) from hv23)
      refine mi_ge (tgt := 100) hx hb dDA_restIsShort_17 (by decide) (by omega) (by omega) (fun h21 => ?_) (fun h21 => absurd h21 (by omega))
      refine lv_iconst (v := nI 1) hx hb dDA_restIsShort_100 (by decide) ?_
      exact mp_zret hx hb hr hlk rfl hP hD hS ((nI 1, s21), pl) ⟨⟨hR.symm, rfl, hF, trivial⟩, hO⟩ [] rfl rfl rfl (by omega) (by omega) dDA_restIsShort_101
    | succ n21 ih21 =>
      intro i21 s21 pl ls H locs hm21 hF hR hl hO hP hD hS
      refine lv_iload_n hx hb dDA_restIsShort_12 rfl (lv_at hl 0 rfl) ?_
      refine lv_aload_n hx hb dDA_restIsShort_13 rfl (lv_at hl 3 rfl) ?_
      refine nw_get (C := "LatticeKeys$DsaSet") (TT := T_DS) (N := 17) hx hb hts (wg_ft i_DS) hown hK hO k_st (kn := 11) (ci := 2) (fl := [(1, 8), (1, 7), (1, 2), (1, 3), (1, 60), (1, 64), (1, 20), (1, 524288), (1, 16), (1, 4), (1, 261888), (1, 75), (1, 120), (1, 2592), (1, 4896), (1, 4544), (1, 4627)]) rfl hP rfl 0 (by decide) (hts _ (wg_t kw_302)) (fun _ h9 => h9) (cd := (1, 8)) rfl dDA_restIsShort_14 (fun v24 hv24 => ?_)
      obtain rfl := (show v24 = .int (nI 8) from hv24)
      refine mi_ge (tgt := 100) hx hb dDA_restIsShort_17 (by decide) (by omega) (by omega) (fun h22 => absurd h22 (by omega)) (fun h22 => ?_)
      refine lv_aload_n hx hb dDA_restIsShort_20 rfl (lv_at hl 2 rfl) ?_
      refine lv_aload_n hx hb dDA_restIsShort_21 rfl (lv_at hl 2 rfl) ?_
      refine nw_get (C := "LatticeKeys$Dsa") (TT := T_DA) (N := 17) hx hb hts (wg_ft i_DA) hown hK hO k_h0 (kn := 39) (ci := 6) (fl := [(3, 16), (3, 22), (3, 37), (3, 40), (3, 97), (3, 105), (3, 114), (3, 123), (3, 131), (3, 140), (3, 141), (3, 142), (3, 143), (3, 144), (3, 145), (3, 146), (3, 147)]) rfl hP rfl 5 (by decide) (hts _ (wg_t kw_170)) (fun _ h9 => h9) (cd := (3, 105)) rfl dDA_restIsShort_22 (fun v25 hv25 => ?_)
      obtain ⟨r21, rfl, kr21⟩ := (show ∃ r : Nat, v25 = .ref r ∧ T r = some 105 from hv25)
      refine lv_iload_n hx hb dDA_restIsShort_25 rfl (lv_at hl 0 rfl) ?_
      refine nw_aald3 hx hb hK hO kr21 (k := 105) (b := 106) rfl hP (by omega) (by omega) dDA_restIsShort_26 (fun r22 kr22 => ?_)
      have hn21 : nsp (106 + i21) = (0, 256, []) := rows_ok 106 8 (by decide) _ (by omega)
      refine mp_v (cx := []) (wr := []) hP hD hS hA [] [] rfl rfl rfl (by decide) (va_runV (As := [.ref r22]) (rest := []) F (N_DA_multiplyBall l g _ T s21 pl hO hU h0 r22 (106 + i21) k_h0 kr22 hn21) (cwV 1 hts (wg_app (wg_c kw_1224 (wg_c kw_1226 (wg_c ks_41 (wg_c kw_5 wg_n)))) kw_1227) rfl rfl rfl (by decide +kernel) ⟨by decide, by decide⟩) (pn_W "LatticeKeys$Dsa" (en_ok g) (ci := 6) (kn := 39) (fl := [(3, 16), (3, 22), (3, 37), (3, 40), (3, 97), (3, 105), (3, 114), (3, 123), (3, 131), (3, 140), (3, 141), (3, 142), (3, 143), (3, 144), (3, 145), (3, 146), (3, 147)]) hK hO k_h0 rfl hP hD hS hA hE [] rfl rfl rfl) rfl rfl hl.1 rfl (lv_room (Nat.le_of_ble_eq_true rfl)) dDA_restIsShort_27 ⟨by omega, by omega⟩) (fun  u21 H locs hu21 hP hD hS => ?_)
      obtain ⟨s22, pl⟩ := u21
      obtain ⟨⟨eq21, hFc21, -⟩, hO⟩ := hu21
      have hO : okn g T s22 pl := hO
      have hP : va_P g.1 vcl ([] ++ pl) _ := hP
      have hD : va_D _ ([] ++ pl) := hD
      have hFc21 : frm (M_DA_multiplyBall) s21 s22 := hFc21
      replace hR := bnd_step hR eq21
      have hF := frm_tr hF hFc21 (fun k hk => by unfold M_DA_multiplyBall at hk; unfold M_DA_restIsShort_2; omega)
      refine W.widen (k := 0) (n := 0) (by omega) (by omega) ?_
      refine lv_aload_n hx hb dDA_restIsShort_30 rfl (lv_at hl 2 rfl) ?_
      refine nw_get (C := "LatticeKeys$Dsa") (TT := T_DA) (N := 17) hx hb hts (wg_ft i_DA) hown hK hO k_h0 (kn := 39) (ci := 6) (fl := [(3, 16), (3, 22), (3, 37), (3, 40), (3, 97), (3, 105), (3, 114), (3, 123), (3, 131), (3, 140), (3, 141), (3, 142), (3, 143), (3, 144), (3, 145), (3, 146), (3, 147)]) rfl hP rfl 1 (by decide) (hts _ (wg_t kw_166)) (fun _ h9 => h9) (cd := (3, 22)) rfl dDA_restIsShort_31 (fun v26 hv26 => ?_)
      obtain ⟨r23, rfl, kr23⟩ := (show ∃ r : Nat, v26 = .ref r ∧ T r = some 22 from hv26)
      refine lv_aload_n hx hb dDA_restIsShort_34 rfl (lv_at hl 2 rfl) ?_
      refine nw_get (C := "LatticeKeys$Dsa") (TT := T_DA) (N := 17) hx hb hts (wg_ft i_DA) hown hK hO k_h0 (kn := 39) (ci := 6) (fl := [(3, 16), (3, 22), (3, 37), (3, 40), (3, 97), (3, 105), (3, 114), (3, 123), (3, 131), (3, 140), (3, 141), (3, 142), (3, 143), (3, 144), (3, 145), (3, 146), (3, 147)]) rfl hP rfl 8 (by decide) (hts _ (wg_t kw_173)) (fun _ h9 => h9) (cd := (3, 131)) rfl dDA_restIsShort_35 (fun v27 hv27 => ?_)
      obtain ⟨r24, rfl, kr24⟩ := (show ∃ r : Nat, v27 = .ref r ∧ T r = some 131 from hv27)
      refine lv_iload_n hx hb dDA_restIsShort_38 rfl (lv_at hl 0 rfl) ?_
      refine nw_aald3 hx hb hK hO kr24 (k := 131) (b := 132) rfl hP (by omega) (by omega) dDA_restIsShort_39 (fun r25 kr25 => ?_)
      have hn22 : nsp (132 + i21) = (0, 256, []) := rows_ok 132 8 (by decide) _ (by omega)
      refine lv_aload_n hx hb dDA_restIsShort_40 rfl (lv_at hl 2 rfl) ?_
      refine nw_get (C := "LatticeKeys$Dsa") (TT := T_DA) (N := 17) hx hb hts (wg_ft i_DA) hown hK hO k_h0 (kn := 39) (ci := 6) (fl := [(3, 16), (3, 22), (3, 37), (3, 40), (3, 97), (3, 105), (3, 114), (3, 123), (3, 131), (3, 140), (3, 141), (3, 142), (3, 143), (3, 144), (3, 145), (3, 146), (3, 147)]) rfl hP rfl 10 (by decide) (hts _ (wg_t kw_175)) (fun _ h9 => h9) (cd := (3, 141)) rfl dDA_restIsShort_41 (fun v28 hv28 => ?_)
      obtain ⟨r26, rfl, kr26⟩ := (show ∃ r : Nat, v28 = .ref r ∧ T r = some 141 from hv28)
      refine mp_v (cx := []) (wr := []) hP hD hS hA [] [] rfl rfl rfl (by decide) (va_runV (As := [.ref r25, .ref r26]) (rest := []) F (N_RG_subtract_8 l g _ T s22 pl hO hU r23 r25 r26 (132 + i21) 141 kr23 kr25 hn22 kr26 rfl) (cwV 2 hts (wg_app (wg_c kw_1236 (wg_c kw_1155 (wg_c kw_1156 (wg_c kw_4 wg_n)))) kw_1157) rfl rfl rfl (by decide +kernel) ⟨by decide, by decide⟩) (pn_W "LatticeKeys$Ring" (en_ok g) (ci := 4) (kn := 22) (fl := [(1, 8380417), (1, 8), (1, 8347681), (3, 23)]) hK hO kr23 rfl hP hD hS hA hE [] rfl rfl rfl) rfl rfl hl.1 rfl (lv_room (Nat.le_of_ble_eq_true rfl)) dDA_restIsShort_44 ⟨by omega, by omega⟩) (fun  u22 H locs hu22 hP hD hS => ?_)
      obtain ⟨s23, pl⟩ := u22
      obtain ⟨⟨eq22, hFc22, -⟩, hO⟩ := hu22
      have hO : okn g T s23 pl := hO
      have hP : va_P g.1 vcl ([] ++ pl) _ := hP
      have hD : va_D _ ([] ++ pl) := hD
      have hFc22 : frm (M_RG_subtract_8 (132 + i21)) s22 s23 := hFc22
      replace hR := bnd_step hR eq22
      have hF := frm_tr hF hFc22 (fun k hk => by unfold M_RG_subtract_8 at hk; unfold M_DA_restIsShort_2; omega)
      refine W.widen (k := 0) (n := 0) (by omega) (by omega) ?_
      refine lv_iconst (v := nI 0) hx hb dDA_restIsShort_47 (by decide) ?_
      refine lv_istore (lv' := [(4, .int (nI 0)), (3, .int (nI i21)), (2, .int (nI 261768)), (0, .ref h0), (1, .ref st)]) hx hb dDA_restIsShort_48 hl (by decide) rfl (fun ls hl => ?_)
      have lp22 : ∀ (n22 : Nat) (i22 : Nat) (s24 : Sto) (pl : va_W) (ls : Array Slot) (H : Heap) (locs : List Loc), n22 + i22 = 256 → frm (M_DA_restIsShort_2) s s24 → F_DA_restIsShort_2 s = F_DA_restIsShort_2_L1 i21 (F_DA_restIsShort_2_L0 n21) n22 i22 s24 → lv_has ls 6 [(4, .int (nI i22)), (3, .int (nI i21)), (2, .int (nI 261768)), (0, .ref h0), (1, .ref st)] → okn g T s24 pl → va_P g.1 vcl ([] ++ pl) H → va_D A ([] ++ pl) → va_S A s0.heap H locs → W p l e ({ frames := 3, cells := 0, slots := 0, locals := 74 } : Room) s0 m args below meth c H locs 0 0 (MQ below (va_Qi (fun (r : Int32) (u : (Int32 × Sto) × va_W) => (u.1 = F_DA_restIsShort_2 s ∧ r = u.1.1 ∧ frm (M_DA_restIsShort_2) s u.1.2 ∧ True) ∧ okn g T u.1.2 u.2) (po g.1 vcl A (fun (u : (Int32 × Sto) × va_W) => [] ++ u.2)) A) args s0 0 0 A) (F0 m 50 ls []) := by
        intro n22
        induction n22 with
        | zero =>
          intro i22 s24 pl ls H locs hm22 hF hR hl hO hP hD hS
          refine lv_iload hx hb dDA_restIsShort_50 (lv_at hl 0 rfl) ?_
          refine lv_sipush (v := nI 256) hx hb dDA_restIsShort_52 (by decide) ?_
          refine mi_ge (tgt := 94) hx hb dDA_restIsShort_55 (by decide) (by omega) (by omega) (fun h23 => ?_) (fun h23 => absurd h23 (by omega))
          refine mi_iinc (k := 1) (x := i21) (d := 1) (y := i21 + 1) (lv' := [(3, .int (nI (i21 + 1))), (4, .int (nI i22)), (2, .int (nI 261768)), (0, .ref h0), (1, .ref st)]) hx hb dDA_restIsShort_94 hl rfl (by decide) rfl (by decide) rfl (fun ls hl => ?_)
          refine lv_goto (tgt := 12) hx hb dDA_restIsShort_97 (by decide) ?_
          exact ih21 (i21 + 1) s24 pl ls H locs (by omega) hF hR (lv_sub hl [0, 2, 3, 4] rfl) hO hP hD hS
        | succ n22 ih22 =>
          intro i22 s24 pl ls H locs hm22 hF hR hl hO hP hD hS
          refine lv_iload hx hb dDA_restIsShort_50 (lv_at hl 0 rfl) ?_
          refine lv_sipush (v := nI 256) hx hb dDA_restIsShort_52 (by decide) ?_
          refine mi_ge (tgt := 94) hx hb dDA_restIsShort_55 (by decide) (by omega) (by omega) (fun h24 => absurd h24 (by omega)) (fun h24 => ?_)
          refine lv_aload_n hx hb dDA_restIsShort_58 rfl (lv_at hl 4 rfl) ?_
          refine lv_aload_n hx hb dDA_restIsShort_59 rfl (lv_at hl 3 rfl) ?_
          refine nw_get (C := "LatticeKeys$Dsa") (TT := T_DA) (N := 17) hx hb hts (wg_ft i_DA) hown hK hO k_h0 (kn := 39) (ci := 6) (fl := [(3, 16), (3, 22), (3, 37), (3, 40), (3, 97), (3, 105), (3, 114), (3, 123), (3, 131), (3, 140), (3, 141), (3, 142), (3, 143), (3, 144), (3, 145), (3, 146), (3, 147)]) rfl hP rfl 8 (by decide) (hts _ (wg_t kw_173)) (fun _ h9 => h9) (cd := (3, 131)) rfl dDA_restIsShort_60 (fun v29 hv29 => ?_)
          obtain ⟨r27, rfl, kr27⟩ := (show ∃ r : Nat, v29 = .ref r ∧ T r = some 131 from hv29)
          refine lv_iload_n hx hb dDA_restIsShort_63 rfl (lv_at hl 1 rfl) ?_
          refine nw_aald3 hx hb hK hO kr27 (k := 131) (b := 132) rfl hP (by omega) (by omega) dDA_restIsShort_64 (fun r28 kr28 => ?_)
          have hn23 : nsp (132 + i21) = (0, 256, []) := rows_ok 132 8 (by decide) _ (by omega)
          refine lv_iload hx hb dDA_restIsShort_65 (lv_at hl 0 rfl) ?_
          refine nw_iald hx hb hK hO kr28 (k := (132 + i21)) hn23 hP (by omega) (by omega) dDA_restIsShort_67 ?_
          refine mp_i (cx := []) (wr := []) hP hD hS hA [] [] rfl rfl rfl (by decide) (va_runV (As := [.int ((s24.1 ((132 + i21)) i22))]) (rest := []) F (N_DS_low_2 l g _ T s24 pl hO hU st (s24.1 ((132 + i21)) i22) k_st) (cwV 1 hts (wg_app (wg_c kw_1237 (wg_c kw_1238 (wg_c kw_1239 (wg_c kw_8 wg_n)))) kw_1240) rfl rfl rfl (by decide +kernel) ⟨by decide, by decide⟩) (pn_W "LatticeKeys$DsaSet" (en_ok g) (ci := 2) (kn := 11) (fl := [(1, 8), (1, 7), (1, 2), (1, 3), (1, 60), (1, 64), (1, 20), (1, 524288), (1, 16), (1, 4), (1, 261888), (1, 75), (1, 120), (1, 2592), (1, 4896), (1, 4544), (1, 4627)]) hK hO k_st rfl hP hD hS hA hE [] rfl rfl rfl) rfl rfl hl.1 rfl (lv_room (Nat.le_of_ble_eq_true rfl)) dDA_restIsShort_68 ⟨by omega, by omega⟩) (fun r29 u23 H locs hu23 hP hD hS => ?_)
          obtain ⟨q21, pl⟩ := u23
          obtain ⟨⟨eq23, rfl, hFc23, -⟩, hO⟩ := hu23
          have hO : okn g T q21.2 pl := hO
          have hP : va_P g.1 vcl ([] ++ pl) _ := hP
          have hD : va_D _ ([] ++ pl) := hD
          have hFc23 : frm (M_DS_low_2) s24 q21.2 := hFc23
          replace hR := bnd_step hR eq23
          have hF := frm_tr hF hFc23 (fun k hk => by unfold M_DS_low_2 at hk; unfold M_DA_restIsShort_2; omega)
          refine W.widen (k := 0) (n := 0) (by omega) (by omega) ?_
          refine mi_eqv (fun z21 ez21 => ?_)
          replace hR := bnd_step hR ez21
          refine lv_istore (lv' := [(5, .int z21), (4, .int (nI i22)), (3, .int (nI i21)), (2, .int (nI 261768)), (0, .ref h0), (1, .ref st)]) hx hb dDA_restIsShort_71 hl (by decide) rfl (fun ls hl => ?_)
          refine lv_iload hx hb dDA_restIsShort_73 (lv_at hl 0 rfl) ?_
          refine lv_iload_n hx hb dDA_restIsShort_75 rfl (lv_at hl 3 rfl) ?_
          refine lv_icmp_ge (tgt := 86) hx hb dDA_restIsShort_76 (by decide) (fun h25 => ?_) (fun h25 => ?_)
          · replace hR := hR.trans (if_pos h25)
            refine lv_iconst (v := nI 0) hx hb dDA_restIsShort_86 (by decide) ?_
            exact mp_zret hx hb hr hlk rfl hP hD hS ((nI 0, q21.2), pl) ⟨⟨hR.symm, rfl, hF, trivial⟩, hO⟩ [] rfl rfl rfl (by omega) (by omega) dDA_restIsShort_87
          · replace hR := hR.trans (if_neg h25)
            refine lv_iload hx hb dDA_restIsShort_79 (lv_at hl 0 rfl) ?_
            refine lv_iload_n hx hb dDA_restIsShort_81 rfl (lv_at hl 3 rfl) ?_
            refine lv_ineg hx hb dDA_restIsShort_82 ?_
            refine lv_icmp_gt (tgt := 88) hx hb dDA_restIsShort_83 (by decide) (fun h26 => ?_) (fun h26 => ?_)
            · replace hR := hR.trans (if_pos h26)
              refine mi_iinc (k := 1) (x := i22) (d := 1) (y := i22 + 1) (lv' := [(4, .int (nI (i22 + 1))), (5, .int z21), (3, .int (nI i21)), (2, .int (nI 261768)), (0, .ref h0), (1, .ref st)]) hx hb dDA_restIsShort_88 hl rfl (by decide) rfl (by decide) rfl (fun ls hl => ?_)
              refine lv_goto (tgt := 50) hx hb dDA_restIsShort_91 (by decide) ?_
              exact ih22 (i22 + 1) q21.2 pl ls H locs (by omega) hF hR (lv_sub hl [0, 2, 3, 4, 5] rfl) hO hP hD hS
            · replace hR := hR.trans (if_neg h26)
              refine lv_iconst (v := nI 0) hx hb dDA_restIsShort_86 (by decide) ?_
              exact mp_zret hx hb hr hlk rfl hP hD hS ((nI 0, q21.2), pl) ⟨⟨hR.symm, rfl, hF, trivial⟩, hO⟩ [] rfl rfl rfl (by omega) (by omega) dDA_restIsShort_87
      exact lp22 256 0 s23 pl ls _ _ (by omega) hF hR (lv_sub hl [0, 1, 2, 3, 4] rfl) hO hP hD hS
  exact lp21 8 0 s pl ls _ _ (by omega) hF hR (lv_sub hl [0, 1, 2, 3] rfl) hO hP hD hS
def M_DA_makeHints_0 (k : Nat) : Prop := k = 141 ∨ k = 146 ∨ (0 : Nat) = 1
noncomputable def F_DA_makeHints_0_L1 (i21 : Nat) (kk : Nat → Nat → Sto → Int32 × Sto) : Nat → Nat → Nat → Sto → Int32 × Sto
  | 0, i22, cn22, s25 => bnd (sB s25 146 (80 + i21) ((nI cn22).toInt8.toInt32)) fun s26 => kk (i21 + 1) cn22 s26
  | n22 + 1, i22, cn22, s25 => bnd (F_DS_high_0 (s25.1 141 i22) s25) fun q22 => bnd (F_DS_high_0 (q22.2.1 ((132 + i21)) i22) q22.2) fun q23 => if (q22.1) = (q23.1) then F_DA_makeHints_0_L1 i21 kk n22 (i22 + 1) cn22 q23.2 else if cn22 < 80 then bnd (sB q23.2 146 cn22 ((nI i22).toInt8.toInt32)) fun s27 => F_DA_makeHints_0_L1 i21 kk n22 (i22 + 1) (cn22 + 1) s27 else (nI 0, q23.2)
noncomputable def F_DA_makeHints_0_L0 : Nat → Nat → Nat → Sto → Int32 × Sto
  | 0, i21, cn21, s22 => (nI 1, s22)
  | n21 + 1, i21, cn21, s22 => bnd (F_DA_multiplyBall (115 + i21) s22) fun s23 => bnd (F_RG_isShort_8 141 (nI 95232) s23) fun q21 => if (q21.1) = 0 then (nI 0, q21.2) else bnd (F_RG_add_8 141 (132 + i21) q21.2) fun s24 => F_DA_makeHints_0_L1 i21 (F_DA_makeHints_0_L0  n21) 256 0 cn21 s24
noncomputable def F_DA_makeHints_0 (s : Sto) : Int32 × Sto := bnd (F_AR_fillB 146 84 (nI 0) s) fun s21 => F_DA_makeHints_0_L0 4 0 0 s21
set_option maxHeartbeats 8000000 in
set_option maxRecDepth 100000 in
theorem N_DA_makeHints_0 (l : Launch) (g : Gd) (sz : Nat) (T : TyN) (s : Sto) (pl : va_W) (hO : okn g T s pl) (hU : inj T) (h0 st : Nat) (k_h0 : T h0 = some 39) (k_st : T st = some 9)  : Met l y_DA_makeHints w_DA_makeHints ({ frames := 3, cells := 0, slots := 0, locals := 74 } : Room) (va_Pc [.ref h0, .ref st] (pr (en g) g.1 vcl sz ([] ++ pl))) (va_Qi (fun (r : Int32) (u : (Int32 × Sto) × va_W) => (u.1 = F_DA_makeHints_0 s ∧ r = u.1.1 ∧ frm (M_DA_makeHints_0) s u.1.2 ∧ True) ∧ okn g T u.1.2 u.2) (po g.1 vcl (va_A ([] ++ pl) sz) (fun (u : (Int32 × Sto) × va_W) => [] ++ u.2)) (va_A ([] ++ pl) sz)) 0 0 (va_A ([] ++ pl) sz) := by
  refine mc_entry (cc := c_DA_makeHints) (maxL := 5) (ret := (some .boolean)) (by decide) rfl (Nat.le_of_ble_eq_true rfl) ?_
  intro p e s0 m args below meth c ls F hr hlk hnm hsz hP hD hE hA hl
  obtain ⟨hx, hb, hml, hown, hts⟩ := id F
  have hK := hE.1
  generalize va_A ([] ++ pl) sz = A at hD hE hA ⊢
  have hS : va_S A s0.heap s0.heap [] := va_S.rf
  have hl : lv_has ls 5 [(0, .ref h0), (1, .ref st)] := hl
  have hR : F_DA_makeHints_0 s = F_DA_makeHints_0 s := rfl
  have hF : frm (M_DA_makeHints_0) s s := frm_rf
  refine lv_aload_n hx hb dDA_makeHints_0 rfl (lv_at hl 0 rfl) ?_
  refine nw_get (C := "LatticeKeys$Dsa") (TT := T_DA) (N := 17) hx hb hts (wg_ft i_DA) hown hK hO k_h0 (kn := 39) (ci := 6) (fl := [(3, 16), (3, 22), (3, 37), (3, 40), (3, 97), (3, 105), (3, 114), (3, 123), (3, 131), (3, 140), (3, 141), (3, 142), (3, 143), (3, 144), (3, 145), (3, 146), (3, 147)]) rfl hP rfl 15 (by decide) (hts _ (wg_t kw_180)) (fun _ h9 => h9) (cd := (3, 146)) rfl dDA_makeHints_1 (fun v21 hv21 => ?_)
  obtain ⟨r21, rfl, kr21⟩ := (show ∃ r : Nat, v21 = .ref r ∧ T r = some 146 from hv21)
  refine lv_iconst (v := nI 0) hx hb dDA_makeHints_4 (by decide) ?_
  refine mp_v (cx := []) (wr := []) hP hD hS hA [] [] rfl rfl rfl (by decide) (va_runS (As := [.ref r21, .int (nI 0)]) (rest := []) F (N_AR_fillB l g _ T s pl hO hU r21 146 84 (nI 0) kr21 rfl (by omega)) (va_cwS 2 hts (wg_app (wg_c kw_1245 (wg_c kw_1246 (wg_c kw_21 wg_n))) kw_1247) rfl rfl rfl (by decide +kernel) ⟨by decide, by decide⟩) (pp_S (en_ok g) hP hD hS hA hE [] rfl rfl) rfl rfl hl.1 rfl (lv_room (Nat.le_of_ble_eq_true rfl)) dDA_makeHints_5 ⟨by omega, by omega⟩) (fun  u21 H locs hu21 hP hD hS => ?_)
  obtain ⟨s21, pl⟩ := u21
  obtain ⟨⟨eq21, hFc21, -⟩, hO⟩ := hu21
  have hO : okn g T s21 pl := hO
  have hP : va_P g.1 vcl ([] ++ pl) _ := hP
  have hD : va_D _ ([] ++ pl) := hD
  have hFc21 : frm (M_AR_fillB 146) s s21 := hFc21
  replace hR := bnd_step hR eq21
  have hF := frm_tr hF hFc21 (fun k hk => by unfold M_AR_fillB at hk; unfold M_DA_makeHints_0; omega)
  refine W.widen (k := 0) (n := 0) (by omega) (by omega) ?_
  refine lv_iconst (v := nI 0) hx hb dDA_makeHints_8 (by decide) ?_
  refine lv_istore_n (lv' := [(2, .int (nI 0)), (0, .ref h0), (1, .ref st)]) hx hb dDA_makeHints_9 rfl hl (by decide) rfl (fun ls hl => ?_)
  refine lv_iconst (v := nI 0) hx hb dDA_makeHints_10 (by decide) ?_
  refine lv_istore_n (lv' := [(3, .int (nI 0)), (2, .int (nI 0)), (0, .ref h0), (1, .ref st)]) hx hb dDA_makeHints_11 rfl hl (by decide) rfl (fun ls hl => ?_)
  have lp21 : ∀ (n21 : Nat) (i21 : Nat) (cn21 : Nat) (s22 : Sto) (pl : va_W) (ls : Array Slot) (H : Heap) (locs : List Loc), n21 + i21 = 4 → (cn21 ≤ 80) → frm (M_DA_makeHints_0) s s22 → F_DA_makeHints_0 s = F_DA_makeHints_0_L0 n21 i21 cn21 s22 → lv_has ls 5 [(3, .int (nI i21)), (2, .int (nI cn21)), (0, .ref h0), (1, .ref st)] → okn g T s22 pl → va_P g.1 vcl ([] ++ pl) H → va_D A ([] ++ pl) → va_S A s0.heap H locs → W p l e ({ frames := 3, cells := 0, slots := 0, locals := 74 } : Room) s0 m args below meth c H locs 0 0 (MQ below (va_Qi (fun (r : Int32) (u : (Int32 × Sto) × va_W) => (u.1 = F_DA_makeHints_0 s ∧ r = u.1.1 ∧ frm (M_DA_makeHints_0) s u.1.2 ∧ True) ∧ okn g T u.1.2 u.2) (po g.1 vcl A (fun (u : (Int32 × Sto) × va_W) => [] ++ u.2)) A) args s0 0 0 A) (F0 m 12 ls []) := by
    intro n21
    induction n21 with
    | zero =>
      intro i21 cn21 s22 pl ls H locs hm21 hi21 hF hR hl hO hP hD hS
      refine lv_iload_n hx hb dDA_makeHints_12 rfl (lv_at hl 0 rfl) ?_
      refine lv_aload_n hx hb dDA_makeHints_13 rfl (lv_at hl 3 rfl) ?_
      refine nw_get (C := "LatticeKeys$DsaSet") (TT := T_DS) (N := 17) hx hb hts (wg_ft i_DS) hown hK hO k_st (kn := 9) (ci := 2) (fl := [(1, 4), (1, 4), (1, 2), (1, 3), (1, 39), (1, 32), (1, 18), (1, 131072), (1, 44), (1, 6), (1, 95232), (1, 80), (1, 78), (1, 1312), (1, 2560), (1, 2336), (1, 2420)]) rfl hP rfl 0 (by decide) (hts _ (wg_t kw_302)) (fun _ h9 => h9) (cd := (1, 4)) rfl dDA_makeHints_14 (fun v22 hv22 => ?_)
      obtain rfl := (show v22 = .int (nI 4) from hv22)
      refine mi_ge (tgt := 152) hx hb dDA_makeHints_17 (by decide) (by omega) (by omega) (fun h21 => ?_) (fun h21 => absurd h21 (by omega))
      refine lv_iconst (v := nI 1) hx hb dDA_makeHints_152 (by decide) ?_
      exact mp_zret hx hb hr hlk rfl hP hD hS ((nI 1, s22), pl) ⟨⟨hR.symm, rfl, hF, trivial⟩, hO⟩ [] rfl rfl rfl (by omega) (by omega) dDA_makeHints_153
    | succ n21 ih21 =>
      intro i21 cn21 s22 pl ls H locs hm21 hi21 hF hR hl hO hP hD hS
      refine lv_iload_n hx hb dDA_makeHints_12 rfl (lv_at hl 0 rfl) ?_
      refine lv_aload_n hx hb dDA_makeHints_13 rfl (lv_at hl 3 rfl) ?_
      refine nw_get (C := "LatticeKeys$DsaSet") (TT := T_DS) (N := 17) hx hb hts (wg_ft i_DS) hown hK hO k_st (kn := 9) (ci := 2) (fl := [(1, 4), (1, 4), (1, 2), (1, 3), (1, 39), (1, 32), (1, 18), (1, 131072), (1, 44), (1, 6), (1, 95232), (1, 80), (1, 78), (1, 1312), (1, 2560), (1, 2336), (1, 2420)]) rfl hP rfl 0 (by decide) (hts _ (wg_t kw_302)) (fun _ h9 => h9) (cd := (1, 4)) rfl dDA_makeHints_14 (fun v23 hv23 => ?_)
      obtain rfl := (show v23 = .int (nI 4) from hv23)
      refine mi_ge (tgt := 152) hx hb dDA_makeHints_17 (by decide) (by omega) (by omega) (fun h22 => absurd h22 (by omega)) (fun h22 => ?_)
      refine lv_aload_n hx hb dDA_makeHints_20 rfl (lv_at hl 2 rfl) ?_
      refine lv_aload_n hx hb dDA_makeHints_21 rfl (lv_at hl 2 rfl) ?_
      refine nw_get (C := "LatticeKeys$Dsa") (TT := T_DA) (N := 17) hx hb hts (wg_ft i_DA) hown hK hO k_h0 (kn := 39) (ci := 6) (fl := [(3, 16), (3, 22), (3, 37), (3, 40), (3, 97), (3, 105), (3, 114), (3, 123), (3, 131), (3, 140), (3, 141), (3, 142), (3, 143), (3, 144), (3, 145), (3, 146), (3, 147)]) rfl hP rfl 6 (by decide) (hts _ (wg_t kw_171)) (fun _ h9 => h9) (cd := (3, 114)) rfl dDA_makeHints_22 (fun v24 hv24 => ?_)
      obtain ⟨r22, rfl, kr22⟩ := (show ∃ r : Nat, v24 = .ref r ∧ T r = some 114 from hv24)
      refine lv_iload_n hx hb dDA_makeHints_25 rfl (lv_at hl 0 rfl) ?_
      refine nw_aald3 hx hb hK hO kr22 (k := 114) (b := 115) rfl hP (by omega) (by omega) dDA_makeHints_26 (fun r23 kr23 => ?_)
      have hn21 : nsp (115 + i21) = (0, 256, []) := rows_ok 115 8 (by decide) _ (by omega)
      refine mp_v (cx := []) (wr := []) hP hD hS hA [] [] rfl rfl rfl (by decide) (va_runV (As := [.ref r23]) (rest := []) F (N_DA_multiplyBall l g _ T s22 pl hO hU h0 r23 (115 + i21) k_h0 kr23 hn21) (cwV 1 hts (wg_app (wg_c kw_1224 (wg_c kw_1226 (wg_c ks_41 (wg_c kw_5 wg_n)))) kw_1227) rfl rfl rfl (by decide +kernel) ⟨by decide, by decide⟩) (pn_W "LatticeKeys$Dsa" (en_ok g) (ci := 6) (kn := 39) (fl := [(3, 16), (3, 22), (3, 37), (3, 40), (3, 97), (3, 105), (3, 114), (3, 123), (3, 131), (3, 140), (3, 141), (3, 142), (3, 143), (3, 144), (3, 145), (3, 146), (3, 147)]) hK hO k_h0 rfl hP hD hS hA hE [] rfl rfl rfl) rfl rfl hl.1 rfl (lv_room (Nat.le_of_ble_eq_true rfl)) dDA_makeHints_27 ⟨by omega, by omega⟩) (fun  u22 H locs hu22 hP hD hS => ?_)
      obtain ⟨s23, pl⟩ := u22
      obtain ⟨⟨eq22, hFc22, -⟩, hO⟩ := hu22
      have hO : okn g T s23 pl := hO
      have hP : va_P g.1 vcl ([] ++ pl) _ := hP
      have hD : va_D _ ([] ++ pl) := hD
      have hFc22 : frm (M_DA_multiplyBall) s22 s23 := hFc22
      replace hR := bnd_step hR eq22
      have hF := frm_tr hF hFc22 (fun k hk => by unfold M_DA_multiplyBall at hk; unfold M_DA_makeHints_0; omega)
      refine W.widen (k := 0) (n := 0) (by omega) (by omega) ?_
      refine lv_aload_n hx hb dDA_makeHints_30 rfl (lv_at hl 2 rfl) ?_
      refine nw_get (C := "LatticeKeys$Dsa") (TT := T_DA) (N := 17) hx hb hts (wg_ft i_DA) hown hK hO k_h0 (kn := 39) (ci := 6) (fl := [(3, 16), (3, 22), (3, 37), (3, 40), (3, 97), (3, 105), (3, 114), (3, 123), (3, 131), (3, 140), (3, 141), (3, 142), (3, 143), (3, 144), (3, 145), (3, 146), (3, 147)]) rfl hP rfl 1 (by decide) (hts _ (wg_t kw_166)) (fun _ h9 => h9) (cd := (3, 22)) rfl dDA_makeHints_31 (fun v25 hv25 => ?_)
      obtain ⟨r24, rfl, kr24⟩ := (show ∃ r : Nat, v25 = .ref r ∧ T r = some 22 from hv25)
      refine lv_aload_n hx hb dDA_makeHints_34 rfl (lv_at hl 2 rfl) ?_
      refine nw_get (C := "LatticeKeys$Dsa") (TT := T_DA) (N := 17) hx hb hts (wg_ft i_DA) hown hK hO k_h0 (kn := 39) (ci := 6) (fl := [(3, 16), (3, 22), (3, 37), (3, 40), (3, 97), (3, 105), (3, 114), (3, 123), (3, 131), (3, 140), (3, 141), (3, 142), (3, 143), (3, 144), (3, 145), (3, 146), (3, 147)]) rfl hP rfl 10 (by decide) (hts _ (wg_t kw_175)) (fun _ h9 => h9) (cd := (3, 141)) rfl dDA_makeHints_35 (fun v26 hv26 => ?_)
      obtain ⟨r25, rfl, kr25⟩ := (show ∃ r : Nat, v26 = .ref r ∧ T r = some 141 from hv26)
      refine lv_aload_n hx hb dDA_makeHints_38 rfl (lv_at hl 3 rfl) ?_
      refine nw_get (C := "LatticeKeys$DsaSet") (TT := T_DS) (N := 17) hx hb hts (wg_ft i_DS) hown hK hO k_st (kn := 9) (ci := 2) (fl := [(1, 4), (1, 4), (1, 2), (1, 3), (1, 39), (1, 32), (1, 18), (1, 131072), (1, 44), (1, 6), (1, 95232), (1, 80), (1, 78), (1, 1312), (1, 2560), (1, 2336), (1, 2420)]) rfl hP rfl 10 (by decide) (hts _ (wg_t kw_325)) (fun _ h9 => h9) (cd := (1, 95232)) rfl dDA_makeHints_39 (fun v27 hv27 => ?_)
      obtain rfl := (show v27 = .int (nI 95232) from hv27)
      refine mp_i (cx := []) (wr := []) hP hD hS hA [] [] rfl rfl rfl (by decide) (va_runV (As := [.ref r25, .int (nI 95232)]) (rest := []) F (N_RG_isShort_8 l g _ T s23 pl hO hU r24 r25 141 (nI 95232) kr24 kr25 rfl) (cwV 2 hts (wg_app (wg_c kw_1228 (wg_c kw_1229 (wg_c kw_1230 (wg_c kw_4 wg_n)))) kw_1231) rfl rfl rfl (by decide +kernel) ⟨by decide, by decide⟩) (pn_W "LatticeKeys$Ring" (en_ok g) (ci := 4) (kn := 22) (fl := [(1, 8380417), (1, 8), (1, 8347681), (3, 23)]) hK hO kr24 rfl hP hD hS hA hE [] rfl rfl rfl) rfl rfl hl.1 rfl (lv_room (Nat.le_of_ble_eq_true rfl)) dDA_makeHints_42 ⟨by omega, by omega⟩) (fun r26 u23 H locs hu23 hP hD hS => ?_)
      obtain ⟨q21, pl⟩ := u23
      obtain ⟨⟨eq23, rfl, hFc23, -⟩, hO⟩ := hu23
      have hO : okn g T q21.2 pl := hO
      have hP : va_P g.1 vcl ([] ++ pl) _ := hP
      have hD : va_D _ ([] ++ pl) := hD
      have hFc23 : frm (M_RG_isShort_8) s23 q21.2 := hFc23
      replace hR := bnd_step hR eq23
      have hF := frm_tr hF hFc23 (fun k hk => by unfold M_RG_isShort_8 at hk; unfold M_DA_makeHints_0; omega)
      refine W.widen (k := 0) (n := 0) (by omega) (by omega) ?_
      refine lv_if_ne (tgt := 50) hx hb dDA_makeHints_45 (by decide) (fun h23 => ?_) (fun h23 => ?_)
      · replace hR := hR.trans (if_neg h23)
        refine lv_aload_n hx hb dDA_makeHints_50 rfl (lv_at hl 2 rfl) ?_
        refine nw_get (C := "LatticeKeys$Dsa") (TT := T_DA) (N := 17) hx hb hts (wg_ft i_DA) hown hK hO k_h0 (kn := 39) (ci := 6) (fl := [(3, 16), (3, 22), (3, 37), (3, 40), (3, 97), (3, 105), (3, 114), (3, 123), (3, 131), (3, 140), (3, 141), (3, 142), (3, 143), (3, 144), (3, 145), (3, 146), (3, 147)]) rfl hP rfl 1 (by decide) (hts _ (wg_t kw_166)) (fun _ h9 => h9) (cd := (3, 22)) rfl dDA_makeHints_51 (fun v28 hv28 => ?_)
        obtain ⟨r27, rfl, kr26⟩ := (show ∃ r : Nat, v28 = .ref r ∧ T r = some 22 from hv28)
        refine lv_aload_n hx hb dDA_makeHints_54 rfl (lv_at hl 2 rfl) ?_
        refine nw_get (C := "LatticeKeys$Dsa") (TT := T_DA) (N := 17) hx hb hts (wg_ft i_DA) hown hK hO k_h0 (kn := 39) (ci := 6) (fl := [(3, 16), (3, 22), (3, 37), (3, 40), (3, 97), (3, 105), (3, 114), (3, 123), (3, 131), (3, 140), (3, 141), (3, 142), (3, 143), (3, 144), (3, 145), (3, 146), (3, 147)]) rfl hP rfl 10 (by decide) (hts _ (wg_t kw_175)) (fun _ h9 => h9) (cd := (3, 141)) rfl dDA_makeHints_55 (fun v29 hv29 => ?_)
        obtain ⟨r28, rfl, kr27⟩ := (show ∃ r : Nat, v29 = .ref r ∧ T r = some 141 from hv29)
        refine lv_aload_n hx hb dDA_makeHints_58 rfl (lv_at hl 2 rfl) ?_
        refine nw_get (C := "LatticeKeys$Dsa") (TT := T_DA) (N := 17) hx hb hts (wg_ft i_DA) hown hK hO k_h0 (kn := 39) (ci := 6) (fl := [(3, 16), (3, 22), (3, 37), (3, 40), (3, 97), (3, 105), (3, 114), (3, 123), (3, 131), (3, 140), (3, 141), (3, 142), (3, 143), (3, 144), (3, 145), (3, 146), (3, 147)]) rfl hP rfl 8 (by decide) (hts _ (wg_t kw_173)) (fun _ h9 => h9) (cd := (3, 131)) rfl dDA_makeHints_59 (fun v30 hv30 => ?_)
        obtain ⟨r29, rfl, kr28⟩ := (show ∃ r : Nat, v30 = .ref r ∧ T r = some 131 from hv30)
        refine lv_iload_n hx hb dDA_makeHints_62 rfl (lv_at hl 0 rfl) ?_
        refine nw_aald3 hx hb hK hO kr28 (k := 131) (b := 132) rfl hP (by omega) (by omega) dDA_makeHints_63 (fun r30 kr29 => ?_)
        have hn22 : nsp (132 + i21) = (0, 256, []) := rows_ok 132 8 (by decide) _ (by omega)
        refine mp_v (cx := []) (wr := []) hP hD hS hA [] [] rfl rfl rfl (by decide) (va_runV (As := [.ref r28, .ref r30]) (rest := []) F (N_RG_add_8 l g _ T q21.2 pl hO hU r27 r28 r30 141 (132 + i21) kr26 kr27 rfl kr29 hn22) (cwV 2 hts (wg_app (wg_c kw_728 (wg_c kw_729 (wg_c kw_730 (wg_c kw_4 wg_n)))) kw_731) rfl rfl rfl (by decide +kernel) ⟨by decide, by decide⟩) (pn_W "LatticeKeys$Ring" (en_ok g) (ci := 4) (kn := 22) (fl := [(1, 8380417), (1, 8), (1, 8347681), (3, 23)]) hK hO kr26 rfl hP hD hS hA hE [] rfl rfl rfl) rfl rfl hl.1 rfl (lv_room (Nat.le_of_ble_eq_true rfl)) dDA_makeHints_64 ⟨by omega, by omega⟩) (fun  u24 H locs hu24 hP hD hS => ?_)
        obtain ⟨s24, pl⟩ := u24
        obtain ⟨⟨eq24, hFc24, -⟩, hO⟩ := hu24
        have hO : okn g T s24 pl := hO
        have hP : va_P g.1 vcl ([] ++ pl) _ := hP
        have hD : va_D _ ([] ++ pl) := hD
        have hFc24 : frm (M_RG_add_8 141) q21.2 s24 := hFc24
        replace hR := bnd_step hR eq24
        have hF := frm_tr hF hFc24 (fun k hk => by unfold M_RG_add_8 at hk; unfold M_DA_makeHints_0; omega)
        refine W.widen (k := 0) (n := 0) (by omega) (by omega) ?_
        refine lv_iconst (v := nI 0) hx hb dDA_makeHints_67 (by decide) ?_
        refine lv_istore (lv' := [(4, .int (nI 0)), (3, .int (nI i21)), (2, .int (nI cn21)), (0, .ref h0), (1, .ref st)]) hx hb dDA_makeHints_68 hl (by decide) rfl (fun ls hl => ?_)
        have lp22 : ∀ (n22 : Nat) (i22 : Nat) (cn22 : Nat) (s25 : Sto) (pl : va_W) (ls : Array Slot) (H : Heap) (locs : List Loc), n22 + i22 = 256 → (cn22 ≤ 80) → frm (M_DA_makeHints_0) s s25 → F_DA_makeHints_0 s = F_DA_makeHints_0_L1 i21 (F_DA_makeHints_0_L0 n21) n22 i22 cn22 s25 → lv_has ls 5 [(4, .int (nI i22)), (3, .int (nI i21)), (2, .int (nI cn22)), (0, .ref h0), (1, .ref st)] → okn g T s25 pl → va_P g.1 vcl ([] ++ pl) H → va_D A ([] ++ pl) → va_S A s0.heap H locs → W p l e ({ frames := 3, cells := 0, slots := 0, locals := 74 } : Room) s0 m args below meth c H locs 0 0 (MQ below (va_Qi (fun (r : Int32) (u : (Int32 × Sto) × va_W) => (u.1 = F_DA_makeHints_0 s ∧ r = u.1.1 ∧ frm (M_DA_makeHints_0) s u.1.2 ∧ True) ∧ okn g T u.1.2 u.2) (po g.1 vcl A (fun (u : (Int32 × Sto) × va_W) => [] ++ u.2)) A) args s0 0 0 A) (F0 m 70 ls []) := by
          intro n22
          induction n22 with
          | zero =>
            intro i22 cn22 s25 pl ls H locs hm22 hi22 hF hR hl hO hP hD hS
            refine lv_iload hx hb dDA_makeHints_70 (lv_at hl 0 rfl) ?_
            refine lv_sipush (v := nI 256) hx hb dDA_makeHints_72 (by decide) ?_
            refine mi_ge (tgt := 133) hx hb dDA_makeHints_75 (by decide) (by omega) (by omega) (fun h24 => ?_) (fun h24 => absurd h24 (by omega))
            refine lv_aload_n hx hb dDA_makeHints_133 rfl (lv_at hl 3 rfl) ?_
            refine nw_get (C := "LatticeKeys$Dsa") (TT := T_DA) (N := 17) hx hb hts (wg_ft i_DA) hown hK hO k_h0 (kn := 39) (ci := 6) (fl := [(3, 16), (3, 22), (3, 37), (3, 40), (3, 97), (3, 105), (3, 114), (3, 123), (3, 131), (3, 140), (3, 141), (3, 142), (3, 143), (3, 144), (3, 145), (3, 146), (3, 147)]) rfl hP rfl 15 (by decide) (hts _ (wg_t kw_180)) (fun _ h9 => h9) (cd := (3, 146)) rfl dDA_makeHints_134 (fun v31 hv31 => ?_)
            obtain ⟨r31, rfl, kr30⟩ := (show ∃ r : Nat, v31 = .ref r ∧ T r = some 146 from hv31)
            refine lv_aload_n hx hb dDA_makeHints_137 rfl (lv_at hl 4 rfl) ?_
            refine nw_get (C := "LatticeKeys$DsaSet") (TT := T_DS) (N := 17) hx hb hts (wg_ft i_DS) hown hK hO k_st (kn := 9) (ci := 2) (fl := [(1, 4), (1, 4), (1, 2), (1, 3), (1, 39), (1, 32), (1, 18), (1, 131072), (1, 44), (1, 6), (1, 95232), (1, 80), (1, 78), (1, 1312), (1, 2560), (1, 2336), (1, 2420)]) rfl hP rfl 11 (by decide) (hts _ (wg_t kw_327)) (fun _ h9 => h9) (cd := (1, 80)) rfl dDA_makeHints_138 (fun v32 hv32 => ?_)
            obtain rfl := (show v32 = .int (nI 80) from hv32)
            refine lv_iload_n hx hb dDA_makeHints_141 rfl (lv_at hl 1 rfl) ?_
            refine mi_iadd hx hb dDA_makeHints_142 ?_
            refine lv_iload_n hx hb dDA_makeHints_143 rfl (lv_at hl 2 rfl) ?_
            refine lv_i2b hx hb dDA_makeHints_144 rfl ?_
            refine nw_bast hx hb hK hO hU kr30 (k := 146) rfl hP hD hS (by omega) (by omega) dDA_makeHints_145 (fun s26 pl H locs es21 hO hP hD hS => ?_)
            replace hR := bnd_step hR es21
            have hF := frm_sB hF es21 (by unfold M_DA_makeHints_0; omega)
            refine mi_iinc (k := 1) (x := i21) (d := 1) (y := i21 + 1) (lv' := [(3, .int (nI (i21 + 1))), (4, .int (nI i22)), (2, .int (nI cn22)), (0, .ref h0), (1, .ref st)]) hx hb dDA_makeHints_146 hl rfl (by decide) rfl (by decide) rfl (fun ls hl => ?_)
            refine lv_goto (tgt := 12) hx hb dDA_makeHints_149 (by decide) ?_
            exact ih21 (i21 + 1) cn22 s26 pl ls H locs (by omega) (by omega) hF hR (lv_sub hl [0, 2, 3, 4] rfl) hO hP hD hS
          | succ n22 ih22 =>
            intro i22 cn22 s25 pl ls H locs hm22 hi22 hF hR hl hO hP hD hS
            refine lv_iload hx hb dDA_makeHints_70 (lv_at hl 0 rfl) ?_
            refine lv_sipush (v := nI 256) hx hb dDA_makeHints_72 (by decide) ?_
            refine mi_ge (tgt := 133) hx hb dDA_makeHints_75 (by decide) (by omega) (by omega) (fun h25 => absurd h25 (by omega)) (fun h25 => ?_)
            refine lv_aload_n hx hb dDA_makeHints_78 rfl (lv_at hl 4 rfl) ?_
            refine lv_aload_n hx hb dDA_makeHints_79 rfl (lv_at hl 3 rfl) ?_
            refine nw_get (C := "LatticeKeys$Dsa") (TT := T_DA) (N := 17) hx hb hts (wg_ft i_DA) hown hK hO k_h0 (kn := 39) (ci := 6) (fl := [(3, 16), (3, 22), (3, 37), (3, 40), (3, 97), (3, 105), (3, 114), (3, 123), (3, 131), (3, 140), (3, 141), (3, 142), (3, 143), (3, 144), (3, 145), (3, 146), (3, 147)]) rfl hP rfl 10 (by decide) (hts _ (wg_t kw_175)) (fun _ h9 => h9) (cd := (3, 141)) rfl dDA_makeHints_80 (fun v33 hv33 => ?_)
            obtain ⟨r32, rfl, kr31⟩ := (show ∃ r : Nat, v33 = .ref r ∧ T r = some 141 from hv33)
            refine lv_iload hx hb dDA_makeHints_83 (lv_at hl 0 rfl) ?_
            refine nw_iald hx hb hK hO kr31 (k := 141) rfl hP (by omega) (by omega) dDA_makeHints_85 ?_
            refine mp_i (cx := []) (wr := []) hP hD hS hA [] [] rfl rfl rfl (by decide) (va_runV (As := [.int ((s25.1 141 i22))]) (rest := []) F (N_DS_high_0 l g _ T s25 pl hO hU st (s25.1 141 i22) k_st) (cwV 1 hts (wg_app (wg_c kw_1206 (wg_c kw_1207 (wg_c kw_1208 (wg_c kw_8 wg_n)))) kw_1209) rfl rfl rfl (by decide +kernel) ⟨by decide, by decide⟩) (pn_W "LatticeKeys$DsaSet" (en_ok g) (ci := 2) (kn := 9) (fl := [(1, 4), (1, 4), (1, 2), (1, 3), (1, 39), (1, 32), (1, 18), (1, 131072), (1, 44), (1, 6), (1, 95232), (1, 80), (1, 78), (1, 1312), (1, 2560), (1, 2336), (1, 2420)]) hK hO k_st rfl hP hD hS hA hE [] rfl rfl rfl) rfl rfl hl.1 rfl (lv_room (Nat.le_of_ble_eq_true rfl)) dDA_makeHints_86 ⟨by omega, by omega⟩) (fun r33 u25 H locs hu25 hP hD hS => ?_)
            obtain ⟨q22, pl⟩ := u25
            obtain ⟨⟨eq25, rfl, hFc25, -⟩, hO⟩ := hu25
            have hO : okn g T q22.2 pl := hO
            have hP : va_P g.1 vcl ([] ++ pl) _ := hP
            have hD : va_D _ ([] ++ pl) := hD
            have hFc25 : frm (M_DS_high_0) s25 q22.2 := hFc25
            replace hR := bnd_step hR eq25
            have hF := frm_tr hF hFc25 (fun k hk => by unfold M_DS_high_0 at hk; unfold M_DA_makeHints_0; omega)
            refine W.widen (k := 0) (n := 0) (by omega) (by omega) ?_
            refine lv_aload_n hx hb dDA_makeHints_89 rfl (lv_at hl 4 rfl) ?_
            refine lv_aload_n hx hb dDA_makeHints_90 rfl (lv_at hl 3 rfl) ?_
            refine nw_get (C := "LatticeKeys$Dsa") (TT := T_DA) (N := 17) hx hb hts (wg_ft i_DA) hown hK hO k_h0 (kn := 39) (ci := 6) (fl := [(3, 16), (3, 22), (3, 37), (3, 40), (3, 97), (3, 105), (3, 114), (3, 123), (3, 131), (3, 140), (3, 141), (3, 142), (3, 143), (3, 144), (3, 145), (3, 146), (3, 147)]) rfl hP rfl 8 (by decide) (hts _ (wg_t kw_173)) (fun _ h9 => h9) (cd := (3, 131)) rfl dDA_makeHints_91 (fun v34 hv34 => ?_)
            obtain ⟨r34, rfl, kr32⟩ := (show ∃ r : Nat, v34 = .ref r ∧ T r = some 131 from hv34)
            refine lv_iload_n hx hb dDA_makeHints_94 rfl (lv_at hl 1 rfl) ?_
            refine nw_aald3 hx hb hK hO kr32 (k := 131) (b := 132) rfl hP (by omega) (by omega) dDA_makeHints_95 (fun r35 kr33 => ?_)
            have hn23 : nsp (132 + i21) = (0, 256, []) := rows_ok 132 8 (by decide) _ (by omega)
            refine lv_iload hx hb dDA_makeHints_96 (lv_at hl 0 rfl) ?_
            refine nw_iald hx hb hK hO kr33 (k := (132 + i21)) hn23 hP (by omega) (by omega) dDA_makeHints_98 ?_
            refine mp_i (cx := []) (wr := []) hP hD hS hA [] [] rfl rfl rfl (by decide) (va_runV (As := [.int ((q22.2.1 ((132 + i21)) i22))]) (rest := [.int q22.1]) F (N_DS_high_0 l g _ T q22.2 pl hO hU st (q22.2.1 ((132 + i21)) i22) k_st) (cwV 1 hts (wg_app (wg_c kw_1206 (wg_c kw_1207 (wg_c kw_1208 (wg_c kw_8 wg_n)))) kw_1209) rfl rfl rfl (by decide +kernel) ⟨by decide, by decide⟩) (pn_W "LatticeKeys$DsaSet" (en_ok g) (ci := 2) (kn := 9) (fl := [(1, 4), (1, 4), (1, 2), (1, 3), (1, 39), (1, 32), (1, 18), (1, 131072), (1, 44), (1, 6), (1, 95232), (1, 80), (1, 78), (1, 1312), (1, 2560), (1, 2336), (1, 2420)]) hK hO k_st rfl hP hD hS hA hE [] rfl rfl rfl) rfl rfl hl.1 rfl (lv_room (Nat.le_of_ble_eq_true rfl)) dDA_makeHints_99 ⟨by omega, by omega⟩) (fun r36 u26 H locs hu26 hP hD hS => ?_)
            obtain ⟨q23, pl⟩ := u26
            obtain ⟨⟨eq26, rfl, hFc26, -⟩, hO⟩ := hu26
            have hO : okn g T q23.2 pl := hO
            have hP : va_P g.1 vcl ([] ++ pl) _ := hP
            have hD : va_D _ ([] ++ pl) := hD
            have hFc26 : frm (M_DS_high_0) q22.2 q23.2 := hFc26
            replace hR := bnd_step hR eq26
            have hF := frm_tr hF hFc26 (fun k hk => by unfold M_DS_high_0 at hk; unfold M_DA_makeHints_0; omega)
            refine W.widen (k := 0) (n := 0) (by omega) (by omega) ?_
            refine lv_icmp_eq (tgt := 127) hx hb dDA_makeHints_102 (by decide) (fun h26 => ?_) (fun h26 => ?_)
            · replace hR := hR.trans (if_pos h26)
              refine mi_iinc (k := 0) (x := i22) (d := 1) (y := i22 + 1) (lv' := [(4, .int (nI (i22 + 1))), (3, .int (nI i21)), (2, .int (nI cn22)), (0, .ref h0), (1, .ref st)]) hx hb dDA_makeHints_127 hl rfl (by decide) rfl (by decide) rfl (fun ls hl => ?_)
              refine lv_goto (tgt := 70) hx hb dDA_makeHints_130 (by decide) ?_
              exact ih22 (i22 + 1) cn22 q23.2 pl ls H locs (by omega) (by omega) hF hR (lv_sub hl [0, 1, 2, 3, 4] rfl) hO hP hD hS
            · replace hR := hR.trans (if_neg h26)
              refine lv_iload_n hx hb dDA_makeHints_105 rfl (lv_at hl 2 rfl) ?_
              refine lv_aload_n hx hb dDA_makeHints_106 rfl (lv_at hl 4 rfl) ?_
              refine nw_get (C := "LatticeKeys$DsaSet") (TT := T_DS) (N := 17) hx hb hts (wg_ft i_DS) hown hK hO k_st (kn := 9) (ci := 2) (fl := [(1, 4), (1, 4), (1, 2), (1, 3), (1, 39), (1, 32), (1, 18), (1, 131072), (1, 44), (1, 6), (1, 95232), (1, 80), (1, 78), (1, 1312), (1, 2560), (1, 2336), (1, 2420)]) rfl hP rfl 11 (by decide) (hts _ (wg_t kw_327)) (fun _ h9 => h9) (cd := (1, 80)) rfl dDA_makeHints_107 (fun v35 hv35 => ?_)
              obtain rfl := (show v35 = .int (nI 80) from hv35)
              refine mi_lt (tgt := 115) hx hb dDA_makeHints_110 (by decide) (by omega) (by omega) (fun h27 => ?_) (fun h27 => ?_)
              · replace hR := hR.trans (if_pos h27)
                refine lv_aload_n hx hb dDA_makeHints_115 rfl (lv_at hl 3 rfl) ?_
                refine nw_get (C := "LatticeKeys$Dsa") (TT := T_DA) (N := 17) hx hb hts (wg_ft i_DA) hown hK hO k_h0 (kn := 39) (ci := 6) (fl := [(3, 16), (3, 22), (3, 37), (3, 40), (3, 97), (3, 105), (3, 114), (3, 123), (3, 131), (3, 140), (3, 141), (3, 142), (3, 143), (3, 144), (3, 145), (3, 146), (3, 147)]) rfl hP rfl 15 (by decide) (hts _ (wg_t kw_180)) (fun _ h9 => h9) (cd := (3, 146)) rfl dDA_makeHints_116 (fun v36 hv36 => ?_)
                obtain ⟨r37, rfl, kr34⟩ := (show ∃ r : Nat, v36 = .ref r ∧ T r = some 146 from hv36)
                refine lv_iload_n hx hb dDA_makeHints_119 rfl (lv_at hl 2 rfl) ?_
                refine lv_iload hx hb dDA_makeHints_120 (lv_at hl 0 rfl) ?_
                refine lv_i2b hx hb dDA_makeHints_122 rfl ?_
                refine nw_bast hx hb hK hO hU kr34 (k := 146) rfl hP hD hS (by omega) (by omega) dDA_makeHints_123 (fun s27 pl H locs es22 hO hP hD hS => ?_)
                replace hR := bnd_step hR es22
                have hF := frm_sB hF es22 (by unfold M_DA_makeHints_0; omega)
                refine mi_iinc (k := 2) (x := cn22) (d := 1) (y := cn22 + 1) (lv' := [(2, .int (nI (cn22 + 1))), (4, .int (nI i22)), (3, .int (nI i21)), (0, .ref h0), (1, .ref st)]) hx hb dDA_makeHints_124 hl rfl (by decide) rfl (by decide) rfl (fun ls hl => ?_)
                refine mi_iinc (k := 1) (x := i22) (d := 1) (y := i22 + 1) (lv' := [(4, .int (nI (i22 + 1))), (2, .int (nI (cn22 + 1))), (3, .int (nI i21)), (0, .ref h0), (1, .ref st)]) hx hb dDA_makeHints_127 hl rfl (by decide) rfl (by decide) rfl (fun ls hl => ?_)
                refine lv_goto (tgt := 70) hx hb dDA_makeHints_130 (by decide) ?_
                exact ih22 (i22 + 1) (cn22 + 1) s27 pl ls H locs (by omega) (by omega) hF hR (lv_sub hl [0, 2, 1, 3, 4] rfl) hO hP hD hS
              · replace hR := hR.trans (if_neg (Nat.not_lt.mpr h27))
                refine lv_iconst (v := nI 0) hx hb dDA_makeHints_113 (by decide) ?_
                exact mp_zret hx hb hr hlk rfl hP hD hS ((nI 0, q23.2), pl) ⟨⟨hR.symm, rfl, hF, trivial⟩, hO⟩ [] rfl rfl rfl (by omega) (by omega) dDA_makeHints_114
        exact lp22 256 0 cn21 s24 pl ls _ _ (by omega) (by omega) hF hR (lv_sub hl [0, 1, 2, 3, 4] rfl) hO hP hD hS
      · replace hR := hR.trans (if_pos h23)
        refine lv_iconst (v := nI 0) hx hb dDA_makeHints_48 (by decide) ?_
        exact mp_zret hx hb hr hlk rfl hP hD hS ((nI 0, q21.2), pl) ⟨⟨hR.symm, rfl, hF, trivial⟩, hO⟩ [] rfl rfl rfl (by omega) (by omega) dDA_makeHints_49
  exact lp21 4 0 0 s21 pl ls _ _ (by omega) (by omega) hF hR (lv_sub hl [0, 1, 2, 3] rfl) hO hP hD hS
def M_DA_makeHints_1 (k : Nat) : Prop := k = 141 ∨ k = 146 ∨ (0 : Nat) = 1
noncomputable def F_DA_makeHints_1_L1 (i21 : Nat) (kk : Nat → Nat → Sto → Int32 × Sto) : Nat → Nat → Nat → Sto → Int32 × Sto
  | 0, i22, cn22, s25 => bnd (sB s25 146 (55 + i21) ((nI cn22).toInt8.toInt32)) fun s26 => kk (i21 + 1) cn22 s26
  | n22 + 1, i22, cn22, s25 => bnd (F_DS_high_1 (s25.1 141 i22) s25) fun q22 => bnd (F_DS_high_1 (q22.2.1 ((132 + i21)) i22) q22.2) fun q23 => if (q22.1) = (q23.1) then F_DA_makeHints_1_L1 i21 kk n22 (i22 + 1) cn22 q23.2 else if cn22 < 55 then bnd (sB q23.2 146 cn22 ((nI i22).toInt8.toInt32)) fun s27 => F_DA_makeHints_1_L1 i21 kk n22 (i22 + 1) (cn22 + 1) s27 else (nI 0, q23.2)
noncomputable def F_DA_makeHints_1_L0 : Nat → Nat → Nat → Sto → Int32 × Sto
  | 0, i21, cn21, s22 => (nI 1, s22)
  | n21 + 1, i21, cn21, s22 => bnd (F_DA_multiplyBall (115 + i21) s22) fun s23 => bnd (F_RG_isShort_8 141 (nI 261888) s23) fun q21 => if (q21.1) = 0 then (nI 0, q21.2) else bnd (F_RG_add_8 141 (132 + i21) q21.2) fun s24 => F_DA_makeHints_1_L1 i21 (F_DA_makeHints_1_L0  n21) 256 0 cn21 s24
noncomputable def F_DA_makeHints_1 (s : Sto) : Int32 × Sto := bnd (F_AR_fillB 146 84 (nI 0) s) fun s21 => F_DA_makeHints_1_L0 6 0 0 s21
set_option maxHeartbeats 8000000 in
set_option maxRecDepth 100000 in
theorem N_DA_makeHints_1 (l : Launch) (g : Gd) (sz : Nat) (T : TyN) (s : Sto) (pl : va_W) (hO : okn g T s pl) (hU : inj T) (h0 st : Nat) (k_h0 : T h0 = some 39) (k_st : T st = some 10)  : Met l y_DA_makeHints w_DA_makeHints ({ frames := 3, cells := 0, slots := 0, locals := 74 } : Room) (va_Pc [.ref h0, .ref st] (pr (en g) g.1 vcl sz ([] ++ pl))) (va_Qi (fun (r : Int32) (u : (Int32 × Sto) × va_W) => (u.1 = F_DA_makeHints_1 s ∧ r = u.1.1 ∧ frm (M_DA_makeHints_1) s u.1.2 ∧ True) ∧ okn g T u.1.2 u.2) (po g.1 vcl (va_A ([] ++ pl) sz) (fun (u : (Int32 × Sto) × va_W) => [] ++ u.2)) (va_A ([] ++ pl) sz)) 0 0 (va_A ([] ++ pl) sz) := by
  refine mc_entry (cc := c_DA_makeHints) (maxL := 5) (ret := (some .boolean)) (by decide) rfl (Nat.le_of_ble_eq_true rfl) ?_
  intro p e s0 m args below meth c ls F hr hlk hnm hsz hP hD hE hA hl
  obtain ⟨hx, hb, hml, hown, hts⟩ := id F
  have hK := hE.1
  generalize va_A ([] ++ pl) sz = A at hD hE hA ⊢
  have hS : va_S A s0.heap s0.heap [] := va_S.rf
  have hl : lv_has ls 5 [(0, .ref h0), (1, .ref st)] := hl
  have hR : F_DA_makeHints_1 s = F_DA_makeHints_1 s := rfl
  have hF : frm (M_DA_makeHints_1) s s := frm_rf
  refine lv_aload_n hx hb dDA_makeHints_0 rfl (lv_at hl 0 rfl) ?_
  refine nw_get (C := "LatticeKeys$Dsa") (TT := T_DA) (N := 17) hx hb hts (wg_ft i_DA) hown hK hO k_h0 (kn := 39) (ci := 6) (fl := [(3, 16), (3, 22), (3, 37), (3, 40), (3, 97), (3, 105), (3, 114), (3, 123), (3, 131), (3, 140), (3, 141), (3, 142), (3, 143), (3, 144), (3, 145), (3, 146), (3, 147)]) rfl hP rfl 15 (by decide) (hts _ (wg_t kw_180)) (fun _ h9 => h9) (cd := (3, 146)) rfl dDA_makeHints_1 (fun v21 hv21 => ?_)
  obtain ⟨r21, rfl, kr21⟩ := (show ∃ r : Nat, v21 = .ref r ∧ T r = some 146 from hv21)
  refine lv_iconst (v := nI 0) hx hb dDA_makeHints_4 (by decide) ?_
  refine mp_v (cx := []) (wr := []) hP hD hS hA [] [] rfl rfl rfl (by decide) (va_runS (As := [.ref r21, .int (nI 0)]) (rest := []) F (N_AR_fillB l g _ T s pl hO hU r21 146 84 (nI 0) kr21 rfl (by omega)) (va_cwS 2 hts (wg_app (wg_c kw_1245 (wg_c kw_1246 (wg_c kw_21 wg_n))) kw_1247) rfl rfl rfl (by decide +kernel) ⟨by decide, by decide⟩) (pp_S (en_ok g) hP hD hS hA hE [] rfl rfl) rfl rfl hl.1 rfl (lv_room (Nat.le_of_ble_eq_true rfl)) dDA_makeHints_5 ⟨by omega, by omega⟩) (fun  u21 H locs hu21 hP hD hS => ?_)
  obtain ⟨s21, pl⟩ := u21
  obtain ⟨⟨eq21, hFc21, -⟩, hO⟩ := hu21
  have hO : okn g T s21 pl := hO
  have hP : va_P g.1 vcl ([] ++ pl) _ := hP
  have hD : va_D _ ([] ++ pl) := hD
  have hFc21 : frm (M_AR_fillB 146) s s21 := hFc21
  replace hR := bnd_step hR eq21
  have hF := frm_tr hF hFc21 (fun k hk => by unfold M_AR_fillB at hk; unfold M_DA_makeHints_1; omega)
  refine W.widen (k := 0) (n := 0) (by omega) (by omega) ?_
  refine lv_iconst (v := nI 0) hx hb dDA_makeHints_8 (by decide) ?_
  refine lv_istore_n (lv' := [(2, .int (nI 0)), (0, .ref h0), (1, .ref st)]) hx hb dDA_makeHints_9 rfl hl (by decide) rfl (fun ls hl => ?_)
  refine lv_iconst (v := nI 0) hx hb dDA_makeHints_10 (by decide) ?_
  refine lv_istore_n (lv' := [(3, .int (nI 0)), (2, .int (nI 0)), (0, .ref h0), (1, .ref st)]) hx hb dDA_makeHints_11 rfl hl (by decide) rfl (fun ls hl => ?_)
  have lp21 : ∀ (n21 : Nat) (i21 : Nat) (cn21 : Nat) (s22 : Sto) (pl : va_W) (ls : Array Slot) (H : Heap) (locs : List Loc), n21 + i21 = 6 → (cn21 ≤ 55) → frm (M_DA_makeHints_1) s s22 → F_DA_makeHints_1 s = F_DA_makeHints_1_L0 n21 i21 cn21 s22 → lv_has ls 5 [(3, .int (nI i21)), (2, .int (nI cn21)), (0, .ref h0), (1, .ref st)] → okn g T s22 pl → va_P g.1 vcl ([] ++ pl) H → va_D A ([] ++ pl) → va_S A s0.heap H locs → W p l e ({ frames := 3, cells := 0, slots := 0, locals := 74 } : Room) s0 m args below meth c H locs 0 0 (MQ below (va_Qi (fun (r : Int32) (u : (Int32 × Sto) × va_W) => (u.1 = F_DA_makeHints_1 s ∧ r = u.1.1 ∧ frm (M_DA_makeHints_1) s u.1.2 ∧ True) ∧ okn g T u.1.2 u.2) (po g.1 vcl A (fun (u : (Int32 × Sto) × va_W) => [] ++ u.2)) A) args s0 0 0 A) (F0 m 12 ls []) := by
    intro n21
    induction n21 with
    | zero =>
      intro i21 cn21 s22 pl ls H locs hm21 hi21 hF hR hl hO hP hD hS
      refine lv_iload_n hx hb dDA_makeHints_12 rfl (lv_at hl 0 rfl) ?_
      refine lv_aload_n hx hb dDA_makeHints_13 rfl (lv_at hl 3 rfl) ?_
      refine nw_get (C := "LatticeKeys$DsaSet") (TT := T_DS) (N := 17) hx hb hts (wg_ft i_DS) hown hK hO k_st (kn := 10) (ci := 2) (fl := [(1, 6), (1, 5), (1, 4), (1, 4), (1, 49), (1, 48), (1, 20), (1, 524288), (1, 16), (1, 4), (1, 261888), (1, 55), (1, 196), (1, 1952), (1, 4032), (1, 3248), (1, 3309)]) rfl hP rfl 0 (by decide) (hts _ (wg_t kw_302)) (fun _ h9 => h9) (cd := (1, 6)) rfl dDA_makeHints_14 (fun v22 hv22 => ?_)
      obtain rfl := (show v22 = .int (nI 6) from hv22)
      refine mi_ge (tgt := 152) hx hb dDA_makeHints_17 (by decide) (by omega) (by omega) (fun h21 => ?_) (fun h21 => absurd h21 (by omega))
      refine lv_iconst (v := nI 1) hx hb dDA_makeHints_152 (by decide) ?_
      exact mp_zret hx hb hr hlk rfl hP hD hS ((nI 1, s22), pl) ⟨⟨hR.symm, rfl, hF, trivial⟩, hO⟩ [] rfl rfl rfl (by omega) (by omega) dDA_makeHints_153
    | succ n21 ih21 =>
      intro i21 cn21 s22 pl ls H locs hm21 hi21 hF hR hl hO hP hD hS
      refine lv_iload_n hx hb dDA_makeHints_12 rfl (lv_at hl 0 rfl) ?_
      refine lv_aload_n hx hb dDA_makeHints_13 rfl (lv_at hl 3 rfl) ?_
      refine nw_get (C := "LatticeKeys$DsaSet") (TT := T_DS) (N := 17) hx hb hts (wg_ft i_DS) hown hK hO k_st (kn := 10) (ci := 2) (fl := [(1, 6), (1, 5), (1, 4), (1, 4), (1, 49), (1, 48), (1, 20), (1, 524288), (1, 16), (1, 4), (1, 261888), (1, 55), (1, 196), (1, 1952), (1, 4032), (1, 3248), (1, 3309)]) rfl hP rfl 0 (by decide) (hts _ (wg_t kw_302)) (fun _ h9 => h9) (cd := (1, 6)) rfl dDA_makeHints_14 (fun v23 hv23 => ?_)
      obtain rfl := (show v23 = .int (nI 6) from hv23)
      refine mi_ge (tgt := 152) hx hb dDA_makeHints_17 (by decide) (by omega) (by omega) (fun h22 => absurd h22 (by omega)) (fun h22 => ?_)
      refine lv_aload_n hx hb dDA_makeHints_20 rfl (lv_at hl 2 rfl) ?_
      refine lv_aload_n hx hb dDA_makeHints_21 rfl (lv_at hl 2 rfl) ?_
      refine nw_get (C := "LatticeKeys$Dsa") (TT := T_DA) (N := 17) hx hb hts (wg_ft i_DA) hown hK hO k_h0 (kn := 39) (ci := 6) (fl := [(3, 16), (3, 22), (3, 37), (3, 40), (3, 97), (3, 105), (3, 114), (3, 123), (3, 131), (3, 140), (3, 141), (3, 142), (3, 143), (3, 144), (3, 145), (3, 146), (3, 147)]) rfl hP rfl 6 (by decide) (hts _ (wg_t kw_171)) (fun _ h9 => h9) (cd := (3, 114)) rfl dDA_makeHints_22 (fun v24 hv24 => ?_)
      obtain ⟨r22, rfl, kr22⟩ := (show ∃ r : Nat, v24 = .ref r ∧ T r = some 114 from hv24)
      refine lv_iload_n hx hb dDA_makeHints_25 rfl (lv_at hl 0 rfl) ?_
      refine nw_aald3 hx hb hK hO kr22 (k := 114) (b := 115) rfl hP (by omega) (by omega) dDA_makeHints_26 (fun r23 kr23 => ?_)
      have hn21 : nsp (115 + i21) = (0, 256, []) := rows_ok 115 8 (by decide) _ (by omega)
      refine mp_v (cx := []) (wr := []) hP hD hS hA [] [] rfl rfl rfl (by decide) (va_runV (As := [.ref r23]) (rest := []) F (N_DA_multiplyBall l g _ T s22 pl hO hU h0 r23 (115 + i21) k_h0 kr23 hn21) (cwV 1 hts (wg_app (wg_c kw_1224 (wg_c kw_1226 (wg_c ks_41 (wg_c kw_5 wg_n)))) kw_1227) rfl rfl rfl (by decide +kernel) ⟨by decide, by decide⟩) (pn_W "LatticeKeys$Dsa" (en_ok g) (ci := 6) (kn := 39) (fl := [(3, 16), (3, 22), (3, 37), (3, 40), (3, 97), (3, 105), (3, 114), (3, 123), (3, 131), (3, 140), (3, 141), (3, 142), (3, 143), (3, 144), (3, 145), (3, 146), (3, 147)]) hK hO k_h0 rfl hP hD hS hA hE [] rfl rfl rfl) rfl rfl hl.1 rfl (lv_room (Nat.le_of_ble_eq_true rfl)) dDA_makeHints_27 ⟨by omega, by omega⟩) (fun  u22 H locs hu22 hP hD hS => ?_)
      obtain ⟨s23, pl⟩ := u22
      obtain ⟨⟨eq22, hFc22, -⟩, hO⟩ := hu22
      have hO : okn g T s23 pl := hO
      have hP : va_P g.1 vcl ([] ++ pl) _ := hP
      have hD : va_D _ ([] ++ pl) := hD
      have hFc22 : frm (M_DA_multiplyBall) s22 s23 := hFc22
      replace hR := bnd_step hR eq22
      have hF := frm_tr hF hFc22 (fun k hk => by unfold M_DA_multiplyBall at hk; unfold M_DA_makeHints_1; omega)
      refine W.widen (k := 0) (n := 0) (by omega) (by omega) ?_
      refine lv_aload_n hx hb dDA_makeHints_30 rfl (lv_at hl 2 rfl) ?_
      refine nw_get (C := "LatticeKeys$Dsa") (TT := T_DA) (N := 17) hx hb hts (wg_ft i_DA) hown hK hO k_h0 (kn := 39) (ci := 6) (fl := [(3, 16), (3, 22), (3, 37), (3, 40), (3, 97), (3, 105), (3, 114), (3, 123), (3, 131), (3, 140), (3, 141), (3, 142), (3, 143), (3, 144), (3, 145), (3, 146), (3, 147)]) rfl hP rfl 1 (by decide) (hts _ (wg_t kw_166)) (fun _ h9 => h9) (cd := (3, 22)) rfl dDA_makeHints_31 (fun v25 hv25 => ?_)
      obtain ⟨r24, rfl, kr24⟩ := (show ∃ r : Nat, v25 = .ref r ∧ T r = some 22 from hv25)
      refine lv_aload_n hx hb dDA_makeHints_34 rfl (lv_at hl 2 rfl) ?_
      refine nw_get (C := "LatticeKeys$Dsa") (TT := T_DA) (N := 17) hx hb hts (wg_ft i_DA) hown hK hO k_h0 (kn := 39) (ci := 6) (fl := [(3, 16), (3, 22), (3, 37), (3, 40), (3, 97), (3, 105), (3, 114), (3, 123), (3, 131), (3, 140), (3, 141), (3, 142), (3, 143), (3, 144), (3, 145), (3, 146), (3, 147)]) rfl hP rfl 10 (by decide) (hts _ (wg_t kw_175)) (fun _ h9 => h9) (cd := (3, 141)) rfl dDA_makeHints_35 (fun v26 hv26 => ?_)
      obtain ⟨r25, rfl, kr25⟩ := (show ∃ r : Nat, v26 = .ref r ∧ T r = some 141 from hv26)
      refine lv_aload_n hx hb dDA_makeHints_38 rfl (lv_at hl 3 rfl) ?_
      refine nw_get (C := "LatticeKeys$DsaSet") (TT := T_DS) (N := 17) hx hb hts (wg_ft i_DS) hown hK hO k_st (kn := 10) (ci := 2) (fl := [(1, 6), (1, 5), (1, 4), (1, 4), (1, 49), (1, 48), (1, 20), (1, 524288), (1, 16), (1, 4), (1, 261888), (1, 55), (1, 196), (1, 1952), (1, 4032), (1, 3248), (1, 3309)]) rfl hP rfl 10 (by decide) (hts _ (wg_t kw_325)) (fun _ h9 => h9) (cd := (1, 261888)) rfl dDA_makeHints_39 (fun v27 hv27 => ?_)
      obtain rfl := (show v27 = .int (nI 261888) from hv27)
      refine mp_i (cx := []) (wr := []) hP hD hS hA [] [] rfl rfl rfl (by decide) (va_runV (As := [.ref r25, .int (nI 261888)]) (rest := []) F (N_RG_isShort_8 l g _ T s23 pl hO hU r24 r25 141 (nI 261888) kr24 kr25 rfl) (cwV 2 hts (wg_app (wg_c kw_1228 (wg_c kw_1229 (wg_c kw_1230 (wg_c kw_4 wg_n)))) kw_1231) rfl rfl rfl (by decide +kernel) ⟨by decide, by decide⟩) (pn_W "LatticeKeys$Ring" (en_ok g) (ci := 4) (kn := 22) (fl := [(1, 8380417), (1, 8), (1, 8347681), (3, 23)]) hK hO kr24 rfl hP hD hS hA hE [] rfl rfl rfl) rfl rfl hl.1 rfl (lv_room (Nat.le_of_ble_eq_true rfl)) dDA_makeHints_42 ⟨by omega, by omega⟩) (fun r26 u23 H locs hu23 hP hD hS => ?_)
      obtain ⟨q21, pl⟩ := u23
      obtain ⟨⟨eq23, rfl, hFc23, -⟩, hO⟩ := hu23
      have hO : okn g T q21.2 pl := hO
      have hP : va_P g.1 vcl ([] ++ pl) _ := hP
      have hD : va_D _ ([] ++ pl) := hD
      have hFc23 : frm (M_RG_isShort_8) s23 q21.2 := hFc23
      replace hR := bnd_step hR eq23
      have hF := frm_tr hF hFc23 (fun k hk => by unfold M_RG_isShort_8 at hk; unfold M_DA_makeHints_1; omega)
      refine W.widen (k := 0) (n := 0) (by omega) (by omega) ?_
      refine lv_if_ne (tgt := 50) hx hb dDA_makeHints_45 (by decide) (fun h23 => ?_) (fun h23 => ?_)
      · replace hR := hR.trans (if_neg h23)
        refine lv_aload_n hx hb dDA_makeHints_50 rfl (lv_at hl 2 rfl) ?_
        refine nw_get (C := "LatticeKeys$Dsa") (TT := T_DA) (N := 17) hx hb hts (wg_ft i_DA) hown hK hO k_h0 (kn := 39) (ci := 6) (fl := [(3, 16), (3, 22), (3, 37), (3, 40), (3, 97), (3, 105), (3, 114), (3, 123), (3, 131), (3, 140), (3, 141), (3, 142), (3, 143), (3, 144), (3, 145), (3, 146), (3, 147)]) rfl hP rfl 1 (by decide) (hts _ (wg_t kw_166)) (fun _ h9 => h9) (cd := (3, 22)) rfl dDA_makeHints_51 (fun v28 hv28 => ?_)
        obtain ⟨r27, rfl, kr26⟩ := (show ∃ r : Nat, v28 = .ref r ∧ T r = some 22 from hv28)
        refine lv_aload_n hx hb dDA_makeHints_54 rfl (lv_at hl 2 rfl) ?_
        refine nw_get (C := "LatticeKeys$Dsa") (TT := T_DA) (N := 17) hx hb hts (wg_ft i_DA) hown hK hO k_h0 (kn := 39) (ci := 6) (fl := [(3, 16), (3, 22), (3, 37), (3, 40), (3, 97), (3, 105), (3, 114), (3, 123), (3, 131), (3, 140), (3, 141), (3, 142), (3, 143), (3, 144), (3, 145), (3, 146), (3, 147)]) rfl hP rfl 10 (by decide) (hts _ (wg_t kw_175)) (fun _ h9 => h9) (cd := (3, 141)) rfl dDA_makeHints_55 (fun v29 hv29 => ?_)
        obtain ⟨r28, rfl, kr27⟩ := (show ∃ r : Nat, v29 = .ref r ∧ T r = some 141 from hv29)
        refine lv_aload_n hx hb dDA_makeHints_58 rfl (lv_at hl 2 rfl) ?_
        refine nw_get (C := "LatticeKeys$Dsa") (TT := T_DA) (N := 17) hx hb hts (wg_ft i_DA) hown hK hO k_h0 (kn := 39) (ci := 6) (fl := [(3, 16), (3, 22), (3, 37), (3, 40), (3, 97), (3, 105), (3, 114), (3, 123), (3, 131), (3, 140), (3, 141), (3, 142), (3, 143), (3, 144), (3, 145), (3, 146), (3, 147)]) rfl hP rfl 8 (by decide) (hts _ (wg_t kw_173)) (fun _ h9 => h9) (cd := (3, 131)) rfl dDA_makeHints_59 (fun v30 hv30 => ?_)
        obtain ⟨r29, rfl, kr28⟩ := (show ∃ r : Nat, v30 = .ref r ∧ T r = some 131 from hv30)
        refine lv_iload_n hx hb dDA_makeHints_62 rfl (lv_at hl 0 rfl) ?_
        refine nw_aald3 hx hb hK hO kr28 (k := 131) (b := 132) rfl hP (by omega) (by omega) dDA_makeHints_63 (fun r30 kr29 => ?_)
        have hn22 : nsp (132 + i21) = (0, 256, []) := rows_ok 132 8 (by decide) _ (by omega)
        refine mp_v (cx := []) (wr := []) hP hD hS hA [] [] rfl rfl rfl (by decide) (va_runV (As := [.ref r28, .ref r30]) (rest := []) F (N_RG_add_8 l g _ T q21.2 pl hO hU r27 r28 r30 141 (132 + i21) kr26 kr27 rfl kr29 hn22) (cwV 2 hts (wg_app (wg_c kw_728 (wg_c kw_729 (wg_c kw_730 (wg_c kw_4 wg_n)))) kw_731) rfl rfl rfl (by decide +kernel) ⟨by decide, by decide⟩) (pn_W "LatticeKeys$Ring" (en_ok g) (ci := 4) (kn := 22) (fl := [(1, 8380417), (1, 8), (1, 8347681), (3, 23)]) hK hO kr26 rfl hP hD hS hA hE [] rfl rfl rfl) rfl rfl hl.1 rfl (lv_room (Nat.le_of_ble_eq_true rfl)) dDA_makeHints_64 ⟨by omega, by omega⟩) (fun  u24 H locs hu24 hP hD hS => ?_)
        obtain ⟨s24, pl⟩ := u24
        obtain ⟨⟨eq24, hFc24, -⟩, hO⟩ := hu24
        have hO : okn g T s24 pl := hO
        have hP : va_P g.1 vcl ([] ++ pl) _ := hP
        have hD : va_D _ ([] ++ pl) := hD
        have hFc24 : frm (M_RG_add_8 141) q21.2 s24 := hFc24
        replace hR := bnd_step hR eq24
        have hF := frm_tr hF hFc24 (fun k hk => by unfold M_RG_add_8 at hk; unfold M_DA_makeHints_1; omega)
        refine W.widen (k := 0) (n := 0) (by omega) (by omega) ?_
        refine lv_iconst (v := nI 0) hx hb dDA_makeHints_67 (by decide) ?_
        refine lv_istore (lv' := [(4, .int (nI 0)), (3, .int (nI i21)), (2, .int (nI cn21)), (0, .ref h0), (1, .ref st)]) hx hb dDA_makeHints_68 hl (by decide) rfl (fun ls hl => ?_)
        have lp22 : ∀ (n22 : Nat) (i22 : Nat) (cn22 : Nat) (s25 : Sto) (pl : va_W) (ls : Array Slot) (H : Heap) (locs : List Loc), n22 + i22 = 256 → (cn22 ≤ 55) → frm (M_DA_makeHints_1) s s25 → F_DA_makeHints_1 s = F_DA_makeHints_1_L1 i21 (F_DA_makeHints_1_L0 n21) n22 i22 cn22 s25 → lv_has ls 5 [(4, .int (nI i22)), (3, .int (nI i21)), (2, .int (nI cn22)), (0, .ref h0), (1, .ref st)] → okn g T s25 pl → va_P g.1 vcl ([] ++ pl) H → va_D A ([] ++ pl) → va_S A s0.heap H locs → W p l e ({ frames := 3, cells := 0, slots := 0, locals := 74 } : Room) s0 m args below meth c H locs 0 0 (MQ below (va_Qi (fun (r : Int32) (u : (Int32 × Sto) × va_W) => (u.1 = F_DA_makeHints_1 s ∧ r = u.1.1 ∧ frm (M_DA_makeHints_1) s u.1.2 ∧ True) ∧ okn g T u.1.2 u.2) (po g.1 vcl A (fun (u : (Int32 × Sto) × va_W) => [] ++ u.2)) A) args s0 0 0 A) (F0 m 70 ls []) := by
          intro n22
          induction n22 with
          | zero =>
            intro i22 cn22 s25 pl ls H locs hm22 hi22 hF hR hl hO hP hD hS
            refine lv_iload hx hb dDA_makeHints_70 (lv_at hl 0 rfl) ?_
            refine lv_sipush (v := nI 256) hx hb dDA_makeHints_72 (by decide) ?_
            refine mi_ge (tgt := 133) hx hb dDA_makeHints_75 (by decide) (by omega) (by omega) (fun h24 => ?_) (fun h24 => absurd h24 (by omega))
            refine lv_aload_n hx hb dDA_makeHints_133 rfl (lv_at hl 3 rfl) ?_
            refine nw_get (C := "LatticeKeys$Dsa") (TT := T_DA) (N := 17) hx hb hts (wg_ft i_DA) hown hK hO k_h0 (kn := 39) (ci := 6) (fl := [(3, 16), (3, 22), (3, 37), (3, 40), (3, 97), (3, 105), (3, 114), (3, 123), (3, 131), (3, 140), (3, 141), (3, 142), (3, 143), (3, 144), (3, 145), (3, 146), (3, 147)]) rfl hP rfl 15 (by decide) (hts _ (wg_t kw_180)) (fun _ h9 => h9) (cd := (3, 146)) rfl dDA_makeHints_134 (fun v31 hv31 => ?_)
            obtain ⟨r31, rfl, kr30⟩ := (show ∃ r : Nat, v31 = .ref r ∧ T r = some 146 from hv31)
            refine lv_aload_n hx hb dDA_makeHints_137 rfl (lv_at hl 4 rfl) ?_
            refine nw_get (C := "LatticeKeys$DsaSet") (TT := T_DS) (N := 17) hx hb hts (wg_ft i_DS) hown hK hO k_st (kn := 10) (ci := 2) (fl := [(1, 6), (1, 5), (1, 4), (1, 4), (1, 49), (1, 48), (1, 20), (1, 524288), (1, 16), (1, 4), (1, 261888), (1, 55), (1, 196), (1, 1952), (1, 4032), (1, 3248), (1, 3309)]) rfl hP rfl 11 (by decide) (hts _ (wg_t kw_327)) (fun _ h9 => h9) (cd := (1, 55)) rfl dDA_makeHints_138 (fun v32 hv32 => ?_)
            obtain rfl := (show v32 = .int (nI 55) from hv32)
            refine lv_iload_n hx hb dDA_makeHints_141 rfl (lv_at hl 1 rfl) ?_
            refine mi_iadd hx hb dDA_makeHints_142 ?_
            refine lv_iload_n hx hb dDA_makeHints_143 rfl (lv_at hl 2 rfl) ?_
            refine lv_i2b hx hb dDA_makeHints_144 rfl ?_
            refine nw_bast hx hb hK hO hU kr30 (k := 146) rfl hP hD hS (by omega) (by omega) dDA_makeHints_145 (fun s26 pl H locs es21 hO hP hD hS => ?_)
            replace hR := bnd_step hR es21
            have hF := frm_sB hF es21 (by unfold M_DA_makeHints_1; omega)
            refine mi_iinc (k := 1) (x := i21) (d := 1) (y := i21 + 1) (lv' := [(3, .int (nI (i21 + 1))), (4, .int (nI i22)), (2, .int (nI cn22)), (0, .ref h0), (1, .ref st)]) hx hb dDA_makeHints_146 hl rfl (by decide) rfl (by decide) rfl (fun ls hl => ?_)
            refine lv_goto (tgt := 12) hx hb dDA_makeHints_149 (by decide) ?_
            exact ih21 (i21 + 1) cn22 s26 pl ls H locs (by omega) (by omega) hF hR (lv_sub hl [0, 2, 3, 4] rfl) hO hP hD hS
          | succ n22 ih22 =>
            intro i22 cn22 s25 pl ls H locs hm22 hi22 hF hR hl hO hP hD hS
            refine lv_iload hx hb dDA_makeHints_70 (lv_at hl 0 rfl) ?_
            refine lv_sipush (v := nI 256) hx hb dDA_makeHints_72 (by decide) ?_
            refine mi_ge (tgt := 133) hx hb dDA_makeHints_75 (by decide) (by omega) (by omega) (fun h25 => absurd h25 (by omega)) (fun h25 => ?_)
            refine lv_aload_n hx hb dDA_makeHints_78 rfl (lv_at hl 4 rfl) ?_
            refine lv_aload_n hx hb dDA_makeHints_79 rfl (lv_at hl 3 rfl) ?_
            refine nw_get (C := "LatticeKeys$Dsa") (TT := T_DA) (N := 17) hx hb hts (wg_ft i_DA) hown hK hO k_h0 (kn := 39) (ci := 6) (fl := [(3, 16), (3, 22), (3, 37), (3, 40), (3, 97), (3, 105), (3, 114), (3, 123), (3, 131), (3, 140), (3, 141), (3, 142), (3, 143), (3, 144), (3, 145), (3, 146), (3, 147)]) rfl hP rfl 10 (by decide) (hts _ (wg_t kw_175)) (fun _ h9 => h9) (cd := (3, 141)) rfl dDA_makeHints_80 (fun v33 hv33 => ?_)
            obtain ⟨r32, rfl, kr31⟩ := (show ∃ r : Nat, v33 = .ref r ∧ T r = some 141 from hv33)
            refine lv_iload hx hb dDA_makeHints_83 (lv_at hl 0 rfl) ?_
            refine nw_iald hx hb hK hO kr31 (k := 141) rfl hP (by omega) (by omega) dDA_makeHints_85 ?_
            refine mp_i (cx := []) (wr := []) hP hD hS hA [] [] rfl rfl rfl (by decide) (va_runV (As := [.int ((s25.1 141 i22))]) (rest := []) F (N_DS_high_1 l g _ T s25 pl hO hU st (s25.1 141 i22) k_st) (cwV 1 hts (wg_app (wg_c kw_1206 (wg_c kw_1207 (wg_c kw_1208 (wg_c kw_8 wg_n)))) kw_1209) rfl rfl rfl (by decide +kernel) ⟨by decide, by decide⟩) (pn_W "LatticeKeys$DsaSet" (en_ok g) (ci := 2) (kn := 10) (fl := [(1, 6), (1, 5), (1, 4), (1, 4), (1, 49), (1, 48), (1, 20), (1, 524288), (1, 16), (1, 4), (1, 261888), (1, 55), (1, 196), (1, 1952), (1, 4032), (1, 3248), (1, 3309)]) hK hO k_st rfl hP hD hS hA hE [] rfl rfl rfl) rfl rfl hl.1 rfl (lv_room (Nat.le_of_ble_eq_true rfl)) dDA_makeHints_86 ⟨by omega, by omega⟩) (fun r33 u25 H locs hu25 hP hD hS => ?_)
            obtain ⟨q22, pl⟩ := u25
            obtain ⟨⟨eq25, rfl, hFc25, -⟩, hO⟩ := hu25
            have hO : okn g T q22.2 pl := hO
            have hP : va_P g.1 vcl ([] ++ pl) _ := hP
            have hD : va_D _ ([] ++ pl) := hD
            have hFc25 : frm (M_DS_high_1) s25 q22.2 := hFc25
            replace hR := bnd_step hR eq25
            have hF := frm_tr hF hFc25 (fun k hk => by unfold M_DS_high_1 at hk; unfold M_DA_makeHints_1; omega)
            refine W.widen (k := 0) (n := 0) (by omega) (by omega) ?_
            refine lv_aload_n hx hb dDA_makeHints_89 rfl (lv_at hl 4 rfl) ?_
            refine lv_aload_n hx hb dDA_makeHints_90 rfl (lv_at hl 3 rfl) ?_
            refine nw_get (C := "LatticeKeys$Dsa") (TT := T_DA) (N := 17) hx hb hts (wg_ft i_DA) hown hK hO k_h0 (kn := 39) (ci := 6) (fl := [(3, 16), (3, 22), (3, 37), (3, 40), (3, 97), (3, 105), (3, 114), (3, 123), (3, 131), (3, 140), (3, 141), (3, 142), (3, 143), (3, 144), (3, 145), (3, 146), (3, 147)]) rfl hP rfl 8 (by decide) (hts _ (wg_t kw_173)) (fun _ h9 => h9) (cd := (3, 131)) rfl dDA_makeHints_91 (fun v34 hv34 => ?_)
            obtain ⟨r34, rfl, kr32⟩ := (show ∃ r : Nat, v34 = .ref r ∧ T r = some 131 from hv34)
            refine lv_iload_n hx hb dDA_makeHints_94 rfl (lv_at hl 1 rfl) ?_
            refine nw_aald3 hx hb hK hO kr32 (k := 131) (b := 132) rfl hP (by omega) (by omega) dDA_makeHints_95 (fun r35 kr33 => ?_)
            have hn23 : nsp (132 + i21) = (0, 256, []) := rows_ok 132 8 (by decide) _ (by omega)
            refine lv_iload hx hb dDA_makeHints_96 (lv_at hl 0 rfl) ?_
            refine nw_iald hx hb hK hO kr33 (k := (132 + i21)) hn23 hP (by omega) (by omega) dDA_makeHints_98 ?_
            refine mp_i (cx := []) (wr := []) hP hD hS hA [] [] rfl rfl rfl (by decide) (va_runV (As := [.int ((q22.2.1 ((132 + i21)) i22))]) (rest := [.int q22.1]) F (N_DS_high_1 l g _ T q22.2 pl hO hU st (q22.2.1 ((132 + i21)) i22) k_st) (cwV 1 hts (wg_app (wg_c kw_1206 (wg_c kw_1207 (wg_c kw_1208 (wg_c kw_8 wg_n)))) kw_1209) rfl rfl rfl (by decide +kernel) ⟨by decide, by decide⟩) (pn_W "LatticeKeys$DsaSet" (en_ok g) (ci := 2) (kn := 10) (fl := [(1, 6), (1, 5), (1, 4), (1, 4), (1, 49), (1, 48), (1, 20), (1, 524288), (1, 16), (1, 4), (1, 261888), (1, 55), (1, 196), (1, 1952), (1, 4032), (1, 3248), (1, 3309)]) hK hO k_st rfl hP hD hS hA hE [] rfl rfl rfl) rfl rfl hl.1 rfl (lv_room (Nat.le_of_ble_eq_true rfl)) dDA_makeHints_99 ⟨by omega, by omega⟩) (fun r36 u26 H locs hu26 hP hD hS => ?_)
            obtain ⟨q23, pl⟩ := u26
            obtain ⟨⟨eq26, rfl, hFc26, -⟩, hO⟩ := hu26
            have hO : okn g T q23.2 pl := hO
            have hP : va_P g.1 vcl ([] ++ pl) _ := hP
            have hD : va_D _ ([] ++ pl) := hD
            have hFc26 : frm (M_DS_high_1) q22.2 q23.2 := hFc26
            replace hR := bnd_step hR eq26
            have hF := frm_tr hF hFc26 (fun k hk => by unfold M_DS_high_1 at hk; unfold M_DA_makeHints_1; omega)
            refine W.widen (k := 0) (n := 0) (by omega) (by omega) ?_
            refine lv_icmp_eq (tgt := 127) hx hb dDA_makeHints_102 (by decide) (fun h26 => ?_) (fun h26 => ?_)
            · replace hR := hR.trans (if_pos h26)
              refine mi_iinc (k := 0) (x := i22) (d := 1) (y := i22 + 1) (lv' := [(4, .int (nI (i22 + 1))), (3, .int (nI i21)), (2, .int (nI cn22)), (0, .ref h0), (1, .ref st)]) hx hb dDA_makeHints_127 hl rfl (by decide) rfl (by decide) rfl (fun ls hl => ?_)
              refine lv_goto (tgt := 70) hx hb dDA_makeHints_130 (by decide) ?_
              exact ih22 (i22 + 1) cn22 q23.2 pl ls H locs (by omega) (by omega) hF hR (lv_sub hl [0, 1, 2, 3, 4] rfl) hO hP hD hS
            · replace hR := hR.trans (if_neg h26)
              refine lv_iload_n hx hb dDA_makeHints_105 rfl (lv_at hl 2 rfl) ?_
              refine lv_aload_n hx hb dDA_makeHints_106 rfl (lv_at hl 4 rfl) ?_
              refine nw_get (C := "LatticeKeys$DsaSet") (TT := T_DS) (N := 17) hx hb hts (wg_ft i_DS) hown hK hO k_st (kn := 10) (ci := 2) (fl := [(1, 6), (1, 5), (1, 4), (1, 4), (1, 49), (1, 48), (1, 20), (1, 524288), (1, 16), (1, 4), (1, 261888), (1, 55), (1, 196), (1, 1952), (1, 4032), (1, 3248), (1, 3309)]) rfl hP rfl 11 (by decide) (hts _ (wg_t kw_327)) (fun _ h9 => h9) (cd := (1, 55)) rfl dDA_makeHints_107 (fun v35 hv35 => ?_)
              obtain rfl := (show v35 = .int (nI 55) from hv35)
              refine mi_lt (tgt := 115) hx hb dDA_makeHints_110 (by decide) (by omega) (by omega) (fun h27 => ?_) (fun h27 => ?_)
              · replace hR := hR.trans (if_pos h27)
                refine lv_aload_n hx hb dDA_makeHints_115 rfl (lv_at hl 3 rfl) ?_
                refine nw_get (C := "LatticeKeys$Dsa") (TT := T_DA) (N := 17) hx hb hts (wg_ft i_DA) hown hK hO k_h0 (kn := 39) (ci := 6) (fl := [(3, 16), (3, 22), (3, 37), (3, 40), (3, 97), (3, 105), (3, 114), (3, 123), (3, 131), (3, 140), (3, 141), (3, 142), (3, 143), (3, 144), (3, 145), (3, 146), (3, 147)]) rfl hP rfl 15 (by decide) (hts _ (wg_t kw_180)) (fun _ h9 => h9) (cd := (3, 146)) rfl dDA_makeHints_116 (fun v36 hv36 => ?_)
                obtain ⟨r37, rfl, kr34⟩ := (show ∃ r : Nat, v36 = .ref r ∧ T r = some 146 from hv36)
                refine lv_iload_n hx hb dDA_makeHints_119 rfl (lv_at hl 2 rfl) ?_
                refine lv_iload hx hb dDA_makeHints_120 (lv_at hl 0 rfl) ?_
                refine lv_i2b hx hb dDA_makeHints_122 rfl ?_
                refine nw_bast hx hb hK hO hU kr34 (k := 146) rfl hP hD hS (by omega) (by omega) dDA_makeHints_123 (fun s27 pl H locs es22 hO hP hD hS => ?_)
                replace hR := bnd_step hR es22
                have hF := frm_sB hF es22 (by unfold M_DA_makeHints_1; omega)
                refine mi_iinc (k := 2) (x := cn22) (d := 1) (y := cn22 + 1) (lv' := [(2, .int (nI (cn22 + 1))), (4, .int (nI i22)), (3, .int (nI i21)), (0, .ref h0), (1, .ref st)]) hx hb dDA_makeHints_124 hl rfl (by decide) rfl (by decide) rfl (fun ls hl => ?_)
                refine mi_iinc (k := 1) (x := i22) (d := 1) (y := i22 + 1) (lv' := [(4, .int (nI (i22 + 1))), (2, .int (nI (cn22 + 1))), (3, .int (nI i21)), (0, .ref h0), (1, .ref st)]) hx hb dDA_makeHints_127 hl rfl (by decide) rfl (by decide) rfl (fun ls hl => ?_)
                refine lv_goto (tgt := 70) hx hb dDA_makeHints_130 (by decide) ?_
                exact ih22 (i22 + 1) (cn22 + 1) s27 pl ls H locs (by omega) (by omega) hF hR (lv_sub hl [0, 2, 1, 3, 4] rfl) hO hP hD hS
              · replace hR := hR.trans (if_neg (Nat.not_lt.mpr h27))
                refine lv_iconst (v := nI 0) hx hb dDA_makeHints_113 (by decide) ?_
                exact mp_zret hx hb hr hlk rfl hP hD hS ((nI 0, q23.2), pl) ⟨⟨hR.symm, rfl, hF, trivial⟩, hO⟩ [] rfl rfl rfl (by omega) (by omega) dDA_makeHints_114
        exact lp22 256 0 cn21 s24 pl ls _ _ (by omega) (by omega) hF hR (lv_sub hl [0, 1, 2, 3, 4] rfl) hO hP hD hS
      · replace hR := hR.trans (if_pos h23)
        refine lv_iconst (v := nI 0) hx hb dDA_makeHints_48 (by decide) ?_
        exact mp_zret hx hb hr hlk rfl hP hD hS ((nI 0, q21.2), pl) ⟨⟨hR.symm, rfl, hF, trivial⟩, hO⟩ [] rfl rfl rfl (by omega) (by omega) dDA_makeHints_49
  exact lp21 6 0 0 s21 pl ls _ _ (by omega) (by omega) hF hR (lv_sub hl [0, 1, 2, 3] rfl) hO hP hD hS
def M_DA_makeHints_2 (k : Nat) : Prop := k = 141 ∨ k = 146 ∨ (0 : Nat) = 1
noncomputable def F_DA_makeHints_2_L1 (i21 : Nat) (kk : Nat → Nat → Sto → Int32 × Sto) : Nat → Nat → Nat → Sto → Int32 × Sto
  | 0, i22, cn22, s25 => bnd (sB s25 146 (75 + i21) ((nI cn22).toInt8.toInt32)) fun s26 => kk (i21 + 1) cn22 s26
  | n22 + 1, i22, cn22, s25 => bnd (F_DS_high_2 (s25.1 141 i22) s25) fun q22 => bnd (F_DS_high_2 (q22.2.1 ((132 + i21)) i22) q22.2) fun q23 => if (q22.1) = (q23.1) then F_DA_makeHints_2_L1 i21 kk n22 (i22 + 1) cn22 q23.2 else if cn22 < 75 then bnd (sB q23.2 146 cn22 ((nI i22).toInt8.toInt32)) fun s27 => F_DA_makeHints_2_L1 i21 kk n22 (i22 + 1) (cn22 + 1) s27 else (nI 0, q23.2)
noncomputable def F_DA_makeHints_2_L0 : Nat → Nat → Nat → Sto → Int32 × Sto
  | 0, i21, cn21, s22 => (nI 1, s22)
  | n21 + 1, i21, cn21, s22 => bnd (F_DA_multiplyBall (115 + i21) s22) fun s23 => bnd (F_RG_isShort_8 141 (nI 261888) s23) fun q21 => if (q21.1) = 0 then (nI 0, q21.2) else bnd (F_RG_add_8 141 (132 + i21) q21.2) fun s24 => F_DA_makeHints_2_L1 i21 (F_DA_makeHints_2_L0  n21) 256 0 cn21 s24
noncomputable def F_DA_makeHints_2 (s : Sto) : Int32 × Sto := bnd (F_AR_fillB 146 84 (nI 0) s) fun s21 => F_DA_makeHints_2_L0 8 0 0 s21
set_option maxHeartbeats 8000000 in
set_option maxRecDepth 100000 in
theorem N_DA_makeHints_2 (l : Launch) (g : Gd) (sz : Nat) (T : TyN) (s : Sto) (pl : va_W) (hO : okn g T s pl) (hU : inj T) (h0 st : Nat) (k_h0 : T h0 = some 39) (k_st : T st = some 11)  : Met l y_DA_makeHints w_DA_makeHints ({ frames := 3, cells := 0, slots := 0, locals := 74 } : Room) (va_Pc [.ref h0, .ref st] (pr (en g) g.1 vcl sz ([] ++ pl))) (va_Qi (fun (r : Int32) (u : (Int32 × Sto) × va_W) => (u.1 = F_DA_makeHints_2 s ∧ r = u.1.1 ∧ frm (M_DA_makeHints_2) s u.1.2 ∧ True) ∧ okn g T u.1.2 u.2) (po g.1 vcl (va_A ([] ++ pl) sz) (fun (u : (Int32 × Sto) × va_W) => [] ++ u.2)) (va_A ([] ++ pl) sz)) 0 0 (va_A ([] ++ pl) sz) := by
  refine mc_entry (cc := c_DA_makeHints) (maxL := 5) (ret := (some .boolean)) (by decide) rfl (Nat.le_of_ble_eq_true rfl) ?_
  intro p e s0 m args below meth c ls F hr hlk hnm hsz hP hD hE hA hl
  obtain ⟨hx, hb, hml, hown, hts⟩ := id F
  have hK := hE.1
  generalize va_A ([] ++ pl) sz = A at hD hE hA ⊢
  have hS : va_S A s0.heap s0.heap [] := va_S.rf
  have hl : lv_has ls 5 [(0, .ref h0), (1, .ref st)] := hl
  have hR : F_DA_makeHints_2 s = F_DA_makeHints_2 s := rfl
  have hF : frm (M_DA_makeHints_2) s s := frm_rf
  refine lv_aload_n hx hb dDA_makeHints_0 rfl (lv_at hl 0 rfl) ?_
  refine nw_get (C := "LatticeKeys$Dsa") (TT := T_DA) (N := 17) hx hb hts (wg_ft i_DA) hown hK hO k_h0 (kn := 39) (ci := 6) (fl := [(3, 16), (3, 22), (3, 37), (3, 40), (3, 97), (3, 105), (3, 114), (3, 123), (3, 131), (3, 140), (3, 141), (3, 142), (3, 143), (3, 144), (3, 145), (3, 146), (3, 147)]) rfl hP rfl 15 (by decide) (hts _ (wg_t kw_180)) (fun _ h9 => h9) (cd := (3, 146)) rfl dDA_makeHints_1 (fun v21 hv21 => ?_)
  obtain ⟨r21, rfl, kr21⟩ := (show ∃ r : Nat, v21 = .ref r ∧ T r = some 146 from hv21)
  refine lv_iconst (v := nI 0) hx hb dDA_makeHints_4 (by decide) ?_
  refine mp_v (cx := []) (wr := []) hP hD hS hA [] [] rfl rfl rfl (by decide) (va_runS (As := [.ref r21, .int (nI 0)]) (rest := []) F (N_AR_fillB l g _ T s pl hO hU r21 146 84 (nI 0) kr21 rfl (by omega)) (va_cwS 2 hts (wg_app (wg_c kw_1245 (wg_c kw_1246 (wg_c kw_21 wg_n))) kw_1247) rfl rfl rfl (by decide +kernel) ⟨by decide, by decide⟩) (pp_S (en_ok g) hP hD hS hA hE [] rfl rfl) rfl rfl hl.1 rfl (lv_room (Nat.le_of_ble_eq_true rfl)) dDA_makeHints_5 ⟨by omega, by omega⟩) (fun  u21 H locs hu21 hP hD hS => ?_)
  obtain ⟨s21, pl⟩ := u21
  obtain ⟨⟨eq21, hFc21, -⟩, hO⟩ := hu21
  have hO : okn g T s21 pl := hO
  have hP : va_P g.1 vcl ([] ++ pl) _ := hP
  have hD : va_D _ ([] ++ pl) := hD
  have hFc21 : frm (M_AR_fillB 146) s s21 := hFc21
  replace hR := bnd_step hR eq21
  have hF := frm_tr hF hFc21 (fun k hk => by unfold M_AR_fillB at hk; unfold M_DA_makeHints_2; omega)
  refine W.widen (k := 0) (n := 0) (by omega) (by omega) ?_
  refine lv_iconst (v := nI 0) hx hb dDA_makeHints_8 (by decide) ?_
  refine lv_istore_n (lv' := [(2, .int (nI 0)), (0, .ref h0), (1, .ref st)]) hx hb dDA_makeHints_9 rfl hl (by decide) rfl (fun ls hl => ?_)
  refine lv_iconst (v := nI 0) hx hb dDA_makeHints_10 (by decide) ?_
  refine lv_istore_n (lv' := [(3, .int (nI 0)), (2, .int (nI 0)), (0, .ref h0), (1, .ref st)]) hx hb dDA_makeHints_11 rfl hl (by decide) rfl (fun ls hl => ?_)
  have lp21 : ∀ (n21 : Nat) (i21 : Nat) (cn21 : Nat) (s22 : Sto) (pl : va_W) (ls : Array Slot) (H : Heap) (locs : List Loc), n21 + i21 = 8 → (cn21 ≤ 75) → frm (M_DA_makeHints_2) s s22 → F_DA_makeHints_2 s = F_DA_makeHints_2_L0 n21 i21 cn21 s22 → lv_has ls 5 [(3, .int (nI i21)), (2, .int (nI cn21)), (0, .ref h0), (1, .ref st)] → okn g T s22 pl → va_P g.1 vcl ([] ++ pl) H → va_D A ([] ++ pl) → va_S A s0.heap H locs → W p l e ({ frames := 3, cells := 0, slots := 0, locals := 74 } : Room) s0 m args below meth c H locs 0 0 (MQ below (va_Qi (fun (r : Int32) (u : (Int32 × Sto) × va_W) => (u.1 = F_DA_makeHints_2 s ∧ r = u.1.1 ∧ frm (M_DA_makeHints_2) s u.1.2 ∧ True) ∧ okn g T u.1.2 u.2) (po g.1 vcl A (fun (u : (Int32 × Sto) × va_W) => [] ++ u.2)) A) args s0 0 0 A) (F0 m 12 ls []) := by
    intro n21
    induction n21 with
    | zero =>
      intro i21 cn21 s22 pl ls H locs hm21 hi21 hF hR hl hO hP hD hS
      refine lv_iload_n hx hb dDA_makeHints_12 rfl (lv_at hl 0 rfl) ?_
      refine lv_aload_n hx hb dDA_makeHints_13 rfl (lv_at hl 3 rfl) ?_
      refine nw_get (C := "LatticeKeys$DsaSet") (TT := T_DS) (N := 17) hx hb hts (wg_ft i_DS) hown hK hO k_st (kn := 11) (ci := 2) (fl := [(1, 8), (1, 7), (1, 2), (1, 3), (1, 60), (1, 64), (1, 20), (1, 524288), (1, 16), (1, 4), (1, 261888), (1, 75), (1, 120), (1, 2592), (1, 4896), (1, 4544), (1, 4627)]) rfl hP rfl 0 (by decide) (hts _ (wg_t kw_302)) (fun _ h9 => h9) (cd := (1, 8)) rfl dDA_makeHints_14 (fun v22 hv22 => ?_)
      obtain rfl := (show v22 = .int (nI 8) from hv22)
      refine mi_ge (tgt := 152) hx hb dDA_makeHints_17 (by decide) (by omega) (by omega) (fun h21 => ?_) (fun h21 => absurd h21 (by omega))
      refine lv_iconst (v := nI 1) hx hb dDA_makeHints_152 (by decide) ?_
      exact mp_zret hx hb hr hlk rfl hP hD hS ((nI 1, s22), pl) ⟨⟨hR.symm, rfl, hF, trivial⟩, hO⟩ [] rfl rfl rfl (by omega) (by omega) dDA_makeHints_153
    | succ n21 ih21 =>
      intro i21 cn21 s22 pl ls H locs hm21 hi21 hF hR hl hO hP hD hS
      refine lv_iload_n hx hb dDA_makeHints_12 rfl (lv_at hl 0 rfl) ?_
      refine lv_aload_n hx hb dDA_makeHints_13 rfl (lv_at hl 3 rfl) ?_
      refine nw_get (C := "LatticeKeys$DsaSet") (TT := T_DS) (N := 17) hx hb hts (wg_ft i_DS) hown hK hO k_st (kn := 11) (ci := 2) (fl := [(1, 8), (1, 7), (1, 2), (1, 3), (1, 60), (1, 64), (1, 20), (1, 524288), (1, 16), (1, 4), (1, 261888), (1, 75), (1, 120), (1, 2592), (1, 4896), (1, 4544), (1, 4627)]) rfl hP rfl 0 (by decide) (hts _ (wg_t kw_302)) (fun _ h9 => h9) (cd := (1, 8)) rfl dDA_makeHints_14 (fun v23 hv23 => ?_)
      obtain rfl := (show v23 = .int (nI 8) from hv23)
      refine mi_ge (tgt := 152) hx hb dDA_makeHints_17 (by decide) (by omega) (by omega) (fun h22 => absurd h22 (by omega)) (fun h22 => ?_)
      refine lv_aload_n hx hb dDA_makeHints_20 rfl (lv_at hl 2 rfl) ?_
      refine lv_aload_n hx hb dDA_makeHints_21 rfl (lv_at hl 2 rfl) ?_
      refine nw_get (C := "LatticeKeys$Dsa") (TT := T_DA) (N := 17) hx hb hts (wg_ft i_DA) hown hK hO k_h0 (kn := 39) (ci := 6) (fl := [(3, 16), (3, 22), (3, 37), (3, 40), (3, 97), (3, 105), (3, 114), (3, 123), (3, 131), (3, 140), (3, 141), (3, 142), (3, 143), (3, 144), (3, 145), (3, 146), (3, 147)]) rfl hP rfl 6 (by decide) (hts _ (wg_t kw_171)) (fun _ h9 => h9) (cd := (3, 114)) rfl dDA_makeHints_22 (fun v24 hv24 => ?_)
      obtain ⟨r22, rfl, kr22⟩ := (show ∃ r : Nat, v24 = .ref r ∧ T r = some 114 from hv24)
      refine lv_iload_n hx hb dDA_makeHints_25 rfl (lv_at hl 0 rfl) ?_
      refine nw_aald3 hx hb hK hO kr22 (k := 114) (b := 115) rfl hP (by omega) (by omega) dDA_makeHints_26 (fun r23 kr23 => ?_)
      have hn21 : nsp (115 + i21) = (0, 256, []) := rows_ok 115 8 (by decide) _ (by omega)
      refine mp_v (cx := []) (wr := []) hP hD hS hA [] [] rfl rfl rfl (by decide) (va_runV (As := [.ref r23]) (rest := []) F (N_DA_multiplyBall l g _ T s22 pl hO hU h0 r23 (115 + i21) k_h0 kr23 hn21) (cwV 1 hts (wg_app (wg_c kw_1224 (wg_c kw_1226 (wg_c ks_41 (wg_c kw_5 wg_n)))) kw_1227) rfl rfl rfl (by decide +kernel) ⟨by decide, by decide⟩) (pn_W "LatticeKeys$Dsa" (en_ok g) (ci := 6) (kn := 39) (fl := [(3, 16), (3, 22), (3, 37), (3, 40), (3, 97), (3, 105), (3, 114), (3, 123), (3, 131), (3, 140), (3, 141), (3, 142), (3, 143), (3, 144), (3, 145), (3, 146), (3, 147)]) hK hO k_h0 rfl hP hD hS hA hE [] rfl rfl rfl) rfl rfl hl.1 rfl (lv_room (Nat.le_of_ble_eq_true rfl)) dDA_makeHints_27 ⟨by omega, by omega⟩) (fun  u22 H locs hu22 hP hD hS => ?_)
      obtain ⟨s23, pl⟩ := u22
      obtain ⟨⟨eq22, hFc22, -⟩, hO⟩ := hu22
      have hO : okn g T s23 pl := hO
      have hP : va_P g.1 vcl ([] ++ pl) _ := hP
      have hD : va_D _ ([] ++ pl) := hD
      have hFc22 : frm (M_DA_multiplyBall) s22 s23 := hFc22
      replace hR := bnd_step hR eq22
      have hF := frm_tr hF hFc22 (fun k hk => by unfold M_DA_multiplyBall at hk; unfold M_DA_makeHints_2; omega)
      refine W.widen (k := 0) (n := 0) (by omega) (by omega) ?_
      refine lv_aload_n hx hb dDA_makeHints_30 rfl (lv_at hl 2 rfl) ?_
      refine nw_get (C := "LatticeKeys$Dsa") (TT := T_DA) (N := 17) hx hb hts (wg_ft i_DA) hown hK hO k_h0 (kn := 39) (ci := 6) (fl := [(3, 16), (3, 22), (3, 37), (3, 40), (3, 97), (3, 105), (3, 114), (3, 123), (3, 131), (3, 140), (3, 141), (3, 142), (3, 143), (3, 144), (3, 145), (3, 146), (3, 147)]) rfl hP rfl 1 (by decide) (hts _ (wg_t kw_166)) (fun _ h9 => h9) (cd := (3, 22)) rfl dDA_makeHints_31 (fun v25 hv25 => ?_)
      obtain ⟨r24, rfl, kr24⟩ := (show ∃ r : Nat, v25 = .ref r ∧ T r = some 22 from hv25)
      refine lv_aload_n hx hb dDA_makeHints_34 rfl (lv_at hl 2 rfl) ?_
      refine nw_get (C := "LatticeKeys$Dsa") (TT := T_DA) (N := 17) hx hb hts (wg_ft i_DA) hown hK hO k_h0 (kn := 39) (ci := 6) (fl := [(3, 16), (3, 22), (3, 37), (3, 40), (3, 97), (3, 105), (3, 114), (3, 123), (3, 131), (3, 140), (3, 141), (3, 142), (3, 143), (3, 144), (3, 145), (3, 146), (3, 147)]) rfl hP rfl 10 (by decide) (hts _ (wg_t kw_175)) (fun _ h9 => h9) (cd := (3, 141)) rfl dDA_makeHints_35 (fun v26 hv26 => ?_)
      obtain ⟨r25, rfl, kr25⟩ := (show ∃ r : Nat, v26 = .ref r ∧ T r = some 141 from hv26)
      refine lv_aload_n hx hb dDA_makeHints_38 rfl (lv_at hl 3 rfl) ?_
      refine nw_get (C := "LatticeKeys$DsaSet") (TT := T_DS) (N := 17) hx hb hts (wg_ft i_DS) hown hK hO k_st (kn := 11) (ci := 2) (fl := [(1, 8), (1, 7), (1, 2), (1, 3), (1, 60), (1, 64), (1, 20), (1, 524288), (1, 16), (1, 4), (1, 261888), (1, 75), (1, 120), (1, 2592), (1, 4896), (1, 4544), (1, 4627)]) rfl hP rfl 10 (by decide) (hts _ (wg_t kw_325)) (fun _ h9 => h9) (cd := (1, 261888)) rfl dDA_makeHints_39 (fun v27 hv27 => ?_)
      obtain rfl := (show v27 = .int (nI 261888) from hv27)
      refine mp_i (cx := []) (wr := []) hP hD hS hA [] [] rfl rfl rfl (by decide) (va_runV (As := [.ref r25, .int (nI 261888)]) (rest := []) F (N_RG_isShort_8 l g _ T s23 pl hO hU r24 r25 141 (nI 261888) kr24 kr25 rfl) (cwV 2 hts (wg_app (wg_c kw_1228 (wg_c kw_1229 (wg_c kw_1230 (wg_c kw_4 wg_n)))) kw_1231) rfl rfl rfl (by decide +kernel) ⟨by decide, by decide⟩) (pn_W "LatticeKeys$Ring" (en_ok g) (ci := 4) (kn := 22) (fl := [(1, 8380417), (1, 8), (1, 8347681), (3, 23)]) hK hO kr24 rfl hP hD hS hA hE [] rfl rfl rfl) rfl rfl hl.1 rfl (lv_room (Nat.le_of_ble_eq_true rfl)) dDA_makeHints_42 ⟨by omega, by omega⟩) (fun r26 u23 H locs hu23 hP hD hS => ?_)
      obtain ⟨q21, pl⟩ := u23
      obtain ⟨⟨eq23, rfl, hFc23, -⟩, hO⟩ := hu23
      have hO : okn g T q21.2 pl := hO
      have hP : va_P g.1 vcl ([] ++ pl) _ := hP
      have hD : va_D _ ([] ++ pl) := hD
      have hFc23 : frm (M_RG_isShort_8) s23 q21.2 := hFc23
      replace hR := bnd_step hR eq23
      have hF := frm_tr hF hFc23 (fun k hk => by unfold M_RG_isShort_8 at hk; unfold M_DA_makeHints_2; omega)
      refine W.widen (k := 0) (n := 0) (by omega) (by omega) ?_
      refine lv_if_ne (tgt := 50) hx hb dDA_makeHints_45 (by decide) (fun h23 => ?_) (fun h23 => ?_)
      · replace hR := hR.trans (if_neg h23)
        refine lv_aload_n hx hb dDA_makeHints_50 rfl (lv_at hl 2 rfl) ?_
        refine nw_get (C := "LatticeKeys$Dsa") (TT := T_DA) (N := 17) hx hb hts (wg_ft i_DA) hown hK hO k_h0 (kn := 39) (ci := 6) (fl := [(3, 16), (3, 22), (3, 37), (3, 40), (3, 97), (3, 105), (3, 114), (3, 123), (3, 131), (3, 140), (3, 141), (3, 142), (3, 143), (3, 144), (3, 145), (3, 146), (3, 147)]) rfl hP rfl 1 (by decide) (hts _ (wg_t kw_166)) (fun _ h9 => h9) (cd := (3, 22)) rfl dDA_makeHints_51 (fun v28 hv28 => ?_)
        obtain ⟨r27, rfl, kr26⟩ := (show ∃ r : Nat, v28 = .ref r ∧ T r = some 22 from hv28)
        refine lv_aload_n hx hb dDA_makeHints_54 rfl (lv_at hl 2 rfl) ?_
        refine nw_get (C := "LatticeKeys$Dsa") (TT := T_DA) (N := 17) hx hb hts (wg_ft i_DA) hown hK hO k_h0 (kn := 39) (ci := 6) (fl := [(3, 16), (3, 22), (3, 37), (3, 40), (3, 97), (3, 105), (3, 114), (3, 123), (3, 131), (3, 140), (3, 141), (3, 142), (3, 143), (3, 144), (3, 145), (3, 146), (3, 147)]) rfl hP rfl 10 (by decide) (hts _ (wg_t kw_175)) (fun _ h9 => h9) (cd := (3, 141)) rfl dDA_makeHints_55 (fun v29 hv29 => ?_)
        obtain ⟨r28, rfl, kr27⟩ := (show ∃ r : Nat, v29 = .ref r ∧ T r = some 141 from hv29)
        refine lv_aload_n hx hb dDA_makeHints_58 rfl (lv_at hl 2 rfl) ?_
        refine nw_get (C := "LatticeKeys$Dsa") (TT := T_DA) (N := 17) hx hb hts (wg_ft i_DA) hown hK hO k_h0 (kn := 39) (ci := 6) (fl := [(3, 16), (3, 22), (3, 37), (3, 40), (3, 97), (3, 105), (3, 114), (3, 123), (3, 131), (3, 140), (3, 141), (3, 142), (3, 143), (3, 144), (3, 145), (3, 146), (3, 147)]) rfl hP rfl 8 (by decide) (hts _ (wg_t kw_173)) (fun _ h9 => h9) (cd := (3, 131)) rfl dDA_makeHints_59 (fun v30 hv30 => ?_)
        obtain ⟨r29, rfl, kr28⟩ := (show ∃ r : Nat, v30 = .ref r ∧ T r = some 131 from hv30)
        refine lv_iload_n hx hb dDA_makeHints_62 rfl (lv_at hl 0 rfl) ?_
        refine nw_aald3 hx hb hK hO kr28 (k := 131) (b := 132) rfl hP (by omega) (by omega) dDA_makeHints_63 (fun r30 kr29 => ?_)
        have hn22 : nsp (132 + i21) = (0, 256, []) := rows_ok 132 8 (by decide) _ (by omega)
        refine mp_v (cx := []) (wr := []) hP hD hS hA [] [] rfl rfl rfl (by decide) (va_runV (As := [.ref r28, .ref r30]) (rest := []) F (N_RG_add_8 l g _ T q21.2 pl hO hU r27 r28 r30 141 (132 + i21) kr26 kr27 rfl kr29 hn22) (cwV 2 hts (wg_app (wg_c kw_728 (wg_c kw_729 (wg_c kw_730 (wg_c kw_4 wg_n)))) kw_731) rfl rfl rfl (by decide +kernel) ⟨by decide, by decide⟩) (pn_W "LatticeKeys$Ring" (en_ok g) (ci := 4) (kn := 22) (fl := [(1, 8380417), (1, 8), (1, 8347681), (3, 23)]) hK hO kr26 rfl hP hD hS hA hE [] rfl rfl rfl) rfl rfl hl.1 rfl (lv_room (Nat.le_of_ble_eq_true rfl)) dDA_makeHints_64 ⟨by omega, by omega⟩) (fun  u24 H locs hu24 hP hD hS => ?_)
        obtain ⟨s24, pl⟩ := u24
        obtain ⟨⟨eq24, hFc24, -⟩, hO⟩ := hu24
        have hO : okn g T s24 pl := hO
        have hP : va_P g.1 vcl ([] ++ pl) _ := hP
        have hD : va_D _ ([] ++ pl) := hD
        have hFc24 : frm (M_RG_add_8 141) q21.2 s24 := hFc24
        replace hR := bnd_step hR eq24
        have hF := frm_tr hF hFc24 (fun k hk => by unfold M_RG_add_8 at hk; unfold M_DA_makeHints_2; omega)
        refine W.widen (k := 0) (n := 0) (by omega) (by omega) ?_
        refine lv_iconst (v := nI 0) hx hb dDA_makeHints_67 (by decide) ?_
        refine lv_istore (lv' := [(4, .int (nI 0)), (3, .int (nI i21)), (2, .int (nI cn21)), (0, .ref h0), (1, .ref st)]) hx hb dDA_makeHints_68 hl (by decide) rfl (fun ls hl => ?_)
        have lp22 : ∀ (n22 : Nat) (i22 : Nat) (cn22 : Nat) (s25 : Sto) (pl : va_W) (ls : Array Slot) (H : Heap) (locs : List Loc), n22 + i22 = 256 → (cn22 ≤ 75) → frm (M_DA_makeHints_2) s s25 → F_DA_makeHints_2 s = F_DA_makeHints_2_L1 i21 (F_DA_makeHints_2_L0 n21) n22 i22 cn22 s25 → lv_has ls 5 [(4, .int (nI i22)), (3, .int (nI i21)), (2, .int (nI cn22)), (0, .ref h0), (1, .ref st)] → okn g T s25 pl → va_P g.1 vcl ([] ++ pl) H → va_D A ([] ++ pl) → va_S A s0.heap H locs → W p l e ({ frames := 3, cells := 0, slots := 0, locals := 74 } : Room) s0 m args below meth c H locs 0 0 (MQ below (va_Qi (fun (r : Int32) (u : (Int32 × Sto) × va_W) => (u.1 = F_DA_makeHints_2 s ∧ r = u.1.1 ∧ frm (M_DA_makeHints_2) s u.1.2 ∧ True) ∧ okn g T u.1.2 u.2) (po g.1 vcl A (fun (u : (Int32 × Sto) × va_W) => [] ++ u.2)) A) args s0 0 0 A) (F0 m 70 ls []) := by
          intro n22
          induction n22 with
          | zero =>
            intro i22 cn22 s25 pl ls H locs hm22 hi22 hF hR hl hO hP hD hS
            refine lv_iload hx hb dDA_makeHints_70 (lv_at hl 0 rfl) ?_
            refine lv_sipush (v := nI 256) hx hb dDA_makeHints_72 (by decide) ?_
            refine mi_ge (tgt := 133) hx hb dDA_makeHints_75 (by decide) (by omega) (by omega) (fun h24 => ?_) (fun h24 => absurd h24 (by omega))
            refine lv_aload_n hx hb dDA_makeHints_133 rfl (lv_at hl 3 rfl) ?_
            refine nw_get (C := "LatticeKeys$Dsa") (TT := T_DA) (N := 17) hx hb hts (wg_ft i_DA) hown hK hO k_h0 (kn := 39) (ci := 6) (fl := [(3, 16), (3, 22), (3, 37), (3, 40), (3, 97), (3, 105), (3, 114), (3, 123), (3, 131), (3, 140), (3, 141), (3, 142), (3, 143), (3, 144), (3, 145), (3, 146), (3, 147)]) rfl hP rfl 15 (by decide) (hts _ (wg_t kw_180)) (fun _ h9 => h9) (cd := (3, 146)) rfl dDA_makeHints_134 (fun v31 hv31 => ?_)
            obtain ⟨r31, rfl, kr30⟩ := (show ∃ r : Nat, v31 = .ref r ∧ T r = some 146 from hv31)
            refine lv_aload_n hx hb dDA_makeHints_137 rfl (lv_at hl 4 rfl) ?_
            refine nw_get (C := "LatticeKeys$DsaSet") (TT := T_DS) (N := 17) hx hb hts (wg_ft i_DS) hown hK hO k_st (kn := 11) (ci := 2) (fl := [(1, 8), (1, 7), (1, 2), (1, 3), (1, 60), (1, 64), (1, 20), (1, 524288), (1, 16), (1, 4), (1, 261888), (1, 75), (1, 120), (1, 2592), (1, 4896), (1, 4544), (1, 4627)]) rfl hP rfl 11 (by decide) (hts _ (wg_t kw_327)) (fun _ h9 => h9) (cd := (1, 75)) rfl dDA_makeHints_138 (fun v32 hv32 => ?_)
            obtain rfl := (show v32 = .int (nI 75) from hv32)
            refine lv_iload_n hx hb dDA_makeHints_141 rfl (lv_at hl 1 rfl) ?_
            refine mi_iadd hx hb dDA_makeHints_142 ?_
            refine lv_iload_n hx hb dDA_makeHints_143 rfl (lv_at hl 2 rfl) ?_
            refine lv_i2b hx hb dDA_makeHints_144 rfl ?_
            refine nw_bast hx hb hK hO hU kr30 (k := 146) rfl hP hD hS (by omega) (by omega) dDA_makeHints_145 (fun s26 pl H locs es21 hO hP hD hS => ?_)
            replace hR := bnd_step hR es21
            have hF := frm_sB hF es21 (by unfold M_DA_makeHints_2; omega)
            refine mi_iinc (k := 1) (x := i21) (d := 1) (y := i21 + 1) (lv' := [(3, .int (nI (i21 + 1))), (4, .int (nI i22)), (2, .int (nI cn22)), (0, .ref h0), (1, .ref st)]) hx hb dDA_makeHints_146 hl rfl (by decide) rfl (by decide) rfl (fun ls hl => ?_)
            refine lv_goto (tgt := 12) hx hb dDA_makeHints_149 (by decide) ?_
            exact ih21 (i21 + 1) cn22 s26 pl ls H locs (by omega) (by omega) hF hR (lv_sub hl [0, 2, 3, 4] rfl) hO hP hD hS
          | succ n22 ih22 =>
            intro i22 cn22 s25 pl ls H locs hm22 hi22 hF hR hl hO hP hD hS
            refine lv_iload hx hb dDA_makeHints_70 (lv_at hl 0 rfl) ?_
            refine lv_sipush (v := nI 256) hx hb dDA_makeHints_72 (by decide) ?_
            refine mi_ge (tgt := 133) hx hb dDA_makeHints_75 (by decide) (by omega) (by omega) (fun h25 => absurd h25 (by omega)) (fun h25 => ?_)
            refine lv_aload_n hx hb dDA_makeHints_78 rfl (lv_at hl 4 rfl) ?_
            refine lv_aload_n hx hb dDA_makeHints_79 rfl (lv_at hl 3 rfl) ?_
            refine nw_get (C := "LatticeKeys$Dsa") (TT := T_DA) (N := 17) hx hb hts (wg_ft i_DA) hown hK hO k_h0 (kn := 39) (ci := 6) (fl := [(3, 16), (3, 22), (3, 37), (3, 40), (3, 97), (3, 105), (3, 114), (3, 123), (3, 131), (3, 140), (3, 141), (3, 142), (3, 143), (3, 144), (3, 145), (3, 146), (3, 147)]) rfl hP rfl 10 (by decide) (hts _ (wg_t kw_175)) (fun _ h9 => h9) (cd := (3, 141)) rfl dDA_makeHints_80 (fun v33 hv33 => ?_)
            obtain ⟨r32, rfl, kr31⟩ := (show ∃ r : Nat, v33 = .ref r ∧ T r = some 141 from hv33)
            refine lv_iload hx hb dDA_makeHints_83 (lv_at hl 0 rfl) ?_
            refine nw_iald hx hb hK hO kr31 (k := 141) rfl hP (by omega) (by omega) dDA_makeHints_85 ?_
            refine mp_i (cx := []) (wr := []) hP hD hS hA [] [] rfl rfl rfl (by decide) (va_runV (As := [.int ((s25.1 141 i22))]) (rest := []) F (N_DS_high_2 l g _ T s25 pl hO hU st (s25.1 141 i22) k_st) (cwV 1 hts (wg_app (wg_c kw_1206 (wg_c kw_1207 (wg_c kw_1208 (wg_c kw_8 wg_n)))) kw_1209) rfl rfl rfl (by decide +kernel) ⟨by decide, by decide⟩) (pn_W "LatticeKeys$DsaSet" (en_ok g) (ci := 2) (kn := 11) (fl := [(1, 8), (1, 7), (1, 2), (1, 3), (1, 60), (1, 64), (1, 20), (1, 524288), (1, 16), (1, 4), (1, 261888), (1, 75), (1, 120), (1, 2592), (1, 4896), (1, 4544), (1, 4627)]) hK hO k_st rfl hP hD hS hA hE [] rfl rfl rfl) rfl rfl hl.1 rfl (lv_room (Nat.le_of_ble_eq_true rfl)) dDA_makeHints_86 ⟨by omega, by omega⟩) (fun r33 u25 H locs hu25 hP hD hS => ?_)
            obtain ⟨q22, pl⟩ := u25
            obtain ⟨⟨eq25, rfl, hFc25, -⟩, hO⟩ := hu25
            have hO : okn g T q22.2 pl := hO
            have hP : va_P g.1 vcl ([] ++ pl) _ := hP
            have hD : va_D _ ([] ++ pl) := hD
            have hFc25 : frm (M_DS_high_2) s25 q22.2 := hFc25
            replace hR := bnd_step hR eq25
            have hF := frm_tr hF hFc25 (fun k hk => by unfold M_DS_high_2 at hk; unfold M_DA_makeHints_2; omega)
            refine W.widen (k := 0) (n := 0) (by omega) (by omega) ?_
            refine lv_aload_n hx hb dDA_makeHints_89 rfl (lv_at hl 4 rfl) ?_
            refine lv_aload_n hx hb dDA_makeHints_90 rfl (lv_at hl 3 rfl) ?_
            refine nw_get (C := "LatticeKeys$Dsa") (TT := T_DA) (N := 17) hx hb hts (wg_ft i_DA) hown hK hO k_h0 (kn := 39) (ci := 6) (fl := [(3, 16), (3, 22), (3, 37), (3, 40), (3, 97), (3, 105), (3, 114), (3, 123), (3, 131), (3, 140), (3, 141), (3, 142), (3, 143), (3, 144), (3, 145), (3, 146), (3, 147)]) rfl hP rfl 8 (by decide) (hts _ (wg_t kw_173)) (fun _ h9 => h9) (cd := (3, 131)) rfl dDA_makeHints_91 (fun v34 hv34 => ?_)
            obtain ⟨r34, rfl, kr32⟩ := (show ∃ r : Nat, v34 = .ref r ∧ T r = some 131 from hv34)
            refine lv_iload_n hx hb dDA_makeHints_94 rfl (lv_at hl 1 rfl) ?_
            refine nw_aald3 hx hb hK hO kr32 (k := 131) (b := 132) rfl hP (by omega) (by omega) dDA_makeHints_95 (fun r35 kr33 => ?_)
            have hn23 : nsp (132 + i21) = (0, 256, []) := rows_ok 132 8 (by decide) _ (by omega)
            refine lv_iload hx hb dDA_makeHints_96 (lv_at hl 0 rfl) ?_
            refine nw_iald hx hb hK hO kr33 (k := (132 + i21)) hn23 hP (by omega) (by omega) dDA_makeHints_98 ?_
            refine mp_i (cx := []) (wr := []) hP hD hS hA [] [] rfl rfl rfl (by decide) (va_runV (As := [.int ((q22.2.1 ((132 + i21)) i22))]) (rest := [.int q22.1]) F (N_DS_high_2 l g _ T q22.2 pl hO hU st (q22.2.1 ((132 + i21)) i22) k_st) (cwV 1 hts (wg_app (wg_c kw_1206 (wg_c kw_1207 (wg_c kw_1208 (wg_c kw_8 wg_n)))) kw_1209) rfl rfl rfl (by decide +kernel) ⟨by decide, by decide⟩) (pn_W "LatticeKeys$DsaSet" (en_ok g) (ci := 2) (kn := 11) (fl := [(1, 8), (1, 7), (1, 2), (1, 3), (1, 60), (1, 64), (1, 20), (1, 524288), (1, 16), (1, 4), (1, 261888), (1, 75), (1, 120), (1, 2592), (1, 4896), (1, 4544), (1, 4627)]) hK hO k_st rfl hP hD hS hA hE [] rfl rfl rfl) rfl rfl hl.1 rfl (lv_room (Nat.le_of_ble_eq_true rfl)) dDA_makeHints_99 ⟨by omega, by omega⟩) (fun r36 u26 H locs hu26 hP hD hS => ?_)
            obtain ⟨q23, pl⟩ := u26
            obtain ⟨⟨eq26, rfl, hFc26, -⟩, hO⟩ := hu26
            have hO : okn g T q23.2 pl := hO
            have hP : va_P g.1 vcl ([] ++ pl) _ := hP
            have hD : va_D _ ([] ++ pl) := hD
            have hFc26 : frm (M_DS_high_2) q22.2 q23.2 := hFc26
            replace hR := bnd_step hR eq26
            have hF := frm_tr hF hFc26 (fun k hk => by unfold M_DS_high_2 at hk; unfold M_DA_makeHints_2; omega)
            refine W.widen (k := 0) (n := 0) (by omega) (by omega) ?_
            refine lv_icmp_eq (tgt := 127) hx hb dDA_makeHints_102 (by decide) (fun h26 => ?_) (fun h26 => ?_)
            · replace hR := hR.trans (if_pos h26)
              refine mi_iinc (k := 0) (x := i22) (d := 1) (y := i22 + 1) (lv' := [(4, .int (nI (i22 + 1))), (3, .int (nI i21)), (2, .int (nI cn22)), (0, .ref h0), (1, .ref st)]) hx hb dDA_makeHints_127 hl rfl (by decide) rfl (by decide) rfl (fun ls hl => ?_)
              refine lv_goto (tgt := 70) hx hb dDA_makeHints_130 (by decide) ?_
              exact ih22 (i22 + 1) cn22 q23.2 pl ls H locs (by omega) (by omega) hF hR (lv_sub hl [0, 1, 2, 3, 4] rfl) hO hP hD hS
            · replace hR := hR.trans (if_neg h26)
              refine lv_iload_n hx hb dDA_makeHints_105 rfl (lv_at hl 2 rfl) ?_
              refine lv_aload_n hx hb dDA_makeHints_106 rfl (lv_at hl 4 rfl) ?_
              refine nw_get (C := "LatticeKeys$DsaSet") (TT := T_DS) (N := 17) hx hb hts (wg_ft i_DS) hown hK hO k_st (kn := 11) (ci := 2) (fl := [(1, 8), (1, 7), (1, 2), (1, 3), (1, 60), (1, 64), (1, 20), (1, 524288), (1, 16), (1, 4), (1, 261888), (1, 75), (1, 120), (1, 2592), (1, 4896), (1, 4544), (1, 4627)]) rfl hP rfl 11 (by decide) (hts _ (wg_t kw_327)) (fun _ h9 => h9) (cd := (1, 75)) rfl dDA_makeHints_107 (fun v35 hv35 => ?_)
              obtain rfl := (show v35 = .int (nI 75) from hv35)
              refine mi_lt (tgt := 115) hx hb dDA_makeHints_110 (by decide) (by omega) (by omega) (fun h27 => ?_) (fun h27 => ?_)
              · replace hR := hR.trans (if_pos h27)
                refine lv_aload_n hx hb dDA_makeHints_115 rfl (lv_at hl 3 rfl) ?_
                refine nw_get (C := "LatticeKeys$Dsa") (TT := T_DA) (N := 17) hx hb hts (wg_ft i_DA) hown hK hO k_h0 (kn := 39) (ci := 6) (fl := [(3, 16), (3, 22), (3, 37), (3, 40), (3, 97), (3, 105), (3, 114), (3, 123), (3, 131), (3, 140), (3, 141), (3, 142), (3, 143), (3, 144), (3, 145), (3, 146), (3, 147)]) rfl hP rfl 15 (by decide) (hts _ (wg_t kw_180)) (fun _ h9 => h9) (cd := (3, 146)) rfl dDA_makeHints_116 (fun v36 hv36 => ?_)
                obtain ⟨r37, rfl, kr34⟩ := (show ∃ r : Nat, v36 = .ref r ∧ T r = some 146 from hv36)
                refine lv_iload_n hx hb dDA_makeHints_119 rfl (lv_at hl 2 rfl) ?_
                refine lv_iload hx hb dDA_makeHints_120 (lv_at hl 0 rfl) ?_
                refine lv_i2b hx hb dDA_makeHints_122 rfl ?_
                refine nw_bast hx hb hK hO hU kr34 (k := 146) rfl hP hD hS (by omega) (by omega) dDA_makeHints_123 (fun s27 pl H locs es22 hO hP hD hS => ?_)
                replace hR := bnd_step hR es22
                have hF := frm_sB hF es22 (by unfold M_DA_makeHints_2; omega)
                refine mi_iinc (k := 2) (x := cn22) (d := 1) (y := cn22 + 1) (lv' := [(2, .int (nI (cn22 + 1))), (4, .int (nI i22)), (3, .int (nI i21)), (0, .ref h0), (1, .ref st)]) hx hb dDA_makeHints_124 hl rfl (by decide) rfl (by decide) rfl (fun ls hl => ?_)
                refine mi_iinc (k := 1) (x := i22) (d := 1) (y := i22 + 1) (lv' := [(4, .int (nI (i22 + 1))), (2, .int (nI (cn22 + 1))), (3, .int (nI i21)), (0, .ref h0), (1, .ref st)]) hx hb dDA_makeHints_127 hl rfl (by decide) rfl (by decide) rfl (fun ls hl => ?_)
                refine lv_goto (tgt := 70) hx hb dDA_makeHints_130 (by decide) ?_
                exact ih22 (i22 + 1) (cn22 + 1) s27 pl ls H locs (by omega) (by omega) hF hR (lv_sub hl [0, 2, 1, 3, 4] rfl) hO hP hD hS
              · replace hR := hR.trans (if_neg (Nat.not_lt.mpr h27))
                refine lv_iconst (v := nI 0) hx hb dDA_makeHints_113 (by decide) ?_
                exact mp_zret hx hb hr hlk rfl hP hD hS ((nI 0, q23.2), pl) ⟨⟨hR.symm, rfl, hF, trivial⟩, hO⟩ [] rfl rfl rfl (by omega) (by omega) dDA_makeHints_114
        exact lp22 256 0 cn21 s24 pl ls _ _ (by omega) (by omega) hF hR (lv_sub hl [0, 1, 2, 3, 4] rfl) hO hP hD hS
      · replace hR := hR.trans (if_pos h23)
        refine lv_iconst (v := nI 0) hx hb dDA_makeHints_48 (by decide) ?_
        exact mp_zret hx hb hr hlk rfl hP hD hS ((nI 0, q21.2), pl) ⟨⟨hR.symm, rfl, hF, trivial⟩, hO⟩ [] rfl rfl rfl (by omega) (by omega) dDA_makeHints_49
  exact lp21 8 0 0 s21 pl ls _ _ (by omega) (by omega) hF hR (lv_sub hl [0, 1, 2, 3] rfl) hO hP hD hS
def M_DA_writeSignature_0 (pt : Nat) (k : Nat) : Prop := k = 141 ∨ k = pt ∨ (0 : Nat) = 1
noncomputable def F_DA_writeSignature_0_L0 (pt : Nat) : Nat → Nat → Sto → Sto
  | 0, i21, s22 => bnd (sC s22 146 pt 0 2336 84) fun s23 => s23
  | n21 + 1, i21, s22 => bnd (F_RG_flip_8 (124 + i21) (nI 131072) 141 s22) fun s24 => bnd (F_BT_pack 141 18 pt 8192 (32 + (576 * i21)) s24) fun s25 => F_DA_writeSignature_0_L0 pt n21 (i21 + 1) s25
noncomputable def F_DA_writeSignature_0 (pt : Nat) (s : Sto) : Sto := bnd (sC s 144 pt 0 0 32) fun s21 => F_DA_writeSignature_0_L0 pt 4 0 s21
set_option maxHeartbeats 8000000 in
set_option maxRecDepth 100000 in
theorem N_DA_writeSignature_0 (l : Launch) (g : Gd) (sz : Nat) (T : TyN) (s : Sto) (pl : va_W) (hO : okn g T s pl) (hU : inj T) (h0 st to : Nat) (pt : Nat) (k_h0 : T h0 = some 39) (k_st : T st = some 9) (k_to : T to = some pt) (n_to : nsp pt = (1, 8192, []))  : Met l y_DA_writeSignature w_DA_writeSignature ({ frames := 1, cells := 0, slots := 0, locals := 60 } : Room) (va_Pc [.ref h0, .ref st, .ref to] (pr (en g) g.1 vcl sz ([] ++ pl))) (va_Qv (fun (u : (Sto) × va_W) => (u.1 = F_DA_writeSignature_0 pt s ∧ frm (M_DA_writeSignature_0 pt) s u.1 ∧ True) ∧ okn g T u.1 u.2) (po g.1 vcl (va_A ([] ++ pl) sz) (fun (u : (Sto) × va_W) => [] ++ u.2)) (va_A ([] ++ pl) sz)) 0 0 (va_A ([] ++ pl) sz) := by
  refine mc_entry (cc := c_DA_writeSignature) (maxL := 4) (ret := none) (by decide) rfl (Nat.le_of_ble_eq_true rfl) ?_
  intro p e s0 m args below meth c ls F hr hlk hnm hsz hP hD hE hA hl
  obtain ⟨hx, hb, hml, hown, hts⟩ := id F
  have hK := hE.1
  generalize va_A ([] ++ pl) sz = A at hD hE hA ⊢
  have hS : va_S A s0.heap s0.heap [] := va_S.rf
  have hl : lv_has ls 4 [(0, .ref h0), (1, .ref st), (2, .ref to)] := hl
  have hR : F_DA_writeSignature_0 pt s = F_DA_writeSignature_0 pt s := rfl
  have hF : frm (M_DA_writeSignature_0 pt) s s := frm_rf
  refine lv_aload_n hx hb dDA_writeSignature_0 rfl (lv_at hl 0 rfl) ?_
  refine nw_get (C := "LatticeKeys$Dsa") (TT := T_DA) (N := 17) hx hb hts (wg_ft i_DA) hown hK hO k_h0 (kn := 39) (ci := 6) (fl := [(3, 16), (3, 22), (3, 37), (3, 40), (3, 97), (3, 105), (3, 114), (3, 123), (3, 131), (3, 140), (3, 141), (3, 142), (3, 143), (3, 144), (3, 145), (3, 146), (3, 147)]) rfl hP rfl 13 (by decide) (hts _ (wg_t kw_178)) (fun _ h9 => h9) (cd := (3, 144)) rfl dDA_writeSignature_1 (fun v21 hv21 => ?_)
  obtain ⟨r21, rfl, kr21⟩ := (show ∃ r : Nat, v21 = .ref r ∧ T r = some 144 from hv21)
  refine lv_iconst (v := nI 0) hx hb dDA_writeSignature_4 (by decide) ?_
  refine lv_aload_n hx hb dDA_writeSignature_5 rfl (lv_at hl 2 rfl) ?_
  refine lv_iconst (v := nI 0) hx hb dDA_writeSignature_6 (by decide) ?_
  refine lv_aload_n hx hb dDA_writeSignature_7 rfl (lv_at hl 1 rfl) ?_
  refine nw_get (C := "LatticeKeys$DsaSet") (TT := T_DS) (N := 17) hx hb hts (wg_ft i_DS) hown hK hO k_st (kn := 9) (ci := 2) (fl := [(1, 4), (1, 4), (1, 2), (1, 3), (1, 39), (1, 32), (1, 18), (1, 131072), (1, 44), (1, 6), (1, 95232), (1, 80), (1, 78), (1, 1312), (1, 2560), (1, 2336), (1, 2420)]) rfl hP rfl 5 (by decide) (hts _ (wg_t kw_315)) (fun _ h9 => h9) (cd := (1, 32)) rfl dDA_writeSignature_8 (fun v22 hv22 => ?_)
  obtain rfl := (show v22 = .int (nI 32) from hv22)
  refine nw_copyb hx hb (hml.trans hl.1.symm) hown (hts _ (wg_t kw_674)) (hts _ (wg_t kw_526)) (hts _ (wg_t kw_525)) (hts _ (wg_t kw_19)) hK hO hU kr21 (k0 := 144) rfl k_to (k1 := pt) n_to hP hD hS (sp := 0) (dp := 0) (n := 32) (by omega) (by omega) (by omega) (by decide) (Nat.le_of_ble_eq_true rfl) dDA_writeSignature_11 (fun s21 pl H locs es21 hO hP hD hS => ?_)
  replace hR := bnd_step hR es21
  have hF := frm_sC hF es21 (by unfold M_DA_writeSignature_0; omega)
  refine lv_iconst (v := nI 0) hx hb dDA_writeSignature_14 (by decide) ?_
  refine lv_istore_n (lv' := [(3, .int (nI 0)), (0, .ref h0), (1, .ref st), (2, .ref to)]) hx hb dDA_writeSignature_15 rfl hl (by decide) rfl (fun ls hl => ?_)
  have lp21 : ∀ (n21 : Nat) (i21 : Nat) (s22 : Sto) (pl : va_W) (ls : Array Slot) (H : Heap) (locs : List Loc), n21 + i21 = 4 → frm (M_DA_writeSignature_0 pt) s s22 → F_DA_writeSignature_0 pt s = F_DA_writeSignature_0_L0 pt n21 i21 s22 → lv_has ls 4 [(3, .int (nI i21)), (0, .ref h0), (1, .ref st), (2, .ref to)] → okn g T s22 pl → va_P g.1 vcl ([] ++ pl) H → va_D A ([] ++ pl) → va_S A s0.heap H locs → W p l e ({ frames := 1, cells := 0, slots := 0, locals := 60 } : Room) s0 m args below meth c H locs 0 0 (MQ below (va_Qv (fun (u : (Sto) × va_W) => (u.1 = F_DA_writeSignature_0 pt s ∧ frm (M_DA_writeSignature_0 pt) s u.1 ∧ True) ∧ okn g T u.1 u.2) (po g.1 vcl A (fun (u : (Sto) × va_W) => [] ++ u.2)) A) args s0 0 0 A) (F0 m 16 ls []) := by
    intro n21
    induction n21 with
    | zero =>
      intro i21 s22 pl ls H locs hm21 hF hR hl hO hP hD hS
      refine lv_iload_n hx hb dDA_writeSignature_16 rfl (lv_at hl 0 rfl) ?_
      refine lv_aload_n hx hb dDA_writeSignature_17 rfl (lv_at hl 2 rfl) ?_
      refine nw_get (C := "LatticeKeys$DsaSet") (TT := T_DS) (N := 17) hx hb hts (wg_ft i_DS) hown hK hO k_st (kn := 9) (ci := 2) (fl := [(1, 4), (1, 4), (1, 2), (1, 3), (1, 39), (1, 32), (1, 18), (1, 131072), (1, 44), (1, 6), (1, 95232), (1, 80), (1, 78), (1, 1312), (1, 2560), (1, 2336), (1, 2420)]) rfl hP rfl 1 (by decide) (hts _ (wg_t kw_305)) (fun _ h9 => h9) (cd := (1, 4)) rfl dDA_writeSignature_18 (fun v23 hv23 => ?_)
      obtain rfl := (show v23 = .int (nI 4) from hv23)
      refine mi_ge (tgt := 77) hx hb dDA_writeSignature_21 (by decide) (by omega) (by omega) (fun h21 => ?_) (fun h21 => absurd h21 (by omega))
      refine lv_aload_n hx hb dDA_writeSignature_77 rfl (lv_at hl 1 rfl) ?_
      refine nw_get (C := "LatticeKeys$Dsa") (TT := T_DA) (N := 17) hx hb hts (wg_ft i_DA) hown hK hO k_h0 (kn := 39) (ci := 6) (fl := [(3, 16), (3, 22), (3, 37), (3, 40), (3, 97), (3, 105), (3, 114), (3, 123), (3, 131), (3, 140), (3, 141), (3, 142), (3, 143), (3, 144), (3, 145), (3, 146), (3, 147)]) rfl hP rfl 15 (by decide) (hts _ (wg_t kw_180)) (fun _ h9 => h9) (cd := (3, 146)) rfl dDA_writeSignature_78 (fun v24 hv24 => ?_)
      obtain ⟨r22, rfl, kr22⟩ := (show ∃ r : Nat, v24 = .ref r ∧ T r = some 146 from hv24)
      refine lv_iconst (v := nI 0) hx hb dDA_writeSignature_81 (by decide) ?_
      refine lv_aload_n hx hb dDA_writeSignature_82 rfl (lv_at hl 3 rfl) ?_
      refine lv_aload_n hx hb dDA_writeSignature_83 rfl (lv_at hl 2 rfl) ?_
      refine nw_get (C := "LatticeKeys$DsaSet") (TT := T_DS) (N := 17) hx hb hts (wg_ft i_DS) hown hK hO k_st (kn := 9) (ci := 2) (fl := [(1, 4), (1, 4), (1, 2), (1, 3), (1, 39), (1, 32), (1, 18), (1, 131072), (1, 44), (1, 6), (1, 95232), (1, 80), (1, 78), (1, 1312), (1, 2560), (1, 2336), (1, 2420)]) rfl hP rfl 15 (by decide) (hts _ (wg_t kw_335)) (fun _ h9 => h9) (cd := (1, 2336)) rfl dDA_writeSignature_84 (fun v25 hv25 => ?_)
      obtain rfl := (show v25 = .int (nI 2336) from hv25)
      refine lv_aload_n hx hb dDA_writeSignature_87 rfl (lv_at hl 2 rfl) ?_
      refine nw_get (C := "LatticeKeys$DsaSet") (TT := T_DS) (N := 17) hx hb hts (wg_ft i_DS) hown hK hO k_st (kn := 9) (ci := 2) (fl := [(1, 4), (1, 4), (1, 2), (1, 3), (1, 39), (1, 32), (1, 18), (1, 131072), (1, 44), (1, 6), (1, 95232), (1, 80), (1, 78), (1, 1312), (1, 2560), (1, 2336), (1, 2420)]) rfl hP rfl 11 (by decide) (hts _ (wg_t kw_327)) (fun _ h9 => h9) (cd := (1, 80)) rfl dDA_writeSignature_88 (fun v26 hv26 => ?_)
      obtain rfl := (show v26 = .int (nI 80) from hv26)
      refine lv_aload_n hx hb dDA_writeSignature_91 rfl (lv_at hl 2 rfl) ?_
      refine nw_get (C := "LatticeKeys$DsaSet") (TT := T_DS) (N := 17) hx hb hts (wg_ft i_DS) hown hK hO k_st (kn := 9) (ci := 2) (fl := [(1, 4), (1, 4), (1, 2), (1, 3), (1, 39), (1, 32), (1, 18), (1, 131072), (1, 44), (1, 6), (1, 95232), (1, 80), (1, 78), (1, 1312), (1, 2560), (1, 2336), (1, 2420)]) rfl hP rfl 0 (by decide) (hts _ (wg_t kw_302)) (fun _ h9 => h9) (cd := (1, 4)) rfl dDA_writeSignature_92 (fun v27 hv27 => ?_)
      obtain rfl := (show v27 = .int (nI 4) from hv27)
      refine mi_iadd hx hb dDA_writeSignature_95 ?_
      refine mi_as (show nI (80 + 4) = nI 84 from rfl) ?_
      refine nw_copyb hx hb (hml.trans hl.1.symm) hown (hts _ (wg_t kw_674)) (hts _ (wg_t kw_526)) (hts _ (wg_t kw_525)) (hts _ (wg_t kw_19)) hK hO hU kr22 (k0 := 146) rfl k_to (k1 := pt) n_to hP hD hS (sp := 0) (dp := 2336) (n := 84) (by omega) (by omega) (by omega) (by decide) (Nat.le_of_ble_eq_true rfl) dDA_writeSignature_96 (fun s23 pl H locs es22 hO hP hD hS => ?_)
      replace hR := bnd_step hR es22
      have hF := frm_sC hF es22 (by unfold M_DA_writeSignature_0; omega)
      exact mp_vret hx hb hr hlk hP hD hS (s23, pl) ⟨⟨hR.symm, hF, trivial⟩, hO⟩ [] rfl rfl rfl (by omega) (by omega) dDA_writeSignature_99
    | succ n21 ih21 =>
      intro i21 s22 pl ls H locs hm21 hF hR hl hO hP hD hS
      refine lv_iload_n hx hb dDA_writeSignature_16 rfl (lv_at hl 0 rfl) ?_
      refine lv_aload_n hx hb dDA_writeSignature_17 rfl (lv_at hl 2 rfl) ?_
      refine nw_get (C := "LatticeKeys$DsaSet") (TT := T_DS) (N := 17) hx hb hts (wg_ft i_DS) hown hK hO k_st (kn := 9) (ci := 2) (fl := [(1, 4), (1, 4), (1, 2), (1, 3), (1, 39), (1, 32), (1, 18), (1, 131072), (1, 44), (1, 6), (1, 95232), (1, 80), (1, 78), (1, 1312), (1, 2560), (1, 2336), (1, 2420)]) rfl hP rfl 1 (by decide) (hts _ (wg_t kw_305)) (fun _ h9 => h9) (cd := (1, 4)) rfl dDA_writeSignature_18 (fun v28 hv28 => ?_)
      obtain rfl := (show v28 = .int (nI 4) from hv28)
      refine mi_ge (tgt := 77) hx hb dDA_writeSignature_21 (by decide) (by omega) (by omega) (fun h22 => absurd h22 (by omega)) (fun h22 => ?_)
      refine lv_aload_n hx hb dDA_writeSignature_24 rfl (lv_at hl 1 rfl) ?_
      refine nw_get (C := "LatticeKeys$Dsa") (TT := T_DA) (N := 17) hx hb hts (wg_ft i_DA) hown hK hO k_h0 (kn := 39) (ci := 6) (fl := [(3, 16), (3, 22), (3, 37), (3, 40), (3, 97), (3, 105), (3, 114), (3, 123), (3, 131), (3, 140), (3, 141), (3, 142), (3, 143), (3, 144), (3, 145), (3, 146), (3, 147)]) rfl hP rfl 1 (by decide) (hts _ (wg_t kw_166)) (fun _ h9 => h9) (cd := (3, 22)) rfl dDA_writeSignature_25 (fun v29 hv29 => ?_)
      obtain ⟨r23, rfl, kr23⟩ := (show ∃ r : Nat, v29 = .ref r ∧ T r = some 22 from hv29)
      refine lv_aload_n hx hb dDA_writeSignature_28 rfl (lv_at hl 1 rfl) ?_
      refine nw_get (C := "LatticeKeys$Dsa") (TT := T_DA) (N := 17) hx hb hts (wg_ft i_DA) hown hK hO k_h0 (kn := 39) (ci := 6) (fl := [(3, 16), (3, 22), (3, 37), (3, 40), (3, 97), (3, 105), (3, 114), (3, 123), (3, 131), (3, 140), (3, 141), (3, 142), (3, 143), (3, 144), (3, 145), (3, 146), (3, 147)]) rfl hP rfl 7 (by decide) (hts _ (wg_t kw_172)) (fun _ h9 => h9) (cd := (3, 123)) rfl dDA_writeSignature_29 (fun v30 hv30 => ?_)
      obtain ⟨r24, rfl, kr24⟩ := (show ∃ r : Nat, v30 = .ref r ∧ T r = some 123 from hv30)
      refine lv_iload_n hx hb dDA_writeSignature_32 rfl (lv_at hl 0 rfl) ?_
      refine nw_aald3 hx hb hK hO kr24 (k := 123) (b := 124) rfl hP (by omega) (by omega) dDA_writeSignature_33 (fun r25 kr25 => ?_)
      have hn21 : nsp (124 + i21) = (0, 256, []) := rows_ok 124 7 (by decide) _ (by omega)
      refine lv_aload_n hx hb dDA_writeSignature_34 rfl (lv_at hl 2 rfl) ?_
      refine nw_get (C := "LatticeKeys$DsaSet") (TT := T_DS) (N := 17) hx hb hts (wg_ft i_DS) hown hK hO k_st (kn := 9) (ci := 2) (fl := [(1, 4), (1, 4), (1, 2), (1, 3), (1, 39), (1, 32), (1, 18), (1, 131072), (1, 44), (1, 6), (1, 95232), (1, 80), (1, 78), (1, 1312), (1, 2560), (1, 2336), (1, 2420)]) rfl hP rfl 7 (by decide) (hts _ (wg_t kw_320)) (fun _ h9 => h9) (cd := (1, 131072)) rfl dDA_writeSignature_35 (fun v31 hv31 => ?_)
      obtain rfl := (show v31 = .int (nI 131072) from hv31)
      refine lv_aload_n hx hb dDA_writeSignature_38 rfl (lv_at hl 1 rfl) ?_
      refine nw_get (C := "LatticeKeys$Dsa") (TT := T_DA) (N := 17) hx hb hts (wg_ft i_DA) hown hK hO k_h0 (kn := 39) (ci := 6) (fl := [(3, 16), (3, 22), (3, 37), (3, 40), (3, 97), (3, 105), (3, 114), (3, 123), (3, 131), (3, 140), (3, 141), (3, 142), (3, 143), (3, 144), (3, 145), (3, 146), (3, 147)]) rfl hP rfl 10 (by decide) (hts _ (wg_t kw_175)) (fun _ h9 => h9) (cd := (3, 141)) rfl dDA_writeSignature_39 (fun v32 hv32 => ?_)
      obtain ⟨r26, rfl, kr26⟩ := (show ∃ r : Nat, v32 = .ref r ∧ T r = some 141 from hv32)
      refine mp_v (cx := []) (wr := []) hP hD hS hA [] [] rfl rfl rfl (by decide) (va_runV (As := [.ref r25, .int (nI 131072), .ref r26]) (rest := []) F (N_RG_flip_8 l g _ T s22 pl hO hU r23 r25 r26 (124 + i21) (nI 131072) 141 kr23 kr25 hn21 kr26 rfl) (cwV 3 hts (wg_app (wg_c kw_698 (wg_c kw_699 (wg_c kw_700 (wg_c kw_4 wg_n)))) kw_701) rfl rfl rfl (by decide +kernel) ⟨by decide, by decide⟩) (pn_W "LatticeKeys$Ring" (en_ok g) (ci := 4) (kn := 22) (fl := [(1, 8380417), (1, 8), (1, 8347681), (3, 23)]) hK hO kr23 rfl hP hD hS hA hE [] rfl rfl rfl) rfl rfl hl.1 rfl (lv_room (Nat.le_of_ble_eq_true rfl)) dDA_writeSignature_42 ⟨by omega, by omega⟩) (fun  u21 H locs hu21 hP hD hS => ?_)
      obtain ⟨s24, pl⟩ := u21
      obtain ⟨⟨eq21, hFc21, -⟩, hO⟩ := hu21
      have hO : okn g T s24 pl := hO
      have hP : va_P g.1 vcl ([] ++ pl) _ := hP
      have hD : va_D _ ([] ++ pl) := hD
      have hFc21 : frm (M_RG_flip_8 141) s22 s24 := hFc21
      replace hR := bnd_step hR eq21
      have hF := frm_tr hF hFc21 (fun k hk => by unfold M_RG_flip_8 at hk; unfold M_DA_writeSignature_0; omega)
      refine W.widen (k := 0) (n := 0) (by omega) (by omega) ?_
      refine lv_aload_n hx hb dDA_writeSignature_45 rfl (lv_at hl 1 rfl) ?_
      refine nw_get (C := "LatticeKeys$Dsa") (TT := T_DA) (N := 17) hx hb hts (wg_ft i_DA) hown hK hO k_h0 (kn := 39) (ci := 6) (fl := [(3, 16), (3, 22), (3, 37), (3, 40), (3, 97), (3, 105), (3, 114), (3, 123), (3, 131), (3, 140), (3, 141), (3, 142), (3, 143), (3, 144), (3, 145), (3, 146), (3, 147)]) rfl hP rfl 10 (by decide) (hts _ (wg_t kw_175)) (fun _ h9 => h9) (cd := (3, 141)) rfl dDA_writeSignature_46 (fun v33 hv33 => ?_)
      obtain ⟨r27, rfl, kr27⟩ := (show ∃ r : Nat, v33 = .ref r ∧ T r = some 141 from hv33)
      refine lv_aload_n hx hb dDA_writeSignature_49 rfl (lv_at hl 2 rfl) ?_
      refine nw_get (C := "LatticeKeys$DsaSet") (TT := T_DS) (N := 17) hx hb hts (wg_ft i_DS) hown hK hO k_st (kn := 9) (ci := 2) (fl := [(1, 4), (1, 4), (1, 2), (1, 3), (1, 39), (1, 32), (1, 18), (1, 131072), (1, 44), (1, 6), (1, 95232), (1, 80), (1, 78), (1, 1312), (1, 2560), (1, 2336), (1, 2420)]) rfl hP rfl 6 (by decide) (hts _ (wg_t kw_318)) (fun _ h9 => h9) (cd := (1, 18)) rfl dDA_writeSignature_50 (fun v34 hv34 => ?_)
      obtain rfl := (show v34 = .int (nI 18) from hv34)
      refine lv_aload_n hx hb dDA_writeSignature_53 rfl (lv_at hl 3 rfl) ?_
      refine lv_aload_n hx hb dDA_writeSignature_54 rfl (lv_at hl 2 rfl) ?_
      refine nw_get (C := "LatticeKeys$DsaSet") (TT := T_DS) (N := 17) hx hb hts (wg_ft i_DS) hown hK hO k_st (kn := 9) (ci := 2) (fl := [(1, 4), (1, 4), (1, 2), (1, 3), (1, 39), (1, 32), (1, 18), (1, 131072), (1, 44), (1, 6), (1, 95232), (1, 80), (1, 78), (1, 1312), (1, 2560), (1, 2336), (1, 2420)]) rfl hP rfl 5 (by decide) (hts _ (wg_t kw_315)) (fun _ h9 => h9) (cd := (1, 32)) rfl dDA_writeSignature_55 (fun v35 hv35 => ?_)
      obtain rfl := (show v35 = .int (nI 32) from hv35)
      refine lv_bipush (v := nI 32) hx hb dDA_writeSignature_58 (by decide) ?_
      refine lv_aload_n hx hb dDA_writeSignature_60 rfl (lv_at hl 2 rfl) ?_
      refine nw_get (C := "LatticeKeys$DsaSet") (TT := T_DS) (N := 17) hx hb hts (wg_ft i_DS) hown hK hO k_st (kn := 9) (ci := 2) (fl := [(1, 4), (1, 4), (1, 2), (1, 3), (1, 39), (1, 32), (1, 18), (1, 131072), (1, 44), (1, 6), (1, 95232), (1, 80), (1, 78), (1, 1312), (1, 2560), (1, 2336), (1, 2420)]) rfl hP rfl 6 (by decide) (hts _ (wg_t kw_318)) (fun _ h9 => h9) (cd := (1, 18)) rfl dDA_writeSignature_61 (fun v36 hv36 => ?_)
      obtain rfl := (show v36 = .int (nI 18) from hv36)
      refine mi_imul hx hb dDA_writeSignature_64 ?_
      refine mi_as (show nI (32 * 18) = nI 576 from rfl) ?_
      refine lv_iload_n hx hb dDA_writeSignature_65 rfl (lv_at hl 0 rfl) ?_
      refine mi_imul hx hb dDA_writeSignature_66 ?_
      refine mi_iadd hx hb dDA_writeSignature_67 ?_
      refine mp_v (cx := []) (wr := []) hP hD hS hA [] [] rfl rfl rfl (by decide) (va_runS (As := [.ref r27, .int (nI 18), .ref to, .int (nI (32 + (576 * i21)))]) (rest := []) F (N_BT_pack l g _ T s24 pl hO hU r27 to 141 18 pt 8192 (32 + (576 * i21)) kr27 rfl k_to n_to (by omega) (by omega) (by omega)) (va_cwS 4 hts (wg_app (wg_c kw_702 (wg_c kw_645 (wg_c kw_22 wg_n))) kw_646) rfl rfl rfl (by decide +kernel) ⟨by decide, by decide⟩) (pp_S (en_ok g) hP hD hS hA hE [] rfl rfl) rfl rfl hl.1 rfl (lv_room (Nat.le_of_ble_eq_true rfl)) dDA_writeSignature_68 ⟨by omega, by omega⟩) (fun  u22 H locs hu22 hP hD hS => ?_)
      obtain ⟨s25, pl⟩ := u22
      obtain ⟨⟨eq22, hFc22, -⟩, hO⟩ := hu22
      have hO : okn g T s25 pl := hO
      have hP : va_P g.1 vcl ([] ++ pl) _ := hP
      have hD : va_D _ ([] ++ pl) := hD
      have hFc22 : frm (M_BT_pack pt) s24 s25 := hFc22
      replace hR := bnd_step hR eq22
      have hF := frm_tr hF hFc22 (fun k hk => by unfold M_BT_pack at hk; unfold M_DA_writeSignature_0; omega)
      refine W.widen (k := 0) (n := 0) (by omega) (by omega) ?_
      refine mi_iinc (k := 0) (x := i21) (d := 1) (y := i21 + 1) (lv' := [(3, .int (nI (i21 + 1))), (0, .ref h0), (1, .ref st), (2, .ref to)]) hx hb dDA_writeSignature_71 hl rfl (by decide) rfl (by decide) rfl (fun ls hl => ?_)
      refine lv_goto (tgt := 16) hx hb dDA_writeSignature_74 (by decide) ?_
      exact ih21 (i21 + 1) s25 pl ls H locs (by omega) hF hR (lv_sub hl [0, 1, 2, 3] rfl) hO hP hD hS
  exact lp21 4 0 s21 pl ls _ _ (by omega) hF hR (lv_sub hl [0, 1, 2, 3] rfl) hO hP hD hS
def M_DA_writeSignature_1 (pt : Nat) (k : Nat) : Prop := k = 141 ∨ k = pt ∨ (0 : Nat) = 1
noncomputable def F_DA_writeSignature_1_L0 (pt : Nat) : Nat → Nat → Sto → Sto
  | 0, i21, s22 => bnd (sC s22 146 pt 0 3248 61) fun s23 => s23
  | n21 + 1, i21, s22 => bnd (F_RG_flip_8 (124 + i21) (nI 524288) 141 s22) fun s24 => bnd (F_BT_pack 141 20 pt 8192 (48 + (640 * i21)) s24) fun s25 => F_DA_writeSignature_1_L0 pt n21 (i21 + 1) s25
noncomputable def F_DA_writeSignature_1 (pt : Nat) (s : Sto) : Sto := bnd (sC s 144 pt 0 0 48) fun s21 => F_DA_writeSignature_1_L0 pt 5 0 s21
set_option maxHeartbeats 8000000 in
set_option maxRecDepth 100000 in
theorem N_DA_writeSignature_1 (l : Launch) (g : Gd) (sz : Nat) (T : TyN) (s : Sto) (pl : va_W) (hO : okn g T s pl) (hU : inj T) (h0 st to : Nat) (pt : Nat) (k_h0 : T h0 = some 39) (k_st : T st = some 10) (k_to : T to = some pt) (n_to : nsp pt = (1, 8192, []))  : Met l y_DA_writeSignature w_DA_writeSignature ({ frames := 1, cells := 0, slots := 0, locals := 60 } : Room) (va_Pc [.ref h0, .ref st, .ref to] (pr (en g) g.1 vcl sz ([] ++ pl))) (va_Qv (fun (u : (Sto) × va_W) => (u.1 = F_DA_writeSignature_1 pt s ∧ frm (M_DA_writeSignature_1 pt) s u.1 ∧ True) ∧ okn g T u.1 u.2) (po g.1 vcl (va_A ([] ++ pl) sz) (fun (u : (Sto) × va_W) => [] ++ u.2)) (va_A ([] ++ pl) sz)) 0 0 (va_A ([] ++ pl) sz) := by
  refine mc_entry (cc := c_DA_writeSignature) (maxL := 4) (ret := none) (by decide) rfl (Nat.le_of_ble_eq_true rfl) ?_
  intro p e s0 m args below meth c ls F hr hlk hnm hsz hP hD hE hA hl
  obtain ⟨hx, hb, hml, hown, hts⟩ := id F
  have hK := hE.1
  generalize va_A ([] ++ pl) sz = A at hD hE hA ⊢
  have hS : va_S A s0.heap s0.heap [] := va_S.rf
  have hl : lv_has ls 4 [(0, .ref h0), (1, .ref st), (2, .ref to)] := hl
  have hR : F_DA_writeSignature_1 pt s = F_DA_writeSignature_1 pt s := rfl
  have hF : frm (M_DA_writeSignature_1 pt) s s := frm_rf
  refine lv_aload_n hx hb dDA_writeSignature_0 rfl (lv_at hl 0 rfl) ?_
  refine nw_get (C := "LatticeKeys$Dsa") (TT := T_DA) (N := 17) hx hb hts (wg_ft i_DA) hown hK hO k_h0 (kn := 39) (ci := 6) (fl := [(3, 16), (3, 22), (3, 37), (3, 40), (3, 97), (3, 105), (3, 114), (3, 123), (3, 131), (3, 140), (3, 141), (3, 142), (3, 143), (3, 144), (3, 145), (3, 146), (3, 147)]) rfl hP rfl 13 (by decide) (hts _ (wg_t kw_178)) (fun _ h9 => h9) (cd := (3, 144)) rfl dDA_writeSignature_1 (fun v21 hv21 => ?_)
  obtain ⟨r21, rfl, kr21⟩ := (show ∃ r : Nat, v21 = .ref r ∧ T r = some 144 from hv21)
  refine lv_iconst (v := nI 0) hx hb dDA_writeSignature_4 (by decide) ?_
  refine lv_aload_n hx hb dDA_writeSignature_5 rfl (lv_at hl 2 rfl) ?_
  refine lv_iconst (v := nI 0) hx hb dDA_writeSignature_6 (by decide) ?_
  refine lv_aload_n hx hb dDA_writeSignature_7 rfl (lv_at hl 1 rfl) ?_
  refine nw_get (C := "LatticeKeys$DsaSet") (TT := T_DS) (N := 17) hx hb hts (wg_ft i_DS) hown hK hO k_st (kn := 10) (ci := 2) (fl := [(1, 6), (1, 5), (1, 4), (1, 4), (1, 49), (1, 48), (1, 20), (1, 524288), (1, 16), (1, 4), (1, 261888), (1, 55), (1, 196), (1, 1952), (1, 4032), (1, 3248), (1, 3309)]) rfl hP rfl 5 (by decide) (hts _ (wg_t kw_315)) (fun _ h9 => h9) (cd := (1, 48)) rfl dDA_writeSignature_8 (fun v22 hv22 => ?_)
  obtain rfl := (show v22 = .int (nI 48) from hv22)
  refine nw_copyb hx hb (hml.trans hl.1.symm) hown (hts _ (wg_t kw_674)) (hts _ (wg_t kw_526)) (hts _ (wg_t kw_525)) (hts _ (wg_t kw_19)) hK hO hU kr21 (k0 := 144) rfl k_to (k1 := pt) n_to hP hD hS (sp := 0) (dp := 0) (n := 48) (by omega) (by omega) (by omega) (by decide) (Nat.le_of_ble_eq_true rfl) dDA_writeSignature_11 (fun s21 pl H locs es21 hO hP hD hS => ?_)
  replace hR := bnd_step hR es21
  have hF := frm_sC hF es21 (by unfold M_DA_writeSignature_1; omega)
  refine lv_iconst (v := nI 0) hx hb dDA_writeSignature_14 (by decide) ?_
  refine lv_istore_n (lv' := [(3, .int (nI 0)), (0, .ref h0), (1, .ref st), (2, .ref to)]) hx hb dDA_writeSignature_15 rfl hl (by decide) rfl (fun ls hl => ?_)
  have lp21 : ∀ (n21 : Nat) (i21 : Nat) (s22 : Sto) (pl : va_W) (ls : Array Slot) (H : Heap) (locs : List Loc), n21 + i21 = 5 → frm (M_DA_writeSignature_1 pt) s s22 → F_DA_writeSignature_1 pt s = F_DA_writeSignature_1_L0 pt n21 i21 s22 → lv_has ls 4 [(3, .int (nI i21)), (0, .ref h0), (1, .ref st), (2, .ref to)] → okn g T s22 pl → va_P g.1 vcl ([] ++ pl) H → va_D A ([] ++ pl) → va_S A s0.heap H locs → W p l e ({ frames := 1, cells := 0, slots := 0, locals := 60 } : Room) s0 m args below meth c H locs 0 0 (MQ below (va_Qv (fun (u : (Sto) × va_W) => (u.1 = F_DA_writeSignature_1 pt s ∧ frm (M_DA_writeSignature_1 pt) s u.1 ∧ True) ∧ okn g T u.1 u.2) (po g.1 vcl A (fun (u : (Sto) × va_W) => [] ++ u.2)) A) args s0 0 0 A) (F0 m 16 ls []) := by
    intro n21
    induction n21 with
    | zero =>
      intro i21 s22 pl ls H locs hm21 hF hR hl hO hP hD hS
      refine lv_iload_n hx hb dDA_writeSignature_16 rfl (lv_at hl 0 rfl) ?_
      refine lv_aload_n hx hb dDA_writeSignature_17 rfl (lv_at hl 2 rfl) ?_
      refine nw_get (C := "LatticeKeys$DsaSet") (TT := T_DS) (N := 17) hx hb hts (wg_ft i_DS) hown hK hO k_st (kn := 10) (ci := 2) (fl := [(1, 6), (1, 5), (1, 4), (1, 4), (1, 49), (1, 48), (1, 20), (1, 524288), (1, 16), (1, 4), (1, 261888), (1, 55), (1, 196), (1, 1952), (1, 4032), (1, 3248), (1, 3309)]) rfl hP rfl 1 (by decide) (hts _ (wg_t kw_305)) (fun _ h9 => h9) (cd := (1, 5)) rfl dDA_writeSignature_18 (fun v23 hv23 => ?_)
      obtain rfl := (show v23 = .int (nI 5) from hv23)
      refine mi_ge (tgt := 77) hx hb dDA_writeSignature_21 (by decide) (by omega) (by omega) (fun h21 => ?_) (fun h21 => absurd h21 (by omega))
      refine lv_aload_n hx hb dDA_writeSignature_77 rfl (lv_at hl 1 rfl) ?_
      refine nw_get (C := "LatticeKeys$Dsa") (TT := T_DA) (N := 17) hx hb hts (wg_ft i_DA) hown hK hO k_h0 (kn := 39) (ci := 6) (fl := [(3, 16), (3, 22), (3, 37), (3, 40), (3, 97), (3, 105), (3, 114), (3, 123), (3, 131), (3, 140), (3, 141), (3, 142), (3, 143), (3, 144), (3, 145), (3, 146), (3, 147)]) rfl hP rfl 15 (by decide) (hts _ (wg_t kw_180)) (fun _ h9 => h9) (cd := (3, 146)) rfl dDA_writeSignature_78 (fun v24 hv24 => ?_)
      obtain ⟨r22, rfl, kr22⟩ := (show ∃ r : Nat, v24 = .ref r ∧ T r = some 146 from hv24)
      refine lv_iconst (v := nI 0) hx hb dDA_writeSignature_81 (by decide) ?_
      refine lv_aload_n hx hb dDA_writeSignature_82 rfl (lv_at hl 3 rfl) ?_
      refine lv_aload_n hx hb dDA_writeSignature_83 rfl (lv_at hl 2 rfl) ?_
      refine nw_get (C := "LatticeKeys$DsaSet") (TT := T_DS) (N := 17) hx hb hts (wg_ft i_DS) hown hK hO k_st (kn := 10) (ci := 2) (fl := [(1, 6), (1, 5), (1, 4), (1, 4), (1, 49), (1, 48), (1, 20), (1, 524288), (1, 16), (1, 4), (1, 261888), (1, 55), (1, 196), (1, 1952), (1, 4032), (1, 3248), (1, 3309)]) rfl hP rfl 15 (by decide) (hts _ (wg_t kw_335)) (fun _ h9 => h9) (cd := (1, 3248)) rfl dDA_writeSignature_84 (fun v25 hv25 => ?_)
      obtain rfl := (show v25 = .int (nI 3248) from hv25)
      refine lv_aload_n hx hb dDA_writeSignature_87 rfl (lv_at hl 2 rfl) ?_
      refine nw_get (C := "LatticeKeys$DsaSet") (TT := T_DS) (N := 17) hx hb hts (wg_ft i_DS) hown hK hO k_st (kn := 10) (ci := 2) (fl := [(1, 6), (1, 5), (1, 4), (1, 4), (1, 49), (1, 48), (1, 20), (1, 524288), (1, 16), (1, 4), (1, 261888), (1, 55), (1, 196), (1, 1952), (1, 4032), (1, 3248), (1, 3309)]) rfl hP rfl 11 (by decide) (hts _ (wg_t kw_327)) (fun _ h9 => h9) (cd := (1, 55)) rfl dDA_writeSignature_88 (fun v26 hv26 => ?_)
      obtain rfl := (show v26 = .int (nI 55) from hv26)
      refine lv_aload_n hx hb dDA_writeSignature_91 rfl (lv_at hl 2 rfl) ?_
      refine nw_get (C := "LatticeKeys$DsaSet") (TT := T_DS) (N := 17) hx hb hts (wg_ft i_DS) hown hK hO k_st (kn := 10) (ci := 2) (fl := [(1, 6), (1, 5), (1, 4), (1, 4), (1, 49), (1, 48), (1, 20), (1, 524288), (1, 16), (1, 4), (1, 261888), (1, 55), (1, 196), (1, 1952), (1, 4032), (1, 3248), (1, 3309)]) rfl hP rfl 0 (by decide) (hts _ (wg_t kw_302)) (fun _ h9 => h9) (cd := (1, 6)) rfl dDA_writeSignature_92 (fun v27 hv27 => ?_)
      obtain rfl := (show v27 = .int (nI 6) from hv27)
      refine mi_iadd hx hb dDA_writeSignature_95 ?_
      refine mi_as (show nI (55 + 6) = nI 61 from rfl) ?_
      refine nw_copyb hx hb (hml.trans hl.1.symm) hown (hts _ (wg_t kw_674)) (hts _ (wg_t kw_526)) (hts _ (wg_t kw_525)) (hts _ (wg_t kw_19)) hK hO hU kr22 (k0 := 146) rfl k_to (k1 := pt) n_to hP hD hS (sp := 0) (dp := 3248) (n := 61) (by omega) (by omega) (by omega) (by decide) (Nat.le_of_ble_eq_true rfl) dDA_writeSignature_96 (fun s23 pl H locs es22 hO hP hD hS => ?_)
      replace hR := bnd_step hR es22
      have hF := frm_sC hF es22 (by unfold M_DA_writeSignature_1; omega)
      exact mp_vret hx hb hr hlk hP hD hS (s23, pl) ⟨⟨hR.symm, hF, trivial⟩, hO⟩ [] rfl rfl rfl (by omega) (by omega) dDA_writeSignature_99
    | succ n21 ih21 =>
      intro i21 s22 pl ls H locs hm21 hF hR hl hO hP hD hS
      refine lv_iload_n hx hb dDA_writeSignature_16 rfl (lv_at hl 0 rfl) ?_
      refine lv_aload_n hx hb dDA_writeSignature_17 rfl (lv_at hl 2 rfl) ?_
      refine nw_get (C := "LatticeKeys$DsaSet") (TT := T_DS) (N := 17) hx hb hts (wg_ft i_DS) hown hK hO k_st (kn := 10) (ci := 2) (fl := [(1, 6), (1, 5), (1, 4), (1, 4), (1, 49), (1, 48), (1, 20), (1, 524288), (1, 16), (1, 4), (1, 261888), (1, 55), (1, 196), (1, 1952), (1, 4032), (1, 3248), (1, 3309)]) rfl hP rfl 1 (by decide) (hts _ (wg_t kw_305)) (fun _ h9 => h9) (cd := (1, 5)) rfl dDA_writeSignature_18 (fun v28 hv28 => ?_)
      obtain rfl := (show v28 = .int (nI 5) from hv28)
      refine mi_ge (tgt := 77) hx hb dDA_writeSignature_21 (by decide) (by omega) (by omega) (fun h22 => absurd h22 (by omega)) (fun h22 => ?_)
      refine lv_aload_n hx hb dDA_writeSignature_24 rfl (lv_at hl 1 rfl) ?_
      refine nw_get (C := "LatticeKeys$Dsa") (TT := T_DA) (N := 17) hx hb hts (wg_ft i_DA) hown hK hO k_h0 (kn := 39) (ci := 6) (fl := [(3, 16), (3, 22), (3, 37), (3, 40), (3, 97), (3, 105), (3, 114), (3, 123), (3, 131), (3, 140), (3, 141), (3, 142), (3, 143), (3, 144), (3, 145), (3, 146), (3, 147)]) rfl hP rfl 1 (by decide) (hts _ (wg_t kw_166)) (fun _ h9 => h9) (cd := (3, 22)) rfl dDA_writeSignature_25 (fun v29 hv29 => ?_)
      obtain ⟨r23, rfl, kr23⟩ := (show ∃ r : Nat, v29 = .ref r ∧ T r = some 22 from hv29)
      refine lv_aload_n hx hb dDA_writeSignature_28 rfl (lv_at hl 1 rfl) ?_
      refine nw_get (C := "LatticeKeys$Dsa") (TT := T_DA) (N := 17) hx hb hts (wg_ft i_DA) hown hK hO k_h0 (kn := 39) (ci := 6) (fl := [(3, 16), (3, 22), (3, 37), (3, 40), (3, 97), (3, 105), (3, 114), (3, 123), (3, 131), (3, 140), (3, 141), (3, 142), (3, 143), (3, 144), (3, 145), (3, 146), (3, 147)]) rfl hP rfl 7 (by decide) (hts _ (wg_t kw_172)) (fun _ h9 => h9) (cd := (3, 123)) rfl dDA_writeSignature_29 (fun v30 hv30 => ?_)
      obtain ⟨r24, rfl, kr24⟩ := (show ∃ r : Nat, v30 = .ref r ∧ T r = some 123 from hv30)
      refine lv_iload_n hx hb dDA_writeSignature_32 rfl (lv_at hl 0 rfl) ?_
      refine nw_aald3 hx hb hK hO kr24 (k := 123) (b := 124) rfl hP (by omega) (by omega) dDA_writeSignature_33 (fun r25 kr25 => ?_)
      have hn21 : nsp (124 + i21) = (0, 256, []) := rows_ok 124 7 (by decide) _ (by omega)
      refine lv_aload_n hx hb dDA_writeSignature_34 rfl (lv_at hl 2 rfl) ?_
      refine nw_get (C := "LatticeKeys$DsaSet") (TT := T_DS) (N := 17) hx hb hts (wg_ft i_DS) hown hK hO k_st (kn := 10) (ci := 2) (fl := [(1, 6), (1, 5), (1, 4), (1, 4), (1, 49), (1, 48), (1, 20), (1, 524288), (1, 16), (1, 4), (1, 261888), (1, 55), (1, 196), (1, 1952), (1, 4032), (1, 3248), (1, 3309)]) rfl hP rfl 7 (by decide) (hts _ (wg_t kw_320)) (fun _ h9 => h9) (cd := (1, 524288)) rfl dDA_writeSignature_35 (fun v31 hv31 => ?_)
      obtain rfl := (show v31 = .int (nI 524288) from hv31)
      refine lv_aload_n hx hb dDA_writeSignature_38 rfl (lv_at hl 1 rfl) ?_
      refine nw_get (C := "LatticeKeys$Dsa") (TT := T_DA) (N := 17) hx hb hts (wg_ft i_DA) hown hK hO k_h0 (kn := 39) (ci := 6) (fl := [(3, 16), (3, 22), (3, 37), (3, 40), (3, 97), (3, 105), (3, 114), (3, 123), (3, 131), (3, 140), (3, 141), (3, 142), (3, 143), (3, 144), (3, 145), (3, 146), (3, 147)]) rfl hP rfl 10 (by decide) (hts _ (wg_t kw_175)) (fun _ h9 => h9) (cd := (3, 141)) rfl dDA_writeSignature_39 (fun v32 hv32 => ?_)
      obtain ⟨r26, rfl, kr26⟩ := (show ∃ r : Nat, v32 = .ref r ∧ T r = some 141 from hv32)
      refine mp_v (cx := []) (wr := []) hP hD hS hA [] [] rfl rfl rfl (by decide) (va_runV (As := [.ref r25, .int (nI 524288), .ref r26]) (rest := []) F (N_RG_flip_8 l g _ T s22 pl hO hU r23 r25 r26 (124 + i21) (nI 524288) 141 kr23 kr25 hn21 kr26 rfl) (cwV 3 hts (wg_app (wg_c kw_698 (wg_c kw_699 (wg_c kw_700 (wg_c kw_4 wg_n)))) kw_701) rfl rfl rfl (by decide +kernel) ⟨by decide, by decide⟩) (pn_W "LatticeKeys$Ring" (en_ok g) (ci := 4) (kn := 22) (fl := [(1, 8380417), (1, 8), (1, 8347681), (3, 23)]) hK hO kr23 rfl hP hD hS hA hE [] rfl rfl rfl) rfl rfl hl.1 rfl (lv_room (Nat.le_of_ble_eq_true rfl)) dDA_writeSignature_42 ⟨by omega, by omega⟩) (fun  u21 H locs hu21 hP hD hS => ?_)
      obtain ⟨s24, pl⟩ := u21
      obtain ⟨⟨eq21, hFc21, -⟩, hO⟩ := hu21
      have hO : okn g T s24 pl := hO
      have hP : va_P g.1 vcl ([] ++ pl) _ := hP
      have hD : va_D _ ([] ++ pl) := hD
      have hFc21 : frm (M_RG_flip_8 141) s22 s24 := hFc21
      replace hR := bnd_step hR eq21
      have hF := frm_tr hF hFc21 (fun k hk => by unfold M_RG_flip_8 at hk; unfold M_DA_writeSignature_1; omega)
      refine W.widen (k := 0) (n := 0) (by omega) (by omega) ?_
      refine lv_aload_n hx hb dDA_writeSignature_45 rfl (lv_at hl 1 rfl) ?_
      refine nw_get (C := "LatticeKeys$Dsa") (TT := T_DA) (N := 17) hx hb hts (wg_ft i_DA) hown hK hO k_h0 (kn := 39) (ci := 6) (fl := [(3, 16), (3, 22), (3, 37), (3, 40), (3, 97), (3, 105), (3, 114), (3, 123), (3, 131), (3, 140), (3, 141), (3, 142), (3, 143), (3, 144), (3, 145), (3, 146), (3, 147)]) rfl hP rfl 10 (by decide) (hts _ (wg_t kw_175)) (fun _ h9 => h9) (cd := (3, 141)) rfl dDA_writeSignature_46 (fun v33 hv33 => ?_)
      obtain ⟨r27, rfl, kr27⟩ := (show ∃ r : Nat, v33 = .ref r ∧ T r = some 141 from hv33)
      refine lv_aload_n hx hb dDA_writeSignature_49 rfl (lv_at hl 2 rfl) ?_
      refine nw_get (C := "LatticeKeys$DsaSet") (TT := T_DS) (N := 17) hx hb hts (wg_ft i_DS) hown hK hO k_st (kn := 10) (ci := 2) (fl := [(1, 6), (1, 5), (1, 4), (1, 4), (1, 49), (1, 48), (1, 20), (1, 524288), (1, 16), (1, 4), (1, 261888), (1, 55), (1, 196), (1, 1952), (1, 4032), (1, 3248), (1, 3309)]) rfl hP rfl 6 (by decide) (hts _ (wg_t kw_318)) (fun _ h9 => h9) (cd := (1, 20)) rfl dDA_writeSignature_50 (fun v34 hv34 => ?_)
      obtain rfl := (show v34 = .int (nI 20) from hv34)
      refine lv_aload_n hx hb dDA_writeSignature_53 rfl (lv_at hl 3 rfl) ?_
      refine lv_aload_n hx hb dDA_writeSignature_54 rfl (lv_at hl 2 rfl) ?_
      refine nw_get (C := "LatticeKeys$DsaSet") (TT := T_DS) (N := 17) hx hb hts (wg_ft i_DS) hown hK hO k_st (kn := 10) (ci := 2) (fl := [(1, 6), (1, 5), (1, 4), (1, 4), (1, 49), (1, 48), (1, 20), (1, 524288), (1, 16), (1, 4), (1, 261888), (1, 55), (1, 196), (1, 1952), (1, 4032), (1, 3248), (1, 3309)]) rfl hP rfl 5 (by decide) (hts _ (wg_t kw_315)) (fun _ h9 => h9) (cd := (1, 48)) rfl dDA_writeSignature_55 (fun v35 hv35 => ?_)
      obtain rfl := (show v35 = .int (nI 48) from hv35)
      refine lv_bipush (v := nI 32) hx hb dDA_writeSignature_58 (by decide) ?_
      refine lv_aload_n hx hb dDA_writeSignature_60 rfl (lv_at hl 2 rfl) ?_
      refine nw_get (C := "LatticeKeys$DsaSet") (TT := T_DS) (N := 17) hx hb hts (wg_ft i_DS) hown hK hO k_st (kn := 10) (ci := 2) (fl := [(1, 6), (1, 5), (1, 4), (1, 4), (1, 49), (1, 48), (1, 20), (1, 524288), (1, 16), (1, 4), (1, 261888), (1, 55), (1, 196), (1, 1952), (1, 4032), (1, 3248), (1, 3309)]) rfl hP rfl 6 (by decide) (hts _ (wg_t kw_318)) (fun _ h9 => h9) (cd := (1, 20)) rfl dDA_writeSignature_61 (fun v36 hv36 => ?_)
      obtain rfl := (show v36 = .int (nI 20) from hv36)
      refine mi_imul hx hb dDA_writeSignature_64 ?_
      refine mi_as (show nI (32 * 20) = nI 640 from rfl) ?_
      refine lv_iload_n hx hb dDA_writeSignature_65 rfl (lv_at hl 0 rfl) ?_
      refine mi_imul hx hb dDA_writeSignature_66 ?_
      refine mi_iadd hx hb dDA_writeSignature_67 ?_
      refine mp_v (cx := []) (wr := []) hP hD hS hA [] [] rfl rfl rfl (by decide) (va_runS (As := [.ref r27, .int (nI 20), .ref to, .int (nI (48 + (640 * i21)))]) (rest := []) F (N_BT_pack l g _ T s24 pl hO hU r27 to 141 20 pt 8192 (48 + (640 * i21)) kr27 rfl k_to n_to (by omega) (by omega) (by omega)) (va_cwS 4 hts (wg_app (wg_c kw_702 (wg_c kw_645 (wg_c kw_22 wg_n))) kw_646) rfl rfl rfl (by decide +kernel) ⟨by decide, by decide⟩) (pp_S (en_ok g) hP hD hS hA hE [] rfl rfl) rfl rfl hl.1 rfl (lv_room (Nat.le_of_ble_eq_true rfl)) dDA_writeSignature_68 ⟨by omega, by omega⟩) (fun  u22 H locs hu22 hP hD hS => ?_)
      obtain ⟨s25, pl⟩ := u22
      obtain ⟨⟨eq22, hFc22, -⟩, hO⟩ := hu22
      have hO : okn g T s25 pl := hO
      have hP : va_P g.1 vcl ([] ++ pl) _ := hP
      have hD : va_D _ ([] ++ pl) := hD
      have hFc22 : frm (M_BT_pack pt) s24 s25 := hFc22
      replace hR := bnd_step hR eq22
      have hF := frm_tr hF hFc22 (fun k hk => by unfold M_BT_pack at hk; unfold M_DA_writeSignature_1; omega)
      refine W.widen (k := 0) (n := 0) (by omega) (by omega) ?_
      refine mi_iinc (k := 0) (x := i21) (d := 1) (y := i21 + 1) (lv' := [(3, .int (nI (i21 + 1))), (0, .ref h0), (1, .ref st), (2, .ref to)]) hx hb dDA_writeSignature_71 hl rfl (by decide) rfl (by decide) rfl (fun ls hl => ?_)
      refine lv_goto (tgt := 16) hx hb dDA_writeSignature_74 (by decide) ?_
      exact ih21 (i21 + 1) s25 pl ls H locs (by omega) hF hR (lv_sub hl [0, 1, 2, 3] rfl) hO hP hD hS
  exact lp21 5 0 s21 pl ls _ _ (by omega) hF hR (lv_sub hl [0, 1, 2, 3] rfl) hO hP hD hS
def M_DA_writeSignature_2 (pt : Nat) (k : Nat) : Prop := k = 141 ∨ k = pt ∨ (0 : Nat) = 1
noncomputable def F_DA_writeSignature_2_L0 (pt : Nat) : Nat → Nat → Sto → Sto
  | 0, i21, s22 => bnd (sC s22 146 pt 0 4544 83) fun s23 => s23
  | n21 + 1, i21, s22 => bnd (F_RG_flip_8 (124 + i21) (nI 524288) 141 s22) fun s24 => bnd (F_BT_pack 141 20 pt 8192 (64 + (640 * i21)) s24) fun s25 => F_DA_writeSignature_2_L0 pt n21 (i21 + 1) s25
noncomputable def F_DA_writeSignature_2 (pt : Nat) (s : Sto) : Sto := bnd (sC s 144 pt 0 0 64) fun s21 => F_DA_writeSignature_2_L0 pt 7 0 s21
set_option maxHeartbeats 8000000 in
set_option maxRecDepth 100000 in
theorem N_DA_writeSignature_2 (l : Launch) (g : Gd) (sz : Nat) (T : TyN) (s : Sto) (pl : va_W) (hO : okn g T s pl) (hU : inj T) (h0 st to : Nat) (pt : Nat) (k_h0 : T h0 = some 39) (k_st : T st = some 11) (k_to : T to = some pt) (n_to : nsp pt = (1, 8192, []))  : Met l y_DA_writeSignature w_DA_writeSignature ({ frames := 1, cells := 0, slots := 0, locals := 60 } : Room) (va_Pc [.ref h0, .ref st, .ref to] (pr (en g) g.1 vcl sz ([] ++ pl))) (va_Qv (fun (u : (Sto) × va_W) => (u.1 = F_DA_writeSignature_2 pt s ∧ frm (M_DA_writeSignature_2 pt) s u.1 ∧ True) ∧ okn g T u.1 u.2) (po g.1 vcl (va_A ([] ++ pl) sz) (fun (u : (Sto) × va_W) => [] ++ u.2)) (va_A ([] ++ pl) sz)) 0 0 (va_A ([] ++ pl) sz) := by
  refine mc_entry (cc := c_DA_writeSignature) (maxL := 4) (ret := none) (by decide) rfl (Nat.le_of_ble_eq_true rfl) ?_
  intro p e s0 m args below meth c ls F hr hlk hnm hsz hP hD hE hA hl
  obtain ⟨hx, hb, hml, hown, hts⟩ := id F
  have hK := hE.1
  generalize va_A ([] ++ pl) sz = A at hD hE hA ⊢
  have hS : va_S A s0.heap s0.heap [] := va_S.rf
  have hl : lv_has ls 4 [(0, .ref h0), (1, .ref st), (2, .ref to)] := hl
  have hR : F_DA_writeSignature_2 pt s = F_DA_writeSignature_2 pt s := rfl
  have hF : frm (M_DA_writeSignature_2 pt) s s := frm_rf
  refine lv_aload_n hx hb dDA_writeSignature_0 rfl (lv_at hl 0 rfl) ?_
  refine nw_get (C := "LatticeKeys$Dsa") (TT := T_DA) (N := 17) hx hb hts (wg_ft i_DA) hown hK hO k_h0 (kn := 39) (ci := 6) (fl := [(3, 16), (3, 22), (3, 37), (3, 40), (3, 97), (3, 105), (3, 114), (3, 123), (3, 131), (3, 140), (3, 141), (3, 142), (3, 143), (3, 144), (3, 145), (3, 146), (3, 147)]) rfl hP rfl 13 (by decide) (hts _ (wg_t kw_178)) (fun _ h9 => h9) (cd := (3, 144)) rfl dDA_writeSignature_1 (fun v21 hv21 => ?_)
  obtain ⟨r21, rfl, kr21⟩ := (show ∃ r : Nat, v21 = .ref r ∧ T r = some 144 from hv21)
  refine lv_iconst (v := nI 0) hx hb dDA_writeSignature_4 (by decide) ?_
  refine lv_aload_n hx hb dDA_writeSignature_5 rfl (lv_at hl 2 rfl) ?_
  refine lv_iconst (v := nI 0) hx hb dDA_writeSignature_6 (by decide) ?_
  refine lv_aload_n hx hb dDA_writeSignature_7 rfl (lv_at hl 1 rfl) ?_
  refine nw_get (C := "LatticeKeys$DsaSet") (TT := T_DS) (N := 17) hx hb hts (wg_ft i_DS) hown hK hO k_st (kn := 11) (ci := 2) (fl := [(1, 8), (1, 7), (1, 2), (1, 3), (1, 60), (1, 64), (1, 20), (1, 524288), (1, 16), (1, 4), (1, 261888), (1, 75), (1, 120), (1, 2592), (1, 4896), (1, 4544), (1, 4627)]) rfl hP rfl 5 (by decide) (hts _ (wg_t kw_315)) (fun _ h9 => h9) (cd := (1, 64)) rfl dDA_writeSignature_8 (fun v22 hv22 => ?_)
  obtain rfl := (show v22 = .int (nI 64) from hv22)
  refine nw_copyb hx hb (hml.trans hl.1.symm) hown (hts _ (wg_t kw_674)) (hts _ (wg_t kw_526)) (hts _ (wg_t kw_525)) (hts _ (wg_t kw_19)) hK hO hU kr21 (k0 := 144) rfl k_to (k1 := pt) n_to hP hD hS (sp := 0) (dp := 0) (n := 64) (by omega) (by omega) (by omega) (by decide) (Nat.le_of_ble_eq_true rfl) dDA_writeSignature_11 (fun s21 pl H locs es21 hO hP hD hS => ?_)
  replace hR := bnd_step hR es21
  have hF := frm_sC hF es21 (by unfold M_DA_writeSignature_2; omega)
  refine lv_iconst (v := nI 0) hx hb dDA_writeSignature_14 (by decide) ?_
  refine lv_istore_n (lv' := [(3, .int (nI 0)), (0, .ref h0), (1, .ref st), (2, .ref to)]) hx hb dDA_writeSignature_15 rfl hl (by decide) rfl (fun ls hl => ?_)
  have lp21 : ∀ (n21 : Nat) (i21 : Nat) (s22 : Sto) (pl : va_W) (ls : Array Slot) (H : Heap) (locs : List Loc), n21 + i21 = 7 → frm (M_DA_writeSignature_2 pt) s s22 → F_DA_writeSignature_2 pt s = F_DA_writeSignature_2_L0 pt n21 i21 s22 → lv_has ls 4 [(3, .int (nI i21)), (0, .ref h0), (1, .ref st), (2, .ref to)] → okn g T s22 pl → va_P g.1 vcl ([] ++ pl) H → va_D A ([] ++ pl) → va_S A s0.heap H locs → W p l e ({ frames := 1, cells := 0, slots := 0, locals := 60 } : Room) s0 m args below meth c H locs 0 0 (MQ below (va_Qv (fun (u : (Sto) × va_W) => (u.1 = F_DA_writeSignature_2 pt s ∧ frm (M_DA_writeSignature_2 pt) s u.1 ∧ True) ∧ okn g T u.1 u.2) (po g.1 vcl A (fun (u : (Sto) × va_W) => [] ++ u.2)) A) args s0 0 0 A) (F0 m 16 ls []) := by
    intro n21
    induction n21 with
    | zero =>
      intro i21 s22 pl ls H locs hm21 hF hR hl hO hP hD hS
      refine lv_iload_n hx hb dDA_writeSignature_16 rfl (lv_at hl 0 rfl) ?_
      refine lv_aload_n hx hb dDA_writeSignature_17 rfl (lv_at hl 2 rfl) ?_
      refine nw_get (C := "LatticeKeys$DsaSet") (TT := T_DS) (N := 17) hx hb hts (wg_ft i_DS) hown hK hO k_st (kn := 11) (ci := 2) (fl := [(1, 8), (1, 7), (1, 2), (1, 3), (1, 60), (1, 64), (1, 20), (1, 524288), (1, 16), (1, 4), (1, 261888), (1, 75), (1, 120), (1, 2592), (1, 4896), (1, 4544), (1, 4627)]) rfl hP rfl 1 (by decide) (hts _ (wg_t kw_305)) (fun _ h9 => h9) (cd := (1, 7)) rfl dDA_writeSignature_18 (fun v23 hv23 => ?_)
      obtain rfl := (show v23 = .int (nI 7) from hv23)
      refine mi_ge (tgt := 77) hx hb dDA_writeSignature_21 (by decide) (by omega) (by omega) (fun h21 => ?_) (fun h21 => absurd h21 (by omega))
      refine lv_aload_n hx hb dDA_writeSignature_77 rfl (lv_at hl 1 rfl) ?_
      refine nw_get (C := "LatticeKeys$Dsa") (TT := T_DA) (N := 17) hx hb hts (wg_ft i_DA) hown hK hO k_h0 (kn := 39) (ci := 6) (fl := [(3, 16), (3, 22), (3, 37), (3, 40), (3, 97), (3, 105), (3, 114), (3, 123), (3, 131), (3, 140), (3, 141), (3, 142), (3, 143), (3, 144), (3, 145), (3, 146), (3, 147)]) rfl hP rfl 15 (by decide) (hts _ (wg_t kw_180)) (fun _ h9 => h9) (cd := (3, 146)) rfl dDA_writeSignature_78 (fun v24 hv24 => ?_)
      obtain ⟨r22, rfl, kr22⟩ := (show ∃ r : Nat, v24 = .ref r ∧ T r = some 146 from hv24)
      refine lv_iconst (v := nI 0) hx hb dDA_writeSignature_81 (by decide) ?_
      refine lv_aload_n hx hb dDA_writeSignature_82 rfl (lv_at hl 3 rfl) ?_
      refine lv_aload_n hx hb dDA_writeSignature_83 rfl (lv_at hl 2 rfl) ?_
      refine nw_get (C := "LatticeKeys$DsaSet") (TT := T_DS) (N := 17) hx hb hts (wg_ft i_DS) hown hK hO k_st (kn := 11) (ci := 2) (fl := [(1, 8), (1, 7), (1, 2), (1, 3), (1, 60), (1, 64), (1, 20), (1, 524288), (1, 16), (1, 4), (1, 261888), (1, 75), (1, 120), (1, 2592), (1, 4896), (1, 4544), (1, 4627)]) rfl hP rfl 15 (by decide) (hts _ (wg_t kw_335)) (fun _ h9 => h9) (cd := (1, 4544)) rfl dDA_writeSignature_84 (fun v25 hv25 => ?_)
      obtain rfl := (show v25 = .int (nI 4544) from hv25)
      refine lv_aload_n hx hb dDA_writeSignature_87 rfl (lv_at hl 2 rfl) ?_
      refine nw_get (C := "LatticeKeys$DsaSet") (TT := T_DS) (N := 17) hx hb hts (wg_ft i_DS) hown hK hO k_st (kn := 11) (ci := 2) (fl := [(1, 8), (1, 7), (1, 2), (1, 3), (1, 60), (1, 64), (1, 20), (1, 524288), (1, 16), (1, 4), (1, 261888), (1, 75), (1, 120), (1, 2592), (1, 4896), (1, 4544), (1, 4627)]) rfl hP rfl 11 (by decide) (hts _ (wg_t kw_327)) (fun _ h9 => h9) (cd := (1, 75)) rfl dDA_writeSignature_88 (fun v26 hv26 => ?_)
      obtain rfl := (show v26 = .int (nI 75) from hv26)
      refine lv_aload_n hx hb dDA_writeSignature_91 rfl (lv_at hl 2 rfl) ?_
      refine nw_get (C := "LatticeKeys$DsaSet") (TT := T_DS) (N := 17) hx hb hts (wg_ft i_DS) hown hK hO k_st (kn := 11) (ci := 2) (fl := [(1, 8), (1, 7), (1, 2), (1, 3), (1, 60), (1, 64), (1, 20), (1, 524288), (1, 16), (1, 4), (1, 261888), (1, 75), (1, 120), (1, 2592), (1, 4896), (1, 4544), (1, 4627)]) rfl hP rfl 0 (by decide) (hts _ (wg_t kw_302)) (fun _ h9 => h9) (cd := (1, 8)) rfl dDA_writeSignature_92 (fun v27 hv27 => ?_)
      obtain rfl := (show v27 = .int (nI 8) from hv27)
      refine mi_iadd hx hb dDA_writeSignature_95 ?_
      refine mi_as (show nI (75 + 8) = nI 83 from rfl) ?_
      refine nw_copyb hx hb (hml.trans hl.1.symm) hown (hts _ (wg_t kw_674)) (hts _ (wg_t kw_526)) (hts _ (wg_t kw_525)) (hts _ (wg_t kw_19)) hK hO hU kr22 (k0 := 146) rfl k_to (k1 := pt) n_to hP hD hS (sp := 0) (dp := 4544) (n := 83) (by omega) (by omega) (by omega) (by decide) (Nat.le_of_ble_eq_true rfl) dDA_writeSignature_96 (fun s23 pl H locs es22 hO hP hD hS => ?_)
      replace hR := bnd_step hR es22
      have hF := frm_sC hF es22 (by unfold M_DA_writeSignature_2; omega)
      exact mp_vret hx hb hr hlk hP hD hS (s23, pl) ⟨⟨hR.symm, hF, trivial⟩, hO⟩ [] rfl rfl rfl (by omega) (by omega) dDA_writeSignature_99
    | succ n21 ih21 =>
      intro i21 s22 pl ls H locs hm21 hF hR hl hO hP hD hS
      refine lv_iload_n hx hb dDA_writeSignature_16 rfl (lv_at hl 0 rfl) ?_
      refine lv_aload_n hx hb dDA_writeSignature_17 rfl (lv_at hl 2 rfl) ?_
      refine nw_get (C := "LatticeKeys$DsaSet") (TT := T_DS) (N := 17) hx hb hts (wg_ft i_DS) hown hK hO k_st (kn := 11) (ci := 2) (fl := [(1, 8), (1, 7), (1, 2), (1, 3), (1, 60), (1, 64), (1, 20), (1, 524288), (1, 16), (1, 4), (1, 261888), (1, 75), (1, 120), (1, 2592), (1, 4896), (1, 4544), (1, 4627)]) rfl hP rfl 1 (by decide) (hts _ (wg_t kw_305)) (fun _ h9 => h9) (cd := (1, 7)) rfl dDA_writeSignature_18 (fun v28 hv28 => ?_)
      obtain rfl := (show v28 = .int (nI 7) from hv28)
      refine mi_ge (tgt := 77) hx hb dDA_writeSignature_21 (by decide) (by omega) (by omega) (fun h22 => absurd h22 (by omega)) (fun h22 => ?_)
      refine lv_aload_n hx hb dDA_writeSignature_24 rfl (lv_at hl 1 rfl) ?_
      refine nw_get (C := "LatticeKeys$Dsa") (TT := T_DA) (N := 17) hx hb hts (wg_ft i_DA) hown hK hO k_h0 (kn := 39) (ci := 6) (fl := [(3, 16), (3, 22), (3, 37), (3, 40), (3, 97), (3, 105), (3, 114), (3, 123), (3, 131), (3, 140), (3, 141), (3, 142), (3, 143), (3, 144), (3, 145), (3, 146), (3, 147)]) rfl hP rfl 1 (by decide) (hts _ (wg_t kw_166)) (fun _ h9 => h9) (cd := (3, 22)) rfl dDA_writeSignature_25 (fun v29 hv29 => ?_)
      obtain ⟨r23, rfl, kr23⟩ := (show ∃ r : Nat, v29 = .ref r ∧ T r = some 22 from hv29)
      refine lv_aload_n hx hb dDA_writeSignature_28 rfl (lv_at hl 1 rfl) ?_
      refine nw_get (C := "LatticeKeys$Dsa") (TT := T_DA) (N := 17) hx hb hts (wg_ft i_DA) hown hK hO k_h0 (kn := 39) (ci := 6) (fl := [(3, 16), (3, 22), (3, 37), (3, 40), (3, 97), (3, 105), (3, 114), (3, 123), (3, 131), (3, 140), (3, 141), (3, 142), (3, 143), (3, 144), (3, 145), (3, 146), (3, 147)]) rfl hP rfl 7 (by decide) (hts _ (wg_t kw_172)) (fun _ h9 => h9) (cd := (3, 123)) rfl dDA_writeSignature_29 (fun v30 hv30 => ?_)
      obtain ⟨r24, rfl, kr24⟩ := (show ∃ r : Nat, v30 = .ref r ∧ T r = some 123 from hv30)
      refine lv_iload_n hx hb dDA_writeSignature_32 rfl (lv_at hl 0 rfl) ?_
      refine nw_aald3 hx hb hK hO kr24 (k := 123) (b := 124) rfl hP (by omega) (by omega) dDA_writeSignature_33 (fun r25 kr25 => ?_)
      have hn21 : nsp (124 + i21) = (0, 256, []) := rows_ok 124 7 (by decide) _ (by omega)
      refine lv_aload_n hx hb dDA_writeSignature_34 rfl (lv_at hl 2 rfl) ?_
      refine nw_get (C := "LatticeKeys$DsaSet") (TT := T_DS) (N := 17) hx hb hts (wg_ft i_DS) hown hK hO k_st (kn := 11) (ci := 2) (fl := [(1, 8), (1, 7), (1, 2), (1, 3), (1, 60), (1, 64), (1, 20), (1, 524288), (1, 16), (1, 4), (1, 261888), (1, 75), (1, 120), (1, 2592), (1, 4896), (1, 4544), (1, 4627)]) rfl hP rfl 7 (by decide) (hts _ (wg_t kw_320)) (fun _ h9 => h9) (cd := (1, 524288)) rfl dDA_writeSignature_35 (fun v31 hv31 => ?_)
      obtain rfl := (show v31 = .int (nI 524288) from hv31)
      refine lv_aload_n hx hb dDA_writeSignature_38 rfl (lv_at hl 1 rfl) ?_
      refine nw_get (C := "LatticeKeys$Dsa") (TT := T_DA) (N := 17) hx hb hts (wg_ft i_DA) hown hK hO k_h0 (kn := 39) (ci := 6) (fl := [(3, 16), (3, 22), (3, 37), (3, 40), (3, 97), (3, 105), (3, 114), (3, 123), (3, 131), (3, 140), (3, 141), (3, 142), (3, 143), (3, 144), (3, 145), (3, 146), (3, 147)]) rfl hP rfl 10 (by decide) (hts _ (wg_t kw_175)) (fun _ h9 => h9) (cd := (3, 141)) rfl dDA_writeSignature_39 (fun v32 hv32 => ?_)
      obtain ⟨r26, rfl, kr26⟩ := (show ∃ r : Nat, v32 = .ref r ∧ T r = some 141 from hv32)
      refine mp_v (cx := []) (wr := []) hP hD hS hA [] [] rfl rfl rfl (by decide) (va_runV (As := [.ref r25, .int (nI 524288), .ref r26]) (rest := []) F (N_RG_flip_8 l g _ T s22 pl hO hU r23 r25 r26 (124 + i21) (nI 524288) 141 kr23 kr25 hn21 kr26 rfl) (cwV 3 hts (wg_app (wg_c kw_698 (wg_c kw_699 (wg_c kw_700 (wg_c kw_4 wg_n)))) kw_701) rfl rfl rfl (by decide +kernel) ⟨by decide, by decide⟩) (pn_W "LatticeKeys$Ring" (en_ok g) (ci := 4) (kn := 22) (fl := [(1, 8380417), (1, 8), (1, 8347681), (3, 23)]) hK hO kr23 rfl hP hD hS hA hE [] rfl rfl rfl) rfl rfl hl.1 rfl (lv_room (Nat.le_of_ble_eq_true rfl)) dDA_writeSignature_42 ⟨by omega, by omega⟩) (fun  u21 H locs hu21 hP hD hS => ?_)
      obtain ⟨s24, pl⟩ := u21
      obtain ⟨⟨eq21, hFc21, -⟩, hO⟩ := hu21
      have hO : okn g T s24 pl := hO
      have hP : va_P g.1 vcl ([] ++ pl) _ := hP
      have hD : va_D _ ([] ++ pl) := hD
      have hFc21 : frm (M_RG_flip_8 141) s22 s24 := hFc21
      replace hR := bnd_step hR eq21
      have hF := frm_tr hF hFc21 (fun k hk => by unfold M_RG_flip_8 at hk; unfold M_DA_writeSignature_2; omega)
      refine W.widen (k := 0) (n := 0) (by omega) (by omega) ?_
      refine lv_aload_n hx hb dDA_writeSignature_45 rfl (lv_at hl 1 rfl) ?_
      refine nw_get (C := "LatticeKeys$Dsa") (TT := T_DA) (N := 17) hx hb hts (wg_ft i_DA) hown hK hO k_h0 (kn := 39) (ci := 6) (fl := [(3, 16), (3, 22), (3, 37), (3, 40), (3, 97), (3, 105), (3, 114), (3, 123), (3, 131), (3, 140), (3, 141), (3, 142), (3, 143), (3, 144), (3, 145), (3, 146), (3, 147)]) rfl hP rfl 10 (by decide) (hts _ (wg_t kw_175)) (fun _ h9 => h9) (cd := (3, 141)) rfl dDA_writeSignature_46 (fun v33 hv33 => ?_)
      obtain ⟨r27, rfl, kr27⟩ := (show ∃ r : Nat, v33 = .ref r ∧ T r = some 141 from hv33)
      refine lv_aload_n hx hb dDA_writeSignature_49 rfl (lv_at hl 2 rfl) ?_
      refine nw_get (C := "LatticeKeys$DsaSet") (TT := T_DS) (N := 17) hx hb hts (wg_ft i_DS) hown hK hO k_st (kn := 11) (ci := 2) (fl := [(1, 8), (1, 7), (1, 2), (1, 3), (1, 60), (1, 64), (1, 20), (1, 524288), (1, 16), (1, 4), (1, 261888), (1, 75), (1, 120), (1, 2592), (1, 4896), (1, 4544), (1, 4627)]) rfl hP rfl 6 (by decide) (hts _ (wg_t kw_318)) (fun _ h9 => h9) (cd := (1, 20)) rfl dDA_writeSignature_50 (fun v34 hv34 => ?_)
      obtain rfl := (show v34 = .int (nI 20) from hv34)
      refine lv_aload_n hx hb dDA_writeSignature_53 rfl (lv_at hl 3 rfl) ?_
      refine lv_aload_n hx hb dDA_writeSignature_54 rfl (lv_at hl 2 rfl) ?_
      refine nw_get (C := "LatticeKeys$DsaSet") (TT := T_DS) (N := 17) hx hb hts (wg_ft i_DS) hown hK hO k_st (kn := 11) (ci := 2) (fl := [(1, 8), (1, 7), (1, 2), (1, 3), (1, 60), (1, 64), (1, 20), (1, 524288), (1, 16), (1, 4), (1, 261888), (1, 75), (1, 120), (1, 2592), (1, 4896), (1, 4544), (1, 4627)]) rfl hP rfl 5 (by decide) (hts _ (wg_t kw_315)) (fun _ h9 => h9) (cd := (1, 64)) rfl dDA_writeSignature_55 (fun v35 hv35 => ?_)
      obtain rfl := (show v35 = .int (nI 64) from hv35)
      refine lv_bipush (v := nI 32) hx hb dDA_writeSignature_58 (by decide) ?_
      refine lv_aload_n hx hb dDA_writeSignature_60 rfl (lv_at hl 2 rfl) ?_
      refine nw_get (C := "LatticeKeys$DsaSet") (TT := T_DS) (N := 17) hx hb hts (wg_ft i_DS) hown hK hO k_st (kn := 11) (ci := 2) (fl := [(1, 8), (1, 7), (1, 2), (1, 3), (1, 60), (1, 64), (1, 20), (1, 524288), (1, 16), (1, 4), (1, 261888), (1, 75), (1, 120), (1, 2592), (1, 4896), (1, 4544), (1, 4627)]) rfl hP rfl 6 (by decide) (hts _ (wg_t kw_318)) (fun _ h9 => h9) (cd := (1, 20)) rfl dDA_writeSignature_61 (fun v36 hv36 => ?_)
      obtain rfl := (show v36 = .int (nI 20) from hv36)
      refine mi_imul hx hb dDA_writeSignature_64 ?_
      refine mi_as (show nI (32 * 20) = nI 640 from rfl) ?_
      refine lv_iload_n hx hb dDA_writeSignature_65 rfl (lv_at hl 0 rfl) ?_
      refine mi_imul hx hb dDA_writeSignature_66 ?_
      refine mi_iadd hx hb dDA_writeSignature_67 ?_
      refine mp_v (cx := []) (wr := []) hP hD hS hA [] [] rfl rfl rfl (by decide) (va_runS (As := [.ref r27, .int (nI 20), .ref to, .int (nI (64 + (640 * i21)))]) (rest := []) F (N_BT_pack l g _ T s24 pl hO hU r27 to 141 20 pt 8192 (64 + (640 * i21)) kr27 rfl k_to n_to (by omega) (by omega) (by omega)) (va_cwS 4 hts (wg_app (wg_c kw_702 (wg_c kw_645 (wg_c kw_22 wg_n))) kw_646) rfl rfl rfl (by decide +kernel) ⟨by decide, by decide⟩) (pp_S (en_ok g) hP hD hS hA hE [] rfl rfl) rfl rfl hl.1 rfl (lv_room (Nat.le_of_ble_eq_true rfl)) dDA_writeSignature_68 ⟨by omega, by omega⟩) (fun  u22 H locs hu22 hP hD hS => ?_)
      obtain ⟨s25, pl⟩ := u22
      obtain ⟨⟨eq22, hFc22, -⟩, hO⟩ := hu22
      have hO : okn g T s25 pl := hO
      have hP : va_P g.1 vcl ([] ++ pl) _ := hP
      have hD : va_D _ ([] ++ pl) := hD
      have hFc22 : frm (M_BT_pack pt) s24 s25 := hFc22
      replace hR := bnd_step hR eq22
      have hF := frm_tr hF hFc22 (fun k hk => by unfold M_BT_pack at hk; unfold M_DA_writeSignature_2; omega)
      refine W.widen (k := 0) (n := 0) (by omega) (by omega) ?_
      refine mi_iinc (k := 0) (x := i21) (d := 1) (y := i21 + 1) (lv' := [(3, .int (nI (i21 + 1))), (0, .ref h0), (1, .ref st), (2, .ref to)]) hx hb dDA_writeSignature_71 hl rfl (by decide) rfl (by decide) rfl (fun ls hl => ?_)
      refine lv_goto (tgt := 16) hx hb dDA_writeSignature_74 (by decide) ?_
      exact ih21 (i21 + 1) s25 pl ls H locs (by omega) hF hR (lv_sub hl [0, 1, 2, 3] rfl) hO hP hD hS
  exact lp21 7 0 s21 pl ls _ _ (by omega) hF hR (lv_sub hl [0, 1, 2, 3] rfl) hO hP hD hS
def M_DA_startChallenge (k : Nat) : Prop := k = 16 ∨ (0 : Nat) = 1
noncomputable def F_DA_startChallenge (s : Sto) : Sto := bnd (F_SP_start_3 16 17 s) fun s21 => bnd (F_SP_absorb 16 17 143 64 0 64 s21) fun s22 => s22
set_option maxHeartbeats 8000000 in
set_option maxRecDepth 100000 in
theorem N_DA_startChallenge (l : Launch) (g : Gd) (sz : Nat) (T : TyN) (s : Sto) (pl : va_W) (hO : okn g T s pl) (hU : inj T) (h0 : Nat) (k_h0 : T h0 = some 39)  : Met l y_DA_startChallenge w_DA_startChallenge ({ frames := 3, cells := 0, slots := 0, locals := 100 } : Room) (va_Pc [.ref h0] (pr (en g) g.1 vcl sz ([] ++ pl))) (va_Qv (fun (u : (Sto) × va_W) => (u.1 = F_DA_startChallenge s ∧ frm (M_DA_startChallenge) s u.1 ∧ (∃ x : Nat, u.1.1 16 3 = nI x ∧ x < 136) ∧ (∃ x : Nat, u.1.1 16 1 = nI x ∧ x = 136) ∧ True) ∧ okn g T u.1 u.2) (po g.1 vcl (va_A ([] ++ pl) sz) (fun (u : (Sto) × va_W) => [] ++ u.2)) (va_A ([] ++ pl) sz)) 0 0 (va_A ([] ++ pl) sz) := by
  refine mc_entry (cc := c_DA_startChallenge) (maxL := 1) (ret := none) (by decide) rfl (Nat.le_of_ble_eq_true rfl) ?_
  intro p e s0 m args below meth c ls F hr hlk hnm hsz hP hD hE hA hl
  obtain ⟨hx, hb, hml, hown, hts⟩ := id F
  have hK := hE.1
  generalize va_A ([] ++ pl) sz = A at hD hE hA ⊢
  have hS : va_S A s0.heap s0.heap [] := va_S.rf
  have hl : lv_has ls 1 [(0, .ref h0)] := hl
  have hR : F_DA_startChallenge s = F_DA_startChallenge s := rfl
  have hF : frm (M_DA_startChallenge) s s := frm_rf
  refine lv_aload_n hx hb dDA_startChallenge_0 rfl (lv_at hl 0 rfl) ?_
  refine nw_get (C := "LatticeKeys$Dsa") (TT := T_DA) (N := 17) hx hb hts (wg_ft i_DA) hown hK hO k_h0 (kn := 39) (ci := 6) (fl := [(3, 16), (3, 22), (3, 37), (3, 40), (3, 97), (3, 105), (3, 114), (3, 123), (3, 131), (3, 140), (3, 141), (3, 142), (3, 143), (3, 144), (3, 145), (3, 146), (3, 147)]) rfl hP rfl 0 (by decide) (hts _ (wg_t kw_165)) (fun _ h9 => h9) (cd := (3, 16)) rfl dDA_startChallenge_1 (fun v21 hv21 => ?_)
  obtain ⟨r21, rfl, kr21⟩ := (show ∃ r : Nat, v21 = .ref r ∧ T r = some 16 from hv21)
  refine lv_iconst (v := nI 3) hx hb dDA_startChallenge_4 (by decide) ?_
  refine mp_v (cx := []) (wr := []) hP hD hS hA [] [] rfl rfl rfl (by decide) (va_runV (As := [.int (nI 3)]) (rest := []) F (N_SP_start_3 l g _ T s pl hO hU r21 16 17 kr21 rfl rfl) (cwV 1 hts (wg_app (wg_c kw_669 (wg_c kw_579 (wg_c kw_580 (wg_c kw_2 wg_n)))) kw_581) rfl rfl rfl (by decide +kernel) ⟨by decide, by decide⟩) (pn_W "LatticeKeys$Sponge" (en_ok g) (ci := 3) (kn := 16) (fl := [(3, 17), (0, 0), (0, 0), (0, 0)]) hK hO kr21 rfl hP hD hS hA hE [] rfl rfl rfl) rfl rfl hl.1 rfl (lv_room (Nat.le_of_ble_eq_true rfl)) dDA_startChallenge_5 ⟨by omega, by omega⟩) (fun  u21 H locs hu21 hP hD hS => ?_)
  obtain ⟨s21, pl⟩ := u21
  obtain ⟨⟨eq21, hFc21, ⟨x21, hx_21, hb_21⟩, ⟨x22, hx_22, hb_22⟩, -⟩, hO⟩ := hu21
  have hO : okn g T s21 pl := hO
  have hP : va_P g.1 vcl ([] ++ pl) _ := hP
  have hD : va_D _ ([] ++ pl) := hD
  have hFc21 : frm (M_SP_start_3 16) s s21 := hFc21
  have hb_21 : x21 = 0 := hb_21
  have hb_22 : x22 = 136 := hb_22
  replace hR := bnd_step hR eq21
  have hF := frm_tr hF hFc21 (fun k hk => by unfold M_SP_start_3 at hk; unfold M_DA_startChallenge; omega)
  refine W.widen (k := 0) (n := 0) (by omega) (by omega) ?_
  refine lv_aload_n hx hb dDA_startChallenge_8 rfl (lv_at hl 0 rfl) ?_
  refine nw_get (C := "LatticeKeys$Dsa") (TT := T_DA) (N := 17) hx hb hts (wg_ft i_DA) hown hK hO k_h0 (kn := 39) (ci := 6) (fl := [(3, 16), (3, 22), (3, 37), (3, 40), (3, 97), (3, 105), (3, 114), (3, 123), (3, 131), (3, 140), (3, 141), (3, 142), (3, 143), (3, 144), (3, 145), (3, 146), (3, 147)]) rfl hP rfl 0 (by decide) (hts _ (wg_t kw_165)) (fun _ h9 => h9) (cd := (3, 16)) rfl dDA_startChallenge_9 (fun v22 hv22 => ?_)
  obtain ⟨r22, rfl, kr22⟩ := (show ∃ r : Nat, v22 = .ref r ∧ T r = some 16 from hv22)
  refine lv_aload_n hx hb dDA_startChallenge_12 rfl (lv_at hl 0 rfl) ?_
  refine nw_get (C := "LatticeKeys$Dsa") (TT := T_DA) (N := 17) hx hb hts (wg_ft i_DA) hown hK hO k_h0 (kn := 39) (ci := 6) (fl := [(3, 16), (3, 22), (3, 37), (3, 40), (3, 97), (3, 105), (3, 114), (3, 123), (3, 131), (3, 140), (3, 141), (3, 142), (3, 143), (3, 144), (3, 145), (3, 146), (3, 147)]) rfl hP rfl 12 (by decide) (hts _ (wg_t kw_177)) (fun _ h9 => h9) (cd := (3, 143)) rfl dDA_startChallenge_13 (fun v23 hv23 => ?_)
  obtain ⟨r23, rfl, kr23⟩ := (show ∃ r : Nat, v23 = .ref r ∧ T r = some 143 from hv23)
  refine lv_iconst (v := nI 0) hx hb dDA_startChallenge_16 (by decide) ?_
  refine lv_bipush (v := nI 64) hx hb dDA_startChallenge_17 (by decide) ?_
  refine mp_v (cx := []) (wr := []) hP hD hS hA [] [] rfl rfl rfl (by decide) (va_runV (As := [.ref r23, .int (nI 0), .int (nI 64)]) (rest := []) F (N_SP_absorb l g _ T s21 pl hO hU r22 r23 16 17 143 64 0 64 x21 x22 kr22 rfl rfl kr23 rfl hx_21 hx_22 (by omega) (by omega) (by omega) (by omega)) (cwV 3 hts (wg_app (wg_c kw_670 (wg_c kw_586 (wg_c kw_587 (wg_c kw_2 wg_n)))) kw_588) rfl rfl rfl (by decide +kernel) ⟨by decide, by decide⟩) (pn_W "LatticeKeys$Sponge" (en_ok g) (ci := 3) (kn := 16) (fl := [(3, 17), (0, 0), (0, 0), (0, 0)]) hK hO kr22 rfl hP hD hS hA hE [] rfl rfl rfl) rfl rfl hl.1 rfl (lv_room (Nat.le_of_ble_eq_true rfl)) dDA_startChallenge_19 ⟨by omega, by omega⟩) (fun  u22 H locs hu22 hP hD hS => ?_)
  obtain ⟨s22, pl⟩ := u22
  obtain ⟨⟨eq22, hFc22, ⟨x24, hx_24, hb_24⟩, ⟨x25, hx_25, hb_25⟩, -⟩, hO⟩ := hu22
  have hO : okn g T s22 pl := hO
  have hP : va_P g.1 vcl ([] ++ pl) _ := hP
  have hD : va_D _ ([] ++ pl) := hD
  have hFc22 : frm (M_SP_absorb 16) s21 s22 := hFc22
  have hb_24 : x24 < x22 := hb_24
  have hb_25 : x25 = x22 := hb_25
  replace hR := bnd_step hR eq22
  have hF := frm_tr hF hFc22 (fun k hk => by unfold M_SP_absorb at hk; unfold M_DA_startChallenge; omega)
  refine W.widen (k := 0) (n := 0) (by omega) (by omega) ?_
  exact mp_vret hx hb hr hlk hP hD hS (s22, pl) ⟨⟨hR.symm, hF, ⟨x24, hx_24, by omega⟩, ⟨x25, hx_25, by omega⟩, trivial⟩, hO⟩ [] rfl rfl rfl (by omega) (by omega) dDA_startChallenge_22
def M_DA_absorbHigh_0 (k : Nat) : Prop := k = 147 ∨ k = 16 ∨ (0 : Nat) = 1
noncomputable def F_DA_absorbHigh_0 (s : Sto) : Sto := bnd (F_BT_pack 141 6 147 192 0 s) fun s21 => bnd (F_SP_absorb 16 17 147 192 0 192 s21) fun s22 => s22
set_option maxHeartbeats 8000000 in
set_option maxRecDepth 100000 in
theorem N_DA_absorbHigh_0 (l : Launch) (g : Gd) (sz : Nat) (T : TyN) (s : Sto) (pl : va_W) (hO : okn g T s pl) (hU : inj T) (h0 st : Nat) (ps : Nat) (rt : Nat) (k_h0 : T h0 = some 39) (k_st : T st = some 9) (e_ps : s.1 16 3 = nI ps) (e_rt : s.1 16 1 = nI rt) (hrt : rt = 136) (hps : ps < rt)  : Met l y_DA_absorbHigh w_DA_absorbHigh ({ frames := 3, cells := 0, slots := 0, locals := 100 } : Room) (va_Pc [.ref h0, .ref st] (pr (en g) g.1 vcl sz ([] ++ pl))) (va_Qv (fun (u : (Sto) × va_W) => (u.1 = F_DA_absorbHigh_0 s ∧ frm (M_DA_absorbHigh_0) s u.1 ∧ (∃ x : Nat, u.1.1 16 3 = nI x ∧ x < 136) ∧ (∃ x : Nat, u.1.1 16 1 = nI x ∧ x = 136) ∧ True) ∧ okn g T u.1 u.2) (po g.1 vcl (va_A ([] ++ pl) sz) (fun (u : (Sto) × va_W) => [] ++ u.2)) (va_A ([] ++ pl) sz)) 0 0 (va_A ([] ++ pl) sz) := by
  refine mc_entry (cc := c_DA_absorbHigh) (maxL := 2) (ret := none) (by decide) rfl (Nat.le_of_ble_eq_true rfl) ?_
  intro p e s0 m args below meth c ls F hr hlk hnm hsz hP hD hE hA hl
  obtain ⟨hx, hb, hml, hown, hts⟩ := id F
  have hK := hE.1
  generalize va_A ([] ++ pl) sz = A at hD hE hA ⊢
  have hS : va_S A s0.heap s0.heap [] := va_S.rf
  have hl : lv_has ls 2 [(0, .ref h0), (1, .ref st)] := hl
  have hR : F_DA_absorbHigh_0 s = F_DA_absorbHigh_0 s := rfl
  have hF : frm (M_DA_absorbHigh_0) s s := frm_rf
  refine lv_aload_n hx hb dDA_absorbHigh_0 rfl (lv_at hl 0 rfl) ?_
  refine nw_get (C := "LatticeKeys$Dsa") (TT := T_DA) (N := 17) hx hb hts (wg_ft i_DA) hown hK hO k_h0 (kn := 39) (ci := 6) (fl := [(3, 16), (3, 22), (3, 37), (3, 40), (3, 97), (3, 105), (3, 114), (3, 123), (3, 131), (3, 140), (3, 141), (3, 142), (3, 143), (3, 144), (3, 145), (3, 146), (3, 147)]) rfl hP rfl 10 (by decide) (hts _ (wg_t kw_175)) (fun _ h9 => h9) (cd := (3, 141)) rfl dDA_absorbHigh_1 (fun v21 hv21 => ?_)
  obtain ⟨r21, rfl, kr21⟩ := (show ∃ r : Nat, v21 = .ref r ∧ T r = some 141 from hv21)
  refine lv_aload_n hx hb dDA_absorbHigh_4 rfl (lv_at hl 1 rfl) ?_
  refine nw_get (C := "LatticeKeys$DsaSet") (TT := T_DS) (N := 17) hx hb hts (wg_ft i_DS) hown hK hO k_st (kn := 9) (ci := 2) (fl := [(1, 4), (1, 4), (1, 2), (1, 3), (1, 39), (1, 32), (1, 18), (1, 131072), (1, 44), (1, 6), (1, 95232), (1, 80), (1, 78), (1, 1312), (1, 2560), (1, 2336), (1, 2420)]) rfl hP rfl 9 (by decide) (hts _ (wg_t kw_323)) (fun _ h9 => h9) (cd := (1, 6)) rfl dDA_absorbHigh_5 (fun v22 hv22 => ?_)
  obtain rfl := (show v22 = .int (nI 6) from hv22)
  refine lv_aload_n hx hb dDA_absorbHigh_8 rfl (lv_at hl 0 rfl) ?_
  refine nw_get (C := "LatticeKeys$Dsa") (TT := T_DA) (N := 17) hx hb hts (wg_ft i_DA) hown hK hO k_h0 (kn := 39) (ci := 6) (fl := [(3, 16), (3, 22), (3, 37), (3, 40), (3, 97), (3, 105), (3, 114), (3, 123), (3, 131), (3, 140), (3, 141), (3, 142), (3, 143), (3, 144), (3, 145), (3, 146), (3, 147)]) rfl hP rfl 16 (by decide) (hts _ (wg_t kw_181)) (fun _ h9 => h9) (cd := (3, 147)) rfl dDA_absorbHigh_9 (fun v23 hv23 => ?_)
  obtain ⟨r22, rfl, kr22⟩ := (show ∃ r : Nat, v23 = .ref r ∧ T r = some 147 from hv23)
  refine lv_iconst (v := nI 0) hx hb dDA_absorbHigh_12 (by decide) ?_
  refine mp_v (cx := []) (wr := []) hP hD hS hA [] [] rfl rfl rfl (by decide) (va_runS (As := [.ref r21, .int (nI 6), .ref r22, .int (nI 0)]) (rest := []) F (N_BT_pack l g _ T s pl hO hU r21 r22 141 6 147 192 0 kr21 rfl kr22 rfl (by omega) (by omega) (by omega)) (va_cwS 4 hts (wg_app (wg_c kw_702 (wg_c kw_645 (wg_c kw_22 wg_n))) kw_646) rfl rfl rfl (by decide +kernel) ⟨by decide, by decide⟩) (pp_S (en_ok g) hP hD hS hA hE [] rfl rfl) rfl rfl hl.1 rfl (lv_room (Nat.le_of_ble_eq_true rfl)) dDA_absorbHigh_13 ⟨by omega, by omega⟩) (fun  u21 H locs hu21 hP hD hS => ?_)
  obtain ⟨s21, pl⟩ := u21
  obtain ⟨⟨eq21, hFc21, -⟩, hO⟩ := hu21
  have hO : okn g T s21 pl := hO
  have hP : va_P g.1 vcl ([] ++ pl) _ := hP
  have hD : va_D _ ([] ++ pl) := hD
  have hFc21 : frm (M_BT_pack 147) s s21 := hFc21
  replace hR := bnd_step hR eq21
  have hF := frm_tr hF hFc21 (fun k hk => by unfold M_BT_pack at hk; unfold M_DA_absorbHigh_0; omega)
  have hf21 : s21.1 16 3 = nI ps := fc_F e_ps hFc21 (by unfold M_BT_pack; omega)
  have hf22 : s21.1 16 1 = nI rt := fc_F e_rt hFc21 (by unfold M_BT_pack; omega)
  refine W.widen (k := 0) (n := 0) (by omega) (by omega) ?_
  refine lv_aload_n hx hb dDA_absorbHigh_16 rfl (lv_at hl 0 rfl) ?_
  refine nw_get (C := "LatticeKeys$Dsa") (TT := T_DA) (N := 17) hx hb hts (wg_ft i_DA) hown hK hO k_h0 (kn := 39) (ci := 6) (fl := [(3, 16), (3, 22), (3, 37), (3, 40), (3, 97), (3, 105), (3, 114), (3, 123), (3, 131), (3, 140), (3, 141), (3, 142), (3, 143), (3, 144), (3, 145), (3, 146), (3, 147)]) rfl hP rfl 0 (by decide) (hts _ (wg_t kw_165)) (fun _ h9 => h9) (cd := (3, 16)) rfl dDA_absorbHigh_17 (fun v24 hv24 => ?_)
  obtain ⟨r23, rfl, kr23⟩ := (show ∃ r : Nat, v24 = .ref r ∧ T r = some 16 from hv24)
  refine lv_aload_n hx hb dDA_absorbHigh_20 rfl (lv_at hl 0 rfl) ?_
  refine nw_get (C := "LatticeKeys$Dsa") (TT := T_DA) (N := 17) hx hb hts (wg_ft i_DA) hown hK hO k_h0 (kn := 39) (ci := 6) (fl := [(3, 16), (3, 22), (3, 37), (3, 40), (3, 97), (3, 105), (3, 114), (3, 123), (3, 131), (3, 140), (3, 141), (3, 142), (3, 143), (3, 144), (3, 145), (3, 146), (3, 147)]) rfl hP rfl 16 (by decide) (hts _ (wg_t kw_181)) (fun _ h9 => h9) (cd := (3, 147)) rfl dDA_absorbHigh_21 (fun v25 hv25 => ?_)
  obtain ⟨r24, rfl, kr24⟩ := (show ∃ r : Nat, v25 = .ref r ∧ T r = some 147 from hv25)
  refine lv_iconst (v := nI 0) hx hb dDA_absorbHigh_24 (by decide) ?_
  refine lv_bipush (v := nI 32) hx hb dDA_absorbHigh_25 (by decide) ?_
  refine lv_aload_n hx hb dDA_absorbHigh_27 rfl (lv_at hl 1 rfl) ?_
  refine nw_get (C := "LatticeKeys$DsaSet") (TT := T_DS) (N := 17) hx hb hts (wg_ft i_DS) hown hK hO k_st (kn := 9) (ci := 2) (fl := [(1, 4), (1, 4), (1, 2), (1, 3), (1, 39), (1, 32), (1, 18), (1, 131072), (1, 44), (1, 6), (1, 95232), (1, 80), (1, 78), (1, 1312), (1, 2560), (1, 2336), (1, 2420)]) rfl hP rfl 9 (by decide) (hts _ (wg_t kw_323)) (fun _ h9 => h9) (cd := (1, 6)) rfl dDA_absorbHigh_28 (fun v26 hv26 => ?_)
  obtain rfl := (show v26 = .int (nI 6) from hv26)
  refine mi_imul hx hb dDA_absorbHigh_31 ?_
  refine mi_as (show nI (32 * 6) = nI 192 from rfl) ?_
  refine mp_v (cx := []) (wr := []) hP hD hS hA [] [] rfl rfl rfl (by decide) (va_runV (As := [.ref r24, .int (nI 0), .int (nI 192)]) (rest := []) F (N_SP_absorb l g _ T s21 pl hO hU r23 r24 16 17 147 192 0 192 ps rt kr23 rfl rfl kr24 rfl hf21 hf22 (by omega) (by omega) (by omega) (by omega)) (cwV 3 hts (wg_app (wg_c kw_670 (wg_c kw_586 (wg_c kw_587 (wg_c kw_2 wg_n)))) kw_588) rfl rfl rfl (by decide +kernel) ⟨by decide, by decide⟩) (pn_W "LatticeKeys$Sponge" (en_ok g) (ci := 3) (kn := 16) (fl := [(3, 17), (0, 0), (0, 0), (0, 0)]) hK hO kr23 rfl hP hD hS hA hE [] rfl rfl rfl) rfl rfl hl.1 rfl (lv_room (Nat.le_of_ble_eq_true rfl)) dDA_absorbHigh_32 ⟨by omega, by omega⟩) (fun  u22 H locs hu22 hP hD hS => ?_)
  obtain ⟨s22, pl⟩ := u22
  obtain ⟨⟨eq22, hFc22, ⟨x22, hx_22, hb_22⟩, ⟨x23, hx_23, hb_23⟩, -⟩, hO⟩ := hu22
  have hO : okn g T s22 pl := hO
  have hP : va_P g.1 vcl ([] ++ pl) _ := hP
  have hD : va_D _ ([] ++ pl) := hD
  have hFc22 : frm (M_SP_absorb 16) s21 s22 := hFc22
  have hb_22 : x22 < rt := hb_22
  have hb_23 : x23 = rt := hb_23
  replace hR := bnd_step hR eq22
  have hF := frm_tr hF hFc22 (fun k hk => by unfold M_SP_absorb at hk; unfold M_DA_absorbHigh_0; omega)
  refine W.widen (k := 0) (n := 0) (by omega) (by omega) ?_
  exact mp_vret hx hb hr hlk hP hD hS (s22, pl) ⟨⟨hR.symm, hF, ⟨x22, hx_22, by omega⟩, ⟨x23, hx_23, by omega⟩, trivial⟩, hO⟩ [] rfl rfl rfl (by omega) (by omega) dDA_absorbHigh_35
def M_DA_absorbHigh_1 (k : Nat) : Prop := k = 147 ∨ k = 16 ∨ (0 : Nat) = 1
noncomputable def F_DA_absorbHigh_1 (s : Sto) : Sto := bnd (F_BT_pack 141 4 147 192 0 s) fun s21 => bnd (F_SP_absorb 16 17 147 192 0 128 s21) fun s22 => s22
set_option maxHeartbeats 8000000 in
set_option maxRecDepth 100000 in
theorem N_DA_absorbHigh_1 (l : Launch) (g : Gd) (sz : Nat) (T : TyN) (s : Sto) (pl : va_W) (hO : okn g T s pl) (hU : inj T) (h0 st : Nat) (ps : Nat) (rt : Nat) (k_h0 : T h0 = some 39) (k_st : T st = some 10) (e_ps : s.1 16 3 = nI ps) (e_rt : s.1 16 1 = nI rt) (hrt : rt = 136) (hps : ps < rt)  : Met l y_DA_absorbHigh w_DA_absorbHigh ({ frames := 3, cells := 0, slots := 0, locals := 100 } : Room) (va_Pc [.ref h0, .ref st] (pr (en g) g.1 vcl sz ([] ++ pl))) (va_Qv (fun (u : (Sto) × va_W) => (u.1 = F_DA_absorbHigh_1 s ∧ frm (M_DA_absorbHigh_1) s u.1 ∧ (∃ x : Nat, u.1.1 16 3 = nI x ∧ x < 136) ∧ (∃ x : Nat, u.1.1 16 1 = nI x ∧ x = 136) ∧ True) ∧ okn g T u.1 u.2) (po g.1 vcl (va_A ([] ++ pl) sz) (fun (u : (Sto) × va_W) => [] ++ u.2)) (va_A ([] ++ pl) sz)) 0 0 (va_A ([] ++ pl) sz) := by
  refine mc_entry (cc := c_DA_absorbHigh) (maxL := 2) (ret := none) (by decide) rfl (Nat.le_of_ble_eq_true rfl) ?_
  intro p e s0 m args below meth c ls F hr hlk hnm hsz hP hD hE hA hl
  obtain ⟨hx, hb, hml, hown, hts⟩ := id F
  have hK := hE.1
  generalize va_A ([] ++ pl) sz = A at hD hE hA ⊢
  have hS : va_S A s0.heap s0.heap [] := va_S.rf
  have hl : lv_has ls 2 [(0, .ref h0), (1, .ref st)] := hl
  have hR : F_DA_absorbHigh_1 s = F_DA_absorbHigh_1 s := rfl
  have hF : frm (M_DA_absorbHigh_1) s s := frm_rf
  refine lv_aload_n hx hb dDA_absorbHigh_0 rfl (lv_at hl 0 rfl) ?_
  refine nw_get (C := "LatticeKeys$Dsa") (TT := T_DA) (N := 17) hx hb hts (wg_ft i_DA) hown hK hO k_h0 (kn := 39) (ci := 6) (fl := [(3, 16), (3, 22), (3, 37), (3, 40), (3, 97), (3, 105), (3, 114), (3, 123), (3, 131), (3, 140), (3, 141), (3, 142), (3, 143), (3, 144), (3, 145), (3, 146), (3, 147)]) rfl hP rfl 10 (by decide) (hts _ (wg_t kw_175)) (fun _ h9 => h9) (cd := (3, 141)) rfl dDA_absorbHigh_1 (fun v21 hv21 => ?_)
  obtain ⟨r21, rfl, kr21⟩ := (show ∃ r : Nat, v21 = .ref r ∧ T r = some 141 from hv21)
  refine lv_aload_n hx hb dDA_absorbHigh_4 rfl (lv_at hl 1 rfl) ?_
  refine nw_get (C := "LatticeKeys$DsaSet") (TT := T_DS) (N := 17) hx hb hts (wg_ft i_DS) hown hK hO k_st (kn := 10) (ci := 2) (fl := [(1, 6), (1, 5), (1, 4), (1, 4), (1, 49), (1, 48), (1, 20), (1, 524288), (1, 16), (1, 4), (1, 261888), (1, 55), (1, 196), (1, 1952), (1, 4032), (1, 3248), (1, 3309)]) rfl hP rfl 9 (by decide) (hts _ (wg_t kw_323)) (fun _ h9 => h9) (cd := (1, 4)) rfl dDA_absorbHigh_5 (fun v22 hv22 => ?_)
  obtain rfl := (show v22 = .int (nI 4) from hv22)
  refine lv_aload_n hx hb dDA_absorbHigh_8 rfl (lv_at hl 0 rfl) ?_
  refine nw_get (C := "LatticeKeys$Dsa") (TT := T_DA) (N := 17) hx hb hts (wg_ft i_DA) hown hK hO k_h0 (kn := 39) (ci := 6) (fl := [(3, 16), (3, 22), (3, 37), (3, 40), (3, 97), (3, 105), (3, 114), (3, 123), (3, 131), (3, 140), (3, 141), (3, 142), (3, 143), (3, 144), (3, 145), (3, 146), (3, 147)]) rfl hP rfl 16 (by decide) (hts _ (wg_t kw_181)) (fun _ h9 => h9) (cd := (3, 147)) rfl dDA_absorbHigh_9 (fun v23 hv23 => ?_)
  obtain ⟨r22, rfl, kr22⟩ := (show ∃ r : Nat, v23 = .ref r ∧ T r = some 147 from hv23)
  refine lv_iconst (v := nI 0) hx hb dDA_absorbHigh_12 (by decide) ?_
  refine mp_v (cx := []) (wr := []) hP hD hS hA [] [] rfl rfl rfl (by decide) (va_runS (As := [.ref r21, .int (nI 4), .ref r22, .int (nI 0)]) (rest := []) F (N_BT_pack l g _ T s pl hO hU r21 r22 141 4 147 192 0 kr21 rfl kr22 rfl (by omega) (by omega) (by omega)) (va_cwS 4 hts (wg_app (wg_c kw_702 (wg_c kw_645 (wg_c kw_22 wg_n))) kw_646) rfl rfl rfl (by decide +kernel) ⟨by decide, by decide⟩) (pp_S (en_ok g) hP hD hS hA hE [] rfl rfl) rfl rfl hl.1 rfl (lv_room (Nat.le_of_ble_eq_true rfl)) dDA_absorbHigh_13 ⟨by omega, by omega⟩) (fun  u21 H locs hu21 hP hD hS => ?_)
  obtain ⟨s21, pl⟩ := u21
  obtain ⟨⟨eq21, hFc21, -⟩, hO⟩ := hu21
  have hO : okn g T s21 pl := hO
  have hP : va_P g.1 vcl ([] ++ pl) _ := hP
  have hD : va_D _ ([] ++ pl) := hD
  have hFc21 : frm (M_BT_pack 147) s s21 := hFc21
  replace hR := bnd_step hR eq21
  have hF := frm_tr hF hFc21 (fun k hk => by unfold M_BT_pack at hk; unfold M_DA_absorbHigh_1; omega)
  have hf21 : s21.1 16 3 = nI ps := fc_F e_ps hFc21 (by unfold M_BT_pack; omega)
  have hf22 : s21.1 16 1 = nI rt := fc_F e_rt hFc21 (by unfold M_BT_pack; omega)
  refine W.widen (k := 0) (n := 0) (by omega) (by omega) ?_
  refine lv_aload_n hx hb dDA_absorbHigh_16 rfl (lv_at hl 0 rfl) ?_
  refine nw_get (C := "LatticeKeys$Dsa") (TT := T_DA) (N := 17) hx hb hts (wg_ft i_DA) hown hK hO k_h0 (kn := 39) (ci := 6) (fl := [(3, 16), (3, 22), (3, 37), (3, 40), (3, 97), (3, 105), (3, 114), (3, 123), (3, 131), (3, 140), (3, 141), (3, 142), (3, 143), (3, 144), (3, 145), (3, 146), (3, 147)]) rfl hP rfl 0 (by decide) (hts _ (wg_t kw_165)) (fun _ h9 => h9) (cd := (3, 16)) rfl dDA_absorbHigh_17 (fun v24 hv24 => ?_)
  obtain ⟨r23, rfl, kr23⟩ := (show ∃ r : Nat, v24 = .ref r ∧ T r = some 16 from hv24)
  refine lv_aload_n hx hb dDA_absorbHigh_20 rfl (lv_at hl 0 rfl) ?_
  refine nw_get (C := "LatticeKeys$Dsa") (TT := T_DA) (N := 17) hx hb hts (wg_ft i_DA) hown hK hO k_h0 (kn := 39) (ci := 6) (fl := [(3, 16), (3, 22), (3, 37), (3, 40), (3, 97), (3, 105), (3, 114), (3, 123), (3, 131), (3, 140), (3, 141), (3, 142), (3, 143), (3, 144), (3, 145), (3, 146), (3, 147)]) rfl hP rfl 16 (by decide) (hts _ (wg_t kw_181)) (fun _ h9 => h9) (cd := (3, 147)) rfl dDA_absorbHigh_21 (fun v25 hv25 => ?_)
  obtain ⟨r24, rfl, kr24⟩ := (show ∃ r : Nat, v25 = .ref r ∧ T r = some 147 from hv25)
  refine lv_iconst (v := nI 0) hx hb dDA_absorbHigh_24 (by decide) ?_
  refine lv_bipush (v := nI 32) hx hb dDA_absorbHigh_25 (by decide) ?_
  refine lv_aload_n hx hb dDA_absorbHigh_27 rfl (lv_at hl 1 rfl) ?_
  refine nw_get (C := "LatticeKeys$DsaSet") (TT := T_DS) (N := 17) hx hb hts (wg_ft i_DS) hown hK hO k_st (kn := 10) (ci := 2) (fl := [(1, 6), (1, 5), (1, 4), (1, 4), (1, 49), (1, 48), (1, 20), (1, 524288), (1, 16), (1, 4), (1, 261888), (1, 55), (1, 196), (1, 1952), (1, 4032), (1, 3248), (1, 3309)]) rfl hP rfl 9 (by decide) (hts _ (wg_t kw_323)) (fun _ h9 => h9) (cd := (1, 4)) rfl dDA_absorbHigh_28 (fun v26 hv26 => ?_)
  obtain rfl := (show v26 = .int (nI 4) from hv26)
  refine mi_imul hx hb dDA_absorbHigh_31 ?_
  refine mi_as (show nI (32 * 4) = nI 128 from rfl) ?_
  refine mp_v (cx := []) (wr := []) hP hD hS hA [] [] rfl rfl rfl (by decide) (va_runV (As := [.ref r24, .int (nI 0), .int (nI 128)]) (rest := []) F (N_SP_absorb l g _ T s21 pl hO hU r23 r24 16 17 147 192 0 128 ps rt kr23 rfl rfl kr24 rfl hf21 hf22 (by omega) (by omega) (by omega) (by omega)) (cwV 3 hts (wg_app (wg_c kw_670 (wg_c kw_586 (wg_c kw_587 (wg_c kw_2 wg_n)))) kw_588) rfl rfl rfl (by decide +kernel) ⟨by decide, by decide⟩) (pn_W "LatticeKeys$Sponge" (en_ok g) (ci := 3) (kn := 16) (fl := [(3, 17), (0, 0), (0, 0), (0, 0)]) hK hO kr23 rfl hP hD hS hA hE [] rfl rfl rfl) rfl rfl hl.1 rfl (lv_room (Nat.le_of_ble_eq_true rfl)) dDA_absorbHigh_32 ⟨by omega, by omega⟩) (fun  u22 H locs hu22 hP hD hS => ?_)
  obtain ⟨s22, pl⟩ := u22
  obtain ⟨⟨eq22, hFc22, ⟨x22, hx_22, hb_22⟩, ⟨x23, hx_23, hb_23⟩, -⟩, hO⟩ := hu22
  have hO : okn g T s22 pl := hO
  have hP : va_P g.1 vcl ([] ++ pl) _ := hP
  have hD : va_D _ ([] ++ pl) := hD
  have hFc22 : frm (M_SP_absorb 16) s21 s22 := hFc22
  have hb_22 : x22 < rt := hb_22
  have hb_23 : x23 = rt := hb_23
  replace hR := bnd_step hR eq22
  have hF := frm_tr hF hFc22 (fun k hk => by unfold M_SP_absorb at hk; unfold M_DA_absorbHigh_1; omega)
  refine W.widen (k := 0) (n := 0) (by omega) (by omega) ?_
  exact mp_vret hx hb hr hlk hP hD hS (s22, pl) ⟨⟨hR.symm, hF, ⟨x22, hx_22, by omega⟩, ⟨x23, hx_23, by omega⟩, trivial⟩, hO⟩ [] rfl rfl rfl (by omega) (by omega) dDA_absorbHigh_35
def M_DA_absorbHigh_2 (k : Nat) : Prop := k = 147 ∨ k = 16 ∨ (0 : Nat) = 1
noncomputable def F_DA_absorbHigh_2 (s : Sto) : Sto := bnd (F_BT_pack 141 4 147 192 0 s) fun s21 => bnd (F_SP_absorb 16 17 147 192 0 128 s21) fun s22 => s22
set_option maxHeartbeats 8000000 in
set_option maxRecDepth 100000 in
theorem N_DA_absorbHigh_2 (l : Launch) (g : Gd) (sz : Nat) (T : TyN) (s : Sto) (pl : va_W) (hO : okn g T s pl) (hU : inj T) (h0 st : Nat) (ps : Nat) (rt : Nat) (k_h0 : T h0 = some 39) (k_st : T st = some 11) (e_ps : s.1 16 3 = nI ps) (e_rt : s.1 16 1 = nI rt) (hrt : rt = 136) (hps : ps < rt)  : Met l y_DA_absorbHigh w_DA_absorbHigh ({ frames := 3, cells := 0, slots := 0, locals := 100 } : Room) (va_Pc [.ref h0, .ref st] (pr (en g) g.1 vcl sz ([] ++ pl))) (va_Qv (fun (u : (Sto) × va_W) => (u.1 = F_DA_absorbHigh_2 s ∧ frm (M_DA_absorbHigh_2) s u.1 ∧ (∃ x : Nat, u.1.1 16 3 = nI x ∧ x < 136) ∧ (∃ x : Nat, u.1.1 16 1 = nI x ∧ x = 136) ∧ True) ∧ okn g T u.1 u.2) (po g.1 vcl (va_A ([] ++ pl) sz) (fun (u : (Sto) × va_W) => [] ++ u.2)) (va_A ([] ++ pl) sz)) 0 0 (va_A ([] ++ pl) sz) := by
  refine mc_entry (cc := c_DA_absorbHigh) (maxL := 2) (ret := none) (by decide) rfl (Nat.le_of_ble_eq_true rfl) ?_
  intro p e s0 m args below meth c ls F hr hlk hnm hsz hP hD hE hA hl
  obtain ⟨hx, hb, hml, hown, hts⟩ := id F
  have hK := hE.1
  generalize va_A ([] ++ pl) sz = A at hD hE hA ⊢
  have hS : va_S A s0.heap s0.heap [] := va_S.rf
  have hl : lv_has ls 2 [(0, .ref h0), (1, .ref st)] := hl
  have hR : F_DA_absorbHigh_2 s = F_DA_absorbHigh_2 s := rfl
  have hF : frm (M_DA_absorbHigh_2) s s := frm_rf
  refine lv_aload_n hx hb dDA_absorbHigh_0 rfl (lv_at hl 0 rfl) ?_
  refine nw_get (C := "LatticeKeys$Dsa") (TT := T_DA) (N := 17) hx hb hts (wg_ft i_DA) hown hK hO k_h0 (kn := 39) (ci := 6) (fl := [(3, 16), (3, 22), (3, 37), (3, 40), (3, 97), (3, 105), (3, 114), (3, 123), (3, 131), (3, 140), (3, 141), (3, 142), (3, 143), (3, 144), (3, 145), (3, 146), (3, 147)]) rfl hP rfl 10 (by decide) (hts _ (wg_t kw_175)) (fun _ h9 => h9) (cd := (3, 141)) rfl dDA_absorbHigh_1 (fun v21 hv21 => ?_)
  obtain ⟨r21, rfl, kr21⟩ := (show ∃ r : Nat, v21 = .ref r ∧ T r = some 141 from hv21)
  refine lv_aload_n hx hb dDA_absorbHigh_4 rfl (lv_at hl 1 rfl) ?_
  refine nw_get (C := "LatticeKeys$DsaSet") (TT := T_DS) (N := 17) hx hb hts (wg_ft i_DS) hown hK hO k_st (kn := 11) (ci := 2) (fl := [(1, 8), (1, 7), (1, 2), (1, 3), (1, 60), (1, 64), (1, 20), (1, 524288), (1, 16), (1, 4), (1, 261888), (1, 75), (1, 120), (1, 2592), (1, 4896), (1, 4544), (1, 4627)]) rfl hP rfl 9 (by decide) (hts _ (wg_t kw_323)) (fun _ h9 => h9) (cd := (1, 4)) rfl dDA_absorbHigh_5 (fun v22 hv22 => ?_)
  obtain rfl := (show v22 = .int (nI 4) from hv22)
  refine lv_aload_n hx hb dDA_absorbHigh_8 rfl (lv_at hl 0 rfl) ?_
  refine nw_get (C := "LatticeKeys$Dsa") (TT := T_DA) (N := 17) hx hb hts (wg_ft i_DA) hown hK hO k_h0 (kn := 39) (ci := 6) (fl := [(3, 16), (3, 22), (3, 37), (3, 40), (3, 97), (3, 105), (3, 114), (3, 123), (3, 131), (3, 140), (3, 141), (3, 142), (3, 143), (3, 144), (3, 145), (3, 146), (3, 147)]) rfl hP rfl 16 (by decide) (hts _ (wg_t kw_181)) (fun _ h9 => h9) (cd := (3, 147)) rfl dDA_absorbHigh_9 (fun v23 hv23 => ?_)
  obtain ⟨r22, rfl, kr22⟩ := (show ∃ r : Nat, v23 = .ref r ∧ T r = some 147 from hv23)
  refine lv_iconst (v := nI 0) hx hb dDA_absorbHigh_12 (by decide) ?_
  refine mp_v (cx := []) (wr := []) hP hD hS hA [] [] rfl rfl rfl (by decide) (va_runS (As := [.ref r21, .int (nI 4), .ref r22, .int (nI 0)]) (rest := []) F (N_BT_pack l g _ T s pl hO hU r21 r22 141 4 147 192 0 kr21 rfl kr22 rfl (by omega) (by omega) (by omega)) (va_cwS 4 hts (wg_app (wg_c kw_702 (wg_c kw_645 (wg_c kw_22 wg_n))) kw_646) rfl rfl rfl (by decide +kernel) ⟨by decide, by decide⟩) (pp_S (en_ok g) hP hD hS hA hE [] rfl rfl) rfl rfl hl.1 rfl (lv_room (Nat.le_of_ble_eq_true rfl)) dDA_absorbHigh_13 ⟨by omega, by omega⟩) (fun  u21 H locs hu21 hP hD hS => ?_)
  obtain ⟨s21, pl⟩ := u21
  obtain ⟨⟨eq21, hFc21, -⟩, hO⟩ := hu21
  have hO : okn g T s21 pl := hO
  have hP : va_P g.1 vcl ([] ++ pl) _ := hP
  have hD : va_D _ ([] ++ pl) := hD
  have hFc21 : frm (M_BT_pack 147) s s21 := hFc21
  replace hR := bnd_step hR eq21
  have hF := frm_tr hF hFc21 (fun k hk => by unfold M_BT_pack at hk; unfold M_DA_absorbHigh_2; omega)
  have hf21 : s21.1 16 3 = nI ps := fc_F e_ps hFc21 (by unfold M_BT_pack; omega)
  have hf22 : s21.1 16 1 = nI rt := fc_F e_rt hFc21 (by unfold M_BT_pack; omega)
  refine W.widen (k := 0) (n := 0) (by omega) (by omega) ?_
  refine lv_aload_n hx hb dDA_absorbHigh_16 rfl (lv_at hl 0 rfl) ?_
  refine nw_get (C := "LatticeKeys$Dsa") (TT := T_DA) (N := 17) hx hb hts (wg_ft i_DA) hown hK hO k_h0 (kn := 39) (ci := 6) (fl := [(3, 16), (3, 22), (3, 37), (3, 40), (3, 97), (3, 105), (3, 114), (3, 123), (3, 131), (3, 140), (3, 141), (3, 142), (3, 143), (3, 144), (3, 145), (3, 146), (3, 147)]) rfl hP rfl 0 (by decide) (hts _ (wg_t kw_165)) (fun _ h9 => h9) (cd := (3, 16)) rfl dDA_absorbHigh_17 (fun v24 hv24 => ?_)
  obtain ⟨r23, rfl, kr23⟩ := (show ∃ r : Nat, v24 = .ref r ∧ T r = some 16 from hv24)
  refine lv_aload_n hx hb dDA_absorbHigh_20 rfl (lv_at hl 0 rfl) ?_
  refine nw_get (C := "LatticeKeys$Dsa") (TT := T_DA) (N := 17) hx hb hts (wg_ft i_DA) hown hK hO k_h0 (kn := 39) (ci := 6) (fl := [(3, 16), (3, 22), (3, 37), (3, 40), (3, 97), (3, 105), (3, 114), (3, 123), (3, 131), (3, 140), (3, 141), (3, 142), (3, 143), (3, 144), (3, 145), (3, 146), (3, 147)]) rfl hP rfl 16 (by decide) (hts _ (wg_t kw_181)) (fun _ h9 => h9) (cd := (3, 147)) rfl dDA_absorbHigh_21 (fun v25 hv25 => ?_)
  obtain ⟨r24, rfl, kr24⟩ := (show ∃ r : Nat, v25 = .ref r ∧ T r = some 147 from hv25)
  refine lv_iconst (v := nI 0) hx hb dDA_absorbHigh_24 (by decide) ?_
  refine lv_bipush (v := nI 32) hx hb dDA_absorbHigh_25 (by decide) ?_
  refine lv_aload_n hx hb dDA_absorbHigh_27 rfl (lv_at hl 1 rfl) ?_
  refine nw_get (C := "LatticeKeys$DsaSet") (TT := T_DS) (N := 17) hx hb hts (wg_ft i_DS) hown hK hO k_st (kn := 11) (ci := 2) (fl := [(1, 8), (1, 7), (1, 2), (1, 3), (1, 60), (1, 64), (1, 20), (1, 524288), (1, 16), (1, 4), (1, 261888), (1, 75), (1, 120), (1, 2592), (1, 4896), (1, 4544), (1, 4627)]) rfl hP rfl 9 (by decide) (hts _ (wg_t kw_323)) (fun _ h9 => h9) (cd := (1, 4)) rfl dDA_absorbHigh_28 (fun v26 hv26 => ?_)
  obtain rfl := (show v26 = .int (nI 4) from hv26)
  refine mi_imul hx hb dDA_absorbHigh_31 ?_
  refine mi_as (show nI (32 * 4) = nI 128 from rfl) ?_
  refine mp_v (cx := []) (wr := []) hP hD hS hA [] [] rfl rfl rfl (by decide) (va_runV (As := [.ref r24, .int (nI 0), .int (nI 128)]) (rest := []) F (N_SP_absorb l g _ T s21 pl hO hU r23 r24 16 17 147 192 0 128 ps rt kr23 rfl rfl kr24 rfl hf21 hf22 (by omega) (by omega) (by omega) (by omega)) (cwV 3 hts (wg_app (wg_c kw_670 (wg_c kw_586 (wg_c kw_587 (wg_c kw_2 wg_n)))) kw_588) rfl rfl rfl (by decide +kernel) ⟨by decide, by decide⟩) (pn_W "LatticeKeys$Sponge" (en_ok g) (ci := 3) (kn := 16) (fl := [(3, 17), (0, 0), (0, 0), (0, 0)]) hK hO kr23 rfl hP hD hS hA hE [] rfl rfl rfl) rfl rfl hl.1 rfl (lv_room (Nat.le_of_ble_eq_true rfl)) dDA_absorbHigh_32 ⟨by omega, by omega⟩) (fun  u22 H locs hu22 hP hD hS => ?_)
  obtain ⟨s22, pl⟩ := u22
  obtain ⟨⟨eq22, hFc22, ⟨x22, hx_22, hb_22⟩, ⟨x23, hx_23, hb_23⟩, -⟩, hO⟩ := hu22
  have hO : okn g T s22 pl := hO
  have hP : va_P g.1 vcl ([] ++ pl) _ := hP
  have hD : va_D _ ([] ++ pl) := hD
  have hFc22 : frm (M_SP_absorb 16) s21 s22 := hFc22
  have hb_22 : x22 < rt := hb_22
  have hb_23 : x23 = rt := hb_23
  replace hR := bnd_step hR eq22
  have hF := frm_tr hF hFc22 (fun k hk => by unfold M_SP_absorb at hk; unfold M_DA_absorbHigh_2; omega)
  refine W.widen (k := 0) (n := 0) (by omega) (by omega) ?_
  exact mp_vret hx hb hr hlk hP hD hS (s22, pl) ⟨⟨hR.symm, hF, ⟨x22, hx_22, by omega⟩, ⟨x23, hx_23, by omega⟩, trivial⟩, hO⟩ [] rfl rfl rfl (by omega) (by omega) dDA_absorbHigh_35
