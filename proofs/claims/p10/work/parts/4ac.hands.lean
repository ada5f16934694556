set_option linter.all false
abbrev c_MH_readHidden : ByteArray := prog_13_method_15_code
abbrev y_MH_readHidden : MethodName := ⟨"LatticeKeysModel$Hands", "readHidden", "([B)V"⟩
abbrev w_MH_readHidden : List Cond := Cond.code y_MH_readHidden c_MH_readHidden 7 none :: WG
theorem dMH_readHidden_0 : decode c_MH_readHidden 0 = .ok (.aload_n 0, 1) := by decide +kernel
theorem dMH_readHidden_1 : decode c_MH_readHidden 1 = .ok (.getfield 113, 3) := by decide +kernel
theorem dMH_readHidden_4 : decode c_MH_readHidden 4 = .ok (.iconst 2, 1) := by decide +kernel
theorem dMH_readHidden_5 : decode c_MH_readHidden 5 = .ok (.if_icmp .ne 7, 3) := by decide +kernel
theorem dMH_readHidden_8 : decode c_MH_readHidden 8 = .ok (.iconst 3, 1) := by decide +kernel
theorem dMH_readHidden_9 : decode c_MH_readHidden 9 = .ok (.goto 4, 3) := by decide +kernel
theorem dMH_readHidden_12 : decode c_MH_readHidden 12 = .ok (.iconst 4, 1) := by decide +kernel
theorem dMH_readHidden_13 : decode c_MH_readHidden 13 = .ok (.istore_n 2, 1) := by decide +kernel
theorem dMH_readHidden_14 : decode c_MH_readHidden 14 = .ok (.sipush 1024, 3) := by decide +kernel
theorem dMH_readHidden_17 : decode c_MH_readHidden 17 = .ok (.istore_n 3, 1) := by decide +kernel
theorem dMH_readHidden_18 : decode c_MH_readHidden 18 = .ok (.iconst 0, 1) := by decide +kernel
theorem dMH_readHidden_19 : decode c_MH_readHidden 19 = .ok (.istore 4, 2) := by decide +kernel
theorem dMH_readHidden_21 : decode c_MH_readHidden 21 = .ok (.iload 4, 2) := by decide +kernel
theorem dMH_readHidden_23 : decode c_MH_readHidden 23 = .ok (.aload_n 0, 1) := by decide +kernel
theorem dMH_readHidden_24 : decode c_MH_readHidden 24 = .ok (.getfield 107, 3) := by decide +kernel
theorem dMH_readHidden_27 : decode c_MH_readHidden 27 = .ok (.aload_n 0, 1) := by decide +kernel
theorem dMH_readHidden_28 : decode c_MH_readHidden 28 = .ok (.getfield 110, 3) := by decide +kernel
theorem dMH_readHidden_31 : decode c_MH_readHidden 31 = .ok (.iadd, 1) := by decide +kernel
theorem dMH_readHidden_32 : decode c_MH_readHidden 32 = .ok (.if_icmp .ge 86, 3) := by decide +kernel
theorem dMH_readHidden_35 : decode c_MH_readHidden 35 = .ok (.iconst 0, 1) := by decide +kernel
theorem dMH_readHidden_36 : decode c_MH_readHidden 36 = .ok (.istore 5, 2) := by decide +kernel
theorem dMH_readHidden_38 : decode c_MH_readHidden 38 = .ok (.iload 5, 2) := by decide +kernel
theorem dMH_readHidden_40 : decode c_MH_readHidden 40 = .ok (.sipush 256, 3) := by decide +kernel
theorem dMH_readHidden_43 : decode c_MH_readHidden 43 = .ok (.if_icmp .ge 69, 3) := by decide +kernel
theorem dMH_readHidden_46 : decode c_MH_readHidden 46 = .ok (.aload_n 0, 1) := by decide +kernel
theorem dMH_readHidden_47 : decode c_MH_readHidden 47 = .ok (.getfield 113, 3) := by decide +kernel
theorem dMH_readHidden_50 : decode c_MH_readHidden 50 = .ok (.aload_n 1, 1) := by decide +kernel
theorem dMH_readHidden_51 : decode c_MH_readHidden 51 = .ok (.iload_n 3, 1) := by decide +kernel
theorem dMH_readHidden_52 : decode c_MH_readHidden 52 = .ok (.iload_n 2, 1) := by decide +kernel
theorem dMH_readHidden_53 : decode c_MH_readHidden 53 = .ok (.invokestatic 197, 3) := by decide +kernel
theorem dMH_readHidden_56 : decode c_MH_readHidden 56 = .ok (.invokestatic 201, 3) := by decide +kernel
theorem dMH_readHidden_59 : decode c_MH_readHidden 59 = .ok (.istore 6, 2) := by decide +kernel
theorem dMH_readHidden_61 : decode c_MH_readHidden 61 = .ok (.iload 4, 2) := by decide +kernel
theorem dMH_readHidden_63 : decode c_MH_readHidden 63 = .ok (.aload_n 0, 1) := by decide +kernel
theorem dMH_readHidden_64 : decode c_MH_readHidden 64 = .ok (.getfield 110, 3) := by decide +kernel
theorem dMH_readHidden_67 : decode c_MH_readHidden 67 = .ok (.if_icmp .ge 18, 3) := by decide +kernel
theorem dMH_readHidden_70 : decode c_MH_readHidden 70 = .ok (.aload_n 0, 1) := by decide +kernel
theorem dMH_readHidden_71 : decode c_MH_readHidden 71 = .ok (.getfield 24, 3) := by decide +kernel
theorem dMH_readHidden_74 : decode c_MH_readHidden 74 = .ok (.iload 4, 2) := by decide +kernel
theorem dMH_readHidden_76 : decode c_MH_readHidden 76 = .ok (.aaload, 1) := by decide +kernel
theorem dMH_readHidden_77 : decode c_MH_readHidden 77 = .ok (.iload 5, 2) := by decide +kernel
theorem dMH_readHidden_79 : decode c_MH_readHidden 79 = .ok (.iload 6, 2) := by decide +kernel
theorem dMH_readHidden_81 : decode c_MH_readHidden 81 = .ok (.iastore, 1) := by decide +kernel
theorem dMH_readHidden_82 : decode c_MH_readHidden 82 = .ok (.goto 20, 3) := by decide +kernel
theorem dMH_readHidden_85 : decode c_MH_readHidden 85 = .ok (.aload_n 0, 1) := by decide +kernel
theorem dMH_readHidden_86 : decode c_MH_readHidden 86 = .ok (.getfield 27, 3) := by decide +kernel
theorem dMH_readHidden_89 : decode c_MH_readHidden 89 = .ok (.iload 4, 2) := by decide +kernel
theorem dMH_readHidden_91 : decode c_MH_readHidden 91 = .ok (.aload_n 0, 1) := by decide +kernel
theorem dMH_readHidden_92 : decode c_MH_readHidden 92 = .ok (.getfield 110, 3) := by decide +kernel
theorem dMH_readHidden_95 : decode c_MH_readHidden 95 = .ok (.isub, 1) := by decide +kernel
theorem dMH_readHidden_96 : decode c_MH_readHidden 96 = .ok (.aaload, 1) := by decide +kernel
theorem dMH_readHidden_97 : decode c_MH_readHidden 97 = .ok (.iload 5, 2) := by decide +kernel
theorem dMH_readHidden_99 : decode c_MH_readHidden 99 = .ok (.iload 6, 2) := by decide +kernel
theorem dMH_readHidden_101 : decode c_MH_readHidden 101 = .ok (.iastore, 1) := by decide +kernel
theorem dMH_readHidden_102 : decode c_MH_readHidden 102 = .ok (.iload_n 3, 1) := by decide +kernel
theorem dMH_readHidden_103 : decode c_MH_readHidden 103 = .ok (.iload_n 2, 1) := by decide +kernel
theorem dMH_readHidden_104 : decode c_MH_readHidden 104 = .ok (.iadd, 1) := by decide +kernel
theorem dMH_readHidden_105 : decode c_MH_readHidden 105 = .ok (.istore_n 3, 1) := by decide +kernel
theorem dMH_readHidden_106 : decode c_MH_readHidden 106 = .ok (.iinc 5 1, 3) := by decide +kernel
theorem dMH_readHidden_109 : decode c_MH_readHidden 109 = .ok (.goto (-71), 3) := by decide +kernel
theorem dMH_readHidden_112 : decode c_MH_readHidden 112 = .ok (.iinc 4 1, 3) := by decide +kernel
theorem dMH_readHidden_115 : decode c_MH_readHidden 115 = .ok (.goto (-94), 3) := by decide +kernel
theorem dMH_readHidden_118 : decode c_MH_readHidden 118 = .ok (.iconst 0, 1) := by decide +kernel
theorem dMH_readHidden_119 : decode c_MH_readHidden 119 = .ok (.istore 4, 2) := by decide +kernel
theorem dMH_readHidden_121 : decode c_MH_readHidden 121 = .ok (.iload 4, 2) := by decide +kernel
theorem dMH_readHidden_123 : decode c_MH_readHidden 123 = .ok (.aload_n 0, 1) := by decide +kernel
theorem dMH_readHidden_124 : decode c_MH_readHidden 124 = .ok (.getfield 107, 3) := by decide +kernel
theorem dMH_readHidden_127 : decode c_MH_readHidden 127 = .ok (.if_icmp .ge 52, 3) := by decide +kernel
theorem dMH_readHidden_130 : decode c_MH_readHidden 130 = .ok (.iconst 0, 1) := by decide +kernel
theorem dMH_readHidden_131 : decode c_MH_readHidden 131 = .ok (.istore 5, 2) := by decide +kernel
theorem dMH_readHidden_133 : decode c_MH_readHidden 133 = .ok (.iload 5, 2) := by decide +kernel
theorem dMH_readHidden_135 : decode c_MH_readHidden 135 = .ok (.sipush 256, 3) := by decide +kernel
theorem dMH_readHidden_138 : decode c_MH_readHidden 138 = .ok (.if_icmp .ge 35, 3) := by decide +kernel
theorem dMH_readHidden_141 : decode c_MH_readHidden 141 = .ok (.aload_n 0, 1) := by decide +kernel
theorem dMH_readHidden_142 : decode c_MH_readHidden 142 = .ok (.getfield 30, 3) := by decide +kernel
theorem dMH_readHidden_145 : decode c_MH_readHidden 145 = .ok (.iload 4, 2) := by decide +kernel
theorem dMH_readHidden_147 : decode c_MH_readHidden 147 = .ok (.aaload, 1) := by decide +kernel
theorem dMH_readHidden_148 : decode c_MH_readHidden 148 = .ok (.iload 5, 2) := by decide +kernel
theorem dMH_readHidden_150 : decode c_MH_readHidden 150 = .ok (.sipush 4096, 3) := by decide +kernel
theorem dMH_readHidden_153 : decode c_MH_readHidden 153 = .ok (.aload_n 1, 1) := by decide +kernel
theorem dMH_readHidden_154 : decode c_MH_readHidden 154 = .ok (.iload_n 3, 1) := by decide +kernel
theorem dMH_readHidden_155 : decode c_MH_readHidden 155 = .ok (.bipush 13, 2) := by decide +kernel
theorem dMH_readHidden_157 : decode c_MH_readHidden 157 = .ok (.invokestatic 197, 3) := by decide +kernel
theorem dMH_readHidden_160 : decode c_MH_readHidden 160 = .ok (.invokestatic 201, 3) := by decide +kernel
theorem dMH_readHidden_163 : decode c_MH_readHidden 163 = .ok (.iastore, 1) := by decide +kernel
theorem dMH_readHidden_164 : decode c_MH_readHidden 164 = .ok (.iinc 3 13, 3) := by decide +kernel
theorem dMH_readHidden_167 : decode c_MH_readHidden 167 = .ok (.iinc 5 1, 3) := by decide +kernel
theorem dMH_readHidden_170 : decode c_MH_readHidden 170 = .ok (.goto (-37), 3) := by decide +kernel
theorem dMH_readHidden_173 : decode c_MH_readHidden 173 = .ok (.iinc 4 1, 3) := by decide +kernel
theorem dMH_readHidden_176 : decode c_MH_readHidden 176 = .ok (.goto (-55), 3) := by decide +kernel
theorem dMH_readHidden_179 : decode c_MH_readHidden 179 = .ok (.return_, 1) := by decide +kernel
abbrev c_MH_message : ByteArray := prog_13_method_16_code
abbrev y_MH_message : MethodName := ⟨"LatticeKeysModel$Hands", "message", "([BI[BIII)V"⟩
abbrev w_MH_message : List Cond := Cond.code y_MH_message c_MH_message 7 none :: WG
theorem dMH_message_0 : decode c_MH_message 0 = .ok (.aload_n 0, 1) := by decide +kernel
theorem dMH_message_1 : decode c_MH_message 1 = .ok (.getfield 87, 3) := by decide +kernel
theorem dMH_message_4 : decode c_MH_message 4 = .ok (.invokevirtual 156, 3) := by decide +kernel
theorem dMH_message_7 : decode c_MH_message 7 = .ok (.aload_n 0, 1) := by decide +kernel
theorem dMH_message_8 : decode c_MH_message 8 = .ok (.getfield 87, 3) := by decide +kernel
theorem dMH_message_11 : decode c_MH_message 11 = .ok (.aload_n 1, 1) := by decide +kernel
theorem dMH_message_12 : decode c_MH_message 12 = .ok (.iload_n 2, 1) := by decide +kernel
theorem dMH_message_13 : decode c_MH_message 13 = .ok (.bipush 64, 2) := by decide +kernel
theorem dMH_message_15 : decode c_MH_message 15 = .ok (.invokevirtual 142, 3) := by decide +kernel
theorem dMH_message_18 : decode c_MH_message 18 = .ok (.aload_n 0, 1) := by decide +kernel
theorem dMH_message_19 : decode c_MH_message 19 = .ok (.getfield 87, 3) := by decide +kernel
theorem dMH_message_22 : decode c_MH_message 22 = .ok (.iconst 0, 1) := by decide +kernel
theorem dMH_message_23 : decode c_MH_message 23 = .ok (.invokevirtual 146, 3) := by decide +kernel
theorem dMH_message_26 : decode c_MH_message 26 = .ok (.aload_n 0, 1) := by decide +kernel
theorem dMH_message_27 : decode c_MH_message 27 = .ok (.getfield 87, 3) := by decide +kernel
theorem dMH_message_30 : decode c_MH_message 30 = .ok (.iload 5, 2) := by decide +kernel
theorem dMH_message_32 : decode c_MH_message 32 = .ok (.invokevirtual 146, 3) := by decide +kernel
theorem dMH_message_35 : decode c_MH_message 35 = .ok (.aload_n 0, 1) := by decide +kernel
theorem dMH_message_36 : decode c_MH_message 36 = .ok (.getfield 87, 3) := by decide +kernel
theorem dMH_message_39 : decode c_MH_message 39 = .ok (.aload_n 3, 1) := by decide +kernel
theorem dMH_message_40 : decode c_MH_message 40 = .ok (.iload 4, 2) := by decide +kernel
theorem dMH_message_42 : decode c_MH_message 42 = .ok (.iload 6, 2) := by decide +kernel
theorem dMH_message_44 : decode c_MH_message 44 = .ok (.iload 4, 2) := by decide +kernel
theorem dMH_message_46 : decode c_MH_message 46 = .ok (.isub, 1) := by decide +kernel
theorem dMH_message_47 : decode c_MH_message 47 = .ok (.invokevirtual 142, 3) := by decide +kernel
theorem dMH_message_50 : decode c_MH_message 50 = .ok (.aload_n 0, 1) := by decide +kernel
theorem dMH_message_51 : decode c_MH_message 51 = .ok (.getfield 87, 3) := by decide +kernel
theorem dMH_message_54 : decode c_MH_message 54 = .ok (.invokevirtual 149, 3) := by decide +kernel
theorem dMH_message_57 : decode c_MH_message 57 = .ok (.aload_n 0, 1) := by decide +kernel
theorem dMH_message_58 : decode c_MH_message 58 = .ok (.getfield 87, 3) := by decide +kernel
theorem dMH_message_61 : decode c_MH_message 61 = .ok (.aload_n 0, 1) := by decide +kernel
theorem dMH_message_62 : decode c_MH_message 62 = .ok (.getfield 69, 3) := by decide +kernel
theorem dMH_message_65 : decode c_MH_message 65 = .ok (.iconst 0, 1) := by decide +kernel
theorem dMH_message_66 : decode c_MH_message 66 = .ok (.bipush 64, 2) := by decide +kernel
theorem dMH_message_68 : decode c_MH_message 68 = .ok (.invokevirtual 169, 3) := by decide +kernel
theorem dMH_message_71 : decode c_MH_message 71 = .ok (.return_, 1) := by decide +kernel
abbrev c_MH_mask : ByteArray := prog_13_method_17_code
abbrev y_MH_mask : MethodName := ⟨"LatticeKeysModel$Hands", "mask", "(I)V"⟩
abbrev w_MH_mask : List Cond := Cond.code y_MH_mask c_MH_mask 5 none :: WG
theorem dMH_mask_0 : decode c_MH_mask 0 = .ok (.aload_n 0, 1) := by decide +kernel
theorem dMH_mask_1 : decode c_MH_mask 1 = .ok (.getfield 103, 3) := by decide +kernel
theorem dMH_mask_4 : decode c_MH_mask 4 = .ok (.ifCond .ne 8, 3) := by decide +kernel
theorem dMH_mask_7 : decode c_MH_mask 7 = .ok (.bipush 18, 2) := by decide +kernel
theorem dMH_mask_9 : decode c_MH_mask 9 = .ok (.goto 5, 3) := by decide +kernel
theorem dMH_mask_12 : decode c_MH_mask 12 = .ok (.bipush 20, 2) := by decide +kernel
theorem dMH_mask_14 : decode c_MH_mask 14 = .ok (.istore_n 2, 1) := by decide +kernel
theorem dMH_mask_15 : decode c_MH_mask 15 = .ok (.iconst 0, 1) := by decide +kernel
theorem dMH_mask_16 : decode c_MH_mask 16 = .ok (.istore_n 3, 1) := by decide +kernel
theorem dMH_mask_17 : decode c_MH_mask 17 = .ok (.iload_n 3, 1) := by decide +kernel
theorem dMH_mask_18 : decode c_MH_mask 18 = .ok (.aload_n 0, 1) := by decide +kernel
theorem dMH_mask_19 : decode c_MH_mask 19 = .ok (.getfield 110, 3) := by decide +kernel
theorem dMH_mask_22 : decode c_MH_mask 22 = .ok (.if_icmp .ge 121, 3) := by decide +kernel
theorem dMH_mask_25 : decode c_MH_mask 25 = .ok (.aload_n 0, 1) := by decide +kernel
theorem dMH_mask_26 : decode c_MH_mask 26 = .ok (.getfield 87, 3) := by decide +kernel
theorem dMH_mask_29 : decode c_MH_mask 29 = .ok (.invokevirtual 156, 3) := by decide +kernel
theorem dMH_mask_32 : decode c_MH_mask 32 = .ok (.aload_n 0, 1) := by decide +kernel
theorem dMH_mask_33 : decode c_MH_mask 33 = .ok (.getfield 87, 3) := by decide +kernel
theorem dMH_mask_36 : decode c_MH_mask 36 = .ok (.aload_n 0, 1) := by decide +kernel
theorem dMH_mask_37 : decode c_MH_mask 37 = .ok (.getfield 72, 3) := by decide +kernel
theorem dMH_mask_40 : decode c_MH_mask 40 = .ok (.iconst 0, 1) := by decide +kernel
theorem dMH_mask_41 : decode c_MH_mask 41 = .ok (.bipush 64, 2) := by decide +kernel
theorem dMH_mask_43 : decode c_MH_mask 43 = .ok (.invokevirtual 142, 3) := by decide +kernel
theorem dMH_mask_46 : decode c_MH_mask 46 = .ok (.aload_n 0, 1) := by decide +kernel
theorem dMH_mask_47 : decode c_MH_mask 47 = .ok (.getfield 87, 3) := by decide +kernel
theorem dMH_mask_50 : decode c_MH_mask 50 = .ok (.iload_n 1, 1) := by decide +kernel
theorem dMH_mask_51 : decode c_MH_mask 51 = .ok (.iload_n 3, 1) := by decide +kernel
theorem dMH_mask_52 : decode c_MH_mask 52 = .ok (.iadd, 1) := by decide +kernel
theorem dMH_mask_53 : decode c_MH_mask 53 = .ok (.invokevirtual 146, 3) := by decide +kernel
theorem dMH_mask_56 : decode c_MH_mask 56 = .ok (.aload_n 0, 1) := by decide +kernel
theorem dMH_mask_57 : decode c_MH_mask 57 = .ok (.getfield 87, 3) := by decide +kernel
theorem dMH_mask_60 : decode c_MH_mask 60 = .ok (.iload_n 1, 1) := by decide +kernel
theorem dMH_mask_61 : decode c_MH_mask 61 = .ok (.iload_n 3, 1) := by decide +kernel
theorem dMH_mask_62 : decode c_MH_mask 62 = .ok (.iadd, 1) := by decide +kernel
theorem dMH_mask_63 : decode c_MH_mask 63 = .ok (.bipush 8, 2) := by decide +kernel
theorem dMH_mask_65 : decode c_MH_mask 65 = .ok (.ishr, 1) := by decide +kernel
theorem dMH_mask_66 : decode c_MH_mask 66 = .ok (.invokevirtual 146, 3) := by decide +kernel
theorem dMH_mask_69 : decode c_MH_mask 69 = .ok (.aload_n 0, 1) := by decide +kernel
theorem dMH_mask_70 : decode c_MH_mask 70 = .ok (.getfield 87, 3) := by decide +kernel
theorem dMH_mask_73 : decode c_MH_mask 73 = .ok (.invokevirtual 149, 3) := by decide +kernel
theorem dMH_mask_76 : decode c_MH_mask 76 = .ok (.aload_n 0, 1) := by decide +kernel
theorem dMH_mask_77 : decode c_MH_mask 77 = .ok (.getfield 87, 3) := by decide +kernel
theorem dMH_mask_80 : decode c_MH_mask 80 = .ok (.aload_n 0, 1) := by decide +kernel
theorem dMH_mask_81 : decode c_MH_mask 81 = .ok (.getfield 75, 3) := by decide +kernel
theorem dMH_mask_84 : decode c_MH_mask 84 = .ok (.iconst 0, 1) := by decide +kernel
theorem dMH_mask_85 : decode c_MH_mask 85 = .ok (.bipush 32, 2) := by decide +kernel
theorem dMH_mask_87 : decode c_MH_mask 87 = .ok (.iload_n 2, 1) := by decide +kernel
theorem dMH_mask_88 : decode c_MH_mask 88 = .ok (.imul, 1) := by decide +kernel
theorem dMH_mask_89 : decode c_MH_mask 89 = .ok (.invokevirtual 169, 3) := by decide +kernel
theorem dMH_mask_92 : decode c_MH_mask 92 = .ok (.iconst 0, 1) := by decide +kernel
theorem dMH_mask_93 : decode c_MH_mask 93 = .ok (.istore 4, 2) := by decide +kernel
theorem dMH_mask_95 : decode c_MH_mask 95 = .ok (.iload 4, 2) := by decide +kernel
theorem dMH_mask_97 : decode c_MH_mask 97 = .ok (.sipush 256, 3) := by decide +kernel
theorem dMH_mask_100 : decode c_MH_mask 100 = .ok (.if_icmp .ge 37, 3) := by decide +kernel
theorem dMH_mask_103 : decode c_MH_mask 103 = .ok (.aload_n 0, 1) := by decide +kernel
theorem dMH_mask_104 : decode c_MH_mask 104 = .ok (.getfield 36, 3) := by decide +kernel
theorem dMH_mask_107 : decode c_MH_mask 107 = .ok (.iload_n 3, 1) := by decide +kernel
theorem dMH_mask_108 : decode c_MH_mask 108 = .ok (.aaload, 1) := by decide +kernel
theorem dMH_mask_109 : decode c_MH_mask 109 = .ok (.iload 4, 2) := by decide +kernel
theorem dMH_mask_111 : decode c_MH_mask 111 = .ok (.aload_n 0, 1) := by decide +kernel
theorem dMH_mask_112 : decode c_MH_mask 112 = .ok (.getfield 118, 3) := by decide +kernel
theorem dMH_mask_115 : decode c_MH_mask 115 = .ok (.aload_n 0, 1) := by decide +kernel
theorem dMH_mask_116 : decode c_MH_mask 116 = .ok (.getfield 75, 3) := by decide +kernel
theorem dMH_mask_119 : decode c_MH_mask 119 = .ok (.iload_n 2, 1) := by decide +kernel
theorem dMH_mask_120 : decode c_MH_mask 120 = .ok (.iload 4, 2) := by decide +kernel
theorem dMH_mask_122 : decode c_MH_mask 122 = .ok (.imul, 1) := by decide +kernel
theorem dMH_mask_123 : decode c_MH_mask 123 = .ok (.iload_n 2, 1) := by decide +kernel
theorem dMH_mask_124 : decode c_MH_mask 124 = .ok (.invokestatic 197, 3) := by decide +kernel
theorem dMH_mask_127 : decode c_MH_mask 127 = .ok (.invokestatic 201, 3) := by decide +kernel
theorem dMH_mask_130 : decode c_MH_mask 130 = .ok (.iastore, 1) := by decide +kernel
theorem dMH_mask_131 : decode c_MH_mask 131 = .ok (.iinc 4 1, 3) := by decide +kernel
theorem dMH_mask_134 : decode c_MH_mask 134 = .ok (.goto (-39), 3) := by decide +kernel
theorem dMH_mask_137 : decode c_MH_mask 137 = .ok (.iinc 3 1, 3) := by decide +kernel
theorem dMH_mask_140 : decode c_MH_mask 140 = .ok (.goto (-123), 3) := by decide +kernel
theorem dMH_mask_143 : decode c_MH_mask 143 = .ok (.return_, 1) := by decide +kernel
abbrev c_MH_marked : ByteArray := prog_13_method_18_code
abbrev y_MH_marked : MethodName := ⟨"LatticeKeysModel$Hands", "marked", "(Z[B)V"⟩
abbrev w_MH_marked : List Cond := Cond.code y_MH_marked c_MH_marked 6 none :: WG
theorem dMH_marked_0 : decode c_MH_marked 0 = .ok (.aload_n 0, 1) := by decide +kernel
theorem dMH_marked_1 : decode c_MH_marked 1 = .ok (.getfield 103, 3) := by decide +kernel
theorem dMH_marked_4 : decode c_MH_marked 4 = .ok (.ifCond .ne 8, 3) := by decide +kernel
theorem dMH_marked_7 : decode c_MH_marked 7 = .ok (.bipush 6, 2) := by decide +kernel
theorem dMH_marked_9 : decode c_MH_marked 9 = .ok (.goto 4, 3) := by decide +kernel
theorem dMH_marked_12 : decode c_MH_marked 12 = .ok (.iconst 4, 1) := by decide +kernel
theorem dMH_marked_13 : decode c_MH_marked 13 = .ok (.istore_n 3, 1) := by decide +kernel
theorem dMH_marked_14 : decode c_MH_marked 14 = .ok (.aload_n 0, 1) := by decide +kernel
theorem dMH_marked_15 : decode c_MH_marked 15 = .ok (.getfield 87, 3) := by decide +kernel
theorem dMH_marked_18 : decode c_MH_marked 18 = .ok (.invokevirtual 156, 3) := by decide +kernel
theorem dMH_marked_21 : decode c_MH_marked 21 = .ok (.aload_n 0, 1) := by decide +kernel
theorem dMH_marked_22 : decode c_MH_marked 22 = .ok (.getfield 87, 3) := by decide +kernel
theorem dMH_marked_25 : decode c_MH_marked 25 = .ok (.aload_n 0, 1) := by decide +kernel
theorem dMH_marked_26 : decode c_MH_marked 26 = .ok (.getfield 69, 3) := by decide +kernel
theorem dMH_marked_29 : decode c_MH_marked 29 = .ok (.iconst 0, 1) := by decide +kernel
theorem dMH_marked_30 : decode c_MH_marked 30 = .ok (.bipush 64, 2) := by decide +kernel
theorem dMH_marked_32 : decode c_MH_marked 32 = .ok (.invokevirtual 142, 3) := by decide +kernel
theorem dMH_marked_35 : decode c_MH_marked 35 = .ok (.iconst 0, 1) := by decide +kernel
theorem dMH_marked_36 : decode c_MH_marked 36 = .ok (.istore 4, 2) := by decide +kernel
theorem dMH_marked_38 : decode c_MH_marked 38 = .ok (.iload 4, 2) := by decide +kernel
theorem dMH_marked_40 : decode c_MH_marked 40 = .ok (.aload_n 0, 1) := by decide +kernel
theorem dMH_marked_41 : decode c_MH_marked 41 = .ok (.getfield 107, 3) := by decide +kernel
theorem dMH_marked_44 : decode c_MH_marked 44 = .ok (.if_icmp .ge 99, 3) := by decide +kernel
theorem dMH_marked_47 : decode c_MH_marked 47 = .ok (.iconst 0, 1) := by decide +kernel
theorem dMH_marked_48 : decode c_MH_marked 48 = .ok (.istore 5, 2) := by decide +kernel
theorem dMH_marked_50 : decode c_MH_marked 50 = .ok (.iload 5, 2) := by decide +kernel
theorem dMH_marked_52 : decode c_MH_marked 52 = .ok (.sipush 256, 3) := by decide +kernel
theorem dMH_marked_55 : decode c_MH_marked 55 = .ok (.if_icmp .ge 66, 3) := by decide +kernel
theorem dMH_marked_58 : decode c_MH_marked 58 = .ok (.aload_n 0, 1) := by decide +kernel
theorem dMH_marked_59 : decode c_MH_marked 59 = .ok (.getfield 75, 3) := by decide +kernel
theorem dMH_marked_62 : decode c_MH_marked 62 = .ok (.iload_n 3, 1) := by decide +kernel
theorem dMH_marked_63 : decode c_MH_marked 63 = .ok (.iload 5, 2) := by decide +kernel
theorem dMH_marked_65 : decode c_MH_marked 65 = .ok (.imul, 1) := by decide +kernel
theorem dMH_marked_66 : decode c_MH_marked 66 = .ok (.iload_n 3, 1) := by decide +kernel
theorem dMH_marked_67 : decode c_MH_marked 67 = .ok (.iload_n 1, 1) := by decide +kernel
theorem dMH_marked_68 : decode c_MH_marked 68 = .ok (.ifCond .eq 30, 3) := by decide +kernel
theorem dMH_marked_71 : decode c_MH_marked 71 = .ok (.aload_n 0, 1) := by decide +kernel
theorem dMH_marked_72 : decode c_MH_marked 72 = .ok (.aload_n 0, 1) := by decide +kernel
theorem dMH_marked_73 : decode c_MH_marked 73 = .ok (.getfield 48, 3) := by decide +kernel
theorem dMH_marked_76 : decode c_MH_marked 76 = .ok (.iload 4, 2) := by decide +kernel
theorem dMH_marked_78 : decode c_MH_marked 78 = .ok (.aaload, 1) := by decide +kernel
theorem dMH_marked_79 : decode c_MH_marked 79 = .ok (.iload 5, 2) := by decide +kernel
theorem dMH_marked_81 : decode c_MH_marked 81 = .ok (.iaload, 1) := by decide +kernel
theorem dMH_marked_82 : decode c_MH_marked 82 = .ok (.aload_n 0, 1) := by decide +kernel
theorem dMH_marked_83 : decode c_MH_marked 83 = .ok (.getfield 45, 3) := by decide +kernel
theorem dMH_marked_86 : decode c_MH_marked 86 = .ok (.iload 4, 2) := by decide +kernel
theorem dMH_marked_88 : decode c_MH_marked 88 = .ok (.aaload, 1) := by decide +kernel
theorem dMH_marked_89 : decode c_MH_marked 89 = .ok (.iload 5, 2) := by decide +kernel
theorem dMH_marked_91 : decode c_MH_marked 91 = .ok (.iaload, 1) := by decide +kernel
theorem dMH_marked_92 : decode c_MH_marked 92 = .ok (.invokevirtual 205, 3) := by decide +kernel
theorem dMH_marked_95 : decode c_MH_marked 95 = .ok (.goto 17, 3) := by decide +kernel
theorem dMH_marked_98 : decode c_MH_marked 98 = .ok (.aload_n 0, 1) := by decide +kernel
theorem dMH_marked_99 : decode c_MH_marked 99 = .ok (.aload_n 0, 1) := by decide +kernel
theorem dMH_marked_100 : decode c_MH_marked 100 = .ok (.getfield 45, 3) := by decide +kernel
theorem dMH_marked_103 : decode c_MH_marked 103 = .ok (.iload 4, 2) := by decide +kernel
theorem dMH_marked_105 : decode c_MH_marked 105 = .ok (.aaload, 1) := by decide +kernel
theorem dMH_marked_106 : decode c_MH_marked 106 = .ok (.iload 5, 2) := by decide +kernel
theorem dMH_marked_108 : decode c_MH_marked 108 = .ok (.iaload, 1) := by decide +kernel
theorem dMH_marked_109 : decode c_MH_marked 109 = .ok (.invokevirtual 208, 3) := by decide +kernel
theorem dMH_marked_112 : decode c_MH_marked 112 = .ok (.invokestatic 187, 3) := by decide +kernel
theorem dMH_marked_115 : decode c_MH_marked 115 = .ok (.iinc 5 1, 3) := by decide +kernel
theorem dMH_marked_118 : decode c_MH_marked 118 = .ok (.goto (-68), 3) := by decide +kernel
theorem dMH_marked_121 : decode c_MH_marked 121 = .ok (.aload_n 0, 1) := by decide +kernel
theorem dMH_marked_122 : decode c_MH_marked 122 = .ok (.getfield 87, 3) := by decide +kernel
theorem dMH_marked_125 : decode c_MH_marked 125 = .ok (.aload_n 0, 1) := by decide +kernel
theorem dMH_marked_126 : decode c_MH_marked 126 = .ok (.getfield 75, 3) := by decide +kernel
theorem dMH_marked_129 : decode c_MH_marked 129 = .ok (.iconst 0, 1) := by decide +kernel
theorem dMH_marked_130 : decode c_MH_marked 130 = .ok (.bipush 32, 2) := by decide +kernel
theorem dMH_marked_132 : decode c_MH_marked 132 = .ok (.iload_n 3, 1) := by decide +kernel
theorem dMH_marked_133 : decode c_MH_marked 133 = .ok (.imul, 1) := by decide +kernel
theorem dMH_marked_134 : decode c_MH_marked 134 = .ok (.invokevirtual 142, 3) := by decide +kernel
theorem dMH_marked_137 : decode c_MH_marked 137 = .ok (.iinc 4 1, 3) := by decide +kernel
theorem dMH_marked_140 : decode c_MH_marked 140 = .ok (.goto (-102), 3) := by decide +kernel
theorem dMH_marked_143 : decode c_MH_marked 143 = .ok (.aload_n 0, 1) := by decide +kernel
theorem dMH_marked_144 : decode c_MH_marked 144 = .ok (.getfield 87, 3) := by decide +kernel
theorem dMH_marked_147 : decode c_MH_marked 147 = .ok (.invokevirtual 149, 3) := by decide +kernel
theorem dMH_marked_150 : decode c_MH_marked 150 = .ok (.aload_n 0, 1) := by decide +kernel
theorem dMH_marked_151 : decode c_MH_marked 151 = .ok (.getfield 87, 3) := by decide +kernel
theorem dMH_marked_154 : decode c_MH_marked 154 = .ok (.aload_n 2, 1) := by decide +kernel
theorem dMH_marked_155 : decode c_MH_marked 155 = .ok (.iconst 0, 1) := by decide +kernel
theorem dMH_marked_156 : decode c_MH_marked 156 = .ok (.aload_n 0, 1) := by decide +kernel
theorem dMH_marked_157 : decode c_MH_marked 157 = .ok (.getfield 132, 3) := by decide +kernel
theorem dMH_marked_160 : decode c_MH_marked 160 = .ok (.invokevirtual 169, 3) := by decide +kernel
theorem dMH_marked_163 : decode c_MH_marked 163 = .ok (.return_, 1) := by decide +kernel
abbrev c_MH_fits : ByteArray := prog_13_method_21_code
abbrev y_MH_fits : MethodName := ⟨"LatticeKeysModel$Hands", "fits", "()Z"⟩
abbrev w_MH_fits : List Cond := Cond.code y_MH_fits c_MH_fits 4 (some .boolean) :: WG
theorem dMH_fits_0 : decode c_MH_fits 0 = .ok (.iconst 0, 1) := by decide +kernel
theorem dMH_fits_1 : decode c_MH_fits 1 = .ok (.istore_n 1, 1) := by decide +kernel
theorem dMH_fits_2 : decode c_MH_fits 2 = .ok (.iload_n 1, 1) := by decide +kernel
theorem dMH_fits_3 : decode c_MH_fits 3 = .ok (.aload_n 0, 1) := by decide +kernel
theorem dMH_fits_4 : decode c_MH_fits 4 = .ok (.getfield 110, 3) := by decide +kernel
theorem dMH_fits_7 : decode c_MH_fits 7 = .ok (.if_icmp .ge 89, 3) := by decide +kernel
theorem dMH_fits_10 : decode c_MH_fits 10 = .ok (.aload_n 0, 1) := by decide +kernel
theorem dMH_fits_11 : decode c_MH_fits 11 = .ok (.aload_n 0, 1) := by decide +kernel
theorem dMH_fits_12 : decode c_MH_fits 12 = .ok (.getfield 24, 3) := by decide +kernel
theorem dMH_fits_15 : decode c_MH_fits 15 = .ok (.iload_n 1, 1) := by decide +kernel
theorem dMH_fits_16 : decode c_MH_fits 16 = .ok (.aaload, 1) := by decide +kernel
theorem dMH_fits_17 : decode c_MH_fits 17 = .ok (.aload_n 0, 1) := by decide +kernel
theorem dMH_fits_18 : decode c_MH_fits 18 = .ok (.getfield 55, 3) := by decide +kernel
theorem dMH_fits_21 : decode c_MH_fits 21 = .ok (.invokevirtual 214, 3) := by decide +kernel
theorem dMH_fits_24 : decode c_MH_fits 24 = .ok (.iconst 0, 1) := by decide +kernel
theorem dMH_fits_25 : decode c_MH_fits 25 = .ok (.istore_n 2, 1) := by decide +kernel
theorem dMH_fits_26 : decode c_MH_fits 26 = .ok (.iload_n 2, 1) := by decide +kernel
theorem dMH_fits_27 : decode c_MH_fits 27 = .ok (.sipush 256, 3) := by decide +kernel
theorem dMH_fits_30 : decode c_MH_fits 30 = .ok (.if_icmp .ge 60, 3) := by decide +kernel
theorem dMH_fits_33 : decode c_MH_fits 33 = .ok (.aload_n 0, 1) := by decide +kernel
theorem dMH_fits_34 : decode c_MH_fits 34 = .ok (.getfield 39, 3) := by decide +kernel
theorem dMH_fits_37 : decode c_MH_fits 37 = .ok (.iload_n 1, 1) := by decide +kernel
theorem dMH_fits_38 : decode c_MH_fits 38 = .ok (.aaload, 1) := by decide +kernel
theorem dMH_fits_39 : decode c_MH_fits 39 = .ok (.iload_n 2, 1) := by decide +kernel
theorem dMH_fits_40 : decode c_MH_fits 40 = .ok (.aload_n 0, 1) := by decide +kernel
theorem dMH_fits_41 : decode c_MH_fits 41 = .ok (.getfield 36, 3) := by decide +kernel
theorem dMH_fits_44 : decode c_MH_fits 44 = .ok (.iload_n 1, 1) := by decide +kernel
theorem dMH_fits_45 : decode c_MH_fits 45 = .ok (.aaload, 1) := by decide +kernel
theorem dMH_fits_46 : decode c_MH_fits 46 = .ok (.iload_n 2, 1) := by decide +kernel
theorem dMH_fits_47 : decode c_MH_fits 47 = .ok (.iaload, 1) := by decide +kernel
theorem dMH_fits_48 : decode c_MH_fits 48 = .ok (.aload_n 0, 1) := by decide +kernel
theorem dMH_fits_49 : decode c_MH_fits 49 = .ok (.getfield 55, 3) := by decide +kernel
theorem dMH_fits_52 : decode c_MH_fits 52 = .ok (.iload_n 2, 1) := by decide +kernel
theorem dMH_fits_53 : decode c_MH_fits 53 = .ok (.iaload, 1) := by decide +kernel
theorem dMH_fits_54 : decode c_MH_fits 54 = .ok (.iadd, 1) := by decide +kernel
theorem dMH_fits_55 : decode c_MH_fits 55 = .ok (.ldc 11, 2) := by decide +kernel
theorem dMH_fits_57 : decode c_MH_fits 57 = .ok (.irem, 1) := by decide +kernel
theorem dMH_fits_58 : decode c_MH_fits 58 = .ok (.iastore, 1) := by decide +kernel
theorem dMH_fits_59 : decode c_MH_fits 59 = .ok (.aload_n 0, 1) := by decide +kernel
theorem dMH_fits_60 : decode c_MH_fits 60 = .ok (.getfield 39, 3) := by decide +kernel
theorem dMH_fits_63 : decode c_MH_fits 63 = .ok (.iload_n 1, 1) := by decide +kernel
theorem dMH_fits_64 : decode c_MH_fits 64 = .ok (.aaload, 1) := by decide +kernel
theorem dMH_fits_65 : decode c_MH_fits 65 = .ok (.iload_n 2, 1) := by decide +kernel
theorem dMH_fits_66 : decode c_MH_fits 66 = .ok (.iaload, 1) := by decide +kernel
theorem dMH_fits_67 : decode c_MH_fits 67 = .ok (.invokestatic 218, 3) := by decide +kernel
theorem dMH_fits_70 : decode c_MH_fits 70 = .ok (.aload_n 0, 1) := by decide +kernel
theorem dMH_fits_71 : decode c_MH_fits 71 = .ok (.getfield 118, 3) := by decide +kernel
theorem dMH_fits_74 : decode c_MH_fits 74 = .ok (.aload_n 0, 1) := by decide +kernel
theorem dMH_fits_75 : decode c_MH_fits 75 = .ok (.getfield 129, 3) := by decide +kernel
theorem dMH_fits_78 : decode c_MH_fits 78 = .ok (.isub, 1) := by decide +kernel
theorem dMH_fits_79 : decode c_MH_fits 79 = .ok (.if_icmp .lt 5, 3) := by decide +kernel
theorem dMH_fits_82 : decode c_MH_fits 82 = .ok (.iconst 0, 1) := by decide +kernel
theorem dMH_fits_83 : decode c_MH_fits 83 = .ok (.ireturn, 1) := by decide +kernel
theorem dMH_fits_84 : decode c_MH_fits 84 = .ok (.iinc 2 1, 3) := by decide +kernel
theorem dMH_fits_87 : decode c_MH_fits 87 = .ok (.goto (-61), 3) := by decide +kernel
theorem dMH_fits_90 : decode c_MH_fits 90 = .ok (.iinc 1 1, 3) := by decide +kernel
theorem dMH_fits_93 : decode c_MH_fits 93 = .ok (.goto (-91), 3) := by decide +kernel
theorem dMH_fits_96 : decode c_MH_fits 96 = .ok (.iconst 0, 1) := by decide +kernel
theorem dMH_fits_97 : decode c_MH_fits 97 = .ok (.istore_n 1, 1) := by decide +kernel
theorem dMH_fits_98 : decode c_MH_fits 98 = .ok (.iload_n 1, 1) := by decide +kernel
theorem dMH_fits_99 : decode c_MH_fits 99 = .ok (.aload_n 0, 1) := by decide +kernel
theorem dMH_fits_100 : decode c_MH_fits 100 = .ok (.getfield 107, 3) := by decide +kernel
theorem dMH_fits_103 : decode c_MH_fits 103 = .ok (.if_icmp .ge 92, 3) := by decide +kernel
theorem dMH_fits_106 : decode c_MH_fits 106 = .ok (.aload_n 0, 1) := by decide +kernel
theorem dMH_fits_107 : decode c_MH_fits 107 = .ok (.aload_n 0, 1) := by decide +kernel
theorem dMH_fits_108 : decode c_MH_fits 108 = .ok (.getfield 27, 3) := by decide +kernel
theorem dMH_fits_111 : decode c_MH_fits 111 = .ok (.iload_n 1, 1) := by decide +kernel
theorem dMH_fits_112 : decode c_MH_fits 112 = .ok (.aaload, 1) := by decide +kernel
theorem dMH_fits_113 : decode c_MH_fits 113 = .ok (.aload_n 0, 1) := by decide +kernel
theorem dMH_fits_114 : decode c_MH_fits 114 = .ok (.getfield 55, 3) := by decide +kernel
theorem dMH_fits_117 : decode c_MH_fits 117 = .ok (.invokevirtual 214, 3) := by decide +kernel
theorem dMH_fits_120 : decode c_MH_fits 120 = .ok (.iconst 0, 1) := by decide +kernel
theorem dMH_fits_121 : decode c_MH_fits 121 = .ok (.istore_n 2, 1) := by decide +kernel
theorem dMH_fits_122 : decode c_MH_fits 122 = .ok (.iload_n 2, 1) := by decide +kernel
theorem dMH_fits_123 : decode c_MH_fits 123 = .ok (.sipush 256, 3) := by decide +kernel
theorem dMH_fits_126 : decode c_MH_fits 126 = .ok (.if_icmp .ge 63, 3) := by decide +kernel
theorem dMH_fits_129 : decode c_MH_fits 129 = .ok (.aload_n 0, 1) := by decide +kernel
theorem dMH_fits_130 : decode c_MH_fits 130 = .ok (.getfield 45, 3) := by decide +kernel
theorem dMH_fits_133 : decode c_MH_fits 133 = .ok (.iload_n 1, 1) := by decide +kernel
theorem dMH_fits_134 : decode c_MH_fits 134 = .ok (.aaload, 1) := by decide +kernel
theorem dMH_fits_135 : decode c_MH_fits 135 = .ok (.iload_n 2, 1) := by decide +kernel
theorem dMH_fits_136 : decode c_MH_fits 136 = .ok (.aload_n 0, 1) := by decide +kernel
theorem dMH_fits_137 : decode c_MH_fits 137 = .ok (.getfield 45, 3) := by decide +kernel
theorem dMH_fits_140 : decode c_MH_fits 140 = .ok (.iload_n 1, 1) := by decide +kernel
theorem dMH_fits_141 : decode c_MH_fits 141 = .ok (.aaload, 1) := by decide +kernel
theorem dMH_fits_142 : decode c_MH_fits 142 = .ok (.iload_n 2, 1) := by decide +kernel
theorem dMH_fits_143 : decode c_MH_fits 143 = .ok (.iaload, 1) := by decide +kernel
theorem dMH_fits_144 : decode c_MH_fits 144 = .ok (.aload_n 0, 1) := by decide +kernel
theorem dMH_fits_145 : decode c_MH_fits 145 = .ok (.getfield 55, 3) := by decide +kernel
theorem dMH_fits_148 : decode c_MH_fits 148 = .ok (.iload_n 2, 1) := by decide +kernel
theorem dMH_fits_149 : decode c_MH_fits 149 = .ok (.iaload, 1) := by decide +kernel
theorem dMH_fits_150 : decode c_MH_fits 150 = .ok (.invokestatic 201, 3) := by decide +kernel
theorem dMH_fits_153 : decode c_MH_fits 153 = .ok (.iastore, 1) := by decide +kernel
theorem dMH_fits_154 : decode c_MH_fits 154 = .ok (.aload_n 0, 1) := by decide +kernel
theorem dMH_fits_155 : decode c_MH_fits 155 = .ok (.aload_n 0, 1) := by decide +kernel
theorem dMH_fits_156 : decode c_MH_fits 156 = .ok (.getfield 45, 3) := by decide +kernel
theorem dMH_fits_159 : decode c_MH_fits 159 = .ok (.iload_n 1, 1) := by decide +kernel
theorem dMH_fits_160 : decode c_MH_fits 160 = .ok (.aaload, 1) := by decide +kernel
theorem dMH_fits_161 : decode c_MH_fits 161 = .ok (.iload_n 2, 1) := by decide +kernel
theorem dMH_fits_162 : decode c_MH_fits 162 = .ok (.iaload, 1) := by decide +kernel
theorem dMH_fits_163 : decode c_MH_fits 163 = .ok (.invokevirtual 211, 3) := by decide +kernel
theorem dMH_fits_166 : decode c_MH_fits 166 = .ok (.invokestatic 221, 3) := by decide +kernel
theorem dMH_fits_169 : decode c_MH_fits 169 = .ok (.aload_n 0, 1) := by decide +kernel
theorem dMH_fits_170 : decode c_MH_fits 170 = .ok (.getfield 123, 3) := by decide +kernel
theorem dMH_fits_173 : decode c_MH_fits 173 = .ok (.aload_n 0, 1) := by decide +kernel
theorem dMH_fits_174 : decode c_MH_fits 174 = .ok (.getfield 129, 3) := by decide +kernel
theorem dMH_fits_177 : decode c_MH_fits 177 = .ok (.isub, 1) := by decide +kernel
theorem dMH_fits_178 : decode c_MH_fits 178 = .ok (.if_icmp .lt 5, 3) := by decide +kernel
theorem dMH_fits_181 : decode c_MH_fits 181 = .ok (.iconst 0, 1) := by decide +kernel
theorem dMH_fits_182 : decode c_MH_fits 182 = .ok (.ireturn, 1) := by decide +kernel
theorem dMH_fits_183 : decode c_MH_fits 183 = .ok (.iinc 2 1, 3) := by decide +kernel
theorem dMH_fits_186 : decode c_MH_fits 186 = .ok (.goto (-64), 3) := by decide +kernel
theorem dMH_fits_189 : decode c_MH_fits 189 = .ok (.iinc 1 1, 3) := by decide +kernel
theorem dMH_fits_192 : decode c_MH_fits 192 = .ok (.goto (-94), 3) := by decide +kernel
theorem dMH_fits_195 : decode c_MH_fits 195 = .ok (.iconst 0, 1) := by decide +kernel
theorem dMH_fits_196 : decode c_MH_fits 196 = .ok (.istore_n 1, 1) := by decide +kernel
theorem dMH_fits_197 : decode c_MH_fits 197 = .ok (.iconst 0, 1) := by decide +kernel
theorem dMH_fits_198 : decode c_MH_fits 198 = .ok (.istore_n 2, 1) := by decide +kernel
theorem dMH_fits_199 : decode c_MH_fits 199 = .ok (.iload_n 2, 1) := by decide +kernel
theorem dMH_fits_200 : decode c_MH_fits 200 = .ok (.aload_n 0, 1) := by decide +kernel
theorem dMH_fits_201 : decode c_MH_fits 201 = .ok (.getfield 107, 3) := by decide +kernel
theorem dMH_fits_204 : decode c_MH_fits 204 = .ok (.if_icmp .ge 117, 3) := by decide +kernel
theorem dMH_fits_207 : decode c_MH_fits 207 = .ok (.aload_n 0, 1) := by decide +kernel
theorem dMH_fits_208 : decode c_MH_fits 208 = .ok (.aload_n 0, 1) := by decide +kernel
theorem dMH_fits_209 : decode c_MH_fits 209 = .ok (.getfield 30, 3) := by decide +kernel
theorem dMH_fits_212 : decode c_MH_fits 212 = .ok (.iload_n 2, 1) := by decide +kernel
theorem dMH_fits_213 : decode c_MH_fits 213 = .ok (.aaload, 1) := by decide +kernel
theorem dMH_fits_214 : decode c_MH_fits 214 = .ok (.aload_n 0, 1) := by decide +kernel
theorem dMH_fits_215 : decode c_MH_fits 215 = .ok (.getfield 55, 3) := by decide +kernel
theorem dMH_fits_218 : decode c_MH_fits 218 = .ok (.invokevirtual 214, 3) := by decide +kernel
theorem dMH_fits_221 : decode c_MH_fits 221 = .ok (.iconst 0, 1) := by decide +kernel
theorem dMH_fits_222 : decode c_MH_fits 222 = .ok (.istore_n 3, 1) := by decide +kernel
theorem dMH_fits_223 : decode c_MH_fits 223 = .ok (.iload_n 3, 1) := by decide +kernel
theorem dMH_fits_224 : decode c_MH_fits 224 = .ok (.sipush 256, 3) := by decide +kernel
theorem dMH_fits_227 : decode c_MH_fits 227 = .ok (.if_icmp .ge 88, 3) := by decide +kernel
theorem dMH_fits_230 : decode c_MH_fits 230 = .ok (.aload_n 0, 1) := by decide +kernel
theorem dMH_fits_231 : decode c_MH_fits 231 = .ok (.getfield 55, 3) := by decide +kernel
theorem dMH_fits_234 : decode c_MH_fits 234 = .ok (.iload_n 3, 1) := by decide +kernel
theorem dMH_fits_235 : decode c_MH_fits 235 = .ok (.iaload, 1) := by decide +kernel
theorem dMH_fits_236 : decode c_MH_fits 236 = .ok (.invokestatic 218, 3) := by decide +kernel
theorem dMH_fits_239 : decode c_MH_fits 239 = .ok (.aload_n 0, 1) := by decide +kernel
theorem dMH_fits_240 : decode c_MH_fits 240 = .ok (.getfield 123, 3) := by decide +kernel
theorem dMH_fits_243 : decode c_MH_fits 243 = .ok (.if_icmp .lt 5, 3) := by decide +kernel
theorem dMH_fits_246 : decode c_MH_fits 246 = .ok (.iconst 0, 1) := by decide +kernel
theorem dMH_fits_247 : decode c_MH_fits 247 = .ok (.ireturn, 1) := by decide +kernel
theorem dMH_fits_248 : decode c_MH_fits 248 = .ok (.aload_n 0, 1) := by decide +kernel
theorem dMH_fits_249 : decode c_MH_fits 249 = .ok (.getfield 48, 3) := by decide +kernel
theorem dMH_fits_252 : decode c_MH_fits 252 = .ok (.iload_n 2, 1) := by decide +kernel
theorem dMH_fits_253 : decode c_MH_fits 253 = .ok (.aaload, 1) := by decide +kernel
theorem dMH_fits_254 : decode c_MH_fits 254 = .ok (.iload_n 3, 1) := by decide +kernel
theorem dMH_fits_255 : decode c_MH_fits 255 = .ok (.aload_n 0, 1) := by decide +kernel
theorem dMH_fits_256 : decode c_MH_fits 256 = .ok (.aload_n 0, 1) := by decide +kernel
theorem dMH_fits_257 : decode c_MH_fits 257 = .ok (.getfield 45, 3) := by decide +kernel
theorem dMH_fits_260 : decode c_MH_fits 260 = .ok (.iload_n 2, 1) := by decide +kernel
theorem dMH_fits_261 : decode c_MH_fits 261 = .ok (.aaload, 1) := by decide +kernel
theorem dMH_fits_262 : decode c_MH_fits 262 = .ok (.iload_n 3, 1) := by decide +kernel
theorem dMH_fits_263 : decode c_MH_fits 263 = .ok (.iaload, 1) := by decide +kernel
theorem dMH_fits_264 : decode c_MH_fits 264 = .ok (.aload_n 0, 1) := by decide +kernel
theorem dMH_fits_265 : decode c_MH_fits 265 = .ok (.getfield 55, 3) := by decide +kernel
theorem dMH_fits_268 : decode c_MH_fits 268 = .ok (.iload_n 3, 1) := by decide +kernel
theorem dMH_fits_269 : decode c_MH_fits 269 = .ok (.iaload, 1) := by decide +kernel
theorem dMH_fits_270 : decode c_MH_fits 270 = .ok (.iadd, 1) := by decide +kernel
theorem dMH_fits_271 : decode c_MH_fits 271 = .ok (.ldc 11, 2) := by decide +kernel
theorem dMH_fits_273 : decode c_MH_fits 273 = .ok (.irem, 1) := by decide +kernel
theorem dMH_fits_274 : decode c_MH_fits 274 = .ok (.invokevirtual 208, 3) := by decide +kernel
theorem dMH_fits_277 : decode c_MH_fits 277 = .ok (.aload_n 0, 1) := by decide +kernel
theorem dMH_fits_278 : decode c_MH_fits 278 = .ok (.aload_n 0, 1) := by decide +kernel
theorem dMH_fits_279 : decode c_MH_fits 279 = .ok (.getfield 45, 3) := by decide +kernel
theorem dMH_fits_282 : decode c_MH_fits 282 = .ok (.iload_n 2, 1) := by decide +kernel
theorem dMH_fits_283 : decode c_MH_fits 283 = .ok (.aaload, 1) := by decide +kernel
theorem dMH_fits_284 : decode c_MH_fits 284 = .ok (.iload_n 3, 1) := by decide +kernel
theorem dMH_fits_285 : decode c_MH_fits 285 = .ok (.iaload, 1) := by decide +kernel
theorem dMH_fits_286 : decode c_MH_fits 286 = .ok (.invokevirtual 208, 3) := by decide +kernel
theorem dMH_fits_289 : decode c_MH_fits 289 = .ok (.if_icmp .ne 7, 3) := by decide +kernel
theorem dMH_fits_292 : decode c_MH_fits 292 = .ok (.iconst 0, 1) := by decide +kernel
theorem dMH_fits_293 : decode c_MH_fits 293 = .ok (.goto 4, 3) := by decide +kernel
theorem dMH_fits_296 : decode c_MH_fits 296 = .ok (.iconst 1, 1) := by decide +kernel
theorem dMH_fits_297 : decode c_MH_fits 297 = .ok (.iastore, 1) := by decide +kernel
theorem dMH_fits_298 : decode c_MH_fits 298 = .ok (.iload_n 1, 1) := by decide +kernel
theorem dMH_fits_299 : decode c_MH_fits 299 = .ok (.aload_n 0, 1) := by decide +kernel
theorem dMH_fits_300 : decode c_MH_fits 300 = .ok (.getfield 48, 3) := by decide +kernel
theorem dMH_fits_303 : decode c_MH_fits 303 = .ok (.iload_n 2, 1) := by decide +kernel
theorem dMH_fits_304 : decode c_MH_fits 304 = .ok (.aaload, 1) := by decide +kernel
theorem dMH_fits_305 : decode c_MH_fits 305 = .ok (.iload_n 3, 1) := by decide +kernel
theorem dMH_fits_306 : decode c_MH_fits 306 = .ok (.iaload, 1) := by decide +kernel
theorem dMH_fits_307 : decode c_MH_fits 307 = .ok (.iadd, 1) := by decide +kernel
theorem dMH_fits_308 : decode c_MH_fits 308 = .ok (.istore_n 1, 1) := by decide +kernel
theorem dMH_fits_309 : decode c_MH_fits 309 = .ok (.iinc 3 1, 3) := by decide +kernel
theorem dMH_fits_312 : decode c_MH_fits 312 = .ok (.goto (-89), 3) := by decide +kernel
theorem dMH_fits_315 : decode c_MH_fits 315 = .ok (.iinc 2 1, 3) := by decide +kernel
theorem dMH_fits_318 : decode c_MH_fits 318 = .ok (.goto (-119), 3) := by decide +kernel
theorem dMH_fits_321 : decode c_MH_fits 321 = .ok (.iload_n 1, 1) := by decide +kernel
theorem dMH_fits_322 : decode c_MH_fits 322 = .ok (.getstatic 100, 3) := by decide +kernel
theorem dMH_fits_325 : decode c_MH_fits 325 = .ok (.aload_n 0, 1) := by decide +kernel
theorem dMH_fits_326 : decode c_MH_fits 326 = .ok (.getfield 103, 3) := by decide +kernel
theorem dMH_fits_329 : decode c_MH_fits 329 = .ok (.iaload, 1) := by decide +kernel
theorem dMH_fits_330 : decode c_MH_fits 330 = .ok (.if_icmp .gt 7, 3) := by decide +kernel
theorem dMH_fits_333 : decode c_MH_fits 333 = .ok (.iconst 1, 1) := by decide +kernel
theorem dMH_fits_334 : decode c_MH_fits 334 = .ok (.goto 4, 3) := by decide +kernel
theorem dMH_fits_337 : decode c_MH_fits 337 = .ok (.iconst 0, 1) := by decide +kernel
theorem dMH_fits_338 : decode c_MH_fits 338 = .ok (.ireturn, 1) := by decide +kernel
def M_MH_readHidden_0 (k : Nat) : Prop := (292 ≤ k ∧ k < 299) ∨ (300 ≤ k ∧ k < 308) ∨ (309 ≤ k ∧ k < 317) ∨ (0 : Nat) = 1
noncomputable def F_MH_readHidden_0_L3 (psk : Nat) (i21 : Nat) (kk : Nat → Nat → Sto → Sto) : Nat → Nat → Nat → Sto → Sto
  | 0, i24, az24, s25 => kk (i21 + 1) az24 s25
  | n24 + 1, i24, az24, s25 => bnd ((s25.1 225 26).toNatClampNeg) fun z28 => bnd (F_M_unpack psk 4896 az24 3 s25) fun q23 => bnd (F_MH_minus (nI 2) (q23.1) q23.2) fun q24 => bnd (q24.1) fun z29 => bnd ((q24.2.1 225 25).toNatClampNeg) fun z30 => if 4 ≤ i21 then bnd ((q24.2.1 225 25).toNatClampNeg) fun z31 => bnd (sI q24.2 ((300 + (i21 - 4))) i24 z29) fun s26 => F_MH_readHidden_0_L3 psk i21 kk n24 (i24 + 1) (az24 + 3) s26 else bnd (sI q24.2 ((292 + i21)) i24 z29) fun s27 => F_MH_readHidden_0_L3 psk i21 kk n24 (i24 + 1) (az24 + 3) s27
noncomputable def F_MH_readHidden_0_L2 (psk : Nat) (i22 : Nat) (kk : Nat → Nat → Sto → Sto) : Nat → Nat → Nat → Sto → Sto
  | 0, i23, az23, s23 => kk (i22 + 1) az23 s23
  | n23 + 1, i23, az23, s23 => bnd (F_M_unpack psk 4896 az23 13 s23) fun q21 => bnd (F_MH_minus (nI 4096) (q21.1) q21.2) fun q22 => bnd (sI q22.2 ((309 + i22)) i23 (q22.1)) fun s24 => F_MH_readHidden_0_L2 psk i22 kk n23 (i23 + 1) (az23 + 13) s24
noncomputable def F_MH_readHidden_0_L1 (psk : Nat) : Nat → Nat → Nat → Sto → Sto
  | 0, i22, az22, s22 => bnd ((s22.1 225 24).toNatClampNeg) fun z24 => s22
  | n22 + 1, i22, az22, s22 => bnd ((s22.1 225 24).toNatClampNeg) fun z25 => F_MH_readHidden_0_L2 psk i22 (F_MH_readHidden_0_L1 psk n22) 256 0 az22 s22
noncomputable def F_MH_readHidden_0_L0 (psk : Nat) : Nat → Nat → Nat → Sto → Sto
  | 0, i21, az21, s21 => bnd ((s21.1 225 24).toNatClampNeg) fun z22 => bnd ((s21.1 225 25).toNatClampNeg) fun z23 => F_MH_readHidden_0_L1 psk 4 0 az21 s21
  | n21 + 1, i21, az21, s21 => bnd ((s21.1 225 24).toNatClampNeg) fun z26 => bnd ((s21.1 225 25).toNatClampNeg) fun z27 => F_MH_readHidden_0_L3 psk i21 (F_MH_readHidden_0_L0 psk n21) 256 0 az21 s21
noncomputable def F_MH_readHidden_0 (psk : Nat) (s : Sto) : Sto := bnd ((s.1 225 26).toNatClampNeg) fun z21 => F_MH_readHidden_0_L0 psk 8 0 1024 s
set_option maxHeartbeats 8000000 in
set_option maxRecDepth 100000 in
theorem N_MH_readHidden_0 (l : Launch) (g : Gd) (sz : Nat) (T : TyN) (s : Sto) (pl : va_W) (hO : okn g T s pl) (hU : inj T) (h0 sk : Nat) (psk : Nat) (k_h0 : T h0 = some 225) (k_sk : T sk = some psk) (n_sk : nsp psk = (1, 4896, [])) (e_c0 : s.1 225 23 = nI 0) (e_c1 : s.1 225 24 = nI 4) (e_c2 : s.1 225 25 = nI 4) (e_c3 : s.1 225 26 = nI 2) (e_c4 : s.1 225 27 = nI 131072) (e_c5 : s.1 225 28 = nI 95232) (e_c6 : s.1 225 29 = nI 78) (e_c7 : s.1 225 30 = nI 32)  : Met l y_MH_readHidden w_MH_readHidden ({ frames := 1, cells := 0, slots := 0, locals := 24 } : Room) (va_Pc [.ref h0, .ref sk] (pr (en g) g.1 vcl sz ([] ++ pl))) (va_Qv (fun (u : (Sto) × va_W) => (u.1 = F_MH_readHidden_0 psk s ∧ frm (M_MH_readHidden_0) s u.1 ∧ True) ∧ okn g T u.1 u.2) (po g.1 vcl (va_A ([] ++ pl) sz) (fun (u : (Sto) × va_W) => [] ++ u.2)) (va_A ([] ++ pl) sz)) 0 0 (va_A ([] ++ pl) sz) := by
  refine mc_entry (cc := c_MH_readHidden) (maxL := 7) (ret := none) (by decide) rfl (Nat.le_of_ble_eq_true rfl) ?_
  intro p e s0 m args below meth c ls F hr hlk hnm hsz hP hD hE hA hl
  obtain ⟨hx, hb, hml, hown, hts⟩ := id F
  have hK := hE.1
  generalize va_A ([] ++ pl) sz = A at hD hE hA ⊢
  have hS : va_S A s0.heap s0.heap [] := va_S.rf
  have hl : lv_has ls 7 [(0, .ref h0), (1, .ref sk)] := hl
  have hR : F_MH_readHidden_0 psk s = F_MH_readHidden_0 psk s := rfl
  have hF : frm (M_MH_readHidden_0) s s := frm_rf
  have ne_172_psk : 172 ≠ psk := nsp_ne (p := 172) rfl n_sk (show (5 : Nat) ≠ 1 by decide)
  have ne_225_psk : 225 ≠ psk := nsp_ne (p := 225) rfl n_sk (show (5 : Nat) ≠ 1 by decide)
  refine lv_aload_n hx hb dMH_readHidden_0 rfl (lv_at hl 0 rfl) ?_
  refine nw_get (C := "LatticeKeysModel$Hands") (TT := T_MH) (N := 31) hx hb hts (wg_ft i_MH) hown hK hO k_h0 (kn := 225) (ci := 12) (fl := [(3, 172), (3, 181), (3, 226), (3, 291), (3, 299), (3, 308), (3, 317), (3, 326), (3, 334), (3, 342), (3, 350), (3, 359), (3, 368), (3, 369), (3, 370), (3, 371), (3, 372), (3, 373), (3, 374), (3, 375), (3, 376), (3, 377), (3, 378), (0, 0), (0, 0), (0, 0), (0, 0), (0, 0), (0, 0), (0, 0), (0, 0)]) rfl hP rfl 26 (by decide) (hts _ (wg_t kw_1458)) (fun _ h9 => h9) (cd := (0, 0)) rfl dMH_readHidden_1 (fun v21 hv21 => ?_)
  obtain rfl := (show v21 = .int (s.1 225 26) from hv21)
  obtain ⟨z21, ez21, hz21, hz22⟩ := cl_of (b := 2147483648) e_c3 (by omega) (by decide)
  replace hR := bnd_step hR ez21
  refine mi_as hz21 ?_
  subst hz22
  refine lv_iconst (v := nI 2) hx hb dMH_readHidden_4 (by decide) ?_
  refine mi_ne (tgt := 12) hx hb dMH_readHidden_5 (by decide) (by omega) (by omega) (fun h21 => absurd h21 (by omega)) (fun h21 => ?_)
  refine lv_iconst (v := nI 3) hx hb dMH_readHidden_8 (by decide) ?_
  refine lv_goto (tgt := 13) hx hb dMH_readHidden_9 (by decide) ?_
  refine lv_istore_n (lv' := [(2, .int (nI 3)), (0, .ref h0), (1, .ref sk)]) hx hb dMH_readHidden_13 rfl hl (by decide) rfl (fun ls hl => ?_)
  refine lv_sipush (v := nI 1024) hx hb dMH_readHidden_14 (by decide) ?_
  refine lv_istore_n (lv' := [(3, .int (nI 1024)), (2, .int (nI 3)), (0, .ref h0), (1, .ref sk)]) hx hb dMH_readHidden_17 rfl hl (by decide) rfl (fun ls hl => ?_)
  refine lv_iconst (v := nI 0) hx hb dMH_readHidden_18 (by decide) ?_
  refine lv_istore (lv' := [(4, .int (nI 0)), (3, .int (nI 1024)), (2, .int (nI 3)), (0, .ref h0), (1, .ref sk)]) hx hb dMH_readHidden_19 hl (by decide) rfl (fun ls hl => ?_)
  have lp21 : ∀ (n21 : Nat) (i21 : Nat) (az21 : Nat) (s21 : Sto) (pl : va_W) (ls : Array Slot) (H : Heap) (locs : List Loc), n21 + i21 = 8 → (az21 = 1024 + 768 * i21) → frm (M_MH_readHidden_0) s s21 → s21.1 225 23 = nI 0 → s21.1 225 24 = nI 4 → s21.1 225 25 = nI 4 → s21.1 225 26 = nI 2 → s21.1 225 27 = nI 131072 → s21.1 225 28 = nI 95232 → s21.1 225 29 = nI 78 → s21.1 225 30 = nI 32 → F_MH_readHidden_0 psk s = F_MH_readHidden_0_L0 psk n21 i21 az21 s21 → lv_has ls 7 [(4, .int (nI i21)), (3, .int (nI az21)), (2, .int (nI 3)), (0, .ref h0), (1, .ref sk)] → okn g T s21 pl → va_P g.1 vcl ([] ++ pl) H → va_D A ([] ++ pl) → va_S A s0.heap H locs → W p l e ({ frames := 1, cells := 0, slots := 0, locals := 24 } : Room) s0 m args below meth c H locs 0 0 (MQ below (va_Qv (fun (u : (Sto) × va_W) => (u.1 = F_MH_readHidden_0 psk s ∧ frm (M_MH_readHidden_0) s u.1 ∧ True) ∧ okn g T u.1 u.2) (po g.1 vcl A (fun (u : (Sto) × va_W) => [] ++ u.2)) A) args s0 0 0 A) (F0 m 21 ls []) := by
    intro n21
    induction n21 with
    | zero =>
      intro i21 az21 s21 pl ls H locs hm21 hi21 hF hf21 hf22 hf23 hf24 hf25 hf26 hf27 hf28 hR hl hO hP hD hS
      refine lv_iload hx hb dMH_readHidden_21 (lv_at hl 0 rfl) ?_
      refine lv_aload_n hx hb dMH_readHidden_23 rfl (lv_at hl 3 rfl) ?_
      refine nw_get (C := "LatticeKeysModel$Hands") (TT := T_MH) (N := 31) hx hb hts (wg_ft i_MH) hown hK hO k_h0 (kn := 225) (ci := 12) (fl := [(3, 172), (3, 181), (3, 226), (3, 291), (3, 299), (3, 308), (3, 317), (3, 326), (3, 334), (3, 342), (3, 350), (3, 359), (3, 368), (3, 369), (3, 370), (3, 371), (3, 372), (3, 373), (3, 374), (3, 375), (3, 376), (3, 377), (3, 378), (0, 0), (0, 0), (0, 0), (0, 0), (0, 0), (0, 0), (0, 0), (0, 0)]) rfl hP rfl 24 (by decide) (hts _ (wg_t kw_1456)) (fun _ h9 => h9) (cd := (0, 0)) rfl dMH_readHidden_24 (fun v22 hv22 => ?_)
      obtain rfl := (show v22 = .int (s21.1 225 24) from hv22)
      obtain ⟨z22, ez22, hz23, hz24⟩ := cl_of (b := 2147483648) hf22 (by omega) (by decide)
      replace hR := bnd_step hR ez22
      refine mi_as hz23 ?_
      subst hz24
      refine lv_aload_n hx hb dMH_readHidden_27 rfl (lv_at hl 3 rfl) ?_
      refine nw_get (C := "LatticeKeysModel$Hands") (TT := T_MH) (N := 31) hx hb hts (wg_ft i_MH) hown hK hO k_h0 (kn := 225) (ci := 12) (fl := [(3, 172), (3, 181), (3, 226), (3, 291), (3, 299), (3, 308), (3, 317), (3, 326), (3, 334), (3, 342), (3, 350), (3, 359), (3, 368), (3, 369), (3, 370), (3, 371), (3, 372), (3, 373), (3, 374), (3, 375), (3, 376), (3, 377), (3, 378), (0, 0), (0, 0), (0, 0), (0, 0), (0, 0), (0, 0), (0, 0), (0, 0)]) rfl hP rfl 25 (by decide) (hts _ (wg_t kw_1457)) (fun _ h9 => h9) (cd := (0, 0)) rfl dMH_readHidden_28 (fun v23 hv23 => ?_)
      obtain rfl := (show v23 = .int (s21.1 225 25) from hv23)
      obtain ⟨z23, ez23, hz25, hz26⟩ := cl_of (b := 2147483648) hf23 (by omega) (by decide)
      replace hR := bnd_step hR ez23
      refine mi_as hz25 ?_
      subst hz26
      refine mi_iadd hx hb dMH_readHidden_31 ?_
      refine mi_as (show nI (4 + 4) = nI 8 from rfl) ?_
      refine mi_ge (tgt := 118) hx hb dMH_readHidden_32 (by decide) (by omega) (by omega) (fun h22 => ?_) (fun h22 => absurd h22 (by omega))
      refine lv_iconst (v := nI 0) hx hb dMH_readHidden_118 (by decide) ?_
      refine lv_istore (lv' := [(4, .int (nI 0)), (3, .int (nI az21)), (2, .int (nI 3)), (0, .ref h0), (1, .ref sk)]) hx hb dMH_readHidden_119 hl (by decide) rfl (fun ls hl => ?_)
      have lp22 : ∀ (n22 : Nat) (i22 : Nat) (az22 : Nat) (s22 : Sto) (pl : va_W) (ls : Array Slot) (H : Heap) (locs : List Loc), n22 + i22 = 4 → (az22 = 7168 + 3328 * i22) → frm (M_MH_readHidden_0) s s22 → s22.1 225 23 = nI 0 → s22.1 225 24 = nI 4 → s22.1 225 25 = nI 4 → s22.1 225 26 = nI 2 → s22.1 225 27 = nI 131072 → s22.1 225 28 = nI 95232 → s22.1 225 29 = nI 78 → s22.1 225 30 = nI 32 → F_MH_readHidden_0 psk s = F_MH_readHidden_0_L1 psk n22 i22 az22 s22 → lv_has ls 7 [(4, .int (nI i22)), (3, .int (nI az22)), (0, .ref h0), (1, .ref sk)] → okn g T s22 pl → va_P g.1 vcl ([] ++ pl) H → va_D A ([] ++ pl) → va_S A s0.heap H locs → W p l e ({ frames := 1, cells := 0, slots := 0, locals := 24 } : Room) s0 m args below meth c H locs 0 0 (MQ below (va_Qv (fun (u : (Sto) × va_W) => (u.1 = F_MH_readHidden_0 psk s ∧ frm (M_MH_readHidden_0) s u.1 ∧ True) ∧ okn g T u.1 u.2) (po g.1 vcl A (fun (u : (Sto) × va_W) => [] ++ u.2)) A) args s0 0 0 A) (F0 m 121 ls []) := by
        intro n22
        induction n22 with
        | zero =>
          intro i22 az22 s22 pl ls H locs hm22 hi22 hF hf29 hf30 hf31 hf32 hf33 hf34 hf35 hf36 hR hl hO hP hD hS
          refine lv_iload hx hb dMH_readHidden_121 (lv_at hl 0 rfl) ?_
          refine lv_aload_n hx hb dMH_readHidden_123 rfl (lv_at hl 2 rfl) ?_
          refine nw_get (C := "LatticeKeysModel$Hands") (TT := T_MH) (N := 31) hx hb hts (wg_ft i_MH) hown hK hO k_h0 (kn := 225) (ci := 12) (fl := [(3, 172), (3, 181), (3, 226), (3, 291), (3, 299), (3, 308), (3, 317), (3, 326), (3, 334), (3, 342), (3, 350), (3, 359), (3, 368), (3, 369), (3, 370), (3, 371), (3, 372), (3, 373), (3, 374), (3, 375), (3, 376), (3, 377), (3, 378), (0, 0), (0, 0), (0, 0), (0, 0), (0, 0), (0, 0), (0, 0), (0, 0)]) rfl hP rfl 24 (by decide) (hts _ (wg_t kw_1456)) (fun _ h9 => h9) (cd := (0, 0)) rfl dMH_readHidden_124 (fun v24 hv24 => ?_)
          obtain rfl := (show v24 = .int (s22.1 225 24) from hv24)
          obtain ⟨z24, ez24, hz27, hz28⟩ := cl_of (b := 2147483648) hf30 (by omega) (by decide)
          replace hR := bnd_step hR ez24
          refine mi_as hz27 ?_
          subst hz28
          refine mi_ge (tgt := 179) hx hb dMH_readHidden_127 (by decide) (by omega) (by omega) (fun h23 => ?_) (fun h23 => absurd h23 (by omega))
          exact mp_vret hx hb hr hlk hP hD hS (s22, pl) ⟨⟨hR.symm, hF, trivial⟩, hO⟩ [] rfl rfl rfl (by omega) (by omega) dMH_readHidden_179
        | succ n22 ih22 =>
          intro i22 az22 s22 pl ls H locs hm22 hi22 hF hf37 hf38 hf39 hf40 hf41 hf42 hf43 hf44 hR hl hO hP hD hS
          refine lv_iload hx hb dMH_readHidden_121 (lv_at hl 0 rfl) ?_
          refine lv_aload_n hx hb dMH_readHidden_123 rfl (lv_at hl 2 rfl) ?_
          refine nw_get (C := "LatticeKeysModel$Hands") (TT := T_MH) (N := 31) hx hb hts (wg_ft i_MH) hown hK hO k_h0 (kn := 225) (ci := 12) (fl := [(3, 172), (3, 181), (3, 226), (3, 291), (3, 299), (3, 308), (3, 317), (3, 326), (3, 334), (3, 342), (3, 350), (3, 359), (3, 368), (3, 369), (3, 370), (3, 371), (3, 372), (3, 373), (3, 374), (3, 375), (3, 376), (3, 377), (3, 378), (0, 0), (0, 0), (0, 0), (0, 0), (0, 0), (0, 0), (0, 0), (0, 0)]) rfl hP rfl 24 (by decide) (hts _ (wg_t kw_1456)) (fun _ h9 => h9) (cd := (0, 0)) rfl dMH_readHidden_124 (fun v25 hv25 => ?_)
          obtain rfl := (show v25 = .int (s22.1 225 24) from hv25)
          obtain ⟨z25, ez25, hz29, hz30⟩ := cl_of (b := 2147483648) hf38 (by omega) (by decide)
          replace hR := bnd_step hR ez25
          refine mi_as hz29 ?_
          subst hz30
          refine mi_ge (tgt := 179) hx hb dMH_readHidden_127 (by decide) (by omega) (by omega) (fun h24 => absurd h24 (by omega)) (fun h24 => ?_)
          refine lv_iconst (v := nI 0) hx hb dMH_readHidden_130 (by decide) ?_
          refine lv_istore (lv' := [(5, .int (nI 0)), (4, .int (nI i22)), (3, .int (nI az22)), (0, .ref h0), (1, .ref sk)]) hx hb dMH_readHidden_131 hl (by decide) rfl (fun ls hl => ?_)
          have lp23 : ∀ (n23 : Nat) (i23 : Nat) (az23 : Nat) (s23 : Sto) (pl : va_W) (ls : Array Slot) (H : Heap) (locs : List Loc), n23 + i23 = 256 → (az23 = 7168 + 3328 * i22 + 13 * i23) → frm (M_MH_readHidden_0) s s23 → s23.1 225 23 = nI 0 → s23.1 225 24 = nI 4 → s23.1 225 25 = nI 4 → s23.1 225 26 = nI 2 → s23.1 225 27 = nI 131072 → s23.1 225 28 = nI 95232 → s23.1 225 29 = nI 78 → s23.1 225 30 = nI 32 → F_MH_readHidden_0 psk s = F_MH_readHidden_0_L2 psk i22 (F_MH_readHidden_0_L1 psk n22) n23 i23 az23 s23 → lv_has ls 7 [(5, .int (nI i23)), (4, .int (nI i22)), (3, .int (nI az23)), (0, .ref h0), (1, .ref sk)] → okn g T s23 pl → va_P g.1 vcl ([] ++ pl) H → va_D A ([] ++ pl) → va_S A s0.heap H locs → W p l e ({ frames := 1, cells := 0, slots := 0, locals := 24 } : Room) s0 m args below meth c H locs 0 0 (MQ below (va_Qv (fun (u : (Sto) × va_W) => (u.1 = F_MH_readHidden_0 psk s ∧ frm (M_MH_readHidden_0) s u.1 ∧ True) ∧ okn g T u.1 u.2) (po g.1 vcl A (fun (u : (Sto) × va_W) => [] ++ u.2)) A) args s0 0 0 A) (F0 m 133 ls []) := by
            intro n23
            induction n23 with
            | zero =>
              intro i23 az23 s23 pl ls H locs hm23 hi23 hF hf45 hf46 hf47 hf48 hf49 hf50 hf51 hf52 hR hl hO hP hD hS
              refine lv_iload hx hb dMH_readHidden_133 (lv_at hl 0 rfl) ?_
              refine lv_sipush (v := nI 256) hx hb dMH_readHidden_135 (by decide) ?_
              refine mi_ge (tgt := 173) hx hb dMH_readHidden_138 (by decide) (by omega) (by omega) (fun h25 => ?_) (fun h25 => absurd h25 (by omega))
              refine mi_iinc (k := 1) (x := i22) (d := 1) (y := i22 + 1) (lv' := [(4, .int (nI (i22 + 1))), (5, .int (nI i23)), (3, .int (nI az23)), (0, .ref h0), (1, .ref sk)]) hx hb dMH_readHidden_173 hl rfl (by decide) rfl (by decide) rfl (fun ls hl => ?_)
              refine lv_goto (tgt := 121) hx hb dMH_readHidden_176 (by decide) ?_
              exact ih22 (i22 + 1) az23 s23 pl ls H locs (by omega) (by omega) hF hf45 hf46 hf47 hf48 hf49 hf50 hf51 hf52 hR (lv_sub hl [0, 2, 3, 4] rfl) hO hP hD hS
            | succ n23 ih23 =>
              intro i23 az23 s23 pl ls H locs hm23 hi23 hF hf53 hf54 hf55 hf56 hf57 hf58 hf59 hf60 hR hl hO hP hD hS
              refine lv_iload hx hb dMH_readHidden_133 (lv_at hl 0 rfl) ?_
              refine lv_sipush (v := nI 256) hx hb dMH_readHidden_135 (by decide) ?_
              refine mi_ge (tgt := 173) hx hb dMH_readHidden_138 (by decide) (by omega) (by omega) (fun h26 => absurd h26 (by omega)) (fun h26 => ?_)
              refine lv_aload_n hx hb dMH_readHidden_141 rfl (lv_at hl 3 rfl) ?_
              refine nw_get (C := "LatticeKeysModel$Hands") (TT := T_MH) (N := 31) hx hb hts (wg_ft i_MH) hown hK hO k_h0 (kn := 225) (ci := 12) (fl := [(3, 172), (3, 181), (3, 226), (3, 291), (3, 299), (3, 308), (3, 317), (3, 326), (3, 334), (3, 342), (3, 350), (3, 359), (3, 368), (3, 369), (3, 370), (3, 371), (3, 372), (3, 373), (3, 374), (3, 375), (3, 376), (3, 377), (3, 378), (0, 0), (0, 0), (0, 0), (0, 0), (0, 0), (0, 0), (0, 0), (0, 0)]) rfl hP rfl 5 (by decide) (hts _ (wg_t kw_1437)) (fun _ h9 => h9) (cd := (3, 308)) rfl dMH_readHidden_142 (fun v26 hv26 => ?_)
              obtain ⟨r21, rfl, kr21⟩ := (show ∃ r : Nat, v26 = .ref r ∧ T r = some 308 from hv26)
              refine lv_iload hx hb dMH_readHidden_145 (lv_at hl 1 rfl) ?_
              refine nw_aald3 hx hb hK hO kr21 (k := 308) (b := 309) rfl hP (by omega) (by omega) dMH_readHidden_147 (fun r22 kr22 => ?_)
              have hn21 : nsp (309 + i22) = (0, 256, []) := rows_ok 309 8 (by decide) _ (by omega)
              refine lv_iload hx hb dMH_readHidden_148 (lv_at hl 0 rfl) ?_
              refine lv_sipush (v := nI 4096) hx hb dMH_readHidden_150 (by decide) ?_
              refine lv_aload_n hx hb dMH_readHidden_153 rfl (lv_at hl 4 rfl) ?_
              refine lv_iload_n hx hb dMH_readHidden_154 rfl (lv_at hl 2 rfl) ?_
              refine lv_bipush (v := nI 13) hx hb dMH_readHidden_155 (by decide) ?_
              refine mp_i (cx := []) (wr := []) hP hD hS hA [] [] rfl rfl rfl (by decide) (va_runSN (As := [.ref sk, .int (nI az23), .int (nI 13)]) (rest := [.int (nI 4096), .int (nI i23), .ref r22]) F (N_M_unpack l g _ T s23 pl hO hU sk psk 4896 az23 13 k_sk n_sk (by omega) (by omega) (by omega)) ⟨va_cnB 3 hts (wg_in kw_1667) rfl rfl rfl (hE.2.2.2.2.2.2.2.2.2.2) (hts _ (wg_t kw_9)) (by decide +kernel) ⟨by decide, by decide⟩, hts _ (wg_t kw_1666), trivial⟩ (pp_S (en_ok g) hP hD hS hA hE [] rfl rfl) rfl rfl hl.1 rfl (lv_room (Nat.le_of_ble_eq_true rfl)) dMH_readHidden_157 ⟨by omega, by omega⟩) (fun r23 u21 H locs hu21 hP hD hS => ?_)
              obtain ⟨q21, pl⟩ := u21
              obtain ⟨⟨eq21, rfl, hFc21, -⟩, hO⟩ := hu21
              have hO : okn g T q21.2 pl := hO
              have hP : va_P g.1 vcl ([] ++ pl) _ := hP
              have hD : va_D _ ([] ++ pl) := hD
              have hFc21 : frm (M_M_unpack) s23 q21.2 := hFc21
              replace hR := bnd_step hR eq21
              have hF := frm_tr hF hFc21 (fun k hk => by unfold M_M_unpack at hk; unfold M_MH_readHidden_0; omega)
              have hf61 : q21.2.1 225 23 = nI 0 := fc_F hf53 hFc21 (by unfold M_M_unpack; omega)
              have hf62 : q21.2.1 225 24 = nI 4 := fc_F hf54 hFc21 (by unfold M_M_unpack; omega)
              have hf63 : q21.2.1 225 25 = nI 4 := fc_F hf55 hFc21 (by unfold M_M_unpack; omega)
              have hf64 : q21.2.1 225 26 = nI 2 := fc_F hf56 hFc21 (by unfold M_M_unpack; omega)
              have hf65 : q21.2.1 225 27 = nI 131072 := fc_F hf57 hFc21 (by unfold M_M_unpack; omega)
              have hf66 : q21.2.1 225 28 = nI 95232 := fc_F hf58 hFc21 (by unfold M_M_unpack; omega)
              have hf67 : q21.2.1 225 29 = nI 78 := fc_F hf59 hFc21 (by unfold M_M_unpack; omega)
              have hf68 : q21.2.1 225 30 = nI 32 := fc_F hf60 hFc21 (by unfold M_M_unpack; omega)
              refine W.widen (k := 0) (n := 0) (by omega) (by omega) ?_
              refine mp_i (cx := []) (wr := []) hP hD hS hA [] [] rfl rfl rfl (by decide) (va_runS (As := [.int (nI 4096), .int q21.1]) (rest := [.int (nI i23), .ref r22]) F (N_MH_minus l g _ T q21.2 pl hO hU (nI 4096) (q21.1)) (va_cwS 2 hts (wg_app (wg_c kw_1865 (wg_c kw_1866 (wg_c kw_13 wg_n))) kw_1867) rfl rfl rfl (by decide +kernel) ⟨by decide, by decide⟩) (pp_S (en_ok g) hP hD hS hA hE [] rfl rfl) rfl rfl hl.1 rfl (lv_room (Nat.le_of_ble_eq_true rfl)) dMH_readHidden_160 ⟨by omega, by omega⟩) (fun r24 u22 H locs hu22 hP hD hS => ?_)
              obtain ⟨q22, pl⟩ := u22
              obtain ⟨⟨eq22, rfl, hFc22, -⟩, hO⟩ := hu22
              have hO : okn g T q22.2 pl := hO
              have hP : va_P g.1 vcl ([] ++ pl) _ := hP
              have hD : va_D _ ([] ++ pl) := hD
              have hFc22 : frm (M_MH_minus) q21.2 q22.2 := hFc22
              replace hR := bnd_step hR eq22
              have hF := frm_tr hF hFc22 (fun k hk => by unfold M_MH_minus at hk; unfold M_MH_readHidden_0; omega)
              have hf69 : q22.2.1 225 23 = nI 0 := fc_F hf61 hFc22 (by unfold M_MH_minus; omega)
              have hf70 : q22.2.1 225 24 = nI 4 := fc_F hf62 hFc22 (by unfold M_MH_minus; omega)
              have hf71 : q22.2.1 225 25 = nI 4 := fc_F hf63 hFc22 (by unfold M_MH_minus; omega)
              have hf72 : q22.2.1 225 26 = nI 2 := fc_F hf64 hFc22 (by unfold M_MH_minus; omega)
              have hf73 : q22.2.1 225 27 = nI 131072 := fc_F hf65 hFc22 (by unfold M_MH_minus; omega)
              have hf74 : q22.2.1 225 28 = nI 95232 := fc_F hf66 hFc22 (by unfold M_MH_minus; omega)
              have hf75 : q22.2.1 225 29 = nI 78 := fc_F hf67 hFc22 (by unfold M_MH_minus; omega)
              have hf76 : q22.2.1 225 30 = nI 32 := fc_F hf68 hFc22 (by unfold M_MH_minus; omega)
              refine W.widen (k := 0) (n := 0) (by omega) (by omega) ?_
              refine nw_iast hx hb hK hO hU kr22 (k := (309 + i22)) hn21 hP hD hS (by omega) (by omega) dMH_readHidden_163 (fun s24 pl H locs es21 hO hP hD hS => ?_)
              replace hR := bnd_step hR es21
              have hF := frm_sI hF es21 (by unfold M_MH_readHidden_0; omega)
              have hf77 : s24.1 225 23 = nI 0 := fc_ne hf69 es21 (by omega)
              have hf78 : s24.1 225 24 = nI 4 := fc_ne hf70 es21 (by omega)
              have hf79 : s24.1 225 25 = nI 4 := fc_ne hf71 es21 (by omega)
              have hf80 : s24.1 225 26 = nI 2 := fc_ne hf72 es21 (by omega)
              have hf81 : s24.1 225 27 = nI 131072 := fc_ne hf73 es21 (by omega)
              have hf82 : s24.1 225 28 = nI 95232 := fc_ne hf74 es21 (by omega)
              have hf83 : s24.1 225 29 = nI 78 := fc_ne hf75 es21 (by omega)
              have hf84 : s24.1 225 30 = nI 32 := fc_ne hf76 es21 (by omega)
              refine mi_iinc (k := 2) (x := az23) (d := 13) (y := az23 + 13) (lv' := [(3, .int (nI (az23 + 13))), (5, .int (nI i23)), (4, .int (nI i22)), (0, .ref h0), (1, .ref sk)]) hx hb dMH_readHidden_164 hl rfl (by decide) rfl (by decide) rfl (fun ls hl => ?_)
              refine mi_iinc (k := 1) (x := i23) (d := 1) (y := i23 + 1) (lv' := [(5, .int (nI (i23 + 1))), (3, .int (nI (az23 + 13))), (4, .int (nI i22)), (0, .ref h0), (1, .ref sk)]) hx hb dMH_readHidden_167 hl rfl (by decide) rfl (by decide) rfl (fun ls hl => ?_)
              refine lv_goto (tgt := 133) hx hb dMH_readHidden_170 (by decide) ?_
              exact ih23 (i23 + 1) (az23 + 13) s24 pl ls H locs (by omega) (by omega) hF hf77 hf78 hf79 hf80 hf81 hf82 hf83 hf84 hR (lv_sub hl [0, 2, 1, 3, 4] rfl) hO hP hD hS
          exact lp23 256 0 az22 s22 pl ls _ _ (by omega) (by omega) hF hf37 hf38 hf39 hf40 hf41 hf42 hf43 hf44 hR (lv_sub hl [0, 1, 2, 3, 4] rfl) hO hP hD hS
      exact lp22 4 0 az21 s21 pl ls _ _ (by omega) (by omega) hF hf21 hf22 hf23 hf24 hf25 hf26 hf27 hf28 hR (lv_sub hl [0, 1, 3, 4] rfl) hO hP hD hS
    | succ n21 ih21 =>
      intro i21 az21 s21 pl ls H locs hm21 hi21 hF hf85 hf86 hf87 hf88 hf89 hf90 hf91 hf92 hR hl hO hP hD hS
      refine lv_iload hx hb dMH_readHidden_21 (lv_at hl 0 rfl) ?_
      refine lv_aload_n hx hb dMH_readHidden_23 rfl (lv_at hl 3 rfl) ?_
      refine nw_get (C := "LatticeKeysModel$Hands") (TT := T_MH) (N := 31) hx hb hts (wg_ft i_MH) hown hK hO k_h0 (kn := 225) (ci := 12) (fl := [(3, 172), (3, 181), (3, 226), (3, 291), (3, 299), (3, 308), (3, 317), (3, 326), (3, 334), (3, 342), (3, 350), (3, 359), (3, 368), (3, 369), (3, 370), (3, 371), (3, 372), (3, 373), (3, 374), (3, 375), (3, 376), (3, 377), (3, 378), (0, 0), (0, 0), (0, 0), (0, 0), (0, 0), (0, 0), (0, 0), (0, 0)]) rfl hP rfl 24 (by decide) (hts _ (wg_t kw_1456)) (fun _ h9 => h9) (cd := (0, 0)) rfl dMH_readHidden_24 (fun v27 hv27 => ?_)
      obtain rfl := (show v27 = .int (s21.1 225 24) from hv27)
      obtain ⟨z26, ez26, hz31, hz32⟩ := cl_of (b := 2147483648) hf86 (by omega) (by decide)
      replace hR := bnd_step hR ez26
      refine mi_as hz31 ?_
      subst hz32
      refine lv_aload_n hx hb dMH_readHidden_27 rfl (lv_at hl 3 rfl) ?_
      refine nw_get (C := "LatticeKeysModel$Hands") (TT := T_MH) (N := 31) hx hb hts (wg_ft i_MH) hown hK hO k_h0 (kn := 225) (ci := 12) (fl := [(3, 172), (3, 181), (3, 226), (3, 291), (3, 299), (3, 308), (3, 317), (3, 326), (3, 334), (3, 342), (3, 350), (3, 359), (3, 368), (3, 369), (3, 370), (3, 371), (3, 372), (3, 373), (3, 374), (3, 375), (3, 376), (3, 377), (3, 378), (0, 0), (0, 0), (0, 0), (0, 0), (0, 0), (0, 0), (0, 0), (0, 0)]) rfl hP rfl 25 (by decide) (hts _ (wg_t kw_1457)) (fun _ h9 => h9) (cd := (0, 0)) rfl dMH_readHidden_28 (fun v28 hv28 => ?_)
      obtain rfl := (show v28 = .int (s21.1 225 25) from hv28)
      obtain ⟨z27, ez27, hz33, hz34⟩ := cl_of (b := 2147483648) hf87 (by omega) (by decide)
      replace hR := bnd_step hR ez27
      refine mi_as hz33 ?_
      subst hz34
      refine mi_iadd hx hb dMH_readHidden_31 ?_
      refine mi_as (show nI (4 + 4) = nI 8 from rfl) ?_
      refine mi_ge (tgt := 118) hx hb dMH_readHidden_32 (by decide) (by omega) (by omega) (fun h27 => absurd h27 (by omega)) (fun h27 => ?_)
      refine lv_iconst (v := nI 0) hx hb dMH_readHidden_35 (by decide) ?_
      refine lv_istore (lv' := [(5, .int (nI 0)), (4, .int (nI i21)), (3, .int (nI az21)), (2, .int (nI 3)), (0, .ref h0), (1, .ref sk)]) hx hb dMH_readHidden_36 hl (by decide) rfl (fun ls hl => ?_)
      have lp24 : ∀ (n24 : Nat) (i24 : Nat) (az24 : Nat) (s25 : Sto) (pl : va_W) (ls : Array Slot) (H : Heap) (locs : List Loc), n24 + i24 = 256 → (az24 = 1024 + 768 * i21 + 3 * i24) → frm (M_MH_readHidden_0) s s25 → s25.1 225 23 = nI 0 → s25.1 225 24 = nI 4 → s25.1 225 25 = nI 4 → s25.1 225 26 = nI 2 → s25.1 225 27 = nI 131072 → s25.1 225 28 = nI 95232 → s25.1 225 29 = nI 78 → s25.1 225 30 = nI 32 → F_MH_readHidden_0 psk s = F_MH_readHidden_0_L3 psk i21 (F_MH_readHidden_0_L0 psk n21) n24 i24 az24 s25 → lv_has ls 7 [(5, .int (nI i24)), (4, .int (nI i21)), (3, .int (nI az24)), (2, .int (nI 3)), (0, .ref h0), (1, .ref sk)] → okn g T s25 pl → va_P g.1 vcl ([] ++ pl) H → va_D A ([] ++ pl) → va_S A s0.heap H locs → W p l e ({ frames := 1, cells := 0, slots := 0, locals := 24 } : Room) s0 m args below meth c H locs 0 0 (MQ below (va_Qv (fun (u : (Sto) × va_W) => (u.1 = F_MH_readHidden_0 psk s ∧ frm (M_MH_readHidden_0) s u.1 ∧ True) ∧ okn g T u.1 u.2) (po g.1 vcl A (fun (u : (Sto) × va_W) => [] ++ u.2)) A) args s0 0 0 A) (F0 m 38 ls []) := by
        intro n24
        induction n24 with
        | zero =>
          intro i24 az24 s25 pl ls H locs hm24 hi24 hF hf93 hf94 hf95 hf96 hf97 hf98 hf99 hf100 hR hl hO hP hD hS
          refine lv_iload hx hb dMH_readHidden_38 (lv_at hl 0 rfl) ?_
          refine lv_sipush (v := nI 256) hx hb dMH_readHidden_40 (by decide) ?_
          refine mi_ge (tgt := 112) hx hb dMH_readHidden_43 (by decide) (by omega) (by omega) (fun h28 => ?_) (fun h28 => absurd h28 (by omega))
          refine mi_iinc (k := 1) (x := i21) (d := 1) (y := i21 + 1) (lv' := [(4, .int (nI (i21 + 1))), (5, .int (nI i24)), (3, .int (nI az24)), (2, .int (nI 3)), (0, .ref h0), (1, .ref sk)]) hx hb dMH_readHidden_112 hl rfl (by decide) rfl (by decide) rfl (fun ls hl => ?_)
          refine lv_goto (tgt := 21) hx hb dMH_readHidden_115 (by decide) ?_
          exact ih21 (i21 + 1) az24 s25 pl ls H locs (by omega) (by omega) hF hf93 hf94 hf95 hf96 hf97 hf98 hf99 hf100 hR (lv_sub hl [0, 2, 3, 4, 5] rfl) hO hP hD hS
        | succ n24 ih24 =>
          intro i24 az24 s25 pl ls H locs hm24 hi24 hF hf101 hf102 hf103 hf104 hf105 hf106 hf107 hf108 hR hl hO hP hD hS
          refine lv_iload hx hb dMH_readHidden_38 (lv_at hl 0 rfl) ?_
          refine lv_sipush (v := nI 256) hx hb dMH_readHidden_40 (by decide) ?_
          refine mi_ge (tgt := 112) hx hb dMH_readHidden_43 (by decide) (by omega) (by omega) (fun h29 => absurd h29 (by omega)) (fun h29 => ?_)
          refine lv_aload_n hx hb dMH_readHidden_46 rfl (lv_at hl 4 rfl) ?_
          refine nw_get (C := "LatticeKeysModel$Hands") (TT := T_MH) (N := 31) hx hb hts (wg_ft i_MH) hown hK hO k_h0 (kn := 225) (ci := 12) (fl := [(3, 172), (3, 181), (3, 226), (3, 291), (3, 299), (3, 308), (3, 317), (3, 326), (3, 334), (3, 342), (3, 350), (3, 359), (3, 368), (3, 369), (3, 370), (3, 371), (3, 372), (3, 373), (3, 374), (3, 375), (3, 376), (3, 377), (3, 378), (0, 0), (0, 0), (0, 0), (0, 0), (0, 0), (0, 0), (0, 0), (0, 0)]) rfl hP rfl 26 (by decide) (hts _ (wg_t kw_1458)) (fun _ h9 => h9) (cd := (0, 0)) rfl dMH_readHidden_47 (fun v29 hv29 => ?_)
          obtain rfl := (show v29 = .int (s25.1 225 26) from hv29)
          obtain ⟨z28, ez28, hz35, hz36⟩ := cl_of (b := 2147483648) hf104 (by omega) (by decide)
          replace hR := bnd_step hR ez28
          refine mi_as hz35 ?_
          subst hz36
          refine lv_aload_n hx hb dMH_readHidden_50 rfl (lv_at hl 5 rfl) ?_
          refine lv_iload_n hx hb dMH_readHidden_51 rfl (lv_at hl 2 rfl) ?_
          refine lv_iload_n hx hb dMH_readHidden_52 rfl (lv_at hl 3 rfl) ?_
          refine mp_i (cx := []) (wr := []) hP hD hS hA [] [] rfl rfl rfl (by decide) (va_runSN (As := [.ref sk, .int (nI az24), .int (nI 3)]) (rest := [.int (nI 2)]) F (N_M_unpack l g _ T s25 pl hO hU sk psk 4896 az24 3 k_sk n_sk (by omega) (by omega) (by omega)) ⟨va_cnB 3 hts (wg_in kw_1667) rfl rfl rfl (hE.2.2.2.2.2.2.2.2.2.2) (hts _ (wg_t kw_9)) (by decide +kernel) ⟨by decide, by decide⟩, hts _ (wg_t kw_1666), trivial⟩ (pp_S (en_ok g) hP hD hS hA hE [] rfl rfl) rfl rfl hl.1 rfl (lv_room (Nat.le_of_ble_eq_true rfl)) dMH_readHidden_53 ⟨by omega, by omega⟩) (fun r25 u23 H locs hu23 hP hD hS => ?_)
          obtain ⟨q23, pl⟩ := u23
          obtain ⟨⟨eq23, rfl, hFc23, -⟩, hO⟩ := hu23
          have hO : okn g T q23.2 pl := hO
          have hP : va_P g.1 vcl ([] ++ pl) _ := hP
          have hD : va_D _ ([] ++ pl) := hD
          have hFc23 : frm (M_M_unpack) s25 q23.2 := hFc23
          replace hR := bnd_step hR eq23
          have hF := frm_tr hF hFc23 (fun k hk => by unfold M_M_unpack at hk; unfold M_MH_readHidden_0; omega)
          have hf109 : q23.2.1 225 23 = nI 0 := fc_F hf101 hFc23 (by unfold M_M_unpack; omega)
          have hf110 : q23.2.1 225 24 = nI 4 := fc_F hf102 hFc23 (by unfold M_M_unpack; omega)
          have hf111 : q23.2.1 225 25 = nI 4 := fc_F hf103 hFc23 (by unfold M_M_unpack; omega)
          have hf112 : q23.2.1 225 26 = nI 2 := fc_F hf104 hFc23 (by unfold M_M_unpack; omega)
          have hf113 : q23.2.1 225 27 = nI 131072 := fc_F hf105 hFc23 (by unfold M_M_unpack; omega)
          have hf114 : q23.2.1 225 28 = nI 95232 := fc_F hf106 hFc23 (by unfold M_M_unpack; omega)
          have hf115 : q23.2.1 225 29 = nI 78 := fc_F hf107 hFc23 (by unfold M_M_unpack; omega)
          have hf116 : q23.2.1 225 30 = nI 32 := fc_F hf108 hFc23 (by unfold M_M_unpack; omega)
          refine W.widen (k := 0) (n := 0) (by omega) (by omega) ?_
          refine mp_i (cx := []) (wr := []) hP hD hS hA [] [] rfl rfl rfl (by decide) (va_runS (As := [.int (nI 2), .int q23.1]) (rest := []) F (N_MH_minus l g _ T q23.2 pl hO hU (nI 2) (q23.1)) (va_cwS 2 hts (wg_app (wg_c kw_1865 (wg_c kw_1866 (wg_c kw_13 wg_n))) kw_1867) rfl rfl rfl (by decide +kernel) ⟨by decide, by decide⟩) (pp_S (en_ok g) hP hD hS hA hE [] rfl rfl) rfl rfl hl.1 rfl (lv_room (Nat.le_of_ble_eq_true rfl)) dMH_readHidden_56 ⟨by omega, by omega⟩) (fun r26 u24 H locs hu24 hP hD hS => ?_)
          obtain ⟨q24, pl⟩ := u24
          obtain ⟨⟨eq24, rfl, hFc24, -⟩, hO⟩ := hu24
          have hO : okn g T q24.2 pl := hO
          have hP : va_P g.1 vcl ([] ++ pl) _ := hP
          have hD : va_D _ ([] ++ pl) := hD
          have hFc24 : frm (M_MH_minus) q23.2 q24.2 := hFc24
          replace hR := bnd_step hR eq24
          have hF := frm_tr hF hFc24 (fun k hk => by unfold M_MH_minus at hk; unfold M_MH_readHidden_0; omega)
          have hf117 : q24.2.1 225 23 = nI 0 := fc_F hf109 hFc24 (by unfold M_MH_minus; omega)
          have hf118 : q24.2.1 225 24 = nI 4 := fc_F hf110 hFc24 (by unfold M_MH_minus; omega)
          have hf119 : q24.2.1 225 25 = nI 4 := fc_F hf111 hFc24 (by unfold M_MH_minus; omega)
          have hf120 : q24.2.1 225 26 = nI 2 := fc_F hf112 hFc24 (by unfold M_MH_minus; omega)
          have hf121 : q24.2.1 225 27 = nI 131072 := fc_F hf113 hFc24 (by unfold M_MH_minus; omega)
          have hf122 : q24.2.1 225 28 = nI 95232 := fc_F hf114 hFc24 (by unfold M_MH_minus; omega)
          have hf123 : q24.2.1 225 29 = nI 78 := fc_F hf115 hFc24 (by unfold M_MH_minus; omega)
          have hf124 : q24.2.1 225 30 = nI 32 := fc_F hf116 hFc24 (by unfold M_MH_minus; omega)
          refine W.widen (k := 0) (n := 0) (by omega) (by omega) ?_
          refine mi_eqv (fun z29 ez29 => ?_)
          replace hR := bnd_step hR ez29
          refine lv_istore (lv' := [(6, .int z29), (5, .int (nI i24)), (4, .int (nI i21)), (3, .int (nI az24)), (2, .int (nI 3)), (0, .ref h0), (1, .ref sk)]) hx hb dMH_readHidden_59 hl (by decide) rfl (fun ls hl => ?_)
          refine lv_iload hx hb dMH_readHidden_61 (lv_at hl 2 rfl) ?_
          refine lv_aload_n hx hb dMH_readHidden_63 rfl (lv_at hl 5 rfl) ?_
          refine nw_get (C := "LatticeKeysModel$Hands") (TT := T_MH) (N := 31) hx hb hts (wg_ft i_MH) hown hK hO k_h0 (kn := 225) (ci := 12) (fl := [(3, 172), (3, 181), (3, 226), (3, 291), (3, 299), (3, 308), (3, 317), (3, 326), (3, 334), (3, 342), (3, 350), (3, 359), (3, 368), (3, 369), (3, 370), (3, 371), (3, 372), (3, 373), (3, 374), (3, 375), (3, 376), (3, 377), (3, 378), (0, 0), (0, 0), (0, 0), (0, 0), (0, 0), (0, 0), (0, 0), (0, 0)]) rfl hP rfl 25 (by decide) (hts _ (wg_t kw_1457)) (fun _ h9 => h9) (cd := (0, 0)) rfl dMH_readHidden_64 (fun v30 hv30 => ?_)
          obtain rfl := (show v30 = .int (q24.2.1 225 25) from hv30)
          obtain ⟨z30, ez30, hz37, hz38⟩ := cl_of (b := 2147483648) hf119 (by omega) (by decide)
          replace hR := bnd_step hR ez30
          refine mi_as hz37 ?_
          subst hz38
          refine mi_ge (tgt := 85) hx hb dMH_readHidden_67 (by decide) (by omega) (by omega) (fun h30 => ?_) (fun h30 => ?_)
          · replace hR := hR.trans (if_pos h30)
            refine lv_aload_n hx hb dMH_readHidden_85 rfl (lv_at hl 5 rfl) ?_
            refine nw_get (C := "LatticeKeysModel$Hands") (TT := T_MH) (N := 31) hx hb hts (wg_ft i_MH) hown hK hO k_h0 (kn := 225) (ci := 12) (fl := [(3, 172), (3, 181), (3, 226), (3, 291), (3, 299), (3, 308), (3, 317), (3, 326), (3, 334), (3, 342), (3, 350), (3, 359), (3, 368), (3, 369), (3, 370), (3, 371), (3, 372), (3, 373), (3, 374), (3, 375), (3, 376), (3, 377), (3, 378), (0, 0), (0, 0), (0, 0), (0, 0), (0, 0), (0, 0), (0, 0), (0, 0)]) rfl hP rfl 4 (by decide) (hts _ (wg_t kw_1436)) (fun _ h9 => h9) (cd := (3, 299)) rfl dMH_readHidden_86 (fun v31 hv31 => ?_)
            obtain ⟨r27, rfl, kr23⟩ := (show ∃ r : Nat, v31 = .ref r ∧ T r = some 299 from hv31)
            refine lv_iload hx hb dMH_readHidden_89 (lv_at hl 2 rfl) ?_
            refine lv_aload_n hx hb dMH_readHidden_91 rfl (lv_at hl 5 rfl) ?_
            refine nw_get (C := "LatticeKeysModel$Hands") (TT := T_MH) (N := 31) hx hb hts (wg_ft i_MH) hown hK hO k_h0 (kn := 225) (ci := 12) (fl := [(3, 172), (3, 181), (3, 226), (3, 291), (3, 299), (3, 308), (3, 317), (3, 326), (3, 334), (3, 342), (3, 350), (3, 359), (3, 368), (3, 369), (3, 370), (3, 371), (3, 372), (3, 373), (3, 374), (3, 375), (3, 376), (3, 377), (3, 378), (0, 0), (0, 0), (0, 0), (0, 0), (0, 0), (0, 0), (0, 0), (0, 0)]) rfl hP rfl 25 (by decide) (hts _ (wg_t kw_1457)) (fun _ h9 => h9) (cd := (0, 0)) rfl dMH_readHidden_92 (fun v32 hv32 => ?_)
            obtain rfl := (show v32 = .int (q24.2.1 225 25) from hv32)
            obtain ⟨z31, ez31, hz39, hz40⟩ := cl_of (b := 2147483648) hf119 (by omega) (by decide)
            replace hR := bnd_step hR ez31
            refine mi_as hz39 ?_
            subst hz40
            refine mi_isub hx hb dMH_readHidden_95 (by omega) ?_
            refine nw_aald3 hx hb hK hO kr23 (k := 299) (b := 300) rfl hP (by omega) (by omega) dMH_readHidden_96 (fun r28 kr24 => ?_)
            have hn22 : nsp (300 + (i21 - 4)) = (0, 256, []) := rows_ok 300 8 (by decide) _ (by omega)
            refine lv_iload hx hb dMH_readHidden_97 (lv_at hl 1 rfl) ?_
            refine lv_iload hx hb dMH_readHidden_99 (lv_at hl 0 rfl) ?_
            refine nw_iast hx hb hK hO hU kr24 (k := (300 + (i21 - 4))) hn22 hP hD hS (by omega) (by omega) dMH_readHidden_101 (fun s26 pl H locs es22 hO hP hD hS => ?_)
            replace hR := bnd_step hR es22
            have hF := frm_sI hF es22 (by unfold M_MH_readHidden_0; omega)
            have hf125 : s26.1 225 23 = nI 0 := fc_ne hf117 es22 (by omega)
            have hf126 : s26.1 225 24 = nI 4 := fc_ne hf118 es22 (by omega)
            have hf127 : s26.1 225 25 = nI 4 := fc_ne hf119 es22 (by omega)
            have hf128 : s26.1 225 26 = nI 2 := fc_ne hf120 es22 (by omega)
            have hf129 : s26.1 225 27 = nI 131072 := fc_ne hf121 es22 (by omega)
            have hf130 : s26.1 225 28 = nI 95232 := fc_ne hf122 es22 (by omega)
            have hf131 : s26.1 225 29 = nI 78 := fc_ne hf123 es22 (by omega)
            have hf132 : s26.1 225 30 = nI 32 := fc_ne hf124 es22 (by omega)
            refine lv_iload_n hx hb dMH_readHidden_102 rfl (lv_at hl 3 rfl) ?_
            refine lv_iload_n hx hb dMH_readHidden_103 rfl (lv_at hl 4 rfl) ?_
            refine mi_iadd hx hb dMH_readHidden_104 ?_
            refine lv_istore_n (lv' := [(3, .int (nI (az24 + 3))), (6, .int z29), (5, .int (nI i24)), (4, .int (nI i21)), (2, .int (nI 3)), (0, .ref h0), (1, .ref sk)]) hx hb dMH_readHidden_105 rfl hl (by decide) rfl (fun ls hl => ?_)
            refine mi_iinc (k := 2) (x := i24) (d := 1) (y := i24 + 1) (lv' := [(5, .int (nI (i24 + 1))), (3, .int (nI (az24 + 3))), (6, .int z29), (4, .int (nI i21)), (2, .int (nI 3)), (0, .ref h0), (1, .ref sk)]) hx hb dMH_readHidden_106 hl rfl (by decide) rfl (by decide) rfl (fun ls hl => ?_)
            refine lv_goto (tgt := 38) hx hb dMH_readHidden_109 (by decide) ?_
            exact ih24 (i24 + 1) (az24 + 3) s26 pl ls H locs (by omega) (by omega) hF hf125 hf126 hf127 hf128 hf129 hf130 hf131 hf132 hR (lv_sub hl [0, 3, 1, 4, 5, 6] rfl) hO hP hD hS
          · replace hR := hR.trans (if_neg (Nat.not_le.mpr h30))
            refine lv_aload_n hx hb dMH_readHidden_70 rfl (lv_at hl 5 rfl) ?_
            refine nw_get (C := "LatticeKeysModel$Hands") (TT := T_MH) (N := 31) hx hb hts (wg_ft i_MH) hown hK hO k_h0 (kn := 225) (ci := 12) (fl := [(3, 172), (3, 181), (3, 226), (3, 291), (3, 299), (3, 308), (3, 317), (3, 326), (3, 334), (3, 342), (3, 350), (3, 359), (3, 368), (3, 369), (3, 370), (3, 371), (3, 372), (3, 373), (3, 374), (3, 375), (3, 376), (3, 377), (3, 378), (0, 0), (0, 0), (0, 0), (0, 0), (0, 0), (0, 0), (0, 0), (0, 0)]) rfl hP rfl 3 (by decide) (hts _ (wg_t kw_1435)) (fun _ h9 => h9) (cd := (3, 291)) rfl dMH_readHidden_71 (fun v33 hv33 => ?_)
            obtain ⟨r29, rfl, kr25⟩ := (show ∃ r : Nat, v33 = .ref r ∧ T r = some 291 from hv33)
            refine lv_iload hx hb dMH_readHidden_74 (lv_at hl 2 rfl) ?_
            refine nw_aald3 hx hb hK hO kr25 (k := 291) (b := 292) rfl hP (by omega) (by omega) dMH_readHidden_76 (fun r30 kr26 => ?_)
            have hn23 : nsp (292 + i21) = (0, 256, []) := rows_ok 292 7 (by decide) _ (by omega)
            refine lv_iload hx hb dMH_readHidden_77 (lv_at hl 1 rfl) ?_
            refine lv_iload hx hb dMH_readHidden_79 (lv_at hl 0 rfl) ?_
            refine nw_iast hx hb hK hO hU kr26 (k := (292 + i21)) hn23 hP hD hS (by omega) (by omega) dMH_readHidden_81 (fun s27 pl H locs es23 hO hP hD hS => ?_)
            replace hR := bnd_step hR es23
            have hF := frm_sI hF es23 (by unfold M_MH_readHidden_0; omega)
            have hf133 : s27.1 225 23 = nI 0 := fc_ne hf117 es23 (by omega)
            have hf134 : s27.1 225 24 = nI 4 := fc_ne hf118 es23 (by omega)
            have hf135 : s27.1 225 25 = nI 4 := fc_ne hf119 es23 (by omega)
            have hf136 : s27.1 225 26 = nI 2 := fc_ne hf120 es23 (by omega)
            have hf137 : s27.1 225 27 = nI 131072 := fc_ne hf121 es23 (by omega)
            have hf138 : s27.1 225 28 = nI 95232 := fc_ne hf122 es23 (by omega)
            have hf139 : s27.1 225 29 = nI 78 := fc_ne hf123 es23 (by omega)
            have hf140 : s27.1 225 30 = nI 32 := fc_ne hf124 es23 (by omega)
            refine lv_goto (tgt := 102) hx hb dMH_readHidden_82 (by decide) ?_
            refine lv_iload_n hx hb dMH_readHidden_102 rfl (lv_at hl 3 rfl) ?_
            refine lv_iload_n hx hb dMH_readHidden_103 rfl (lv_at hl 4 rfl) ?_
            refine mi_iadd hx hb dMH_readHidden_104 ?_
            refine lv_istore_n (lv' := [(3, .int (nI (az24 + 3))), (6, .int z29), (5, .int (nI i24)), (4, .int (nI i21)), (2, .int (nI 3)), (0, .ref h0), (1, .ref sk)]) hx hb dMH_readHidden_105 rfl hl (by decide) rfl (fun ls hl => ?_)
            refine mi_iinc (k := 2) (x := i24) (d := 1) (y := i24 + 1) (lv' := [(5, .int (nI (i24 + 1))), (3, .int (nI (az24 + 3))), (6, .int z29), (4, .int (nI i21)), (2, .int (nI 3)), (0, .ref h0), (1, .ref sk)]) hx hb dMH_readHidden_106 hl rfl (by decide) rfl (by decide) rfl (fun ls hl => ?_)
            refine lv_goto (tgt := 38) hx hb dMH_readHidden_109 (by decide) ?_
            exact ih24 (i24 + 1) (az24 + 3) s27 pl ls H locs (by omega) (by omega) hF hf133 hf134 hf135 hf136 hf137 hf138 hf139 hf140 hR (lv_sub hl [0, 3, 1, 4, 5, 6] rfl) hO hP hD hS
      exact lp24 256 0 az21 s21 pl ls _ _ (by omega) (by omega) hF hf85 hf86 hf87 hf88 hf89 hf90 hf91 hf92 hR (lv_sub hl [0, 1, 2, 3, 4, 5] rfl) hO hP hD hS
  exact lp21 8 0 1024 s pl ls _ _ (by omega) (by omega) hF e_c0 e_c1 e_c2 e_c3 e_c4 e_c5 e_c6 e_c7 hR (lv_sub hl [0, 1, 2, 3, 4] rfl) hO hP hD hS
def M_MH_readHidden_1 (k : Nat) : Prop := (292 ≤ k ∧ k < 299) ∨ (300 ≤ k ∧ k < 308) ∨ (309 ≤ k ∧ k < 317) ∨ (0 : Nat) = 1
noncomputable def F_MH_readHidden_1_L3 (psk : Nat) (i21 : Nat) (kk : Nat → Nat → Sto → Sto) : Nat → Nat → Nat → Sto → Sto
  | 0, i24, az24, s25 => kk (i21 + 1) az24 s25
  | n24 + 1, i24, az24, s25 => bnd ((s25.1 225 26).toNatClampNeg) fun z28 => bnd (F_M_unpack psk 4896 az24 4 s25) fun q23 => bnd (F_MH_minus (nI 4) (q23.1) q23.2) fun q24 => bnd (q24.1) fun z29 => bnd ((q24.2.1 225 25).toNatClampNeg) fun z30 => if 5 ≤ i21 then bnd ((q24.2.1 225 25).toNatClampNeg) fun z31 => bnd (sI q24.2 ((300 + (i21 - 5))) i24 z29) fun s26 => F_MH_readHidden_1_L3 psk i21 kk n24 (i24 + 1) (az24 + 4) s26 else bnd (sI q24.2 ((292 + i21)) i24 z29) fun s27 => F_MH_readHidden_1_L3 psk i21 kk n24 (i24 + 1) (az24 + 4) s27
noncomputable def F_MH_readHidden_1_L2 (psk : Nat) (i22 : Nat) (kk : Nat → Nat → Sto → Sto) : Nat → Nat → Nat → Sto → Sto
  | 0, i23, az23, s23 => kk (i22 + 1) az23 s23
  | n23 + 1, i23, az23, s23 => bnd (F_M_unpack psk 4896 az23 13 s23) fun q21 => bnd (F_MH_minus (nI 4096) (q21.1) q21.2) fun q22 => bnd (sI q22.2 ((309 + i22)) i23 (q22.1)) fun s24 => F_MH_readHidden_1_L2 psk i22 kk n23 (i23 + 1) (az23 + 13) s24
noncomputable def F_MH_readHidden_1_L1 (psk : Nat) : Nat → Nat → Nat → Sto → Sto
  | 0, i22, az22, s22 => bnd ((s22.1 225 24).toNatClampNeg) fun z24 => s22
  | n22 + 1, i22, az22, s22 => bnd ((s22.1 225 24).toNatClampNeg) fun z25 => F_MH_readHidden_1_L2 psk i22 (F_MH_readHidden_1_L1 psk n22) 256 0 az22 s22
noncomputable def F_MH_readHidden_1_L0 (psk : Nat) : Nat → Nat → Nat → Sto → Sto
  | 0, i21, az21, s21 => bnd ((s21.1 225 24).toNatClampNeg) fun z22 => bnd ((s21.1 225 25).toNatClampNeg) fun z23 => F_MH_readHidden_1_L1 psk 6 0 az21 s21
  | n21 + 1, i21, az21, s21 => bnd ((s21.1 225 24).toNatClampNeg) fun z26 => bnd ((s21.1 225 25).toNatClampNeg) fun z27 => F_MH_readHidden_1_L3 psk i21 (F_MH_readHidden_1_L0 psk n21) 256 0 az21 s21
noncomputable def F_MH_readHidden_1 (psk : Nat) (s : Sto) : Sto := bnd ((s.1 225 26).toNatClampNeg) fun z21 => F_MH_readHidden_1_L0 psk 11 0 1024 s
set_option maxHeartbeats 8000000 in
set_option maxRecDepth 100000 in
theorem N_MH_readHidden_1 (l : Launch) (g : Gd) (sz : Nat) (T : TyN) (s : Sto) (pl : va_W) (hO : okn g T s pl) (hU : inj T) (h0 sk : Nat) (psk : Nat) (k_h0 : T h0 = some 225) (k_sk : T sk = some psk) (n_sk : nsp psk = (1, 4896, [])) (e_c0 : s.1 225 23 = nI 1) (e_c1 : s.1 225 24 = nI 6) (e_c2 : s.1 225 25 = nI 5) (e_c3 : s.1 225 26 = nI 4) (e_c4 : s.1 225 27 = nI 524288) (e_c5 : s.1 225 28 = nI 261888) (e_c6 : s.1 225 29 = nI 196) (e_c7 : s.1 225 30 = nI 48)  : Met l y_MH_readHidden w_MH_readHidden ({ frames := 1, cells := 0, slots := 0, locals := 24 } : Room) (va_Pc [.ref h0, .ref sk] (pr (en g) g.1 vcl sz ([] ++ pl))) (va_Qv (fun (u : (Sto) × va_W) => (u.1 = F_MH_readHidden_1 psk s ∧ frm (M_MH_readHidden_1) s u.1 ∧ True) ∧ okn g T u.1 u.2) (po g.1 vcl (va_A ([] ++ pl) sz) (fun (u : (Sto) × va_W) => [] ++ u.2)) (va_A ([] ++ pl) sz)) 0 0 (va_A ([] ++ pl) sz) := by
  refine mc_entry (cc := c_MH_readHidden) (maxL := 7) (ret := none) (by decide) rfl (Nat.le_of_ble_eq_true rfl) ?_
  intro p e s0 m args below meth c ls F hr hlk hnm hsz hP hD hE hA hl
  obtain ⟨hx, hb, hml, hown, hts⟩ := id F
  have hK := hE.1
  generalize va_A ([] ++ pl) sz = A at hD hE hA ⊢
  have hS : va_S A s0.heap s0.heap [] := va_S.rf
  have hl : lv_has ls 7 [(0, .ref h0), (1, .ref sk)] := hl
  have hR : F_MH_readHidden_1 psk s = F_MH_readHidden_1 psk s := rfl
  have hF : frm (M_MH_readHidden_1) s s := frm_rf
  have ne_172_psk : 172 ≠ psk := nsp_ne (p := 172) rfl n_sk (show (5 : Nat) ≠ 1 by decide)
  have ne_225_psk : 225 ≠ psk := nsp_ne (p := 225) rfl n_sk (show (5 : Nat) ≠ 1 by decide)
  refine lv_aload_n hx hb dMH_readHidden_0 rfl (lv_at hl 0 rfl) ?_
  refine nw_get (C := "LatticeKeysModel$Hands") (TT := T_MH) (N := 31) hx hb hts (wg_ft i_MH) hown hK hO k_h0 (kn := 225) (ci := 12) (fl := [(3, 172), (3, 181), (3, 226), (3, 291), (3, 299), (3, 308), (3, 317), (3, 326), (3, 334), (3, 342), (3, 350), (3, 359), (3, 368), (3, 369), (3, 370), (3, 371), (3, 372), (3, 373), (3, 374), (3, 375), (3, 376), (3, 377), (3, 378), (0, 0), (0, 0), (0, 0), (0, 0), (0, 0), (0, 0), (0, 0), (0, 0)]) rfl hP rfl 26 (by decide) (hts _ (wg_t kw_1458)) (fun _ h9 => h9) (cd := (0, 0)) rfl dMH_readHidden_1 (fun v21 hv21 => ?_)
  obtain rfl := (show v21 = .int (s.1 225 26) from hv21)
  obtain ⟨z21, ez21, hz21, hz22⟩ := cl_of (b := 2147483648) e_c3 (by omega) (by decide)
  replace hR := bnd_step hR ez21
  refine mi_as hz21 ?_
  subst hz22
  refine lv_iconst (v := nI 2) hx hb dMH_readHidden_4 (by decide) ?_
  refine mi_ne (tgt := 12) hx hb dMH_readHidden_5 (by decide) (by omega) (by omega) (fun h21 => ?_) (fun h21 => absurd h21 (by omega))
  refine lv_iconst (v := nI 4) hx hb dMH_readHidden_12 (by decide) ?_
  refine lv_istore_n (lv' := [(2, .int (nI 4)), (0, .ref h0), (1, .ref sk)]) hx hb dMH_readHidden_13 rfl hl (by decide) rfl (fun ls hl => ?_)
  refine lv_sipush (v := nI 1024) hx hb dMH_readHidden_14 (by decide) ?_
  refine lv_istore_n (lv' := [(3, .int (nI 1024)), (2, .int (nI 4)), (0, .ref h0), (1, .ref sk)]) hx hb dMH_readHidden_17 rfl hl (by decide) rfl (fun ls hl => ?_)
  refine lv_iconst (v := nI 0) hx hb dMH_readHidden_18 (by decide) ?_
  refine lv_istore (lv' := [(4, .int (nI 0)), (3, .int (nI 1024)), (2, .int (nI 4)), (0, .ref h0), (1, .ref sk)]) hx hb dMH_readHidden_19 hl (by decide) rfl (fun ls hl => ?_)
  have lp21 : ∀ (n21 : Nat) (i21 : Nat) (az21 : Nat) (s21 : Sto) (pl : va_W) (ls : Array Slot) (H : Heap) (locs : List Loc), n21 + i21 = 11 → (az21 = 1024 + 1024 * i21) → frm (M_MH_readHidden_1) s s21 → s21.1 225 23 = nI 1 → s21.1 225 24 = nI 6 → s21.1 225 25 = nI 5 → s21.1 225 26 = nI 4 → s21.1 225 27 = nI 524288 → s21.1 225 28 = nI 261888 → s21.1 225 29 = nI 196 → s21.1 225 30 = nI 48 → F_MH_readHidden_1 psk s = F_MH_readHidden_1_L0 psk n21 i21 az21 s21 → lv_has ls 7 [(4, .int (nI i21)), (3, .int (nI az21)), (2, .int (nI 4)), (0, .ref h0), (1, .ref sk)] → okn g T s21 pl → va_P g.1 vcl ([] ++ pl) H → va_D A ([] ++ pl) → va_S A s0.heap H locs → W p l e ({ frames := 1, cells := 0, slots := 0, locals := 24 } : Room) s0 m args below meth c H locs 0 0 (MQ below (va_Qv (fun (u : (Sto) × va_W) => (u.1 = F_MH_readHidden_1 psk s ∧ frm (M_MH_readHidden_1) s u.1 ∧ True) ∧ okn g T u.1 u.2) (po g.1 vcl A (fun (u : (Sto) × va_W) => [] ++ u.2)) A) args s0 0 0 A) (F0 m 21 ls []) := by
    intro n21
    induction n21 with
    | zero =>
      intro i21 az21 s21 pl ls H locs hm21 hi21 hF hf21 hf22 hf23 hf24 hf25 hf26 hf27 hf28 hR hl hO hP hD hS
      refine lv_iload hx hb dMH_readHidden_21 (lv_at hl 0 rfl) ?_
      refine lv_aload_n hx hb dMH_readHidden_23 rfl (lv_at hl 3 rfl) ?_
      refine nw_get (C := "LatticeKeysModel$Hands") (TT := T_MH) (N := 31) hx hb hts (wg_ft i_MH) hown hK hO k_h0 (kn := 225) (ci := 12) (fl := [(3, 172), (3, 181), (3, 226), (3, 291), (3, 299), (3, 308), (3, 317), (3, 326), (3, 334), (3, 342), (3, 350), (3, 359), (3, 368), (3, 369), (3, 370), (3, 371), (3, 372), (3, 373), (3, 374), (3, 375), (3, 376), (3, 377), (3, 378), (0, 0), (0, 0), (0, 0), (0, 0), (0, 0), (0, 0), (0, 0), (0, 0)]) rfl hP rfl 24 (by decide) (hts _ (wg_t kw_1456)) (fun _ h9 => h9) (cd := (0, 0)) rfl dMH_readHidden_24 (fun v22 hv22 => ?_)
      obtain rfl := (show v22 = .int (s21.1 225 24) from hv22)
      obtain ⟨z22, ez22, hz23, hz24⟩ := cl_of (b := 2147483648) hf22 (by omega) (by decide)
      replace hR := bnd_step hR ez22
      refine mi_as hz23 ?_
      subst hz24
      refine lv_aload_n hx hb dMH_readHidden_27 rfl (lv_at hl 3 rfl) ?_
      refine nw_get (C := "LatticeKeysModel$Hands") (TT := T_MH) (N := 31) hx hb hts (wg_ft i_MH) hown hK hO k_h0 (kn := 225) (ci := 12) (fl := [(3, 172), (3, 181), (3, 226), (3, 291), (3, 299), (3, 308), (3, 317), (3, 326), (3, 334), (3, 342), (3, 350), (3, 359), (3, 368), (3, 369), (3, 370), (3, 371), (3, 372), (3, 373), (3, 374), (3, 375), (3, 376), (3, 377), (3, 378), (0, 0), (0, 0), (0, 0), (0, 0), (0, 0), (0, 0), (0, 0), (0, 0)]) rfl hP rfl 25 (by decide) (hts _ (wg_t kw_1457)) (fun _ h9 => h9) (cd := (0, 0)) rfl dMH_readHidden_28 (fun v23 hv23 => ?_)
      obtain rfl := (show v23 = .int (s21.1 225 25) from hv23)
      obtain ⟨z23, ez23, hz25, hz26⟩ := cl_of (b := 2147483648) hf23 (by omega) (by decide)
      replace hR := bnd_step hR ez23
      refine mi_as hz25 ?_
      subst hz26
      refine mi_iadd hx hb dMH_readHidden_31 ?_
      refine mi_as (show nI (6 + 5) = nI 11 from rfl) ?_
      refine mi_ge (tgt := 118) hx hb dMH_readHidden_32 (by decide) (by omega) (by omega) (fun h22 => ?_) (fun h22 => absurd h22 (by omega))
      refine lv_iconst (v := nI 0) hx hb dMH_readHidden_118 (by decide) ?_
      refine lv_istore (lv' := [(4, .int (nI 0)), (3, .int (nI az21)), (2, .int (nI 4)), (0, .ref h0), (1, .ref sk)]) hx hb dMH_readHidden_119 hl (by decide) rfl (fun ls hl => ?_)
      have lp22 : ∀ (n22 : Nat) (i22 : Nat) (az22 : Nat) (s22 : Sto) (pl : va_W) (ls : Array Slot) (H : Heap) (locs : List Loc), n22 + i22 = 6 → (az22 = 12288 + 3328 * i22) → frm (M_MH_readHidden_1) s s22 → s22.1 225 23 = nI 1 → s22.1 225 24 = nI 6 → s22.1 225 25 = nI 5 → s22.1 225 26 = nI 4 → s22.1 225 27 = nI 524288 → s22.1 225 28 = nI 261888 → s22.1 225 29 = nI 196 → s22.1 225 30 = nI 48 → F_MH_readHidden_1 psk s = F_MH_readHidden_1_L1 psk n22 i22 az22 s22 → lv_has ls 7 [(4, .int (nI i22)), (3, .int (nI az22)), (0, .ref h0), (1, .ref sk)] → okn g T s22 pl → va_P g.1 vcl ([] ++ pl) H → va_D A ([] ++ pl) → va_S A s0.heap H locs → W p l e ({ frames := 1, cells := 0, slots := 0, locals := 24 } : Room) s0 m args below meth c H locs 0 0 (MQ below (va_Qv (fun (u : (Sto) × va_W) => (u.1 = F_MH_readHidden_1 psk s ∧ frm (M_MH_readHidden_1) s u.1 ∧ True) ∧ okn g T u.1 u.2) (po g.1 vcl A (fun (u : (Sto) × va_W) => [] ++ u.2)) A) args s0 0 0 A) (F0 m 121 ls []) := by
        intro n22
        induction n22 with
        | zero =>
          intro i22 az22 s22 pl ls H locs hm22 hi22 hF hf29 hf30 hf31 hf32 hf33 hf34 hf35 hf36 hR hl hO hP hD hS
          refine lv_iload hx hb dMH_readHidden_121 (lv_at hl 0 rfl) ?_
          refine lv_aload_n hx hb dMH_readHidden_123 rfl (lv_at hl 2 rfl) ?_
          refine nw_get (C := "LatticeKeysModel$Hands") (TT := T_MH) (N := 31) hx hb hts (wg_ft i_MH) hown hK hO k_h0 (kn := 225) (ci := 12) (fl := [(3, 172), (3, 181), (3, 226), (3, 291), (3, 299), (3, 308), (3, 317), (3, 326), (3, 334), (3, 342), (3, 350), (3, 359), (3, 368), (3, 369), (3, 370), (3, 371), (3, 372), (3, 373), (3, 374), (3, 375), (3, 376), (3, 377), (3, 378), (0, 0), (0, 0), (0, 0), (0, 0), (0, 0), (0, 0), (0, 0), (0, 0)]) rfl hP rfl 24 (by decide) (hts _ (wg_t kw_1456)) (fun _ h9 => h9) (cd := (0, 0)) rfl dMH_readHidden_124 (fun v24 hv24 => ?_)
          obtain rfl := (show v24 = .int (s22.1 225 24) from hv24)
          obtain ⟨z24, ez24, hz27, hz28⟩ := cl_of (b := 2147483648) hf30 (by omega) (by decide)
          replace hR := bnd_step hR ez24
          refine mi_as hz27 ?_
          subst hz28
          refine mi_ge (tgt := 179) hx hb dMH_readHidden_127 (by decide) (by omega) (by omega) (fun h23 => ?_) (fun h23 => absurd h23 (by omega))
          exact mp_vret hx hb hr hlk hP hD hS (s22, pl) ⟨⟨hR.symm, hF, trivial⟩, hO⟩ [] rfl rfl rfl (by omega) (by omega) dMH_readHidden_179
        | succ n22 ih22 =>
          intro i22 az22 s22 pl ls H locs hm22 hi22 hF hf37 hf38 hf39 hf40 hf41 hf42 hf43 hf44 hR hl hO hP hD hS
          refine lv_iload hx hb dMH_readHidden_121 (lv_at hl 0 rfl) ?_
          refine lv_aload_n hx hb dMH_readHidden_123 rfl (lv_at hl 2 rfl) ?_
          refine nw_get (C := "LatticeKeysModel$Hands") (TT := T_MH) (N := 31) hx hb hts (wg_ft i_MH) hown hK hO k_h0 (kn := 225) (ci := 12) (fl := [(3, 172), (3, 181), (3, 226), (3, 291), (3, 299), (3, 308), (3, 317), (3, 326), (3, 334), (3, 342), (3, 350), (3, 359), (3, 368), (3, 369), (3, 370), (3, 371), (3, 372), (3, 373), (3, 374), (3, 375), (3, 376), (3, 377), (3, 378), (0, 0), (0, 0), (0, 0), (0, 0), (0, 0), (0, 0), (0, 0), (0, 0)]) rfl hP rfl 24 (by decide) (hts _ (wg_t kw_1456)) (fun _ h9 => h9) (cd := (0, 0)) rfl dMH_readHidden_124 (fun v25 hv25 => ?_)
          obtain rfl := (show v25 = .int (s22.1 225 24) from hv25)
          obtain ⟨z25, ez25, hz29, hz30⟩ := cl_of (b := 2147483648) hf38 (by omega) (by decide)
          replace hR := bnd_step hR ez25
          refine mi_as hz29 ?_
          subst hz30
          refine mi_ge (tgt := 179) hx hb dMH_readHidden_127 (by decide) (by omega) (by omega) (fun h24 => absurd h24 (by omega)) (fun h24 => ?_)
          refine lv_iconst (v := nI 0) hx hb dMH_readHidden_130 (by decide) ?_
          refine lv_istore (lv' := [(5, .int (nI 0)), (4, .int (nI i22)), (3, .int (nI az22)), (0, .ref h0), (1, .ref sk)]) hx hb dMH_readHidden_131 hl (by decide) rfl (fun ls hl => ?_)
          have lp23 : ∀ (n23 : Nat) (i23 : Nat) (az23 : Nat) (s23 : Sto) (pl : va_W) (ls : Array Slot) (H : Heap) (locs : List Loc), n23 + i23 = 256 → (az23 = 12288 + 3328 * i22 + 13 * i23) → frm (M_MH_readHidden_1) s s23 → s23.1 225 23 = nI 1 → s23.1 225 24 = nI 6 → s23.1 225 25 = nI 5 → s23.1 225 26 = nI 4 → s23.1 225 27 = nI 524288 → s23.1 225 28 = nI 261888 → s23.1 225 29 = nI 196 → s23.1 225 30 = nI 48 → F_MH_readHidden_1 psk s = F_MH_readHidden_1_L2 psk i22 (F_MH_readHidden_1_L1 psk n22) n23 i23 az23 s23 → lv_has ls 7 [(5, .int (nI i23)), (4, .int (nI i22)), (3, .int (nI az23)), (0, .ref h0), (1, .ref sk)] → okn g T s23 pl → va_P g.1 vcl ([] ++ pl) H → va_D A ([] ++ pl) → va_S A s0.heap H locs → W p l e ({ frames := 1, cells := 0, slots := 0, locals := 24 } : Room) s0 m args below meth c H locs 0 0 (MQ below (va_Qv (fun (u : (Sto) × va_W) => (u.1 = F_MH_readHidden_1 psk s ∧ frm (M_MH_readHidden_1) s u.1 ∧ True) ∧ okn g T u.1 u.2) (po g.1 vcl A (fun (u : (Sto) × va_W) => [] ++ u.2)) A) args s0 0 0 A) (F0 m 133 ls []) := by
            intro n23
            induction n23 with
            | zero =>
              intro i23 az23 s23 pl ls H locs hm23 hi23 hF hf45 hf46 hf47 hf48 hf49 hf50 hf51 hf52 hR hl hO hP hD hS
              refine lv_iload hx hb dMH_readHidden_133 (lv_at hl 0 rfl) ?_
              refine lv_sipush (v := nI 256) hx hb dMH_readHidden_135 (by decide) ?_
              refine mi_ge (tgt := 173) hx hb dMH_readHidden_138 (by decide) (by omega) (by omega) (fun h25 => ?_) (fun h25 => absurd h25 (by omega))
              refine mi_iinc (k := 1) (x := i22) (d := 1) (y := i22 + 1) (lv' := [(4, .int (nI (i22 + 1))), (5, .int (nI i23)), (3, .int (nI az23)), (0, .ref h0), (1, .ref sk)]) hx hb dMH_readHidden_173 hl rfl (by decide) rfl (by decide) rfl (fun ls hl => ?_)
              refine lv_goto (tgt := 121) hx hb dMH_readHidden_176 (by decide) ?_
              exact ih22 (i22 + 1) az23 s23 pl ls H locs (by omega) (by omega) hF hf45 hf46 hf47 hf48 hf49 hf50 hf51 hf52 hR (lv_sub hl [0, 2, 3, 4] rfl) hO hP hD hS
            | succ n23 ih23 =>
              intro i23 az23 s23 pl ls H locs hm23 hi23 hF hf53 hf54 hf55 hf56 hf57 hf58 hf59 hf60 hR hl hO hP hD hS
              refine lv_iload hx hb dMH_readHidden_133 (lv_at hl 0 rfl) ?_
              refine lv_sipush (v := nI 256) hx hb dMH_readHidden_135 (by decide) ?_
              refine mi_ge (tgt := 173) hx hb dMH_readHidden_138 (by decide) (by omega) (by omega) (fun h26 => absurd h26 (by omega)) (fun h26 => ?_)
              refine lv_aload_n hx hb dMH_readHidden_141 rfl (lv_at hl 3 rfl) ?_
              refine nw_get (C := "LatticeKeysModel$Hands") (TT := T_MH) (N := 31) hx hb hts (wg_ft i_MH) hown hK hO k_h0 (kn := 225) (ci := 12) (fl := [(3, 172), (3, 181), (3, 226), (3, 291), (3, 299), (3, 308), (3, 317), (3, 326), (3, 334), (3, 342), (3, 350), (3, 359), (3, 368), (3, 369), (3, 370), (3, 371), (3, 372), (3, 373), (3, 374), (3, 375), (3, 376), (3, 377), (3, 378), (0, 0), (0, 0), (0, 0), (0, 0), (0, 0), (0, 0), (0, 0), (0, 0)]) rfl hP rfl 5 (by decide) (hts _ (wg_t kw_1437)) (fun _ h9 => h9) (cd := (3, 308)) rfl dMH_readHidden_142 (fun v26 hv26 => ?_)
              obtain ⟨r21, rfl, kr21⟩ := (show ∃ r : Nat, v26 = .ref r ∧ T r = some 308 from hv26)
              refine lv_iload hx hb dMH_readHidden_145 (lv_at hl 1 rfl) ?_
              refine nw_aald3 hx hb hK hO kr21 (k := 308) (b := 309) rfl hP (by omega) (by omega) dMH_readHidden_147 (fun r22 kr22 => ?_)
              have hn21 : nsp (309 + i22) = (0, 256, []) := rows_ok 309 8 (by decide) _ (by omega)
              refine lv_iload hx hb dMH_readHidden_148 (lv_at hl 0 rfl) ?_
              refine lv_sipush (v := nI 4096) hx hb dMH_readHidden_150 (by decide) ?_
              refine lv_aload_n hx hb dMH_readHidden_153 rfl (lv_at hl 4 rfl) ?_
              refine lv_iload_n hx hb dMH_readHidden_154 rfl (lv_at hl 2 rfl) ?_
              refine lv_bipush (v := nI 13) hx hb dMH_readHidden_155 (by decide) ?_
              refine mp_i (cx := []) (wr := []) hP hD hS hA [] [] rfl rfl rfl (by decide) (va_runSN (As := [.ref sk, .int (nI az23), .int (nI 13)]) (rest := [.int (nI 4096), .int (nI i23), .ref r22]) F (N_M_unpack l g _ T s23 pl hO hU sk psk 4896 az23 13 k_sk n_sk (by omega) (by omega) (by omega)) ⟨va_cnB 3 hts (wg_in kw_1667) rfl rfl rfl (hE.2.2.2.2.2.2.2.2.2.2) (hts _ (wg_t kw_9)) (by decide +kernel) ⟨by decide, by decide⟩, hts _ (wg_t kw_1666), trivial⟩ (pp_S (en_ok g) hP hD hS hA hE [] rfl rfl) rfl rfl hl.1 rfl (lv_room (Nat.le_of_ble_eq_true rfl)) dMH_readHidden_157 ⟨by omega, by omega⟩) (fun r23 u21 H locs hu21 hP hD hS => ?_)
              obtain ⟨q21, pl⟩ := u21
              obtain ⟨⟨eq21, rfl, hFc21, -⟩, hO⟩ := hu21
              have hO : okn g T q21.2 pl := hO
              have hP : va_P g.1 vcl ([] ++ pl) _ := hP
              have hD : va_D _ ([] ++ pl) := hD
              have hFc21 : frm (M_M_unpack) s23 q21.2 := hFc21
              replace hR := bnd_step hR eq21
              have hF := frm_tr hF hFc21 (fun k hk => by unfold M_M_unpack at hk; unfold M_MH_readHidden_1; omega)
              have hf61 : q21.2.1 225 23 = nI 1 := fc_F hf53 hFc21 (by unfold M_M_unpack; omega)
              have hf62 : q21.2.1 225 24 = nI 6 := fc_F hf54 hFc21 (by unfold M_M_unpack; omega)
              have hf63 : q21.2.1 225 25 = nI 5 := fc_F hf55 hFc21 (by unfold M_M_unpack; omega)
              have hf64 : q21.2.1 225 26 = nI 4 := fc_F hf56 hFc21 (by unfold M_M_unpack; omega)
              have hf65 : q21.2.1 225 27 = nI 524288 := fc_F hf57 hFc21 (by unfold M_M_unpack; omega)
              have hf66 : q21.2.1 225 28 = nI 261888 := fc_F hf58 hFc21 (by unfold M_M_unpack; omega)
              have hf67 : q21.2.1 225 29 = nI 196 := fc_F hf59 hFc21 (by unfold M_M_unpack; omega)
              have hf68 : q21.2.1 225 30 = nI 48 := fc_F hf60 hFc21 (by unfold M_M_unpack; omega)
              refine W.widen (k := 0) (n := 0) (by omega) (by omega) ?_
              refine mp_i (cx := []) (wr := []) hP hD hS hA [] [] rfl rfl rfl (by decide) (va_runS (As := [.int (nI 4096), .int q21.1]) (rest := [.int (nI i23), .ref r22]) F (N_MH_minus l g _ T q21.2 pl hO hU (nI 4096) (q21.1)) (va_cwS 2 hts (wg_app (wg_c kw_1865 (wg_c kw_1866 (wg_c kw_13 wg_n))) kw_1867) rfl rfl rfl (by decide +kernel) ⟨by decide, by decide⟩) (pp_S (en_ok g) hP hD hS hA hE [] rfl rfl) rfl rfl hl.1 rfl (lv_room (Nat.le_of_ble_eq_true rfl)) dMH_readHidden_160 ⟨by omega, by omega⟩) (fun r24 u22 H locs hu22 hP hD hS => ?_)
              obtain ⟨q22, pl⟩ := u22
              obtain ⟨⟨eq22, rfl, hFc22, -⟩, hO⟩ := hu22
              have hO : okn g T q22.2 pl := hO
              have hP : va_P g.1 vcl ([] ++ pl) _ := hP
              have hD : va_D _ ([] ++ pl) := hD
              have hFc22 : frm (M_MH_minus) q21.2 q22.2 := hFc22
              replace hR := bnd_step hR eq22
              have hF := frm_tr hF hFc22 (fun k hk => by unfold M_MH_minus at hk; unfold M_MH_readHidden_1; omega)
              have hf69 : q22.2.1 225 23 = nI 1 := fc_F hf61 hFc22 (by unfold M_MH_minus; omega)
              have hf70 : q22.2.1 225 24 = nI 6 := fc_F hf62 hFc22 (by unfold M_MH_minus; omega)
              have hf71 : q22.2.1 225 25 = nI 5 := fc_F hf63 hFc22 (by unfold M_MH_minus; omega)
              have hf72 : q22.2.1 225 26 = nI 4 := fc_F hf64 hFc22 (by unfold M_MH_minus; omega)
              have hf73 : q22.2.1 225 27 = nI 524288 := fc_F hf65 hFc22 (by unfold M_MH_minus; omega)
              have hf74 : q22.2.1 225 28 = nI 261888 := fc_F hf66 hFc22 (by unfold M_MH_minus; omega)
              have hf75 : q22.2.1 225 29 = nI 196 := fc_F hf67 hFc22 (by unfold M_MH_minus; omega)
              have hf76 : q22.2.1 225 30 = nI 48 := fc_F hf68 hFc22 (by unfold M_MH_minus; omega)
              refine W.widen (k := 0) (n := 0) (by omega) (by omega) ?_
              refine nw_iast hx hb hK hO hU kr22 (k := (309 + i22)) hn21 hP hD hS (by omega) (by omega) dMH_readHidden_163 (fun s24 pl H locs es21 hO hP hD hS => ?_)
              replace hR := bnd_step hR es21
              have hF := frm_sI hF es21 (by unfold M_MH_readHidden_1; omega)
              have hf77 : s24.1 225 23 = nI 1 := fc_ne hf69 es21 (by omega)
              have hf78 : s24.1 225 24 = nI 6 := fc_ne hf70 es21 (by omega)
              have hf79 : s24.1 225 25 = nI 5 := fc_ne hf71 es21 (by omega)
              have hf80 : s24.1 225 26 = nI 4 := fc_ne hf72 es21 (by omega)
              have hf81 : s24.1 225 27 = nI 524288 := fc_ne hf73 es21 (by omega)
              have hf82 : s24.1 225 28 = nI 261888 := fc_ne hf74 es21 (by omega)
              have hf83 : s24.1 225 29 = nI 196 := fc_ne hf75 es21 (by omega)
              have hf84 : s24.1 225 30 = nI 48 := fc_ne hf76 es21 (by omega)
              refine mi_iinc (k := 2) (x := az23) (d := 13) (y := az23 + 13) (lv' := [(3, .int (nI (az23 + 13))), (5, .int (nI i23)), (4, .int (nI i22)), (0, .ref h0), (1, .ref sk)]) hx hb dMH_readHidden_164 hl rfl (by decide) rfl (by decide) rfl (fun ls hl => ?_)
              refine mi_iinc (k := 1) (x := i23) (d := 1) (y := i23 + 1) (lv' := [(5, .int (nI (i23 + 1))), (3, .int (nI (az23 + 13))), (4, .int (nI i22)), (0, .ref h0), (1, .ref sk)]) hx hb dMH_readHidden_167 hl rfl (by decide) rfl (by decide) rfl (fun ls hl => ?_)
              refine lv_goto (tgt := 133) hx hb dMH_readHidden_170 (by decide) ?_
              exact ih23 (i23 + 1) (az23 + 13) s24 pl ls H locs (by omega) (by omega) hF hf77 hf78 hf79 hf80 hf81 hf82 hf83 hf84 hR (lv_sub hl [0, 2, 1, 3, 4] rfl) hO hP hD hS
          exact lp23 256 0 az22 s22 pl ls _ _ (by omega) (by omega) hF hf37 hf38 hf39 hf40 hf41 hf42 hf43 hf44 hR (lv_sub hl [0, 1, 2, 3, 4] rfl) hO hP hD hS
      exact lp22 6 0 az21 s21 pl ls _ _ (by omega) (by omega) hF hf21 hf22 hf23 hf24 hf25 hf26 hf27 hf28 hR (lv_sub hl [0, 1, 3, 4] rfl) hO hP hD hS
    | succ n21 ih21 =>
      intro i21 az21 s21 pl ls H locs hm21 hi21 hF hf85 hf86 hf87 hf88 hf89 hf90 hf91 hf92 hR hl hO hP hD hS
      refine lv_iload hx hb dMH_readHidden_21 (lv_at hl 0 rfl) ?_
      refine lv_aload_n hx hb dMH_readHidden_23 rfl (lv_at hl 3 rfl) ?_
      refine nw_get (C := "LatticeKeysModel$Hands") (TT := T_MH) (N := 31) hx hb hts (wg_ft i_MH) hown hK hO k_h0 (kn := 225) (ci := 12) (fl := [(3, 172), (3, 181), (3, 226), (3, 291), (3, 299), (3, 308), (3, 317), (3, 326), (3, 334), (3, 342), (3, 350), (3, 359), (3, 368), (3, 369), (3, 370), (3, 371), (3, 372), (3, 373), (3, 374), (3, 375), (3, 376), (3, 377), (3, 378), (0, 0), (0, 0), (0, 0), (0, 0), (0, 0), (0, 0), (0, 0), (0, 0)]) rfl hP rfl 24 (by decide) (hts _ (wg_t kw_1456)) (fun _ h9 => h9) (cd := (0, 0)) rfl dMH_readHidden_24 (fun v27 hv27 => ?_)
      obtain rfl := (show v27 = .int (s21.1 225 24) from hv27)
      obtain ⟨z26, ez26, hz31, hz32⟩ := cl_of (b := 2147483648) hf86 (by omega) (by decide)
      replace hR := bnd_step hR ez26
      refine mi_as hz31 ?_
      subst hz32
      refine lv_aload_n hx hb dMH_readHidden_27 rfl (lv_at hl 3 rfl) ?_
      refine nw_get (C := "LatticeKeysModel$Hands") (TT := T_MH) (N := 31) hx hb hts (wg_ft i_MH) hown hK hO k_h0 (kn := 225) (ci := 12) (fl := [(3, 172), (3, 181), (3, 226), (3, 291), (3, 299), (3, 308), (3, 317), (3, 326), (3, 334), (3, 342), (3, 350), (3, 359), (3, 368), (3, 369), (3, 370), (3, 371), (3, 372), (3, 373), (3, 374), (3, 375), (3, 376), (3, 377), (3, 378), (0, 0), (0, 0), (0, 0), (0, 0), (0, 0), (0, 0), (0, 0), (0, 0)]) rfl hP rfl 25 (by decide) (hts _ (wg_t kw_1457)) (fun _ h9 => h9) (cd := (0, 0)) rfl dMH_readHidden_28 (fun v28 hv28 => ?_)
      obtain rfl := (show v28 = .int (s21.1 225 25) from hv28)
      obtain ⟨z27, ez27, hz33, hz34⟩ := cl_of (b := 2147483648) hf87 (by omega) (by decide)
      replace hR := bnd_step hR ez27
      refine mi_as hz33 ?_
      subst hz34
      refine mi_iadd hx hb dMH_readHidden_31 ?_
      refine mi_as (show nI (6 + 5) = nI 11 from rfl) ?_
      refine mi_ge (tgt := 118) hx hb dMH_readHidden_32 (by decide) (by omega) (by omega) (fun h27 => absurd h27 (by omega)) (fun h27 => ?_)
      refine lv_iconst (v := nI 0) hx hb dMH_readHidden_35 (by decide) ?_
      refine lv_istore (lv' := [(5, .int (nI 0)), (4, .int (nI i21)), (3, .int (nI az21)), (2, .int (nI 4)), (0, .ref h0), (1, .ref sk)]) hx hb dMH_readHidden_36 hl (by decide) rfl (fun ls hl => ?_)
      have lp24 : ∀ (n24 : Nat) (i24 : Nat) (az24 : Nat) (s25 : Sto) (pl : va_W) (ls : Array Slot) (H : Heap) (locs : List Loc), n24 + i24 = 256 → (az24 = 1024 + 1024 * i21 + 4 * i24) → frm (M_MH_readHidden_1) s s25 → s25.1 225 23 = nI 1 → s25.1 225 24 = nI 6 → s25.1 225 25 = nI 5 → s25.1 225 26 = nI 4 → s25.1 225 27 = nI 524288 → s25.1 225 28 = nI 261888 → s25.1 225 29 = nI 196 → s25.1 225 30 = nI 48 → F_MH_readHidden_1 psk s = F_MH_readHidden_1_L3 psk i21 (F_MH_readHidden_1_L0 psk n21) n24 i24 az24 s25 → lv_has ls 7 [(5, .int (nI i24)), (4, .int (nI i21)), (3, .int (nI az24)), (2, .int (nI 4)), (0, .ref h0), (1, .ref sk)] → okn g T s25 pl → va_P g.1 vcl ([] ++ pl) H → va_D A ([] ++ pl) → va_S A s0.heap H locs → W p l e ({ frames := 1, cells := 0, slots := 0, locals := 24 } : Room) s0 m args below meth c H locs 0 0 (MQ below (va_Qv (fun (u : (Sto) × va_W) => (u.1 = F_MH_readHidden_1 psk s ∧ frm (M_MH_readHidden_1) s u.1 ∧ True) ∧ okn g T u.1 u.2) (po g.1 vcl A (fun (u : (Sto) × va_W) => [] ++ u.2)) A) args s0 0 0 A) (F0 m 38 ls []) := by
        intro n24
        induction n24 with
        | zero =>
          intro i24 az24 s25 pl ls H locs hm24 hi24 hF hf93 hf94 hf95 hf96 hf97 hf98 hf99 hf100 hR hl hO hP hD hS
          refine lv_iload hx hb dMH_readHidden_38 (lv_at hl 0 rfl) ?_
          refine lv_sipush (v := nI 256) hx hb dMH_readHidden_40 (by decide) ?_
          refine mi_ge (tgt := 112) hx hb dMH_readHidden_43 (by decide) (by omega) (by omega) (fun h28 => ?_) (fun h28 => absurd h28 (by omega))
          refine mi_iinc (k := 1) (x := i21) (d := 1) (y := i21 + 1) (lv' := [(4, .int (nI (i21 + 1))), (5, .int (nI i24)), (3, .int (nI az24)), (2, .int (nI 4)), (0, .ref h0), (1, .ref sk)]) hx hb dMH_readHidden_112 hl rfl (by decide) rfl (by decide) rfl (fun ls hl => ?_)
          refine lv_goto (tgt := 21) hx hb dMH_readHidden_115 (by decide) ?_
          exact ih21 (i21 + 1) az24 s25 pl ls H locs (by omega) (by omega) hF hf93 hf94 hf95 hf96 hf97 hf98 hf99 hf100 hR (lv_sub hl [0, 2, 3, 4, 5] rfl) hO hP hD hS
        | succ n24 ih24 =>
          intro i24 az24 s25 pl ls H locs hm24 hi24 hF hf101 hf102 hf103 hf104 hf105 hf106 hf107 hf108 hR hl hO hP hD hS
          refine lv_iload hx hb dMH_readHidden_38 (lv_at hl 0 rfl) ?_
          refine lv_sipush (v := nI 256) hx hb dMH_readHidden_40 (by decide) ?_
          refine mi_ge (tgt := 112) hx hb dMH_readHidden_43 (by decide) (by omega) (by omega) (fun h29 => absurd h29 (by omega)) (fun h29 => ?_)
          refine lv_aload_n hx hb dMH_readHidden_46 rfl (lv_at hl 4 rfl) ?_
          refine nw_get (C := "LatticeKeysModel$Hands") (TT := T_MH) (N := 31) hx hb hts (wg_ft i_MH) hown hK hO k_h0 (kn := 225) (ci := 12) (fl := [(3, 172), (3, 181), (3, 226), (3, 291), (3, 299), (3, 308), (3, 317), (3, 326), (3, 334), (3, 342), (3, 350), (3, 359), (3, 368), (3, 369), (3, 370), (3, 371), (3, 372), (3, 373), (3, 374), (3, 375), (3, 376), (3, 377), (3, 378), (0, 0), (0, 0), (0, 0), (0, 0), (0, 0), (0, 0), (0, 0), (0, 0)]) rfl hP rfl 26 (by decide) (hts _ (wg_t kw_1458)) (fun _ h9 => h9) (cd := (0, 0)) rfl dMH_readHidden_47 (fun v29 hv29 => ?_)
          obtain rfl := (show v29 = .int (s25.1 225 26) from hv29)
          obtain ⟨z28, ez28, hz35, hz36⟩ := cl_of (b := 2147483648) hf104 (by omega) (by decide)
          replace hR := bnd_step hR ez28
          refine mi_as hz35 ?_
          subst hz36
          refine lv_aload_n hx hb dMH_readHidden_50 rfl (lv_at hl 5 rfl) ?_
          refine lv_iload_n hx hb dMH_readHidden_51 rfl (lv_at hl 2 rfl) ?_
          refine lv_iload_n hx hb dMH_readHidden_52 rfl (lv_at hl 3 rfl) ?_
          refine mp_i (cx := []) (wr := []) hP hD hS hA [] [] rfl rfl rfl (by decide) (va_runSN (As := [.ref sk, .int (nI az24), .int (nI 4)]) (rest := [.int (nI 4)]) F (N_M_unpack l g _ T s25 pl hO hU sk psk 4896 az24 4 k_sk n_sk (by omega) (by omega) (by omega)) ⟨va_cnB 3 hts (wg_in kw_1667) rfl rfl rfl (hE.2.2.2.2.2.2.2.2.2.2) (hts _ (wg_t kw_9)) (by decide +kernel) ⟨by decide, by decide⟩, hts _ (wg_t kw_1666), trivial⟩ (pp_S (en_ok g) hP hD hS hA hE [] rfl rfl) rfl rfl hl.1 rfl (lv_room (Nat.le_of_ble_eq_true rfl)) dMH_readHidden_53 ⟨by omega, by omega⟩) (fun r25 u23 H locs hu23 hP hD hS => ?_)
          obtain ⟨q23, pl⟩ := u23
          obtain ⟨⟨eq23, rfl, hFc23, -⟩, hO⟩ := hu23
          have hO : okn g T q23.2 pl := hO
          have hP : va_P g.1 vcl ([] ++ pl) _ := hP
          have hD : va_D _ ([] ++ pl) := hD
          have hFc23 : frm (M_M_unpack) s25 q23.2 := hFc23
          replace hR := bnd_step hR eq23
          have hF := frm_tr hF hFc23 (fun k hk => by unfold M_M_unpack at hk; unfold M_MH_readHidden_1; omega)
          have hf109 : q23.2.1 225 23 = nI 1 := fc_F hf101 hFc23 (by unfold M_M_unpack; omega)
          have hf110 : q23.2.1 225 24 = nI 6 := fc_F hf102 hFc23 (by unfold M_M_unpack; omega)
          have hf111 : q23.2.1 225 25 = nI 5 := fc_F hf103 hFc23 (by unfold M_M_unpack; omega)
          have hf112 : q23.2.1 225 26 = nI 4 := fc_F hf104 hFc23 (by unfold M_M_unpack; omega)
          have hf113 : q23.2.1 225 27 = nI 524288 := fc_F hf105 hFc23 (by unfold M_M_unpack; omega)
          have hf114 : q23.2.1 225 28 = nI 261888 := fc_F hf106 hFc23 (by unfold M_M_unpack; omega)
          have hf115 : q23.2.1 225 29 = nI 196 := fc_F hf107 hFc23 (by unfold M_M_unpack; omega)
          have hf116 : q23.2.1 225 30 = nI 48 := fc_F hf108 hFc23 (by unfold M_M_unpack; omega)
          refine W.widen (k := 0) (n := 0) (by omega) (by omega) ?_
          refine mp_i (cx := []) (wr := []) hP hD hS hA [] [] rfl rfl rfl (by decide) (va_runS (As := [.int (nI 4), .int q23.1]) (rest := []) F (N_MH_minus l g _ T q23.2 pl hO hU (nI 4) (q23.1)) (va_cwS 2 hts (wg_app (wg_c kw_1865 (wg_c kw_1866 (wg_c kw_13 wg_n))) kw_1867) rfl rfl rfl (by decide +kernel) ⟨by decide, by decide⟩) (pp_S (en_ok g) hP hD hS hA hE [] rfl rfl) rfl rfl hl.1 rfl (lv_room (Nat.le_of_ble_eq_true rfl)) dMH_readHidden_56 ⟨by omega, by omega⟩) (fun r26 u24 H locs hu24 hP hD hS => ?_)
          obtain ⟨q24, pl⟩ := u24
          obtain ⟨⟨eq24, rfl, hFc24, -⟩, hO⟩ := hu24
          have hO : okn g T q24.2 pl := hO
          have hP : va_P g.1 vcl ([] ++ pl) _ := hP
          have hD : va_D _ ([] ++ pl) := hD
          have hFc24 : frm (M_MH_minus) q23.2 q24.2 := hFc24
          replace hR := bnd_step hR eq24
          have hF := frm_tr hF hFc24 (fun k hk => by unfold M_MH_minus at hk; unfold M_MH_readHidden_1; omega)
          have hf117 : q24.2.1 225 23 = nI 1 := fc_F hf109 hFc24 (by unfold M_MH_minus; omega)
          have hf118 : q24.2.1 225 24 = nI 6 := fc_F hf110 hFc24 (by unfold M_MH_minus; omega)
          have hf119 : q24.2.1 225 25 = nI 5 := fc_F hf111 hFc24 (by unfold M_MH_minus; omega)
          have hf120 : q24.2.1 225 26 = nI 4 := fc_F hf112 hFc24 (by unfold M_MH_minus; omega)
          have hf121 : q24.2.1 225 27 = nI 524288 := fc_F hf113 hFc24 (by unfold M_MH_minus; omega)
          have hf122 : q24.2.1 225 28 = nI 261888 := fc_F hf114 hFc24 (by unfold M_MH_minus; omega)
          have hf123 : q24.2.1 225 29 = nI 196 := fc_F hf115 hFc24 (by unfold M_MH_minus; omega)
          have hf124 : q24.2.1 225 30 = nI 48 := fc_F hf116 hFc24 (by unfold M_MH_minus; omega)
          refine W.widen (k := 0) (n := 0) (by omega) (by omega) ?_
          refine mi_eqv (fun z29 ez29 => ?_)
          replace hR := bnd_step hR ez29
          refine lv_istore (lv' := [(6, .int z29), (5, .int (nI i24)), (4, .int (nI i21)), (3, .int (nI az24)), (2, .int (nI 4)), (0, .ref h0), (1, .ref sk)]) hx hb dMH_readHidden_59 hl (by decide) rfl (fun ls hl => ?_)
          refine lv_iload hx hb dMH_readHidden_61 (lv_at hl 2 rfl) ?_
          refine lv_aload_n hx hb dMH_readHidden_63 rfl (lv_at hl 5 rfl) ?_
          refine nw_get (C := "LatticeKeysModel$Hands") (TT := T_MH) (N := 31) hx hb hts (wg_ft i_MH) hown hK hO k_h0 (kn := 225) (ci := 12) (fl := [(3, 172), (3, 181), (3, 226), (3, 291), (3, 299), (3, 308), (3, 317), (3, 326), (3, 334), (3, 342), (3, 350), (3, 359), (3, 368), (3, 369), (3, 370), (3, 371), (3, 372), (3, 373), (3, 374), (3, 375), (3, 376), (3, 377), (3, 378), (0, 0), (0, 0), (0, 0), (0, 0), (0, 0), (0, 0), (0, 0), (0, 0)]) rfl hP rfl 25 (by decide) (hts _ (wg_t kw_1457)) (fun _ h9 => h9) (cd := (0, 0)) rfl dMH_readHidden_64 (fun v30 hv30 => ?_)
          obtain rfl := (show v30 = .int (q24.2.1 225 25) from hv30)
          obtain ⟨z30, ez30, hz37, hz38⟩ := cl_of (b := 2147483648) hf119 (by omega) (by decide)
          replace hR := bnd_step hR ez30
          refine mi_as hz37 ?_
          subst hz38
          refine mi_ge (tgt := 85) hx hb dMH_readHidden_67 (by decide) (by omega) (by omega) (fun h30 => ?_) (fun h30 => ?_)
          · replace hR := hR.trans (if_pos h30)
            refine lv_aload_n hx hb dMH_readHidden_85 rfl (lv_at hl 5 rfl) ?_
            refine nw_get (C := "LatticeKeysModel$Hands") (TT := T_MH) (N := 31) hx hb hts (wg_ft i_MH) hown hK hO k_h0 (kn := 225) (ci := 12) (fl := [(3, 172), (3, 181), (3, 226), (3, 291), (3, 299), (3, 308), (3, 317), (3, 326), (3, 334), (3, 342), (3, 350), (3, 359), (3, 368), (3, 369), (3, 370), (3, 371), (3, 372), (3, 373), (3, 374), (3, 375), (3, 376), (3, 377), (3, 378), (0, 0), (0, 0), (0, 0), (0, 0), (0, 0), (0, 0), (0, 0), (0, 0)]) rfl hP rfl 4 (by decide) (hts _ (wg_t kw_1436)) (fun _ h9 => h9) (cd := (3, 299)) rfl dMH_readHidden_86 (fun v31 hv31 => ?_)
            obtain ⟨r27, rfl, kr23⟩ := (show ∃ r : Nat, v31 = .ref r ∧ T r = some 299 from hv31)
            refine lv_iload hx hb dMH_readHidden_89 (lv_at hl 2 rfl) ?_
            refine lv_aload_n hx hb dMH_readHidden_91 rfl (lv_at hl 5 rfl) ?_
            refine nw_get (C := "LatticeKeysModel$Hands") (TT := T_MH) (N := 31) hx hb hts (wg_ft i_MH) hown hK hO k_h0 (kn := 225) (ci := 12) (fl := [(3, 172), (3, 181), (3, 226), (3, 291), (3, 299), (3, 308), (3, 317), (3, 326), (3, 334), (3, 342), (3, 350), (3, 359), (3, 368), (3, 369), (3, 370), (3, 371), (3, 372), (3, 373), (3, 374), (3, 375), (3, 376), (3, 377), (3, 378), (0, 0), (0, 0), (0, 0), (0, 0), (0, 0), (0, 0), (0, 0), (0, 0)]) rfl hP rfl 25 (by decide) (hts _ (wg_t kw_1457)) (fun _ h9 => h9) (cd := (0, 0)) rfl dMH_readHidden_92 (fun v32 hv32 => ?_)
            obtain rfl := (show v32 = .int (q24.2.1 225 25) from hv32)
            obtain ⟨z31, ez31, hz39, hz40⟩ := cl_of (b := 2147483648) hf119 (by omega) (by decide)
            replace hR := bnd_step hR ez31
            refine mi_as hz39 ?_
            subst hz40
            refine mi_isub hx hb dMH_readHidden_95 (by omega) ?_
            refine nw_aald3 hx hb hK hO kr23 (k := 299) (b := 300) rfl hP (by omega) (by omega) dMH_readHidden_96 (fun r28 kr24 => ?_)
            have hn22 : nsp (300 + (i21 - 5)) = (0, 256, []) := rows_ok 300 8 (by decide) _ (by omega)
            refine lv_iload hx hb dMH_readHidden_97 (lv_at hl 1 rfl) ?_
            refine lv_iload hx hb dMH_readHidden_99 (lv_at hl 0 rfl) ?_
            refine nw_iast hx hb hK hO hU kr24 (k := (300 + (i21 - 5))) hn22 hP hD hS (by omega) (by omega) dMH_readHidden_101 (fun s26 pl H locs es22 hO hP hD hS => ?_)
            replace hR := bnd_step hR es22
            have hF := frm_sI hF es22 (by unfold M_MH_readHidden_1; omega)
            have hf125 : s26.1 225 23 = nI 1 := fc_ne hf117 es22 (by omega)
            have hf126 : s26.1 225 24 = nI 6 := fc_ne hf118 es22 (by omega)
            have hf127 : s26.1 225 25 = nI 5 := fc_ne hf119 es22 (by omega)
            have hf128 : s26.1 225 26 = nI 4 := fc_ne hf120 es22 (by omega)
            have hf129 : s26.1 225 27 = nI 524288 := fc_ne hf121 es22 (by omega)
            have hf130 : s26.1 225 28 = nI 261888 := fc_ne hf122 es22 (by omega)
            have hf131 : s26.1 225 29 = nI 196 := fc_ne hf123 es22 (by omega)
            have hf132 : s26.1 225 30 = nI 48 := fc_ne hf124 es22 (by omega)
            refine lv_iload_n hx hb dMH_readHidden_102 rfl (lv_at hl 3 rfl) ?_
            refine lv_iload_n hx hb dMH_readHidden_103 rfl (lv_at hl 4 rfl) ?_
            refine mi_iadd hx hb dMH_readHidden_104 ?_
            refine lv_istore_n (lv' := [(3, .int (nI (az24 + 4))), (6, .int z29), (5, .int (nI i24)), (4, .int (nI i21)), (2, .int (nI 4)), (0, .ref h0), (1, .ref sk)]) hx hb dMH_readHidden_105 rfl hl (by decide) rfl (fun ls hl => ?_)
            refine mi_iinc (k := 2) (x := i24) (d := 1) (y := i24 + 1) (lv' := [(5, .int (nI (i24 + 1))), (3, .int (nI (az24 + 4))), (6, .int z29), (4, .int (nI i21)), (2, .int (nI 4)), (0, .ref h0), (1, .ref sk)]) hx hb dMH_readHidden_106 hl rfl (by decide) rfl (by decide) rfl (fun ls hl => ?_)
            refine lv_goto (tgt := 38) hx hb dMH_readHidden_109 (by decide) ?_
            exact ih24 (i24 + 1) (az24 + 4) s26 pl ls H locs (by omega) (by omega) hF hf125 hf126 hf127 hf128 hf129 hf130 hf131 hf132 hR (lv_sub hl [0, 3, 1, 4, 5, 6] rfl) hO hP hD hS
          · replace hR := hR.trans (if_neg (Nat.not_le.mpr h30))
            refine lv_aload_n hx hb dMH_readHidden_70 rfl (lv_at hl 5 rfl) ?_
            refine nw_get (C := "LatticeKeysModel$Hands") (TT := T_MH) (N := 31) hx hb hts (wg_ft i_MH) hown hK hO k_h0 (kn := 225) (ci := 12) (fl := [(3, 172), (3, 181), (3, 226), (3, 291), (3, 299), (3, 308), (3, 317), (3, 326), (3, 334), (3, 342), (3, 350), (3, 359), (3, 368), (3, 369), (3, 370), (3, 371), (3, 372), (3, 373), (3, 374), (3, 375), (3, 376), (3, 377), (3, 378), (0, 0), (0, 0), (0, 0), (0, 0), (0, 0), (0, 0), (0, 0), (0, 0)]) rfl hP rfl 3 (by decide) (hts _ (wg_t kw_1435)) (fun _ h9 => h9) (cd := (3, 291)) rfl dMH_readHidden_71 (fun v33 hv33 => ?_)
            obtain ⟨r29, rfl, kr25⟩ := (show ∃ r : Nat, v33 = .ref r ∧ T r = some 291 from hv33)
            refine lv_iload hx hb dMH_readHidden_74 (lv_at hl 2 rfl) ?_
            refine nw_aald3 hx hb hK hO kr25 (k := 291) (b := 292) rfl hP (by omega) (by omega) dMH_readHidden_76 (fun r30 kr26 => ?_)
            have hn23 : nsp (292 + i21) = (0, 256, []) := rows_ok 292 7 (by decide) _ (by omega)
            refine lv_iload hx hb dMH_readHidden_77 (lv_at hl 1 rfl) ?_
            refine lv_iload hx hb dMH_readHidden_79 (lv_at hl 0 rfl) ?_
            refine nw_iast hx hb hK hO hU kr26 (k := (292 + i21)) hn23 hP hD hS (by omega) (by omega) dMH_readHidden_81 (fun s27 pl H locs es23 hO hP hD hS => ?_)
            replace hR := bnd_step hR es23
            have hF := frm_sI hF es23 (by unfold M_MH_readHidden_1; omega)
            have hf133 : s27.1 225 23 = nI 1 := fc_ne hf117 es23 (by omega)
            have hf134 : s27.1 225 24 = nI 6 := fc_ne hf118 es23 (by omega)
            have hf135 : s27.1 225 25 = nI 5 := fc_ne hf119 es23 (by omega)
            have hf136 : s27.1 225 26 = nI 4 := fc_ne hf120 es23 (by omega)
            have hf137 : s27.1 225 27 = nI 524288 := fc_ne hf121 es23 (by omega)
            have hf138 : s27.1 225 28 = nI 261888 := fc_ne hf122 es23 (by omega)
            have hf139 : s27.1 225 29 = nI 196 := fc_ne hf123 es23 (by omega)
            have hf140 : s27.1 225 30 = nI 48 := fc_ne hf124 es23 (by omega)
            refine lv_goto (tgt := 102) hx hb dMH_readHidden_82 (by decide) ?_
            refine lv_iload_n hx hb dMH_readHidden_102 rfl (lv_at hl 3 rfl) ?_
            refine lv_iload_n hx hb dMH_readHidden_103 rfl (lv_at hl 4 rfl) ?_
            refine mi_iadd hx hb dMH_readHidden_104 ?_
            refine lv_istore_n (lv' := [(3, .int (nI (az24 + 4))), (6, .int z29), (5, .int (nI i24)), (4, .int (nI i21)), (2, .int (nI 4)), (0, .ref h0), (1, .ref sk)]) hx hb dMH_readHidden_105 rfl hl (by decide) rfl (fun ls hl => ?_)
            refine mi_iinc (k := 2) (x := i24) (d := 1) (y := i24 + 1) (lv' := [(5, .int (nI (i24 + 1))), (3, .int (nI (az24 + 4))), (6, .int z29), (4, .int (nI i21)), (2, .int (nI 4)), (0, .ref h0), (1, .ref sk)]) hx hb dMH_readHidden_106 hl rfl (by decide) rfl (by decide) rfl (fun ls hl => ?_)
            refine lv_goto (tgt := 38) hx hb dMH_readHidden_109 (by decide) ?_
            exact ih24 (i24 + 1) (az24 + 4) s27 pl ls H locs (by omega) (by omega) hF hf133 hf134 hf135 hf136 hf137 hf138 hf139 hf140 hR (lv_sub hl [0, 3, 1, 4, 5, 6] rfl) hO hP hD hS
      exact lp24 256 0 az21 s21 pl ls _ _ (by omega) (by omega) hF hf85 hf86 hf87 hf88 hf89 hf90 hf91 hf92 hR (lv_sub hl [0, 1, 2, 3, 4, 5] rfl) hO hP hD hS
  exact lp21 11 0 1024 s pl ls _ _ (by omega) (by omega) hF e_c0 e_c1 e_c2 e_c3 e_c4 e_c5 e_c6 e_c7 hR (lv_sub hl [0, 1, 2, 3, 4] rfl) hO hP hD hS
def M_MH_readHidden_2 (k : Nat) : Prop := (292 ≤ k ∧ k < 299) ∨ (300 ≤ k ∧ k < 308) ∨ (309 ≤ k ∧ k < 317) ∨ (0 : Nat) = 1
noncomputable def F_MH_readHidden_2_L3 (psk : Nat) (i21 : Nat) (kk : Nat → Nat → Sto → Sto) : Nat → Nat → Nat → Sto → Sto
  | 0, i24, az24, s25 => kk (i21 + 1) az24 s25
  | n24 + 1, i24, az24, s25 => bnd ((s25.1 225 26).toNatClampNeg) fun z28 => bnd (F_M_unpack psk 4896 az24 3 s25) fun q23 => bnd (F_MH_minus (nI 2) (q23.1) q23.2) fun q24 => bnd (q24.1) fun z29 => bnd ((q24.2.1 225 25).toNatClampNeg) fun z30 => if 7 ≤ i21 then bnd ((q24.2.1 225 25).toNatClampNeg) fun z31 => bnd (sI q24.2 ((300 + (i21 - 7))) i24 z29) fun s26 => F_MH_readHidden_2_L3 psk i21 kk n24 (i24 + 1) (az24 + 3) s26 else bnd (sI q24.2 ((292 + i21)) i24 z29) fun s27 => F_MH_readHidden_2_L3 psk i21 kk n24 (i24 + 1) (az24 + 3) s27
noncomputable def F_MH_readHidden_2_L2 (psk : Nat) (i22 : Nat) (kk : Nat → Nat → Sto → Sto) : Nat → Nat → Nat → Sto → Sto
  | 0, i23, az23, s23 => kk (i22 + 1) az23 s23
  | n23 + 1, i23, az23, s23 => bnd (F_M_unpack psk 4896 az23 13 s23) fun q21 => bnd (F_MH_minus (nI 4096) (q21.1) q21.2) fun q22 => bnd (sI q22.2 ((309 + i22)) i23 (q22.1)) fun s24 => F_MH_readHidden_2_L2 psk i22 kk n23 (i23 + 1) (az23 + 13) s24
noncomputable def F_MH_readHidden_2_L1 (psk : Nat) : Nat → Nat → Nat → Sto → Sto
  | 0, i22, az22, s22 => bnd ((s22.1 225 24).toNatClampNeg) fun z24 => s22
  | n22 + 1, i22, az22, s22 => bnd ((s22.1 225 24).toNatClampNeg) fun z25 => F_MH_readHidden_2_L2 psk i22 (F_MH_readHidden_2_L1 psk n22) 256 0 az22 s22
noncomputable def F_MH_readHidden_2_L0 (psk : Nat) : Nat → Nat → Nat → Sto → Sto
  | 0, i21, az21, s21 => bnd ((s21.1 225 24).toNatClampNeg) fun z22 => bnd ((s21.1 225 25).toNatClampNeg) fun z23 => F_MH_readHidden_2_L1 psk 8 0 az21 s21
  | n21 + 1, i21, az21, s21 => bnd ((s21.1 225 24).toNatClampNeg) fun z26 => bnd ((s21.1 225 25).toNatClampNeg) fun z27 => F_MH_readHidden_2_L3 psk i21 (F_MH_readHidden_2_L0 psk n21) 256 0 az21 s21
noncomputable def F_MH_readHidden_2 (psk : Nat) (s : Sto) : Sto := bnd ((s.1 225 26).toNatClampNeg) fun z21 => F_MH_readHidden_2_L0 psk 15 0 1024 s
set_option maxHeartbeats 8000000 in
set_option maxRecDepth 100000 in
theorem N_MH_readHidden_2 (l : Launch) (g : Gd) (sz : Nat) (T : TyN) (s : Sto) (pl : va_W) (hO : okn g T s pl) (hU : inj T) (h0 sk : Nat) (psk : Nat) (k_h0 : T h0 = some 225) (k_sk : T sk = some psk) (n_sk : nsp psk = (1, 4896, [])) (e_c0 : s.1 225 23 = nI 2) (e_c1 : s.1 225 24 = nI 8) (e_c2 : s.1 225 25 = nI 7) (e_c3 : s.1 225 26 = nI 2) (e_c4 : s.1 225 27 = nI 524288) (e_c5 : s.1 225 28 = nI 261888) (e_c6 : s.1 225 29 = nI 120) (e_c7 : s.1 225 30 = nI 64)  : Met l y_MH_readHidden w_MH_readHidden ({ frames := 1, cells := 0, slots := 0, locals := 24 } : Room) (va_Pc [.ref h0, .ref sk] (pr (en g) g.1 vcl sz ([] ++ pl))) (va_Qv (fun (u : (Sto) × va_W) => (u.1 = F_MH_readHidden_2 psk s ∧ frm (M_MH_readHidden_2) s u.1 ∧ True) ∧ okn g T u.1 u.2) (po g.1 vcl (va_A ([] ++ pl) sz) (fun (u : (Sto) × va_W) => [] ++ u.2)) (va_A ([] ++ pl) sz)) 0 0 (va_A ([] ++ pl) sz) := by
  refine mc_entry (cc := c_MH_readHidden) (maxL := 7) (ret := none) (by decide) rfl (Nat.le_of_ble_eq_true rfl) ?_
  intro p e s0 m args below meth c ls F hr hlk hnm hsz hP hD hE hA hl
  obtain ⟨hx, hb, hml, hown, hts⟩ := id F
  have hK := hE.1
  generalize va_A ([] ++ pl) sz = A at hD hE hA ⊢
  have hS : va_S A s0.heap s0.heap [] := va_S.rf
  have hl : lv_has ls 7 [(0, .ref h0), (1, .ref sk)] := hl
  have hR : F_MH_readHidden_2 psk s = F_MH_readHidden_2 psk s := rfl
  have hF : frm (M_MH_readHidden_2) s s := frm_rf
  have ne_172_psk : 172 ≠ psk := nsp_ne (p := 172) rfl n_sk (show (5 : Nat) ≠ 1 by decide)
  have ne_225_psk : 225 ≠ psk := nsp_ne (p := 225) rfl n_sk (show (5 : Nat) ≠ 1 by decide)
  refine lv_aload_n hx hb dMH_readHidden_0 rfl (lv_at hl 0 rfl) ?_
  refine nw_get (C := "LatticeKeysModel$Hands") (TT := T_MH) (N := 31) hx hb hts (wg_ft i_MH) hown hK hO k_h0 (kn := 225) (ci := 12) (fl := [(3, 172), (3, 181), (3, 226), (3, 291), (3, 299), (3, 308), (3, 317), (3, 326), (3, 334), (3, 342), (3, 350), (3, 359), (3, 368), (3, 369), (3, 370), (3, 371), (3, 372), (3, 373), (3, 374), (3, 375), (3, 376), (3, 377), (3, 378), (0, 0), (0, 0), (0, 0), (0, 0), (0, 0), (0, 0), (0, 0), (0, 0)]) rfl hP rfl 26 (by decide) (hts _ (wg_t kw_1458)) (fun _ h9 => h9) (cd := (0, 0)) rfl dMH_readHidden_1 (fun v21 hv21 => ?_)
  obtain rfl := (show v21 = .int (s.1 225 26) from hv21)
  obtain ⟨z21, ez21, hz21, hz22⟩ := cl_of (b := 2147483648) e_c3 (by omega) (by decide)
  replace hR := bnd_step hR ez21
  refine mi_as hz21 ?_
  subst hz22
  refine lv_iconst (v := nI 2) hx hb dMH_readHidden_4 (by decide) ?_
  refine mi_ne (tgt := 12) hx hb dMH_readHidden_5 (by decide) (by omega) (by omega) (fun h21 => absurd h21 (by omega)) (fun h21 => ?_)
  refine lv_iconst (v := nI 3) hx hb dMH_readHidden_8 (by decide) ?_
  refine lv_goto (tgt := 13) hx hb dMH_readHidden_9 (by decide) ?_
  refine lv_istore_n (lv' := [(2, .int (nI 3)), (0, .ref h0), (1, .ref sk)]) hx hb dMH_readHidden_13 rfl hl (by decide) rfl (fun ls hl => ?_)
  refine lv_sipush (v := nI 1024) hx hb dMH_readHidden_14 (by decide) ?_
  refine lv_istore_n (lv' := [(3, .int (nI 1024)), (2, .int (nI 3)), (0, .ref h0), (1, .ref sk)]) hx hb dMH_readHidden_17 rfl hl (by decide) rfl (fun ls hl => ?_)
  refine lv_iconst (v := nI 0) hx hb dMH_readHidden_18 (by decide) ?_
  refine lv_istore (lv' := [(4, .int (nI 0)), (3, .int (nI 1024)), (2, .int (nI 3)), (0, .ref h0), (1, .ref sk)]) hx hb dMH_readHidden_19 hl (by decide) rfl (fun ls hl => ?_)
  have lp21 : ∀ (n21 : Nat) (i21 : Nat) (az21 : Nat) (s21 : Sto) (pl : va_W) (ls : Array Slot) (H : Heap) (locs : List Loc), n21 + i21 = 15 → (az21 = 1024 + 768 * i21) → frm (M_MH_readHidden_2) s s21 → s21.1 225 23 = nI 2 → s21.1 225 24 = nI 8 → s21.1 225 25 = nI 7 → s21.1 225 26 = nI 2 → s21.1 225 27 = nI 524288 → s21.1 225 28 = nI 261888 → s21.1 225 29 = nI 120 → s21.1 225 30 = nI 64 → F_MH_readHidden_2 psk s = F_MH_readHidden_2_L0 psk n21 i21 az21 s21 → lv_has ls 7 [(4, .int (nI i21)), (3, .int (nI az21)), (2, .int (nI 3)), (0, .ref h0), (1, .ref sk)] → okn g T s21 pl → va_P g.1 vcl ([] ++ pl) H → va_D A ([] ++ pl) → va_S A s0.heap H locs → W p l e ({ frames := 1, cells := 0, slots := 0, locals := 24 } : Room) s0 m args below meth c H locs 0 0 (MQ below (va_Qv (fun (u : (Sto) × va_W) => (u.1 = F_MH_readHidden_2 psk s ∧ frm (M_MH_readHidden_2) s u.1 ∧ True) ∧ okn g T u.1 u.2) (po g.1 vcl A (fun (u : (Sto) × va_W) => [] ++ u.2)) A) args s0 0 0 A) (F0 m 21 ls []) := by
    intro n21
    induction n21 with
    | zero =>
      intro i21 az21 s21 pl ls H locs hm21 hi21 hF hf21 hf22 hf23 hf24 hf25 hf26 hf27 hf28 hR hl hO hP hD hS
      refine lv_iload hx hb dMH_readHidden_21 (lv_at hl 0 rfl) ?_
      refine lv_aload_n hx hb dMH_readHidden_23 rfl (lv_at hl 3 rfl) ?_
      refine nw_get (C := "LatticeKeysModel$Hands") (TT := T_MH) (N := 31) hx hb hts (wg_ft i_MH) hown hK hO k_h0 (kn := 225) (ci := 12) (fl := [(3, 172), (3, 181), (3, 226), (3, 291), (3, 299), (3, 308), (3, 317), (3, 326), (3, 334), (3, 342), (3, 350), (3, 359), (3, 368), (3, 369), (3, 370), (3, 371), (3, 372), (3, 373), (3, 374), (3, 375), (3, 376), (3, 377), (3, 378), (0, 0), (0, 0), (0, 0), (0, 0), (0, 0), (0, 0), (0, 0), (0, 0)]) rfl hP rfl 24 (by decide) (hts _ (wg_t kw_1456)) (fun _ h9 => h9) (cd := (0, 0)) rfl dMH_readHidden_24 (fun v22 hv22 => ?_)
      obtain rfl := (show v22 = .int (s21.1 225 24) from hv22)
      obtain ⟨z22, ez22, hz23, hz24⟩ := cl_of (b := 2147483648) hf22 (by omega) (by decide)
      replace hR := bnd_step hR ez22
      refine mi_as hz23 ?_
      subst hz24
      refine lv_aload_n hx hb dMH_readHidden_27 rfl (lv_at hl 3 rfl) ?_
      refine nw_get (C := "LatticeKeysModel$Hands") (TT := T_MH) (N := 31) hx hb hts (wg_ft i_MH) hown hK hO k_h0 (kn := 225) (ci := 12) (fl := [(3, 172), (3, 181), (3, 226), (3, 291), (3, 299), (3, 308), (3, 317), (3, 326), (3, 334), (3, 342), (3, 350), (3, 359), (3, 368), (3, 369), (3, 370), (3, 371), (3, 372), (3, 373), (3, 374), (3, 375), (3, 376), (3, 377), (3, 378), (0, 0), (0, 0), (0, 0), (0, 0), (0, 0), (0, 0), (0, 0), (0, 0)]) rfl hP rfl 25 (by decide) (hts _ (wg_t kw_1457)) (fun _ h9 => h9) (cd := (0, 0)) rfl dMH_readHidden_28 (fun v23 hv23 => ?_)
      obtain rfl := (show v23 = .int (s21.1 225 25) from hv23)
      obtain ⟨z23, ez23, hz25, hz26⟩ := cl_of (b := 2147483648) hf23 (by omega) (by decide)
      replace hR := bnd_step hR ez23
      refine mi_as hz25 ?_
      subst hz26
      refine mi_iadd hx hb dMH_readHidden_31 ?_
      refine mi_as (show nI (8 + 7) = nI 15 from rfl) ?_
      refine mi_ge (tgt := 118) hx hb dMH_readHidden_32 (by decide) (by omega) (by omega) (fun h22 => ?_) (fun h22 => absurd h22 (by omega))
      refine lv_iconst (v := nI 0) hx hb dMH_readHidden_118 (by decide) ?_
      refine lv_istore (lv' := [(4, .int (nI 0)), (3, .int (nI az21)), (2, .int (nI 3)), (0, .ref h0), (1, .ref sk)]) hx hb dMH_readHidden_119 hl (by decide) rfl (fun ls hl => ?_)
      have lp22 : ∀ (n22 : Nat) (i22 : Nat) (az22 : Nat) (s22 : Sto) (pl : va_W) (ls : Array Slot) (H : Heap) (locs : List Loc), n22 + i22 = 8 → (az22 = 12544 + 3328 * i22) → frm (M_MH_readHidden_2) s s22 → s22.1 225 23 = nI 2 → s22.1 225 24 = nI 8 → s22.1 225 25 = nI 7 → s22.1 225 26 = nI 2 → s22.1 225 27 = nI 524288 → s22.1 225 28 = nI 261888 → s22.1 225 29 = nI 120 → s22.1 225 30 = nI 64 → F_MH_readHidden_2 psk s = F_MH_readHidden_2_L1 psk n22 i22 az22 s22 → lv_has ls 7 [(4, .int (nI i22)), (3, .int (nI az22)), (0, .ref h0), (1, .ref sk)] → okn g T s22 pl → va_P g.1 vcl ([] ++ pl) H → va_D A ([] ++ pl) → va_S A s0.heap H locs → W p l e ({ frames := 1, cells := 0, slots := 0, locals := 24 } : Room) s0 m args below meth c H locs 0 0 (MQ below (va_Qv (fun (u : (Sto) × va_W) => (u.1 = F_MH_readHidden_2 psk s ∧ frm (M_MH_readHidden_2) s u.1 ∧ True) ∧ okn g T u.1 u.2) (po g.1 vcl A (fun (u : (Sto) × va_W) => [] ++ u.2)) A) args s0 0 0 A) (F0 m 121 ls []) := by
        intro n22
        induction n22 with
        | zero =>
          intro i22 az22 s22 pl ls H locs hm22 hi22 hF hf29 hf30 hf31 hf32 hf33 hf34 hf35 hf36 hR hl hO hP hD hS
          refine lv_iload hx hb dMH_readHidden_121 (lv_at hl 0 rfl) ?_
          refine lv_aload_n hx hb dMH_readHidden_123 rfl (lv_at hl 2 rfl) ?_
          refine nw_get (C := "LatticeKeysModel$Hands") (TT := T_MH) (N := 31) hx hb hts (wg_ft i_MH) hown hK hO k_h0 (kn := 225) (ci := 12) (fl := [(3, 172), (3, 181), (3, 226), (3, 291), (3, 299), (3, 308), (3, 317), (3, 326), (3, 334), (3, 342), (3, 350), (3, 359), (3, 368), (3, 369), (3, 370), (3, 371), (3, 372), (3, 373), (3, 374), (3, 375), (3, 376), (3, 377), (3, 378), (0, 0), (0, 0), (0, 0), (0, 0), (0, 0), (0, 0), (0, 0), (0, 0)]) rfl hP rfl 24 (by decide) (hts _ (wg_t kw_1456)) (fun _ h9 => h9) (cd := (0, 0)) rfl dMH_readHidden_124 (fun v24 hv24 => ?_)
          obtain rfl := (show v24 = .int (s22.1 225 24) from hv24)
          obtain ⟨z24, ez24, hz27, hz28⟩ := cl_of (b := 2147483648) hf30 (by omega) (by decide)
          replace hR := bnd_step hR ez24
          refine mi_as hz27 ?_
          subst hz28
          refine mi_ge (tgt := 179) hx hb dMH_readHidden_127 (by decide) (by omega) (by omega) (fun h23 => ?_) (fun h23 => absurd h23 (by omega))
          exact mp_vret hx hb hr hlk hP hD hS (s22, pl) ⟨⟨hR.symm, hF, trivial⟩, hO⟩ [] rfl rfl rfl (by omega) (by omega) dMH_readHidden_179
        | succ n22 ih22 =>
          intro i22 az22 s22 pl ls H locs hm22 hi22 hF hf37 hf38 hf39 hf40 hf41 hf42 hf43 hf44 hR hl hO hP hD hS
          refine lv_iload hx hb dMH_readHidden_121 (lv_at hl 0 rfl) ?_
          refine lv_aload_n hx hb dMH_readHidden_123 rfl (lv_at hl 2 rfl) ?_
          refine nw_get (C := "LatticeKeysModel$Hands") (TT := T_MH) (N := 31) hx hb hts (wg_ft i_MH) hown hK hO k_h0 (kn := 225) (ci := 12) (fl := [(3, 172), (3, 181), (3, 226), (3, 291), (3, 299), (3, 308), (3, 317), (3, 326), (3, 334), (3, 342), (3, 350), (3, 359), (3, 368), (3, 369), (3, 370), (3, 371), (3, 372), (3, 373), (3, 374), (3, 375), (3, 376), (3, 377), (3, 378), (0, 0), (0, 0), (0, 0), (0, 0), (0, 0), (0, 0), (0, 0), (0, 0)]) rfl hP rfl 24 (by decide) (hts _ (wg_t kw_1456)) (fun _ h9 => h9) (cd := (0, 0)) rfl dMH_readHidden_124 (fun v25 hv25 => ?_)
          obtain rfl := (show v25 = .int (s22.1 225 24) from hv25)
          obtain ⟨z25, ez25, hz29, hz30⟩ := cl_of (b := 2147483648) hf38 (by omega) (by decide)
          replace hR := bnd_step hR ez25
          refine mi_as hz29 ?_
          subst hz30
          refine mi_ge (tgt := 179) hx hb dMH_readHidden_127 (by decide) (by omega) (by omega) (fun h24 => absurd h24 (by omega)) (fun h24 => ?_)
          refine lv_iconst (v := nI 0) hx hb dMH_readHidden_130 (by decide) ?_
          refine lv_istore (lv' := [(5, .int (nI 0)), (4, .int (nI i22)), (3, .int (nI az22)), (0, .ref h0), (1, .ref sk)]) hx hb dMH_readHidden_131 hl (by decide) rfl (fun ls hl => ?_)
          have lp23 : ∀ (n23 : Nat) (i23 : Nat) (az23 : Nat) (s23 : Sto) (pl : va_W) (ls : Array Slot) (H : Heap) (locs : List Loc), n23 + i23 = 256 → (az23 = 12544 + 3328 * i22 + 13 * i23) → frm (M_MH_readHidden_2) s s23 → s23.1 225 23 = nI 2 → s23.1 225 24 = nI 8 → s23.1 225 25 = nI 7 → s23.1 225 26 = nI 2 → s23.1 225 27 = nI 524288 → s23.1 225 28 = nI 261888 → s23.1 225 29 = nI 120 → s23.1 225 30 = nI 64 → F_MH_readHidden_2 psk s = F_MH_readHidden_2_L2 psk i22 (F_MH_readHidden_2_L1 psk n22) n23 i23 az23 s23 → lv_has ls 7 [(5, .int (nI i23)), (4, .int (nI i22)), (3, .int (nI az23)), (0, .ref h0), (1, .ref sk)] → okn g T s23 pl → va_P g.1 vcl ([] ++ pl) H → va_D A ([] ++ pl) → va_S A s0.heap H locs → W p l e ({ frames := 1, cells := 0, slots := 0, locals := 24 } : Room) s0 m args below meth c H locs 0 0 (MQ below (va_Qv (fun (u : (Sto) × va_W) => (u.1 = F_MH_readHidden_2 psk s ∧ frm (M_MH_readHidden_2) s u.1 ∧ True) ∧ okn g T u.1 u.2) (po g.1 vcl A (fun (u : (Sto) × va_W) => [] ++ u.2)) A) args s0 0 0 A) (F0 m 133 ls []) := by
            intro n23
            induction n23 with
            | zero =>
              intro i23 az23 s23 pl ls H locs hm23 hi23 hF hf45 hf46 hf47 hf48 hf49 hf50 hf51 hf52 hR hl hO hP hD hS
              refine lv_iload hx hb dMH_readHidden_133 (lv_at hl 0 rfl) ?_
              refine lv_sipush (v := nI 256) hx hb dMH_readHidden_135 (by decide) ?_
              refine mi_ge (tgt := 173) hx hb dMH_readHidden_138 (by decide) (by omega) (by omega) (fun h25 => ?_) (fun h25 => absurd h25 (by omega))
              refine mi_iinc (k := 1) (x := i22) (d := 1) (y := i22 + 1) (lv' := [(4, .int (nI (i22 + 1))), (5, .int (nI i23)), (3, .int (nI az23)), (0, .ref h0), (1, .ref sk)]) hx hb dMH_readHidden_173 hl rfl (by decide) rfl (by decide) rfl (fun ls hl => ?_)
              refine lv_goto (tgt := 121) hx hb dMH_readHidden_176 (by decide) ?_
              exact ih22 (i22 + 1) az23 s23 pl ls H locs (by omega) (by omega) hF hf45 hf46 hf47 hf48 hf49 hf50 hf51 hf52 hR (lv_sub hl [0, 2, 3, 4] rfl) hO hP hD hS
            | succ n23 ih23 =>
              intro i23 az23 s23 pl ls H locs hm23 hi23 hF hf53 hf54 hf55 hf56 hf57 hf58 hf59 hf60 hR hl hO hP hD hS
              refine lv_iload hx hb dMH_readHidden_133 (lv_at hl 0 rfl) ?_
              refine lv_sipush (v := nI 256) hx hb dMH_readHidden_135 (by decide) ?_
              refine mi_ge (tgt := 173) hx hb dMH_readHidden_138 (by decide) (by omega) (by omega) (fun h26 => absurd h26 (by omega)) (fun h26 => ?_)
              refine lv_aload_n hx hb dMH_readHidden_141 rfl (lv_at hl 3 rfl) ?_
              refine nw_get (C := "LatticeKeysModel$Hands") (TT := T_MH) (N := 31) hx hb hts (wg_ft i_MH) hown hK hO k_h0 (kn := 225) (ci := 12) (fl := [(3, 172), (3, 181), (3, 226), (3, 291), (3, 299), (3, 308), (3, 317), (3, 326), (3, 334), (3, 342), (3, 350), (3, 359), (3, 368), (3, 369), (3, 370), (3, 371), (3, 372), (3, 373), (3, 374), (3, 375), (3, 376), (3, 377), (3, 378), (0, 0), (0, 0), (0, 0), (0, 0), (0, 0), (0, 0), (0, 0), (0, 0)]) rfl hP rfl 5 (by decide) (hts _ (wg_t kw_1437)) (fun _ h9 => h9) (cd := (3, 308)) rfl dMH_readHidden_142 (fun v26 hv26 => ?_)
              obtain ⟨r21, rfl, kr21⟩ := (show ∃ r : Nat, v26 = .ref r ∧ T r = some 308 from hv26)
              refine lv_iload hx hb dMH_readHidden_145 (lv_at hl 1 rfl) ?_
              refine nw_aald3 hx hb hK hO kr21 (k := 308) (b := 309) rfl hP (by omega) (by omega) dMH_readHidden_147 (fun r22 kr22 => ?_)
              have hn21 : nsp (309 + i22) = (0, 256, []) := rows_ok 309 8 (by decide) _ (by omega)
              refine lv_iload hx hb dMH_readHidden_148 (lv_at hl 0 rfl) ?_
              refine lv_sipush (v := nI 4096) hx hb dMH_readHidden_150 (by decide) ?_
              refine lv_aload_n hx hb dMH_readHidden_153 rfl (lv_at hl 4 rfl) ?_
              refine lv_iload_n hx hb dMH_readHidden_154 rfl (lv_at hl 2 rfl) ?_
              refine lv_bipush (v := nI 13) hx hb dMH_readHidden_155 (by decide) ?_
              refine mp_i (cx := []) (wr := []) hP hD hS hA [] [] rfl rfl rfl (by decide) (va_runSN (As := [.ref sk, .int (nI az23), .int (nI 13)]) (rest := [.int (nI 4096), .int (nI i23), .ref r22]) F (N_M_unpack l g _ T s23 pl hO hU sk psk 4896 az23 13 k_sk n_sk (by omega) (by omega) (by omega)) ⟨va_cnB 3 hts (wg_in kw_1667) rfl rfl rfl (hE.2.2.2.2.2.2.2.2.2.2) (hts _ (wg_t kw_9)) (by decide +kernel) ⟨by decide, by decide⟩, hts _ (wg_t kw_1666), trivial⟩ (pp_S (en_ok g) hP hD hS hA hE [] rfl rfl) rfl rfl hl.1 rfl (lv_room (Nat.le_of_ble_eq_true rfl)) dMH_readHidden_157 ⟨by omega, by omega⟩) (fun r23 u21 H locs hu21 hP hD hS => ?_)
              obtain ⟨q21, pl⟩ := u21
              obtain ⟨⟨eq21, rfl, hFc21, -⟩, hO⟩ := hu21
              have hO : okn g T q21.2 pl := hO
              have hP : va_P g.1 vcl ([] ++ pl) _ := hP
              have hD : va_D _ ([] ++ pl) := hD
              have hFc21 : frm (M_M_unpack) s23 q21.2 := hFc21
              replace hR := bnd_step hR eq21
              have hF := frm_tr hF hFc21 (fun k hk => by unfold M_M_unpack at hk; unfold M_MH_readHidden_2; omega)
              have hf61 : q21.2.1 225 23 = nI 2 := fc_F hf53 hFc21 (by unfold M_M_unpack; omega)
              have hf62 : q21.2.1 225 24 = nI 8 := fc_F hf54 hFc21 (by unfold M_M_unpack; omega)
              have hf63 : q21.2.1 225 25 = nI 7 := fc_F hf55 hFc21 (by unfold M_M_unpack; omega)
              have hf64 : q21.2.1 225 26 = nI 2 := fc_F hf56 hFc21 (by unfold M_M_unpack; omega)
              have hf65 : q21.2.1 225 27 = nI 524288 := fc_F hf57 hFc21 (by unfold M_M_unpack; omega)
              have hf66 : q21.2.1 225 28 = nI 261888 := fc_F hf58 hFc21 (by unfold M_M_unpack; omega)
              have hf67 : q21.2.1 225 29 = nI 120 := fc_F hf59 hFc21 (by unfold M_M_unpack; omega)
              have hf68 : q21.2.1 225 30 = nI 64 := fc_F hf60 hFc21 (by unfold M_M_unpack; omega)
              refine W.widen (k := 0) (n := 0) (by omega) (by omega) ?_
              refine mp_i (cx := []) (wr := []) hP hD hS hA [] [] rfl rfl rfl (by decide) (va_runS (As := [.int (nI 4096), .int q21.1]) (rest := [.int (nI i23), .ref r22]) F (N_MH_minus l g _ T q21.2 pl hO hU (nI 4096) (q21.1)) (va_cwS 2 hts (wg_app (wg_c kw_1865 (wg_c kw_1866 (wg_c kw_13 wg_n))) kw_1867) rfl rfl rfl (by decide +kernel) ⟨by decide, by decide⟩) (pp_S (en_ok g) hP hD hS hA hE [] rfl rfl) rfl rfl hl.1 rfl (lv_room (Nat.le_of_ble_eq_true rfl)) dMH_readHidden_160 ⟨by omega, by omega⟩) (fun r24 u22 H locs hu22 hP hD hS => ?_)
              obtain ⟨q22, pl⟩ := u22
              obtain ⟨⟨eq22, rfl, hFc22, -⟩, hO⟩ := hu22
              have hO : okn g T q22.2 pl := hO
              have hP : va_P g.1 vcl ([] ++ pl) _ := hP
              have hD : va_D _ ([] ++ pl) := hD
              have hFc22 : frm (M_MH_minus) q21.2 q22.2 := hFc22
              replace hR := bnd_step hR eq22
              have hF := frm_tr hF hFc22 (fun k hk => by unfold M_MH_minus at hk; unfold M_MH_readHidden_2; omega)
              have hf69 : q22.2.1 225 23 = nI 2 := fc_F hf61 hFc22 (by unfold M_MH_minus; omega)
              have hf70 : q22.2.1 225 24 = nI 8 := fc_F hf62 hFc22 (by unfold M_MH_minus; omega)
              have hf71 : q22.2.1 225 25 = nI 7 := fc_F hf63 hFc22 (by unfold M_MH_minus; omega)
              have hf72 : q22.2.1 225 26 = nI 2 := fc_F hf64 hFc22 (by unfold M_MH_minus; omega)
              have hf73 : q22.2.1 225 27 = nI 524288 := fc_F hf65 hFc22 (by unfold M_MH_minus; omega)
              have hf74 : q22.2.1 225 28 = nI 261888 := fc_F hf66 hFc22 (by unfold M_MH_minus; omega)
              have hf75 : q22.2.1 225 29 = nI 120 := fc_F hf67 hFc22 (by unfold M_MH_minus; omega)
              have hf76 : q22.2.1 225 30 = nI 64 := fc_F hf68 hFc22 (by unfold M_MH_minus; omega)
              refine W.widen (k := 0) (n := 0) (by omega) (by omega) ?_
              refine nw_iast hx hb hK hO hU kr22 (k := (309 + i22)) hn21 hP hD hS (by omega) (by omega) dMH_readHidden_163 (fun s24 pl H locs es21 hO hP hD hS => ?_)
              replace hR := bnd_step hR es21
              have hF := frm_sI hF es21 (by unfold M_MH_readHidden_2; omega)
              have hf77 : s24.1 225 23 = nI 2 := fc_ne hf69 es21 (by omega)
              have hf78 : s24.1 225 24 = nI 8 := fc_ne hf70 es21 (by omega)
              have hf79 : s24.1 225 25 = nI 7 := fc_ne hf71 es21 (by omega)
              have hf80 : s24.1 225 26 = nI 2 := fc_ne hf72 es21 (by omega)
              have hf81 : s24.1 225 27 = nI 524288 := fc_ne hf73 es21 (by omega)
              have hf82 : s24.1 225 28 = nI 261888 := fc_ne hf74 es21 (by omega)
              have hf83 : s24.1 225 29 = nI 120 := fc_ne hf75 es21 (by omega)
              have hf84 : s24.1 225 30 = nI 64 := fc_ne hf76 es21 (by omega)
              refine mi_iinc (k := 2) (x := az23) (d := 13) (y := az23 + 13) (lv' := [(3, .int (nI (az23 + 13))), (5, .int (nI i23)), (4, .int (nI i22)), (0, .ref h0), (1, .ref sk)]) hx hb dMH_readHidden_164 hl rfl (by decide) rfl (by decide) rfl (fun ls hl => ?_)
              refine mi_iinc (k := 1) (x := i23) (d := 1) (y := i23 + 1) (lv' := [(5, .int (nI (i23 + 1))), (3, .int (nI (az23 + 13))), (4, .int (nI i22)), (0, .ref h0), (1, .ref sk)]) hx hb dMH_readHidden_167 hl rfl (by decide) rfl (by decide) rfl (fun ls hl => ?_)
              refine lv_goto (tgt := 133) hx hb dMH_readHidden_170 (by decide) ?_
              exact ih23 (i23 + 1) (az23 + 13) s24 pl ls H locs (by omega) (by omega) hF hf77 hf78 hf79 hf80 hf81 hf82 hf83 hf84 hR (lv_sub hl [0, 2, 1, 3, 4] rfl) hO hP hD hS
          exact lp23 256 0 az22 s22 pl ls _ _ (by omega) (by omega) hF hf37 hf38 hf39 hf40 hf41 hf42 hf43 hf44 hR (lv_sub hl [0, 1, 2, 3, 4] rfl) hO hP hD hS
      exact lp22 8 0 az21 s21 pl ls _ _ (by omega) (by omega) hF hf21 hf22 hf23 hf24 hf25 hf26 hf27 hf28 hR (lv_sub hl [0, 1, 3, 4] rfl) hO hP hD hS
    | succ n21 ih21 =>
      intro i21 az21 s21 pl ls H locs hm21 hi21 hF hf85 hf86 hf87 hf88 hf89 hf90 hf91 hf92 hR hl hO hP hD hS
      refine lv_iload hx hb dMH_readHidden_21 (lv_at hl 0 rfl) ?_
      refine lv_aload_n hx hb dMH_readHidden_23 rfl (lv_at hl 3 rfl) ?_
      refine nw_get (C := "LatticeKeysModel$Hands") (TT := T_MH) (N := 31) hx hb hts (wg_ft i_MH) hown hK hO k_h0 (kn := 225) (ci := 12) (fl := [(3, 172), (3, 181), (3, 226), (3, 291), (3, 299), (3, 308), (3, 317), (3, 326), (3, 334), (3, 342), (3, 350), (3, 359), (3, 368), (3, 369), (3, 370), (3, 371), (3, 372), (3, 373), (3, 374), (3, 375), (3, 376), (3, 377), (3, 378), (0, 0), (0, 0), (0, 0), (0, 0), (0, 0), (0, 0), (0, 0), (0, 0)]) rfl hP rfl 24 (by decide) (hts _ (wg_t kw_1456)) (fun _ h9 => h9) (cd := (0, 0)) rfl dMH_readHidden_24 (fun v27 hv27 => ?_)
      obtain rfl := (show v27 = .int (s21.1 225 24) from hv27)
      obtain ⟨z26, ez26, hz31, hz32⟩ := cl_of (b := 2147483648) hf86 (by omega) (by decide)
      replace hR := bnd_step hR ez26
      refine mi_as hz31 ?_
      subst hz32
      refine lv_aload_n hx hb dMH_readHidden_27 rfl (lv_at hl 3 rfl) ?_
      refine nw_get (C := "LatticeKeysModel$Hands") (TT := T_MH) (N := 31) hx hb hts (wg_ft i_MH) hown hK hO k_h0 (kn := 225) (ci := 12) (fl := [(3, 172), (3, 181), (3, 226), (3, 291), (3, 299), (3, 308), (3, 317), (3, 326), (3, 334), (3, 342), (3, 350), (3, 359), (3, 368), (3, 369), (3, 370), (3, 371), (3, 372), (3, 373), (3, 374), (3, 375), (3, 376), (3, 377), (3, 378), (0, 0), (0, 0), (0, 0), (0, 0), (0, 0), (0, 0), (0, 0), (0, 0)]) rfl hP rfl 25 (by decide) (hts _ (wg_t kw_1457)) (fun _ h9 => h9) (cd := (0, 0)) rfl dMH_readHidden_28 (fun v28 hv28 => ?_)
      obtain rfl := (show v28 = .int (s21.1 225 25) from hv28)
      obtain ⟨z27, ez27, hz33, hz34⟩ := cl_of (b := 2147483648) hf87 (by omega) (by decide)
      replace hR := bnd_step hR ez27
      refine mi_as hz33 ?_
      subst hz34
      refine mi_iadd hx hb dMH_readHidden_31 ?_
      refine mi_as (show nI (8 + 7) = nI 15 from rfl) ?_
      refine mi_ge (tgt := 118) hx hb dMH_readHidden_32 (by decide) (by omega) (by omega) (fun h27 => absurd h27 (by omega)) (fun h27 => ?_)
      refine lv_iconst (v := nI 0) hx hb dMH_readHidden_35 (by decide) ?_
      refine lv_istore (lv' := [(5, .int (nI 0)), (4, .int (nI i21)), (3, .int (nI az21)), (2, .int (nI 3)), (0, .ref h0), (1, .ref sk)]) hx hb dMH_readHidden_36 hl (by decide) rfl (fun ls hl => ?_)
      have lp24 : ∀ (n24 : Nat) (i24 : Nat) (az24 : Nat) (s25 : Sto) (pl : va_W) (ls : Array Slot) (H : Heap) (locs : List Loc), n24 + i24 = 256 → (az24 = 1024 + 768 * i21 + 3 * i24) → frm (M_MH_readHidden_2) s s25 → s25.1 225 23 = nI 2 → s25.1 225 24 = nI 8 → s25.1 225 25 = nI 7 → s25.1 225 26 = nI 2 → s25.1 225 27 = nI 524288 → s25.1 225 28 = nI 261888 → s25.1 225 29 = nI 120 → s25.1 225 30 = nI 64 → F_MH_readHidden_2 psk s = F_MH_readHidden_2_L3 psk i21 (F_MH_readHidden_2_L0 psk n21) n24 i24 az24 s25 → lv_has ls 7 [(5, .int (nI i24)), (4, .int (nI i21)), (3, .int (nI az24)), (2, .int (nI 3)), (0, .ref h0), (1, .ref sk)] → okn g T s25 pl → va_P g.1 vcl ([] ++ pl) H → va_D A ([] ++ pl) → va_S A s0.heap H locs → W p l e ({ frames := 1, cells := 0, slots := 0, locals := 24 } : Room) s0 m args below meth c H locs 0 0 (MQ below (va_Qv (fun (u : (Sto) × va_W) => (u.1 = F_MH_readHidden_2 psk s ∧ frm (M_MH_readHidden_2) s u.1 ∧ True) ∧ okn g T u.1 u.2) (po g.1 vcl A (fun (u : (Sto) × va_W) => [] ++ u.2)) A) args s0 0 0 A) (F0 m 38 ls []) := by
        intro n24
        induction n24 with
        | zero =>
          intro i24 az24 s25 pl ls H locs hm24 hi24 hF hf93 hf94 hf95 hf96 hf97 hf98 hf99 hf100 hR hl hO hP hD hS
          refine lv_iload hx hb dMH_readHidden_38 (lv_at hl 0 rfl) ?_
          refine lv_sipush (v := nI 256) hx hb dMH_readHidden_40 (by decide) ?_
          refine mi_ge (tgt := 112) hx hb dMH_readHidden_43 (by decide) (by omega) (by omega) (fun h28 => ?_) (fun h28 => absurd h28 (by omega))
          refine mi_iinc (k := 1) (x := i21) (d := 1) (y := i21 + 1) (lv' := [(4, .int (nI (i21 + 1))), (5, .int (nI i24)), (3, .int (nI az24)), (2, .int (nI 3)), (0, .ref h0), (1, .ref sk)]) hx hb dMH_readHidden_112 hl rfl (by decide) rfl (by decide) rfl (fun ls hl => ?_)
          refine lv_goto (tgt := 21) hx hb dMH_readHidden_115 (by decide) ?_
          exact ih21 (i21 + 1) az24 s25 pl ls H locs (by omega) (by omega) hF hf93 hf94 hf95 hf96 hf97 hf98 hf99 hf100 hR (lv_sub hl [0, 2, 3, 4, 5] rfl) hO hP hD hS
        | succ n24 ih24 =>
          intro i24 az24 s25 pl ls H locs hm24 hi24 hF hf101 hf102 hf103 hf104 hf105 hf106 hf107 hf108 hR hl hO hP hD hS
          refine lv_iload hx hb dMH_readHidden_38 (lv_at hl 0 rfl) ?_
          refine lv_sipush (v := nI 256) hx hb dMH_readHidden_40 (by decide) ?_
          refine mi_ge (tgt := 112) hx hb dMH_readHidden_43 (by decide) (by omega) (by omega) (fun h29 => absurd h29 (by omega)) (fun h29 => ?_)
          refine lv_aload_n hx hb dMH_readHidden_46 rfl (lv_at hl 4 rfl) ?_
          refine nw_get (C := "LatticeKeysModel$Hands") (TT := T_MH) (N := 31) hx hb hts (wg_ft i_MH) hown hK hO k_h0 (kn := 225) (ci := 12) (fl := [(3, 172), (3, 181), (3, 226), (3, 291), (3, 299), (3, 308), (3, 317), (3, 326), (3, 334), (3, 342), (3, 350), (3, 359), (3, 368), (3, 369), (3, 370), (3, 371), (3, 372), (3, 373), (3, 374), (3, 375), (3, 376), (3, 377), (3, 378), (0, 0), (0, 0), (0, 0), (0, 0), (0, 0), (0, 0), (0, 0), (0, 0)]) rfl hP rfl 26 (by decide) (hts _ (wg_t kw_1458)) (fun _ h9 => h9) (cd := (0, 0)) rfl dMH_readHidden_47 (fun v29 hv29 => ?_)
          obtain rfl := (show v29 = .int (s25.1 225 26) from hv29)
          obtain ⟨z28, ez28, hz35, hz36⟩ := cl_of (b := 2147483648) hf104 (by omega) (by decide)
          replace hR := bnd_step hR ez28
          refine mi_as hz35 ?_
          subst hz36
          refine lv_aload_n hx hb dMH_readHidden_50 rfl (lv_at hl 5 rfl) ?_
          refine lv_iload_n hx hb dMH_readHidden_51 rfl (lv_at hl 2 rfl) ?_
          refine lv_iload_n hx hb dMH_readHidden_52 rfl (lv_at hl 3 rfl) ?_
          refine mp_i (cx := []) (wr := []) hP hD hS hA [] [] rfl rfl rfl (by decide) (va_runSN (As := [.ref sk, .int (nI az24), .int (nI 3)]) (rest := [.int (nI 2)]) F (N_M_unpack l g _ T s25 pl hO hU sk psk 4896 az24 3 k_sk n_sk (by omega) (by omega) (by omega)) ⟨va_cnB 3 hts (wg_in kw_1667) rfl rfl rfl (hE.2.2.2.2.2.2.2.2.2.2) (hts _ (wg_t kw_9)) (by decide +kernel) ⟨by decide, by decide⟩, hts _ (wg_t kw_1666), trivial⟩ (pp_S (en_ok g) hP hD hS hA hE [] rfl rfl) rfl rfl hl.1 rfl (lv_room (Nat.le_of_ble_eq_true rfl)) dMH_readHidden_53 ⟨by omega, by omega⟩) (fun r25 u23 H locs hu23 hP hD hS => ?_)
          obtain ⟨q23, pl⟩ := u23
          obtain ⟨⟨eq23, rfl, hFc23, -⟩, hO⟩ := hu23
          have hO : okn g T q23.2 pl := hO
          have hP : va_P g.1 vcl ([] ++ pl) _ := hP
          have hD : va_D _ ([] ++ pl) := hD
          have hFc23 : frm (M_M_unpack) s25 q23.2 := hFc23
          replace hR := bnd_step hR eq23
          have hF := frm_tr hF hFc23 (fun k hk => by unfold M_M_unpack at hk; unfold M_MH_readHidden_2; omega)
          have hf109 : q23.2.1 225 23 = nI 2 := fc_F hf101 hFc23 (by unfold M_M_unpack; omega)
          have hf110 : q23.2.1 225 24 = nI 8 := fc_F hf102 hFc23 (by unfold M_M_unpack; omega)
          have hf111 : q23.2.1 225 25 = nI 7 := fc_F hf103 hFc23 (by unfold M_M_unpack; omega)
          have hf112 : q23.2.1 225 26 = nI 2 := fc_F hf104 hFc23 (by unfold M_M_unpack; omega)
          have hf113 : q23.2.1 225 27 = nI 524288 := fc_F hf105 hFc23 (by unfold M_M_unpack; omega)
          have hf114 : q23.2.1 225 28 = nI 261888 := fc_F hf106 hFc23 (by unfold M_M_unpack; omega)
          have hf115 : q23.2.1 225 29 = nI 120 := fc_F hf107 hFc23 (by unfold M_M_unpack; omega)
          have hf116 : q23.2.1 225 30 = nI 64 := fc_F hf108 hFc23 (by unfold M_M_unpack; omega)
          refine W.widen (k := 0) (n := 0) (by omega) (by omega) ?_
          refine mp_i (cx := []) (wr := []) hP hD hS hA [] [] rfl rfl rfl (by decide) (va_runS (As := [.int (nI 2), .int q23.1]) (rest := []) F (N_MH_minus l g _ T q23.2 pl hO hU (nI 2) (q23.1)) (va_cwS 2 hts (wg_app (wg_c kw_1865 (wg_c kw_1866 (wg_c kw_13 wg_n))) kw_1867) rfl rfl rfl (by decide +kernel) ⟨by decide, by decide⟩) (pp_S (en_ok g) hP hD hS hA hE [] rfl rfl) rfl rfl hl.1 rfl (lv_room (Nat.le_of_ble_eq_true rfl)) dMH_readHidden_56 ⟨by omega, by omega⟩) (fun r26 u24 H locs hu24 hP hD hS => ?_)
          obtain ⟨q24, pl⟩ := u24
          obtain ⟨⟨eq24, rfl, hFc24, -⟩, hO⟩ := hu24
          have hO : okn g T q24.2 pl := hO
          have hP : va_P g.1 vcl ([] ++ pl) _ := hP
          have hD : va_D _ ([] ++ pl) := hD
          have hFc24 : frm (M_MH_minus) q23.2 q24.2 := hFc24
          replace hR := bnd_step hR eq24
          have hF := frm_tr hF hFc24 (fun k hk => by unfold M_MH_minus at hk; unfold M_MH_readHidden_2; omega)
          have hf117 : q24.2.1 225 23 = nI 2 := fc_F hf109 hFc24 (by unfold M_MH_minus; omega)
          have hf118 : q24.2.1 225 24 = nI 8 := fc_F hf110 hFc24 (by unfold M_MH_minus; omega)
          have hf119 : q24.2.1 225 25 = nI 7 := fc_F hf111 hFc24 (by unfold M_MH_minus; omega)
          have hf120 : q24.2.1 225 26 = nI 2 := fc_F hf112 hFc24 (by unfold M_MH_minus; omega)
          have hf121 : q24.2.1 225 27 = nI 524288 := fc_F hf113 hFc24 (by unfold M_MH_minus; omega)
          have hf122 : q24.2.1 225 28 = nI 261888 := fc_F hf114 hFc24 (by unfold M_MH_minus; omega)
          have hf123 : q24.2.1 225 29 = nI 120 := fc_F hf115 hFc24 (by unfold M_MH_minus; omega)
          have hf124 : q24.2.1 225 30 = nI 64 := fc_F hf116 hFc24 (by unfold M_MH_minus; omega)
          refine W.widen (k := 0) (n := 0) (by omega) (by omega) ?_
          refine mi_eqv (fun z29 ez29 => ?_)
          replace hR := bnd_step hR ez29
          refine lv_istore (lv' := [(6, .int z29), (5, .int (nI i24)), (4, .int (nI i21)), (3, .int (nI az24)), (2, .int (nI 3)), (0, .ref h0), (1, .ref sk)]) hx hb dMH_readHidden_59 hl (by decide) rfl (fun ls hl => ?_)
          refine lv_iload hx hb dMH_readHidden_61 (lv_at hl 2 rfl) ?_
          refine lv_aload_n hx hb dMH_readHidden_63 rfl (lv_at hl 5 rfl) ?_
          refine nw_get (C := "LatticeKeysModel$Hands") (TT := T_MH) (N := 31) hx hb hts (wg_ft i_MH) hown hK hO k_h0 (kn := 225) (ci := 12) (fl := [(3, 172), (3, 181), (3, 226), (3, 291), (3, 299), (3, 308), (3, 317), (3, 326), (3, 334), (3, 342), (3, 350), (3, 359), (3, 368), (3, 369), (3, 370), (3, 371), (3, 372), (3, 373), (3, 374), (3, 375), (3, 376), (3, 377), (3, 378), (0, 0), (0, 0), (0, 0), (0, 0), (0, 0), (0, 0), (0, 0), (0, 0)]) rfl hP rfl 25 (by decide) (hts _ (wg_t kw_1457)) (fun _ h9 => h9) (cd := (0, 0)) rfl dMH_readHidden_64 (fun v30 hv30 => ?_)
          obtain rfl := (show v30 = .int (q24.2.1 225 25) from hv30)
          obtain ⟨z30, ez30, hz37, hz38⟩ := cl_of (b := 2147483648) hf119 (by omega) (by decide)
          replace hR := bnd_step hR ez30
          refine mi_as hz37 ?_
          subst hz38
          refine mi_ge (tgt := 85) hx hb dMH_readHidden_67 (by decide) (by omega) (by omega) (fun h30 => ?_) (fun h30 => ?_)
          · replace hR := hR.trans (if_pos h30)
            refine lv_aload_n hx hb dMH_readHidden_85 rfl (lv_at hl 5 rfl) ?_
            refine nw_get (C := "LatticeKeysModel$Hands") (TT := T_MH) (N := 31) hx hb hts (wg_ft i_MH) hown hK hO k_h0 (kn := 225) (ci := 12) (fl := [(3, 172), (3, 181), (3, 226), (3, 291), (3, 299), (3, 308), (3, 317), (3, 326), (3, 334), (3, 342), (3, 350), (3, 359), (3, 368), (3, 369), (3, 370), (3, 371), (3, 372), (3, 373), (3, 374), (3, 375), (3, 376), (3, 377), (3, 378), (0, 0), (0, 0), (0, 0), (0, 0), (0, 0), (0, 0), (0, 0), (0, 0)]) rfl hP rfl 4 (by decide) (hts _ (wg_t kw_1436)) (fun _ h9 => h9) (cd := (3, 299)) rfl dMH_readHidden_86 (fun v31 hv31 => ?_)
            obtain ⟨r27, rfl, kr23⟩ := (show ∃ r : Nat, v31 = .ref r ∧ T r = some 299 from hv31)
            refine lv_iload hx hb dMH_readHidden_89 (lv_at hl 2 rfl) ?_
            refine lv_aload_n hx hb dMH_readHidden_91 rfl (lv_at hl 5 rfl) ?_
            refine nw_get (C := "LatticeKeysModel$Hands") (TT := T_MH) (N := 31) hx hb hts (wg_ft i_MH) hown hK hO k_h0 (kn := 225) (ci := 12) (fl := [(3, 172), (3, 181), (3, 226), (3, 291), (3, 299), (3, 308), (3, 317), (3, 326), (3, 334), (3, 342), (3, 350), (3, 359), (3, 368), (3, 369), (3, 370), (3, 371), (3, 372), (3, 373), (3, 374), (3, 375), (3, 376), (3, 377), (3, 378), (0, 0), (0, 0), (0, 0), (0, 0), (0, 0), (0, 0), (0, 0), (0, 0)]) rfl hP rfl 25 (by decide) (hts _ (wg_t kw_1457)) (fun _ h9 => h9) (cd := (0, 0)) rfl dMH_readHidden_92 (fun v32 hv32 => ?_)
            obtain rfl := (show v32 = .int (q24.2.1 225 25) from hv32)
            obtain ⟨z31, ez31, hz39, hz40⟩ := cl_of (b := 2147483648) hf119 (by omega) (by decide)
            replace hR := bnd_step hR ez31
            refine mi_as hz39 ?_
            subst hz40
            refine mi_isub hx hb dMH_readHidden_95 (by omega) ?_
            refine nw_aald3 hx hb hK hO kr23 (k := 299) (b := 300) rfl hP (by omega) (by omega) dMH_readHidden_96 (fun r28 kr24 => ?_)
            have hn22 : nsp (300 + (i21 - 7)) = (0, 256, []) := rows_ok 300 8 (by decide) _ (by omega)
            refine lv_iload hx hb dMH_readHidden_97 (lv_at hl 1 rfl) ?_
            refine lv_iload hx hb dMH_readHidden_99 (lv_at hl 0 rfl) ?_
            refine nw_iast hx hb hK hO hU kr24 (k := (300 + (i21 - 7))) hn22 hP hD hS (by omega) (by omega) dMH_readHidden_101 (fun s26 pl H locs es22 hO hP hD hS => ?_)
            replace hR := bnd_step hR es22
            have hF := frm_sI hF es22 (by unfold M_MH_readHidden_2; omega)
            have hf125 : s26.1 225 23 = nI 2 := fc_ne hf117 es22 (by omega)
            have hf126 : s26.1 225 24 = nI 8 := fc_ne hf118 es22 (by omega)
            have hf127 : s26.1 225 25 = nI 7 := fc_ne hf119 es22 (by omega)
            have hf128 : s26.1 225 26 = nI 2 := fc_ne hf120 es22 (by omega)
            have hf129 : s26.1 225 27 = nI 524288 := fc_ne hf121 es22 (by omega)
            have hf130 : s26.1 225 28 = nI 261888 := fc_ne hf122 es22 (by omega)
            have hf131 : s26.1 225 29 = nI 120 := fc_ne hf123 es22 (by omega)
            have hf132 : s26.1 225 30 = nI 64 := fc_ne hf124 es22 (by omega)
            refine lv_iload_n hx hb dMH_readHidden_102 rfl (lv_at hl 3 rfl) ?_
            refine lv_iload_n hx hb dMH_readHidden_103 rfl (lv_at hl 4 rfl) ?_
            refine mi_iadd hx hb dMH_readHidden_104 ?_
            refine lv_istore_n (lv' := [(3, .int (nI (az24 + 3))), (6, .int z29), (5, .int (nI i24)), (4, .int (nI i21)), (2, .int (nI 3)), (0, .ref h0), (1, .ref sk)]) hx hb dMH_readHidden_105 rfl hl (by decide) rfl (fun ls hl => ?_)
            refine mi_iinc (k := 2) (x := i24) (d := 1) (y := i24 + 1) (lv' := [(5, .int (nI (i24 + 1))), (3, .int (nI (az24 + 3))), (6, .int z29), (4, .int (nI i21)), (2, .int (nI 3)), (0, .ref h0), (1, .ref sk)]) hx hb dMH_readHidden_106 hl rfl (by decide) rfl (by decide) rfl (fun ls hl => ?_)
            refine lv_goto (tgt := 38) hx hb dMH_readHidden_109 (by decide) ?_
            exact ih24 (i24 + 1) (az24 + 3) s26 pl ls H locs (by omega) (by omega) hF hf125 hf126 hf127 hf128 hf129 hf130 hf131 hf132 hR (lv_sub hl [0, 3, 1, 4, 5, 6] rfl) hO hP hD hS
          · replace hR := hR.trans (if_neg (Nat.not_le.mpr h30))
            refine lv_aload_n hx hb dMH_readHidden_70 rfl (lv_at hl 5 rfl) ?_
            refine nw_get (C := "LatticeKeysModel$Hands") (TT := T_MH) (N := 31) hx hb hts (wg_ft i_MH) hown hK hO k_h0 (kn := 225) (ci := 12) (fl := [(3, 172), (3, 181), (3, 226), (3, 291), (3, 299), (3, 308), (3, 317), (3, 326), (3, 334), (3, 342), (3, 350), (3, 359), (3, 368), (3, 369), (3, 370), (3, 371), (3, 372), (3, 373), (3, 374), (3, 375), (3, 376), (3, 377), (3, 378), (0, 0), (0, 0), (0, 0), (0, 0), (0, 0), (0, 0), (0, 0), (0, 0)]) rfl hP rfl 3 (by decide) (hts _ (wg_t kw_1435)) (fun _ h9 => h9) (cd := (3, 291)) rfl dMH_readHidden_71 (fun v33 hv33 => ?_)
            obtain ⟨r29, rfl, kr25⟩ := (show ∃ r : Nat, v33 = .ref r ∧ T r = some 291 from hv33)
            refine lv_iload hx hb dMH_readHidden_74 (lv_at hl 2 rfl) ?_
            refine nw_aald3 hx hb hK hO kr25 (k := 291) (b := 292) rfl hP (by omega) (by omega) dMH_readHidden_76 (fun r30 kr26 => ?_)
            have hn23 : nsp (292 + i21) = (0, 256, []) := rows_ok 292 7 (by decide) _ (by omega)
            refine lv_iload hx hb dMH_readHidden_77 (lv_at hl 1 rfl) ?_
            refine lv_iload hx hb dMH_readHidden_79 (lv_at hl 0 rfl) ?_
            refine nw_iast hx hb hK hO hU kr26 (k := (292 + i21)) hn23 hP hD hS (by omega) (by omega) dMH_readHidden_81 (fun s27 pl H locs es23 hO hP hD hS => ?_)
            replace hR := bnd_step hR es23
            have hF := frm_sI hF es23 (by unfold M_MH_readHidden_2; omega)
            have hf133 : s27.1 225 23 = nI 2 := fc_ne hf117 es23 (by omega)
            have hf134 : s27.1 225 24 = nI 8 := fc_ne hf118 es23 (by omega)
            have hf135 : s27.1 225 25 = nI 7 := fc_ne hf119 es23 (by omega)
            have hf136 : s27.1 225 26 = nI 2 := fc_ne hf120 es23 (by omega)
            have hf137 : s27.1 225 27 = nI 524288 := fc_ne hf121 es23 (by omega)
            have hf138 : s27.1 225 28 = nI 261888 := fc_ne hf122 es23 (by omega)
            have hf139 : s27.1 225 29 = nI 120 := fc_ne hf123 es23 (by omega)
            have hf140 : s27.1 225 30 = nI 64 := fc_ne hf124 es23 (by omega)
            refine lv_goto (tgt := 102) hx hb dMH_readHidden_82 (by decide) ?_
            refine lv_iload_n hx hb dMH_readHidden_102 rfl (lv_at hl 3 rfl) ?_
            refine lv_iload_n hx hb dMH_readHidden_103 rfl (lv_at hl 4 rfl) ?_
            refine mi_iadd hx hb dMH_readHidden_104 ?_
            refine lv_istore_n (lv' := [(3, .int (nI (az24 + 3))), (6, .int z29), (5, .int (nI i24)), (4, .int (nI i21)), (2, .int (nI 3)), (0, .ref h0), (1, .ref sk)]) hx hb dMH_readHidden_105 rfl hl (by decide) rfl (fun ls hl => ?_)
            refine mi_iinc (k := 2) (x := i24) (d := 1) (y := i24 + 1) (lv' := [(5, .int (nI (i24 + 1))), (3, .int (nI (az24 + 3))), (6, .int z29), (4, .int (nI i21)), (2, .int (nI 3)), (0, .ref h0), (1, .ref sk)]) hx hb dMH_readHidden_106 hl rfl (by decide) rfl (by decide) rfl (fun ls hl => ?_)
            refine lv_goto (tgt := 38) hx hb dMH_readHidden_109 (by decide) ?_
            exact ih24 (i24 + 1) (az24 + 3) s27 pl ls H locs (by omega) (by omega) hF hf133 hf134 hf135 hf136 hf137 hf138 hf139 hf140 hR (lv_sub hl [0, 3, 1, 4, 5, 6] rfl) hO hP hD hS
      exact lp24 256 0 az21 s21 pl ls _ _ (by omega) (by omega) hF hf85 hf86 hf87 hf88 hf89 hf90 hf91 hf92 hR (lv_sub hl [0, 1, 2, 3, 4, 5] rfl) hO hP hD hS
  exact lp21 15 0 1024 s pl ls _ _ (by omega) (by omega) hF e_c0 e_c1 e_c2 e_c3 e_c4 e_c5 e_c6 e_c7 hR (lv_sub hl [0, 1, 2, 3, 4] rfl) hO hP hD hS
def M_MH_message_0 (k : Nat) : Prop := k = 172 ∨ k = 373 ∨ (0 : Nat) = 1
noncomputable def F_MH_message_0 (phs : Nat) (nh : Nat) (ha : Nat) (pb : Nat) (nb : Nat) (at_ : Nat) (v : Int32) (ed : Nat) (s : Sto) : Sto := bnd (F_MS_shake  s) fun s21 => bnd (F_MS_puts phs nh ha 64 s21) fun s22 => bnd (F_MS_put (nI 0) s22) fun s23 => bnd (F_MS_put v s23) fun s24 => bnd (F_MS_puts pb nb at_ (ed - at_) s24) fun s25 => bnd (F_MS_end  s25) fun s26 => bnd (F_MS_take 373 64 0 64 s26) fun s27 => s27
set_option maxHeartbeats 8000000 in
set_option maxRecDepth 100000 in
theorem N_MH_message_0 (l : Launch) (g : Gd) (sz : Nat) (T : TyN) (s : Sto) (pl : va_W) (hO : okn g T s pl) (hU : inj T) (h0 hs b : Nat) (phs : Nat) (nh : Nat) (ha : Nat) (pb : Nat) (nb : Nat) (at_ : Nat) (v : Int32) (ed : Nat) (k_h0 : T h0 = some 225) (k_hs : T hs = some phs) (n_hs : nsp phs = (1, nh, [])) (k_b : T b = some pb) (n_b : nsp pb = (1, nb, [])) (e_c0 : s.1 225 23 = nI 0) (e_c1 : s.1 225 24 = nI 4) (e_c2 : s.1 225 25 = nI 4) (e_c3 : s.1 225 26 = nI 2) (e_c4 : s.1 225 27 = nI 131072) (e_c5 : s.1 225 28 = nI 95232) (e_c6 : s.1 225 29 = nI 78) (e_c7 : s.1 225 30 = nI 32) (h1 : ha + 64 ≤ nh) (h2 : nh < 65536) (h3 : at_ ≤ ed) (h4 : ed ≤ nb) (h5 : nb < 65536)  : Met l y_MH_message w_MH_message ({ frames := 4, cells := 0, slots := 0, locals := 90 } : Room) (va_Pc [.ref h0, .ref hs, .int (nI ha), .ref b, .int (nI at_), .int v, .int (nI ed)] (pr (en g) g.1 vcl sz ([] ++ pl))) (va_Qv (fun (u : (Sto) × va_W) => (u.1 = F_MH_message_0 phs nh ha pb nb at_ v ed s ∧ frm (M_MH_message_0) s u.1 ∧ True) ∧ okn g T u.1 u.2) (po g.1 vcl (va_A ([] ++ pl) sz) (fun (u : (Sto) × va_W) => [] ++ u.2)) (va_A ([] ++ pl) sz)) 0 0 (va_A ([] ++ pl) sz) := by
  refine mc_entry (cc := c_MH_message) (maxL := 7) (ret := none) (by decide) rfl (Nat.le_of_ble_eq_true rfl) ?_
  intro p e s0 m args below meth c ls F hr hlk hnm hsz hP hD hE hA hl
  obtain ⟨hx, hb, hml, hown, hts⟩ := id F
  have hK := hE.1
  generalize va_A ([] ++ pl) sz = A at hD hE hA ⊢
  have hS : va_S A s0.heap s0.heap [] := va_S.rf
  have hl : lv_has ls 7 [(0, .ref h0), (1, .ref hs), (2, .int (nI ha)), (3, .ref b), (4, .int (nI at_)), (5, .int v), (6, .int (nI ed))] := hl
  have hR : F_MH_message_0 phs nh ha pb nb at_ v ed s = F_MH_message_0 phs nh ha pb nb at_ v ed s := rfl
  have hF : frm (M_MH_message_0) s s := frm_rf
  have ne_172_phs : 172 ≠ phs := nsp_ne (p := 172) rfl n_hs (show (5 : Nat) ≠ 1 by decide)
  have ne_172_pb : 172 ≠ pb := nsp_ne (p := 172) rfl n_b (show (5 : Nat) ≠ 1 by decide)
  have ne_225_phs : 225 ≠ phs := nsp_ne (p := 225) rfl n_hs (show (5 : Nat) ≠ 1 by decide)
  have ne_225_pb : 225 ≠ pb := nsp_ne (p := 225) rfl n_b (show (5 : Nat) ≠ 1 by decide)
  refine lv_aload_n hx hb dMH_message_0 rfl (lv_at hl 0 rfl) ?_
  refine nw_get (C := "LatticeKeysModel$Hands") (TT := T_MH) (N := 31) hx hb hts (wg_ft i_MH) hown hK hO k_h0 (kn := 225) (ci := 12) (fl := [(3, 172), (3, 181), (3, 226), (3, 291), (3, 299), (3, 308), (3, 317), (3, 326), (3, 334), (3, 342), (3, 350), (3, 359), (3, 368), (3, 369), (3, 370), (3, 371), (3, 372), (3, 373), (3, 374), (3, 375), (3, 376), (3, 377), (3, 378), (0, 0), (0, 0), (0, 0), (0, 0), (0, 0), (0, 0), (0, 0), (0, 0)]) rfl hP rfl 0 (by decide) (hts _ (wg_t kw_1432)) (fun _ h9 => h9) (cd := (3, 172)) rfl dMH_message_1 (fun v21 hv21 => ?_)
  obtain ⟨r21, rfl, kr21⟩ := (show ∃ r : Nat, v21 = .ref r ∧ T r = some 172 from hv21)
  refine mp_v (cx := []) (wr := []) hP hD hS hA [] [] rfl rfl rfl (by decide) (va_runV (As := []) (rest := []) F (N_MS_shake l g _ T s pl hO hU r21 kr21) (cwV 0 hts (wg_app (wg_c kw_1718 (wg_c kw_1661 (wg_c kw_1662 (wg_c kw_10 wg_n)))) kw_1663) rfl rfl rfl (by decide +kernel) ⟨by decide, by decide⟩) (pn_W "LatticeKeysModel$Sponge" (en_ok g) (ci := 9) (kn := 172) (fl := [(3, 173), (3, 174), (3, 175), (3, 176), (3, 177), (0, 0), (0, 0), (0, 0)]) hK hO kr21 rfl hP hD hS hA hE [] rfl rfl rfl) rfl rfl hl.1 rfl (lv_room (Nat.le_of_ble_eq_true rfl)) dMH_message_4 ⟨by omega, by omega⟩) (fun  u21 H locs hu21 hP hD hS => ?_)
  obtain ⟨s21, pl⟩ := u21
  obtain ⟨⟨eq21, hFc21, ⟨x21, hx_21, hb_21⟩, ⟨x22, hx_22, hb_22⟩, -⟩, hO⟩ := hu21
  have hO : okn g T s21 pl := hO
  have hP : va_P g.1 vcl ([] ++ pl) _ := hP
  have hD : va_D _ ([] ++ pl) := hD
  have hFc21 : frm (M_MS_shake) s s21 := hFc21
  have hb_21 : x21 = 0 := hb_21
  have hb_22 : x22 = 136 := hb_22
  replace hR := bnd_step hR eq21
  have hF := frm_tr hF hFc21 (fun k hk => by unfold M_MS_shake at hk; unfold M_MH_message_0; omega)
  have hf21 : s21.1 225 23 = nI 0 := fc_F e_c0 hFc21 (by unfold M_MS_shake; omega)
  have hf22 : s21.1 225 24 = nI 4 := fc_F e_c1 hFc21 (by unfold M_MS_shake; omega)
  have hf23 : s21.1 225 25 = nI 4 := fc_F e_c2 hFc21 (by unfold M_MS_shake; omega)
  have hf24 : s21.1 225 26 = nI 2 := fc_F e_c3 hFc21 (by unfold M_MS_shake; omega)
  have hf25 : s21.1 225 27 = nI 131072 := fc_F e_c4 hFc21 (by unfold M_MS_shake; omega)
  have hf26 : s21.1 225 28 = nI 95232 := fc_F e_c5 hFc21 (by unfold M_MS_shake; omega)
  have hf27 : s21.1 225 29 = nI 78 := fc_F e_c6 hFc21 (by unfold M_MS_shake; omega)
  have hf28 : s21.1 225 30 = nI 32 := fc_F e_c7 hFc21 (by unfold M_MS_shake; omega)
  refine W.widen (k := 0) (n := 0) (by omega) (by omega) ?_
  refine lv_aload_n hx hb dMH_message_7 rfl (lv_at hl 0 rfl) ?_
  refine nw_get (C := "LatticeKeysModel$Hands") (TT := T_MH) (N := 31) hx hb hts (wg_ft i_MH) hown hK hO k_h0 (kn := 225) (ci := 12) (fl := [(3, 172), (3, 181), (3, 226), (3, 291), (3, 299), (3, 308), (3, 317), (3, 326), (3, 334), (3, 342), (3, 350), (3, 359), (3, 368), (3, 369), (3, 370), (3, 371), (3, 372), (3, 373), (3, 374), (3, 375), (3, 376), (3, 377), (3, 378), (0, 0), (0, 0), (0, 0), (0, 0), (0, 0), (0, 0), (0, 0), (0, 0)]) rfl hP rfl 0 (by decide) (hts _ (wg_t kw_1432)) (fun _ h9 => h9) (cd := (3, 172)) rfl dMH_message_8 (fun v22 hv22 => ?_)
  obtain ⟨r22, rfl, kr22⟩ := (show ∃ r : Nat, v22 = .ref r ∧ T r = some 172 from hv22)
  refine lv_aload_n hx hb dMH_message_11 rfl (lv_at hl 1 rfl) ?_
  refine lv_iload_n hx hb dMH_message_12 rfl (lv_at hl 2 rfl) ?_
  refine lv_bipush (v := nI 64) hx hb dMH_message_13 (by decide) ?_
  refine mp_v (cx := []) (wr := []) hP hD hS hA [] [] rfl rfl rfl (by decide) (va_runV (As := [.ref hs, .int (nI ha), .int (nI 64)]) (rest := []) F (N_MS_puts l g _ T s21 pl hO hU r22 hs phs nh ha 64 x21 x22 kr22 k_hs n_hs hx_21 hx_22 (by omega) (by omega) (by omega) (by omega)) (cwV 3 hts (wg_app (wg_c kw_1719 (wg_c kw_1612 (wg_c kw_1613 (wg_c kw_10 wg_n)))) kw_1614) rfl rfl rfl (by decide +kernel) ⟨by decide, by decide⟩) (pn_W "LatticeKeysModel$Sponge" (en_ok g) (ci := 9) (kn := 172) (fl := [(3, 173), (3, 174), (3, 175), (3, 176), (3, 177), (0, 0), (0, 0), (0, 0)]) hK hO kr22 rfl hP hD hS hA hE [] rfl rfl rfl) rfl rfl hl.1 rfl (lv_room (Nat.le_of_ble_eq_true rfl)) dMH_message_15 ⟨by omega, by omega⟩) (fun  u22 H locs hu22 hP hD hS => ?_)
  obtain ⟨s22, pl⟩ := u22
  obtain ⟨⟨eq22, hFc22, ⟨x24, hx_24, hb_24⟩, ⟨x25, hx_25, hb_25⟩, -⟩, hO⟩ := hu22
  have hO : okn g T s22 pl := hO
  have hP : va_P g.1 vcl ([] ++ pl) _ := hP
  have hD : va_D _ ([] ++ pl) := hD
  have hFc22 : frm (M_MS_puts) s21 s22 := hFc22
  have hb_24 : x24 < x22 := hb_24
  have hb_25 : x25 = x22 := hb_25
  replace hR := bnd_step hR eq22
  have hF := frm_tr hF hFc22 (fun k hk => by unfold M_MS_puts at hk; unfold M_MH_message_0; omega)
  have hf29 : s22.1 225 23 = nI 0 := fc_F hf21 hFc22 (by unfold M_MS_puts; omega)
  have hf30 : s22.1 225 24 = nI 4 := fc_F hf22 hFc22 (by unfold M_MS_puts; omega)
  have hf31 : s22.1 225 25 = nI 4 := fc_F hf23 hFc22 (by unfold M_MS_puts; omega)
  have hf32 : s22.1 225 26 = nI 2 := fc_F hf24 hFc22 (by unfold M_MS_puts; omega)
  have hf33 : s22.1 225 27 = nI 131072 := fc_F hf25 hFc22 (by unfold M_MS_puts; omega)
  have hf34 : s22.1 225 28 = nI 95232 := fc_F hf26 hFc22 (by unfold M_MS_puts; omega)
  have hf35 : s22.1 225 29 = nI 78 := fc_F hf27 hFc22 (by unfold M_MS_puts; omega)
  have hf36 : s22.1 225 30 = nI 32 := fc_F hf28 hFc22 (by unfold M_MS_puts; omega)
  refine W.widen (k := 0) (n := 0) (by omega) (by omega) ?_
  refine lv_aload_n hx hb dMH_message_18 rfl (lv_at hl 0 rfl) ?_
  refine nw_get (C := "LatticeKeysModel$Hands") (TT := T_MH) (N := 31) hx hb hts (wg_ft i_MH) hown hK hO k_h0 (kn := 225) (ci := 12) (fl := [(3, 172), (3, 181), (3, 226), (3, 291), (3, 299), (3, 308), (3, 317), (3, 326), (3, 334), (3, 342), (3, 350), (3, 359), (3, 368), (3, 369), (3, 370), (3, 371), (3, 372), (3, 373), (3, 374), (3, 375), (3, 376), (3, 377), (3, 378), (0, 0), (0, 0), (0, 0), (0, 0), (0, 0), (0, 0), (0, 0), (0, 0)]) rfl hP rfl 0 (by decide) (hts _ (wg_t kw_1432)) (fun _ h9 => h9) (cd := (3, 172)) rfl dMH_message_19 (fun v23 hv23 => ?_)
  obtain ⟨r23, rfl, kr23⟩ := (show ∃ r : Nat, v23 = .ref r ∧ T r = some 172 from hv23)
  refine lv_iconst (v := nI 0) hx hb dMH_message_22 (by decide) ?_
  refine mp_v (cx := []) (wr := []) hP hD hS hA [] [] rfl rfl rfl (by decide) (va_runV (As := [.int (nI 0)]) (rest := []) F (N_MS_put l g _ T s22 pl hO hU r23 (nI 0) x24 x25 kr23 hx_24 hx_25 (by omega) (by omega)) (cwV 1 hts (wg_app (wg_c kw_1720 (wg_c kw_1616 (wg_c kw_1617 (wg_c kw_10 wg_n)))) kw_1618) rfl rfl rfl (by decide +kernel) ⟨by decide, by decide⟩) (pn_W "LatticeKeysModel$Sponge" (en_ok g) (ci := 9) (kn := 172) (fl := [(3, 173), (3, 174), (3, 175), (3, 176), (3, 177), (0, 0), (0, 0), (0, 0)]) hK hO kr23 rfl hP hD hS hA hE [] rfl rfl rfl) rfl rfl hl.1 rfl (lv_room (Nat.le_of_ble_eq_true rfl)) dMH_message_23 ⟨by omega, by omega⟩) (fun  u23 H locs hu23 hP hD hS => ?_)
  obtain ⟨s23, pl⟩ := u23
  obtain ⟨⟨eq23, hFc23, ⟨x27, hx_27, hb_27⟩, ⟨x28, hx_28, hb_28⟩, -⟩, hO⟩ := hu23
  have hO : okn g T s23 pl := hO
  have hP : va_P g.1 vcl ([] ++ pl) _ := hP
  have hD : va_D _ ([] ++ pl) := hD
  have hFc23 : frm (M_MS_put) s22 s23 := hFc23
  have hb_27 : x27 < x25 := hb_27
  have hb_28 : x28 = x25 := hb_28
  replace hR := bnd_step hR eq23
  have hF := frm_tr hF hFc23 (fun k hk => by unfold M_MS_put at hk; unfold M_MH_message_0; omega)
  have hf37 : s23.1 225 23 = nI 0 := fc_F hf29 hFc23 (by unfold M_MS_put; omega)
  have hf38 : s23.1 225 24 = nI 4 := fc_F hf30 hFc23 (by unfold M_MS_put; omega)
  have hf39 : s23.1 225 25 = nI 4 := fc_F hf31 hFc23 (by unfold M_MS_put; omega)
  have hf40 : s23.1 225 26 = nI 2 := fc_F hf32 hFc23 (by unfold M_MS_put; omega)
  have hf41 : s23.1 225 27 = nI 131072 := fc_F hf33 hFc23 (by unfold M_MS_put; omega)
  have hf42 : s23.1 225 28 = nI 95232 := fc_F hf34 hFc23 (by unfold M_MS_put; omega)
  have hf43 : s23.1 225 29 = nI 78 := fc_F hf35 hFc23 (by unfold M_MS_put; omega)
  have hf44 : s23.1 225 30 = nI 32 := fc_F hf36 hFc23 (by unfold M_MS_put; omega)
  refine W.widen (k := 0) (n := 0) (by omega) (by omega) ?_
  refine lv_aload_n hx hb dMH_message_26 rfl (lv_at hl 0 rfl) ?_
  refine nw_get (C := "LatticeKeysModel$Hands") (TT := T_MH) (N := 31) hx hb hts (wg_ft i_MH) hown hK hO k_h0 (kn := 225) (ci := 12) (fl := [(3, 172), (3, 181), (3, 226), (3, 291), (3, 299), (3, 308), (3, 317), (3, 326), (3, 334), (3, 342), (3, 350), (3, 359), (3, 368), (3, 369), (3, 370), (3, 371), (3, 372), (3, 373), (3, 374), (3, 375), (3, 376), (3, 377), (3, 378), (0, 0), (0, 0), (0, 0), (0, 0), (0, 0), (0, 0), (0, 0), (0, 0)]) rfl hP rfl 0 (by decide) (hts _ (wg_t kw_1432)) (fun _ h9 => h9) (cd := (3, 172)) rfl dMH_message_27 (fun v24 hv24 => ?_)
  obtain ⟨r24, rfl, kr24⟩ := (show ∃ r : Nat, v24 = .ref r ∧ T r = some 172 from hv24)
  refine lv_iload hx hb dMH_message_30 (lv_at hl 5 rfl) ?_
  refine mp_v (cx := []) (wr := []) hP hD hS hA [] [] rfl rfl rfl (by decide) (va_runV (As := [.int v]) (rest := []) F (N_MS_put l g _ T s23 pl hO hU r24 v x27 x28 kr24 hx_27 hx_28 (by omega) (by omega)) (cwV 1 hts (wg_app (wg_c kw_1720 (wg_c kw_1616 (wg_c kw_1617 (wg_c kw_10 wg_n)))) kw_1618) rfl rfl rfl (by decide +kernel) ⟨by decide, by decide⟩) (pn_W "LatticeKeysModel$Sponge" (en_ok g) (ci := 9) (kn := 172) (fl := [(3, 173), (3, 174), (3, 175), (3, 176), (3, 177), (0, 0), (0, 0), (0, 0)]) hK hO kr24 rfl hP hD hS hA hE [] rfl rfl rfl) rfl rfl hl.1 rfl (lv_room (Nat.le_of_ble_eq_true rfl)) dMH_message_32 ⟨by omega, by omega⟩) (fun  u24 H locs hu24 hP hD hS => ?_)
  obtain ⟨s24, pl⟩ := u24
  obtain ⟨⟨eq24, hFc24, ⟨x30, hx_30, hb_30⟩, ⟨x31, hx_31, hb_31⟩, -⟩, hO⟩ := hu24
  have hO : okn g T s24 pl := hO
  have hP : va_P g.1 vcl ([] ++ pl) _ := hP
  have hD : va_D _ ([] ++ pl) := hD
  have hFc24 : frm (M_MS_put) s23 s24 := hFc24
  have hb_30 : x30 < x28 := hb_30
  have hb_31 : x31 = x28 := hb_31
  replace hR := bnd_step hR eq24
  have hF := frm_tr hF hFc24 (fun k hk => by unfold M_MS_put at hk; unfold M_MH_message_0; omega)
  have hf45 : s24.1 225 23 = nI 0 := fc_F hf37 hFc24 (by unfold M_MS_put; omega)
  have hf46 : s24.1 225 24 = nI 4 := fc_F hf38 hFc24 (by unfold M_MS_put; omega)
  have hf47 : s24.1 225 25 = nI 4 := fc_F hf39 hFc24 (by unfold M_MS_put; omega)
  have hf48 : s24.1 225 26 = nI 2 := fc_F hf40 hFc24 (by unfold M_MS_put; omega)
  have hf49 : s24.1 225 27 = nI 131072 := fc_F hf41 hFc24 (by unfold M_MS_put; omega)
  have hf50 : s24.1 225 28 = nI 95232 := fc_F hf42 hFc24 (by unfold M_MS_put; omega)
  have hf51 : s24.1 225 29 = nI 78 := fc_F hf43 hFc24 (by unfold M_MS_put; omega)
  have hf52 : s24.1 225 30 = nI 32 := fc_F hf44 hFc24 (by unfold M_MS_put; omega)
  refine W.widen (k := 0) (n := 0) (by omega) (by omega) ?_
  refine lv_aload_n hx hb dMH_message_35 rfl (lv_at hl 0 rfl) ?_
  refine nw_get (C := "LatticeKeysModel$Hands") (TT := T_MH) (N := 31) hx hb hts (wg_ft i_MH) hown hK hO k_h0 (kn := 225) (ci := 12) (fl := [(3, 172), (3, 181), (3, 226), (3, 291), (3, 299), (3, 308), (3, 317), (3, 326), (3, 334), (3, 342), (3, 350), (3, 359), (3, 368), (3, 369), (3, 370), (3, 371), (3, 372), (3, 373), (3, 374), (3, 375), (3, 376), (3, 377), (3, 378), (0, 0), (0, 0), (0, 0), (0, 0), (0, 0), (0, 0), (0, 0), (0, 0)]) rfl hP rfl 0 (by decide) (hts _ (wg_t kw_1432)) (fun _ h9 => h9) (cd := (3, 172)) rfl dMH_message_36 (fun v25 hv25 => ?_)
  obtain ⟨r25, rfl, kr25⟩ := (show ∃ r : Nat, v25 = .ref r ∧ T r = some 172 from hv25)
  refine lv_aload_n hx hb dMH_message_39 rfl (lv_at hl 3 rfl) ?_
  refine lv_iload hx hb dMH_message_40 (lv_at hl 4 rfl) ?_
  refine lv_iload hx hb dMH_message_42 (lv_at hl 6 rfl) ?_
  refine lv_iload hx hb dMH_message_44 (lv_at hl 4 rfl) ?_
  refine mi_isub hx hb dMH_message_46 (by omega) ?_
  refine mp_v (cx := []) (wr := []) hP hD hS hA [] [] rfl rfl rfl (by decide) (va_runV (As := [.ref b, .int (nI at_), .int (nI (ed - at_))]) (rest := []) F (N_MS_puts l g _ T s24 pl hO hU r25 b pb nb at_ (ed - at_) x30 x31 kr25 k_b n_b hx_30 hx_31 (by omega) (by omega) (by omega) (by omega)) (cwV 3 hts (wg_app (wg_c kw_1719 (wg_c kw_1612 (wg_c kw_1613 (wg_c kw_10 wg_n)))) kw_1614) rfl rfl rfl (by decide +kernel) ⟨by decide, by decide⟩) (pn_W "LatticeKeysModel$Sponge" (en_ok g) (ci := 9) (kn := 172) (fl := [(3, 173), (3, 174), (3, 175), (3, 176), (3, 177), (0, 0), (0, 0), (0, 0)]) hK hO kr25 rfl hP hD hS hA hE [] rfl rfl rfl) rfl rfl hl.1 rfl (lv_room (Nat.le_of_ble_eq_true rfl)) dMH_message_47 ⟨by omega, by omega⟩) (fun  u25 H locs hu25 hP hD hS => ?_)
  obtain ⟨s25, pl⟩ := u25
  obtain ⟨⟨eq25, hFc25, ⟨x33, hx_33, hb_33⟩, ⟨x34, hx_34, hb_34⟩, -⟩, hO⟩ := hu25
  have hO : okn g T s25 pl := hO
  have hP : va_P g.1 vcl ([] ++ pl) _ := hP
  have hD : va_D _ ([] ++ pl) := hD
  have hFc25 : frm (M_MS_puts) s24 s25 := hFc25
  have hb_33 : x33 < x31 := hb_33
  have hb_34 : x34 = x31 := hb_34
  replace hR := bnd_step hR eq25
  have hF := frm_tr hF hFc25 (fun k hk => by unfold M_MS_puts at hk; unfold M_MH_message_0; omega)
  have hf53 : s25.1 225 23 = nI 0 := fc_F hf45 hFc25 (by unfold M_MS_puts; omega)
  have hf54 : s25.1 225 24 = nI 4 := fc_F hf46 hFc25 (by unfold M_MS_puts; omega)
  have hf55 : s25.1 225 25 = nI 4 := fc_F hf47 hFc25 (by unfold M_MS_puts; omega)
  have hf56 : s25.1 225 26 = nI 2 := fc_F hf48 hFc25 (by unfold M_MS_puts; omega)
  have hf57 : s25.1 225 27 = nI 131072 := fc_F hf49 hFc25 (by unfold M_MS_puts; omega)
  have hf58 : s25.1 225 28 = nI 95232 := fc_F hf50 hFc25 (by unfold M_MS_puts; omega)
  have hf59 : s25.1 225 29 = nI 78 := fc_F hf51 hFc25 (by unfold M_MS_puts; omega)
  have hf60 : s25.1 225 30 = nI 32 := fc_F hf52 hFc25 (by unfold M_MS_puts; omega)
  refine W.widen (k := 0) (n := 0) (by omega) (by omega) ?_
  refine lv_aload_n hx hb dMH_message_50 rfl (lv_at hl 0 rfl) ?_
  refine nw_get (C := "LatticeKeysModel$Hands") (TT := T_MH) (N := 31) hx hb hts (wg_ft i_MH) hown hK hO k_h0 (kn := 225) (ci := 12) (fl := [(3, 172), (3, 181), (3, 226), (3, 291), (3, 299), (3, 308), (3, 317), (3, 326), (3, 334), (3, 342), (3, 350), (3, 359), (3, 368), (3, 369), (3, 370), (3, 371), (3, 372), (3, 373), (3, 374), (3, 375), (3, 376), (3, 377), (3, 378), (0, 0), (0, 0), (0, 0), (0, 0), (0, 0), (0, 0), (0, 0), (0, 0)]) rfl hP rfl 0 (by decide) (hts _ (wg_t kw_1432)) (fun _ h9 => h9) (cd := (3, 172)) rfl dMH_message_51 (fun v26 hv26 => ?_)
  obtain ⟨r26, rfl, kr26⟩ := (show ∃ r : Nat, v26 = .ref r ∧ T r = some 172 from hv26)
  refine mp_v (cx := []) (wr := []) hP hD hS hA [] [] rfl rfl rfl (by decide) (va_runV (As := []) (rest := []) F (N_MS_end l g _ T s25 pl hO hU r26 x33 x34 kr26 hx_33 hx_34 (by omega) (by omega)) (cwV 0 hts (wg_app (wg_c kw_1721 (wg_c kw_1634 (wg_c kw_1635 (wg_c kw_10 wg_n)))) kw_1636) rfl rfl rfl (by decide +kernel) ⟨by decide, by decide⟩) (pn_W "LatticeKeysModel$Sponge" (en_ok g) (ci := 9) (kn := 172) (fl := [(3, 173), (3, 174), (3, 175), (3, 176), (3, 177), (0, 0), (0, 0), (0, 0)]) hK hO kr26 rfl hP hD hS hA hE [] rfl rfl rfl) rfl rfl hl.1 rfl (lv_room (Nat.le_of_ble_eq_true rfl)) dMH_message_54 ⟨by omega, by omega⟩) (fun  u26 H locs hu26 hP hD hS => ?_)
  obtain ⟨s26, pl⟩ := u26
  obtain ⟨⟨eq26, hFc26, ⟨x36, hx_36, hb_36⟩, ⟨x37, hx_37, hb_37⟩, -⟩, hO⟩ := hu26
  have hO : okn g T s26 pl := hO
  have hP : va_P g.1 vcl ([] ++ pl) _ := hP
  have hD : va_D _ ([] ++ pl) := hD
  have hFc26 : frm (M_MS_end) s25 s26 := hFc26
  have hb_36 : x36 = 0 := hb_36
  have hb_37 : x37 = x34 := hb_37
  replace hR := bnd_step hR eq26
  have hF := frm_tr hF hFc26 (fun k hk => by unfold M_MS_end at hk; unfold M_MH_message_0; omega)
  have hf61 : s26.1 225 23 = nI 0 := fc_F hf53 hFc26 (by unfold M_MS_end; omega)
  have hf62 : s26.1 225 24 = nI 4 := fc_F hf54 hFc26 (by unfold M_MS_end; omega)
  have hf63 : s26.1 225 25 = nI 4 := fc_F hf55 hFc26 (by unfold M_MS_end; omega)
  have hf64 : s26.1 225 26 = nI 2 := fc_F hf56 hFc26 (by unfold M_MS_end; omega)
  have hf65 : s26.1 225 27 = nI 131072 := fc_F hf57 hFc26 (by unfold M_MS_end; omega)
  have hf66 : s26.1 225 28 = nI 95232 := fc_F hf58 hFc26 (by unfold M_MS_end; omega)
  have hf67 : s26.1 225 29 = nI 78 := fc_F hf59 hFc26 (by unfold M_MS_end; omega)
  have hf68 : s26.1 225 30 = nI 32 := fc_F hf60 hFc26 (by unfold M_MS_end; omega)
  refine W.widen (k := 0) (n := 0) (by omega) (by omega) ?_
  refine lv_aload_n hx hb dMH_message_57 rfl (lv_at hl 0 rfl) ?_
  refine nw_get (C := "LatticeKeysModel$Hands") (TT := T_MH) (N := 31) hx hb hts (wg_ft i_MH) hown hK hO k_h0 (kn := 225) (ci := 12) (fl := [(3, 172), (3, 181), (3, 226), (3, 291), (3, 299), (3, 308), (3, 317), (3, 326), (3, 334), (3, 342), (3, 350), (3, 359), (3, 368), (3, 369), (3, 370), (3, 371), (3, 372), (3, 373), (3, 374), (3, 375), (3, 376), (3, 377), (3, 378), (0, 0), (0, 0), (0, 0), (0, 0), (0, 0), (0, 0), (0, 0), (0, 0)]) rfl hP rfl 0 (by decide) (hts _ (wg_t kw_1432)) (fun _ h9 => h9) (cd := (3, 172)) rfl dMH_message_58 (fun v27 hv27 => ?_)
  obtain ⟨r27, rfl, kr27⟩ := (show ∃ r : Nat, v27 = .ref r ∧ T r = some 172 from hv27)
  refine lv_aload_n hx hb dMH_message_61 rfl (lv_at hl 0 rfl) ?_
  refine nw_get (C := "LatticeKeysModel$Hands") (TT := T_MH) (N := 31) hx hb hts (wg_ft i_MH) hown hK hO k_h0 (kn := 225) (ci := 12) (fl := [(3, 172), (3, 181), (3, 226), (3, 291), (3, 299), (3, 308), (3, 317), (3, 326), (3, 334), (3, 342), (3, 350), (3, 359), (3, 368), (3, 369), (3, 370), (3, 371), (3, 372), (3, 373), (3, 374), (3, 375), (3, 376), (3, 377), (3, 378), (0, 0), (0, 0), (0, 0), (0, 0), (0, 0), (0, 0), (0, 0), (0, 0)]) rfl hP rfl 17 (by decide) (hts _ (wg_t kw_1449)) (fun _ h9 => h9) (cd := (3, 373)) rfl dMH_message_62 (fun v28 hv28 => ?_)
  obtain ⟨r28, rfl, kr28⟩ := (show ∃ r : Nat, v28 = .ref r ∧ T r = some 373 from hv28)
  refine lv_iconst (v := nI 0) hx hb dMH_message_65 (by decide) ?_
  refine lv_bipush (v := nI 64) hx hb dMH_message_66 (by decide) ?_
  refine mp_v (cx := []) (wr := []) hP hD hS hA [] [] rfl rfl rfl (by decide) (va_runV (As := [.ref r28, .int (nI 0), .int (nI 64)]) (rest := []) F (N_MS_take l g _ T s26 pl hO hU r27 r28 373 64 0 64 x36 x37 kr27 kr28 rfl hx_36 hx_37 (by omega) (by omega) (by omega) (by omega)) (cwV 3 hts (wg_app (wg_c kw_1722 (wg_c kw_1638 (wg_c kw_1639 (wg_c kw_10 wg_n)))) kw_1640) rfl rfl rfl (by decide +kernel) ⟨by decide, by decide⟩) (pn_W "LatticeKeysModel$Sponge" (en_ok g) (ci := 9) (kn := 172) (fl := [(3, 173), (3, 174), (3, 175), (3, 176), (3, 177), (0, 0), (0, 0), (0, 0)]) hK hO kr27 rfl hP hD hS hA hE [] rfl rfl rfl) rfl rfl hl.1 rfl (lv_room (Nat.le_of_ble_eq_true rfl)) dMH_message_68 ⟨by omega, by omega⟩) (fun  u27 H locs hu27 hP hD hS => ?_)
  obtain ⟨s27, pl⟩ := u27
  obtain ⟨⟨eq27, hFc27, ⟨x39, hx_39, hb_39⟩, ⟨x40, hx_40, hb_40⟩, -⟩, hO⟩ := hu27
  have hO : okn g T s27 pl := hO
  have hP : va_P g.1 vcl ([] ++ pl) _ := hP
  have hD : va_D _ ([] ++ pl) := hD
  have hFc27 : frm (M_MS_take 373) s26 s27 := hFc27
  have hb_39 : x39 ≤ x37 := hb_39
  have hb_40 : x40 = x37 := hb_40
  replace hR := bnd_step hR eq27
  have hF := frm_tr hF hFc27 (fun k hk => by unfold M_MS_take at hk; unfold M_MH_message_0; omega)
  have hf69 : s27.1 225 23 = nI 0 := fc_F hf61 hFc27 (by unfold M_MS_take; omega)
  have hf70 : s27.1 225 24 = nI 4 := fc_F hf62 hFc27 (by unfold M_MS_take; omega)
  have hf71 : s27.1 225 25 = nI 4 := fc_F hf63 hFc27 (by unfold M_MS_take; omega)
  have hf72 : s27.1 225 26 = nI 2 := fc_F hf64 hFc27 (by unfold M_MS_take; omega)
  have hf73 : s27.1 225 27 = nI 131072 := fc_F hf65 hFc27 (by unfold M_MS_take; omega)
  have hf74 : s27.1 225 28 = nI 95232 := fc_F hf66 hFc27 (by unfold M_MS_take; omega)
  have hf75 : s27.1 225 29 = nI 78 := fc_F hf67 hFc27 (by unfold M_MS_take; omega)
  have hf76 : s27.1 225 30 = nI 32 := fc_F hf68 hFc27 (by unfold M_MS_take; omega)
  refine W.widen (k := 0) (n := 0) (by omega) (by omega) ?_
  exact mp_vret hx hb hr hlk hP hD hS (s27, pl) ⟨⟨hR.symm, hF, trivial⟩, hO⟩ [] rfl rfl rfl (by omega) (by omega) dMH_message_71
def M_MH_message_1 (k : Nat) : Prop := k = 172 ∨ k = 373 ∨ (0 : Nat) = 1
noncomputable def F_MH_message_1 (phs : Nat) (nh : Nat) (ha : Nat) (pb : Nat) (nb : Nat) (at_ : Nat) (v : Int32) (ed : Nat) (s : Sto) : Sto := bnd (F_MS_shake  s) fun s21 => bnd (F_MS_puts phs nh ha 64 s21) fun s22 => bnd (F_MS_put (nI 0) s22) fun s23 => bnd (F_MS_put v s23) fun s24 => bnd (F_MS_puts pb nb at_ (ed - at_) s24) fun s25 => bnd (F_MS_end  s25) fun s26 => bnd (F_MS_take 373 64 0 64 s26) fun s27 => s27
set_option maxHeartbeats 8000000 in
set_option maxRecDepth 100000 in
theorem N_MH_message_1 (l : Launch) (g : Gd) (sz : Nat) (T : TyN) (s : Sto) (pl : va_W) (hO : okn g T s pl) (hU : inj T) (h0 hs b : Nat) (phs : Nat) (nh : Nat) (ha : Nat) (pb : Nat) (nb : Nat) (at_ : Nat) (v : Int32) (ed : Nat) (k_h0 : T h0 = some 225) (k_hs : T hs = some phs) (n_hs : nsp phs = (1, nh, [])) (k_b : T b = some pb) (n_b : nsp pb = (1, nb, [])) (e_c0 : s.1 225 23 = nI 1) (e_c1 : s.1 225 24 = nI 6) (e_c2 : s.1 225 25 = nI 5) (e_c3 : s.1 225 26 = nI 4) (e_c4 : s.1 225 27 = nI 524288) (e_c5 : s.1 225 28 = nI 261888) (e_c6 : s.1 225 29 = nI 196) (e_c7 : s.1 225 30 = nI 48) (h1 : ha + 64 ≤ nh) (h2 : nh < 65536) (h3 : at_ ≤ ed) (h4 : ed ≤ nb) (h5 : nb < 65536)  : Met l y_MH_message w_MH_message ({ frames := 4, cells := 0, slots := 0, locals := 90 } : Room) (va_Pc [.ref h0, .ref hs, .int (nI ha), .ref b, .int (nI at_), .int v, .int (nI ed)] (pr (en g) g.1 vcl sz ([] ++ pl))) (va_Qv (fun (u : (Sto) × va_W) => (u.1 = F_MH_message_1 phs nh ha pb nb at_ v ed s ∧ frm (M_MH_message_1) s u.1 ∧ True) ∧ okn g T u.1 u.2) (po g.1 vcl (va_A ([] ++ pl) sz) (fun (u : (Sto) × va_W) => [] ++ u.2)) (va_A ([] ++ pl) sz)) 0 0 (va_A ([] ++ pl) sz) := by
  refine mc_entry (cc := c_MH_message) (maxL := 7) (ret := none) (by decide) rfl (Nat.le_of_ble_eq_true rfl) ?_
  intro p e s0 m args below meth c ls F hr hlk hnm hsz hP hD hE hA hl
  obtain ⟨hx, hb, hml, hown, hts⟩ := id F
  have hK := hE.1
  generalize va_A ([] ++ pl) sz = A at hD hE hA ⊢
  have hS : va_S A s0.heap s0.heap [] := va_S.rf
  have hl : lv_has ls 7 [(0, .ref h0), (1, .ref hs), (2, .int (nI ha)), (3, .ref b), (4, .int (nI at_)), (5, .int v), (6, .int (nI ed))] := hl
  have hR : F_MH_message_1 phs nh ha pb nb at_ v ed s = F_MH_message_1 phs nh ha pb nb at_ v ed s := rfl
  have hF : frm (M_MH_message_1) s s := frm_rf
  have ne_172_phs : 172 ≠ phs := nsp_ne (p := 172) rfl n_hs (show (5 : Nat) ≠ 1 by decide)
  have ne_172_pb : 172 ≠ pb := nsp_ne (p := 172) rfl n_b (show (5 : Nat) ≠ 1 by decide)
  have ne_225_phs : 225 ≠ phs := nsp_ne (p := 225) rfl n_hs (show (5 : Nat) ≠ 1 by decide)
  have ne_225_pb : 225 ≠ pb := nsp_ne (p := 225) rfl n_b (show (5 : Nat) ≠ 1 by decide)
  refine lv_aload_n hx hb dMH_message_0 rfl (lv_at hl 0 rfl) ?_
  refine nw_get (C := "LatticeKeysModel$Hands") (TT := T_MH) (N := 31) hx hb hts (wg_ft i_MH) hown hK hO k_h0 (kn := 225) (ci := 12) (fl := [(3, 172), (3, 181), (3, 226), (3, 291), (3, 299), (3, 308), (3, 317), (3, 326), (3, 334), (3, 342), (3, 350), (3, 359), (3, 368), (3, 369), (3, 370), (3, 371), (3, 372), (3, 373), (3, 374), (3, 375), (3, 376), (3, 377), (3, 378), (0, 0), (0, 0), (0, 0), (0, 0), (0, 0), (0, 0), (0, 0), (0, 0)]) rfl hP rfl 0 (by decide) (hts _ (wg_t kw_1432)) (fun _ h9 => h9) (cd := (3, 172)) rfl dMH_message_1 (fun v21 hv21 => ?_)
  obtain ⟨r21, rfl, kr21⟩ := (show ∃ r : Nat, v21 = .ref r ∧ T r = some 172 from hv21)
  refine mp_v (cx := []) (wr := []) hP hD hS hA [] [] rfl rfl rfl (by decide) (va_runV (As := []) (rest := []) F (N_MS_shake l g _ T s pl hO hU r21 kr21) (cwV 0 hts (wg_app (wg_c kw_1718 (wg_c kw_1661 (wg_c kw_1662 (wg_c kw_10 wg_n)))) kw_1663) rfl rfl rfl (by decide +kernel) ⟨by decide, by decide⟩) (pn_W "LatticeKeysModel$Sponge" (en_ok g) (ci := 9) (kn := 172) (fl := [(3, 173), (3, 174), (3, 175), (3, 176), (3, 177), (0, 0), (0, 0), (0, 0)]) hK hO kr21 rfl hP hD hS hA hE [] rfl rfl rfl) rfl rfl hl.1 rfl (lv_room (Nat.le_of_ble_eq_true rfl)) dMH_message_4 ⟨by omega, by omega⟩) (fun  u21 H locs hu21 hP hD hS => ?_)
  obtain ⟨s21, pl⟩ := u21
  obtain ⟨⟨eq21, hFc21, ⟨x21, hx_21, hb_21⟩, ⟨x22, hx_22, hb_22⟩, -⟩, hO⟩ := hu21
  have hO : okn g T s21 pl := hO
  have hP : va_P g.1 vcl ([] ++ pl) _ := hP
  have hD : va_D _ ([] ++ pl) := hD
  have hFc21 : frm (M_MS_shake) s s21 := hFc21
  have hb_21 : x21 = 0 := hb_21
  have hb_22 : x22 = 136 := hb_22
  replace hR := bnd_step hR eq21
  have hF := frm_tr hF hFc21 (fun k hk => by unfold M_MS_shake at hk; unfold M_MH_message_1; omega)
  have hf21 : s21.1 225 23 = nI 1 := fc_F e_c0 hFc21 (by unfold M_MS_shake; omega)
  have hf22 : s21.1 225 24 = nI 6 := fc_F e_c1 hFc21 (by unfold M_MS_shake; omega)
  have hf23 : s21.1 225 25 = nI 5 := fc_F e_c2 hFc21 (by unfold M_MS_shake; omega)
  have hf24 : s21.1 225 26 = nI 4 := fc_F e_c3 hFc21 (by unfold M_MS_shake; omega)
  have hf25 : s21.1 225 27 = nI 524288 := fc_F e_c4 hFc21 (by unfold M_MS_shake; omega)
  have hf26 : s21.1 225 28 = nI 261888 := fc_F e_c5 hFc21 (by unfold M_MS_shake; omega)
  have hf27 : s21.1 225 29 = nI 196 := fc_F e_c6 hFc21 (by unfold M_MS_shake; omega)
  have hf28 : s21.1 225 30 = nI 48 := fc_F e_c7 hFc21 (by unfold M_MS_shake; omega)
  refine W.widen (k := 0) (n := 0) (by omega) (by omega) ?_
  refine lv_aload_n hx hb dMH_message_7 rfl (lv_at hl 0 rfl) ?_
  refine nw_get (C := "LatticeKeysModel$Hands") (TT := T_MH) (N := 31) hx hb hts (wg_ft i_MH) hown hK hO k_h0 (kn := 225) (ci := 12) (fl := [(3, 172), (3, 181), (3, 226), (3, 291), (3, 299), (3, 308), (3, 317), (3, 326), (3, 334), (3, 342), (3, 350), (3, 359), (3, 368), (3, 369), (3, 370), (3, 371), (3, 372), (3, 373), (3, 374), (3, 375), (3, 376), (3, 377), (3, 378), (0, 0), (0, 0), (0, 0), (0, 0), (0, 0), (0, 0), (0, 0), (0, 0)]) rfl hP rfl 0 (by decide) (hts _ (wg_t kw_1432)) (fun _ h9 => h9) (cd := (3, 172)) rfl dMH_message_8 (fun v22 hv22 => ?_)
  obtain ⟨r22, rfl, kr22⟩ := (show ∃ r : Nat, v22 = .ref r ∧ T r = some 172 from hv22)
  refine lv_aload_n hx hb dMH_message_11 rfl (lv_at hl 1 rfl) ?_
  refine lv_iload_n hx hb dMH_message_12 rfl (lv_at hl 2 rfl) ?_
  refine lv_bipush (v := nI 64) hx hb dMH_message_13 (by decide) ?_
  refine mp_v (cx := []) (wr := []) hP hD hS hA [] [] rfl rfl rfl (by decide) (va_runV (As := [.ref hs, .int (nI ha), .int (nI 64)]) (rest := []) F (N_MS_puts l g _ T s21 pl hO hU r22 hs phs nh ha 64 x21 x22 kr22 k_hs n_hs hx_21 hx_22 (by omega) (by omega) (by omega) (by omega)) (cwV 3 hts (wg_app (wg_c kw_1719 (wg_c kw_1612 (wg_c kw_1613 (wg_c kw_10 wg_n)))) kw_1614) rfl rfl rfl (by decide +kernel) ⟨by decide, by decide⟩) (pn_W "LatticeKeysModel$Sponge" (en_ok g) (ci := 9) (kn := 172) (fl := [(3, 173), (3, 174), (3, 175), (3, 176), (3, 177), (0, 0), (0, 0), (0, 0)]) hK hO kr22 rfl hP hD hS hA hE [] rfl rfl rfl) rfl rfl hl.1 rfl (lv_room (Nat.le_of_ble_eq_true rfl)) dMH_message_15 ⟨by omega, by omega⟩) (fun  u22 H locs hu22 hP hD hS => ?_)
  obtain ⟨s22, pl⟩ := u22
  obtain ⟨⟨eq22, hFc22, ⟨x24, hx_24, hb_24⟩, ⟨x25, hx_25, hb_25⟩, -⟩, hO⟩ := hu22
  have hO : okn g T s22 pl := hO
  have hP : va_P g.1 vcl ([] ++ pl) _ := hP
  have hD : va_D _ ([] ++ pl) := hD
  have hFc22 : frm (M_MS_puts) s21 s22 := hFc22
  have hb_24 : x24 < x22 := hb_24
  have hb_25 : x25 = x22 := hb_25
  replace hR := bnd_step hR eq22
  have hF := frm_tr hF hFc22 (fun k hk => by unfold M_MS_puts at hk; unfold M_MH_message_1; omega)
  have hf29 : s22.1 225 23 = nI 1 := fc_F hf21 hFc22 (by unfold M_MS_puts; omega)
  have hf30 : s22.1 225 24 = nI 6 := fc_F hf22 hFc22 (by unfold M_MS_puts; omega)
  have hf31 : s22.1 225 25 = nI 5 := fc_F hf23 hFc22 (by unfold M_MS_puts; omega)
  have hf32 : s22.1 225 26 = nI 4 := fc_F hf24 hFc22 (by unfold M_MS_puts; omega)
  have hf33 : s22.1 225 27 = nI 524288 := fc_F hf25 hFc22 (by unfold M_MS_puts; omega)
  have hf34 : s22.1 225 28 = nI 261888 := fc_F hf26 hFc22 (by unfold M_MS_puts; omega)
  have hf35 : s22.1 225 29 = nI 196 := fc_F hf27 hFc22 (by unfold M_MS_puts; omega)
  have hf36 : s22.1 225 30 = nI 48 := fc_F hf28 hFc22 (by unfold M_MS_puts; omega)
  refine W.widen (k := 0) (n := 0) (by omega) (by omega) ?_
  refine lv_aload_n hx hb dMH_message_18 rfl (lv_at hl 0 rfl) ?_
  refine nw_get (C := "LatticeKeysModel$Hands") (TT := T_MH) (N := 31) hx hb hts (wg_ft i_MH) hown hK hO k_h0 (kn := 225) (ci := 12) (fl := [(3, 172), (3, 181), (3, 226), (3, 291), (3, 299), (3, 308), (3, 317), (3, 326), (3, 334), (3, 342), (3, 350), (3, 359), (3, 368), (3, 369), (3, 370), (3, 371), (3, 372), (3, 373), (3, 374), (3, 375), (3, 376), (3, 377), (3, 378), (0, 0), (0, 0), (0, 0), (0, 0), (0, 0), (0, 0), (0, 0), (0, 0)]) rfl hP rfl 0 (by decide) (hts _ (wg_t kw_1432)) (fun _ h9 => h9) (cd := (3, 172)) rfl dMH_message_19 (fun v23 hv23 => ?_)
  obtain ⟨r23, rfl, kr23⟩ := (show ∃ r : Nat, v23 = .ref r ∧ T r = some 172 from hv23)
  refine lv_iconst (v := nI 0) hx hb dMH_message_22 (by decide) ?_
  refine mp_v (cx := []) (wr := []) hP hD hS hA [] [] rfl rfl rfl (by decide) (va_runV (As := [.int (nI 0)]) (rest := []) F (N_MS_put l g _ T s22 pl hO hU r23 (nI 0) x24 x25 kr23 hx_24 hx_25 (by omega) (by omega)) (cwV 1 hts (wg_app (wg_c kw_1720 (wg_c kw_1616 (wg_c kw_1617 (wg_c kw_10 wg_n)))) kw_1618) rfl rfl rfl (by decide +kernel) ⟨by decide, by decide⟩) (pn_W "LatticeKeysModel$Sponge" (en_ok g) (ci := 9) (kn := 172) (fl := [(3, 173), (3, 174), (3, 175), (3, 176), (3, 177), (0, 0), (0, 0), (0, 0)]) hK hO kr23 rfl hP hD hS hA hE [] rfl rfl rfl) rfl rfl hl.1 rfl (lv_room (Nat.le_of_ble_eq_true rfl)) dMH_message_23 ⟨by omega, by omega⟩) (fun  u23 H locs hu23 hP hD hS => ?_)
  obtain ⟨s23, pl⟩ := u23
  obtain ⟨⟨eq23, hFc23, ⟨x27, hx_27, hb_27⟩, ⟨x28, hx_28, hb_28⟩, -⟩, hO⟩ := hu23
  have hO : okn g T s23 pl := hO
  have hP : va_P g.1 vcl ([] ++ pl) _ := hP
  have hD : va_D _ ([] ++ pl) := hD
  have hFc23 : frm (M_MS_put) s22 s23 := hFc23
  have hb_27 : x27 < x25 := hb_27
  have hb_28 : x28 = x25 := hb_28
  replace hR := bnd_step hR eq23
  have hF := frm_tr hF hFc23 (fun k hk => by unfold M_MS_put at hk; unfold M_MH_message_1; omega)
  have hf37 : s23.1 225 23 = nI 1 := fc_F hf29 hFc23 (by unfold M_MS_put; omega)
  have hf38 : s23.1 225 24 = nI 6 := fc_F hf30 hFc23 (by unfold M_MS_put; omega)
  have hf39 : s23.1 225 25 = nI 5 := fc_F hf31 hFc23 (by unfold M_MS_put; omega)
  have hf40 : s23.1 225 26 = nI 4 := fc_F hf32 hFc23 (by unfold M_MS_put; omega)
  have hf41 : s23.1 225 27 = nI 524288 := fc_F hf33 hFc23 (by unfold M_MS_put; omega)
  have hf42 : s23.1 225 28 = nI 261888 := fc_F hf34 hFc23 (by unfold M_MS_put; omega)
  have hf43 : s23.1 225 29 = nI 196 := fc_F hf35 hFc23 (by unfold M_MS_put; omega)
  have hf44 : s23.1 225 30 = nI 48 := fc_F hf36 hFc23 (by unfold M_MS_put; omega)
  refine W.widen (k := 0) (n := 0) (by omega) (by omega) ?_
  refine lv_aload_n hx hb dMH_message_26 rfl (lv_at hl 0 rfl) ?_
  refine nw_get (C := "LatticeKeysModel$Hands") (TT := T_MH) (N := 31) hx hb hts (wg_ft i_MH) hown hK hO k_h0 (kn := 225) (ci := 12) (fl := [(3, 172), (3, 181), (3, 226), (3, 291), (3, 299), (3, 308), (3, 317), (3, 326), (3, 334), (3, 342), (3, 350), (3, 359), (3, 368), (3, 369), (3, 370), (3, 371), (3, 372), (3, 373), (3, 374), (3, 375), (3, 376), (3, 377), (3, 378), (0, 0), (0, 0), (0, 0), (0, 0), (0, 0), (0, 0), (0, 0), (0, 0)]) rfl hP rfl 0 (by decide) (hts _ (wg_t kw_1432)) (fun _ h9 => h9) (cd := (3, 172)) rfl dMH_message_27 (fun v24 hv24 => ?_)
  obtain ⟨r24, rfl, kr24⟩ := (show ∃ r : Nat, v24 = .ref r ∧ T r = some 172 from hv24)
  refine lv_iload hx hb dMH_message_30 (lv_at hl 5 rfl) ?_
  refine mp_v (cx := []) (wr := []) hP hD hS hA [] [] rfl rfl rfl (by decide) (va_runV (As := [.int v]) (rest := []) F (N_MS_put l g _ T s23 pl hO hU r24 v x27 x28 kr24 hx_27 hx_28 (by omega) (by omega)) (cwV 1 hts (wg_app (wg_c kw_1720 (wg_c kw_1616 (wg_c kw_1617 (wg_c kw_10 wg_n)))) kw_1618) rfl rfl rfl (by decide +kernel) ⟨by decide, by decide⟩) (pn_W "LatticeKeysModel$Sponge" (en_ok g) (ci := 9) (kn := 172) (fl := [(3, 173), (3, 174), (3, 175), (3, 176), (3, 177), (0, 0), (0, 0), (0, 0)]) hK hO kr24 rfl hP hD hS hA hE [] rfl rfl rfl) rfl rfl hl.1 rfl (lv_room (Nat.le_of_ble_eq_true rfl)) dMH_message_32 ⟨by omega, by omega⟩) (fun  u24 H locs hu24 hP hD hS => ?_)
  obtain ⟨s24, pl⟩ := u24
  obtain ⟨⟨eq24, hFc24, ⟨x30, hx_30, hb_30⟩, ⟨x31, hx_31, hb_31⟩, -⟩, hO⟩ := hu24
  have hO : okn g T s24 pl := hO
  have hP : va_P g.1 vcl ([] ++ pl) _ := hP
  have hD : va_D _ ([] ++ pl) := hD
  have hFc24 : frm (M_MS_put) s23 s24 := hFc24
  have hb_30 : x30 < x28 := hb_30
  have hb_31 : x31 = x28 := hb_31
  replace hR := bnd_step hR eq24
  have hF := frm_tr hF hFc24 (fun k hk => by unfold M_MS_put at hk; unfold M_MH_message_1; omega)
  have hf45 : s24.1 225 23 = nI 1 := fc_F hf37 hFc24 (by unfold M_MS_put; omega)
  have hf46 : s24.1 225 24 = nI 6 := fc_F hf38 hFc24 (by unfold M_MS_put; omega)
  have hf47 : s24.1 225 25 = nI 5 := fc_F hf39 hFc24 (by unfold M_MS_put; omega)
  have hf48 : s24.1 225 26 = nI 4 := fc_F hf40 hFc24 (by unfold M_MS_put; omega)
  have hf49 : s24.1 225 27 = nI 524288 := fc_F hf41 hFc24 (by unfold M_MS_put; omega)
  have hf50 : s24.1 225 28 = nI 261888 := fc_F hf42 hFc24 (by unfold M_MS_put; omega)
  have hf51 : s24.1 225 29 = nI 196 := fc_F hf43 hFc24 (by unfold M_MS_put; omega)
  have hf52 : s24.1 225 30 = nI 48 := fc_F hf44 hFc24 (by unfold M_MS_put; omega)
  refine W.widen (k := 0) (n := 0) (by omega) (by omega) ?_
  refine lv_aload_n hx hb dMH_message_35 rfl (lv_at hl 0 rfl) ?_
  refine nw_get (C := "LatticeKeysModel$Hands") (TT := T_MH) (N := 31) hx hb hts (wg_ft i_MH) hown hK hO k_h0 (kn := 225) (ci := 12) (fl := [(3, 172), (3, 181), (3, 226), (3, 291), (3, 299), (3, 308), (3, 317), (3, 326), (3, 334), (3, 342), (3, 350), (3, 359), (3, 368), (3, 369), (3, 370), (3, 371), (3, 372), (3, 373), (3, 374), (3, 375), (3, 376), (3, 377), (3, 378), (0, 0), (0, 0), (0, 0), (0, 0), (0, 0), (0, 0), (0, 0), (0, 0)]) rfl hP rfl 0 (by decide) (hts _ (wg_t kw_1432)) (fun _ h9 => h9) (cd := (3, 172)) rfl dMH_message_36 (fun v25 hv25 => ?_)
  obtain ⟨r25, rfl, kr25⟩ := (show ∃ r : Nat, v25 = .ref r ∧ T r = some 172 from hv25)
  refine lv_aload_n hx hb dMH_message_39 rfl (lv_at hl 3 rfl) ?_
  refine lv_iload hx hb dMH_message_40 (lv_at hl 4 rfl) ?_
  refine lv_iload hx hb dMH_message_42 (lv_at hl 6 rfl) ?_
  refine lv_iload hx hb dMH_message_44 (lv_at hl 4 rfl) ?_
  refine mi_isub hx hb dMH_message_46 (by omega) ?_
  refine mp_v (cx := []) (wr := []) hP hD hS hA [] [] rfl rfl rfl (by decide) (va_runV (As := [.ref b, .int (nI at_), .int (nI (ed - at_))]) (rest := []) F (N_MS_puts l g _ T s24 pl hO hU r25 b pb nb at_ (ed - at_) x30 x31 kr25 k_b n_b hx_30 hx_31 (by omega) (by omega) (by omega) (by omega)) (cwV 3 hts (wg_app (wg_c kw_1719 (wg_c kw_1612 (wg_c kw_1613 (wg_c kw_10 wg_n)))) kw_1614) rfl rfl rfl (by decide +kernel) ⟨by decide, by decide⟩) (pn_W "LatticeKeysModel$Sponge" (en_ok g) (ci := 9) (kn := 172) (fl := [(3, 173), (3, 174), (3, 175), (3, 176), (3, 177), (0, 0), (0, 0), (0, 0)]) hK hO kr25 rfl hP hD hS hA hE [] rfl rfl rfl) rfl rfl hl.1 rfl (lv_room (Nat.le_of_ble_eq_true rfl)) dMH_message_47 ⟨by omega, by omega⟩) (fun  u25 H locs hu25 hP hD hS => ?_)
  obtain ⟨s25, pl⟩ := u25
  obtain ⟨⟨eq25, hFc25, ⟨x33, hx_33, hb_33⟩, ⟨x34, hx_34, hb_34⟩, -⟩, hO⟩ := hu25
  have hO : okn g T s25 pl := hO
  have hP : va_P g.1 vcl ([] ++ pl) _ := hP
  have hD : va_D _ ([] ++ pl) := hD
  have hFc25 : frm (M_MS_puts) s24 s25 := hFc25
  have hb_33 : x33 < x31 := hb_33
  have hb_34 : x34 = x31 := hb_34
  replace hR := bnd_step hR eq25
  have hF := frm_tr hF hFc25 (fun k hk => by unfold M_MS_puts at hk; unfold M_MH_message_1; omega)
  have hf53 : s25.1 225 23 = nI 1 := fc_F hf45 hFc25 (by unfold M_MS_puts; omega)
  have hf54 : s25.1 225 24 = nI 6 := fc_F hf46 hFc25 (by unfold M_MS_puts; omega)
  have hf55 : s25.1 225 25 = nI 5 := fc_F hf47 hFc25 (by unfold M_MS_puts; omega)
  have hf56 : s25.1 225 26 = nI 4 := fc_F hf48 hFc25 (by unfold M_MS_puts; omega)
  have hf57 : s25.1 225 27 = nI 524288 := fc_F hf49 hFc25 (by unfold M_MS_puts; omega)
  have hf58 : s25.1 225 28 = nI 261888 := fc_F hf50 hFc25 (by unfold M_MS_puts; omega)
  have hf59 : s25.1 225 29 = nI 196 := fc_F hf51 hFc25 (by unfold M_MS_puts; omega)
  have hf60 : s25.1 225 30 = nI 48 := fc_F hf52 hFc25 (by unfold M_MS_puts; omega)
  refine W.widen (k := 0) (n := 0) (by omega) (by omega) ?_
  refine lv_aload_n hx hb dMH_message_50 rfl (lv_at hl 0 rfl) ?_
  refine nw_get (C := "LatticeKeysModel$Hands") (TT := T_MH) (N := 31) hx hb hts (wg_ft i_MH) hown hK hO k_h0 (kn := 225) (ci := 12) (fl := [(3, 172), (3, 181), (3, 226), (3, 291), (3, 299), (3, 308), (3, 317), (3, 326), (3, 334), (3, 342), (3, 350), (3, 359), (3, 368), (3, 369), (3, 370), (3, 371), (3, 372), (3, 373), (3, 374), (3, 375), (3, 376), (3, 377), (3, 378), (0, 0), (0, 0), (0, 0), (0, 0), (0, 0), (0, 0), (0, 0), (0, 0)]) rfl hP rfl 0 (by decide) (hts _ (wg_t kw_1432)) (fun _ h9 => h9) (cd := (3, 172)) rfl dMH_message_51 (fun v26 hv26 => ?_)
  obtain ⟨r26, rfl, kr26⟩ := (show ∃ r : Nat, v26 = .ref r ∧ T r = some 172 from hv26)
  refine mp_v (cx := []) (wr := []) hP hD hS hA [] [] rfl rfl rfl (by decide) (va_runV (As := []) (rest := []) F (N_MS_end l g _ T s25 pl hO hU r26 x33 x34 kr26 hx_33 hx_34 (by omega) (by omega)) (cwV 0 hts (wg_app (wg_c kw_1721 (wg_c kw_1634 (wg_c kw_1635 (wg_c kw_10 wg_n)))) kw_1636) rfl rfl rfl (by decide +kernel) ⟨by decide, by decide⟩) (pn_W "LatticeKeysModel$Sponge" (en_ok g) (ci := 9) (kn := 172) (fl := [(3, 173), (3, 174), (3, 175), (3, 176), (3, 177), (0, 0), (0, 0), (0, 0)]) hK hO kr26 rfl hP hD hS hA hE [] rfl rfl rfl) rfl rfl hl.1 rfl (lv_room (Nat.le_of_ble_eq_true rfl)) dMH_message_54 ⟨by omega, by omega⟩) (fun  u26 H locs hu26 hP hD hS => ?_)
  obtain ⟨s26, pl⟩ := u26
  obtain ⟨⟨eq26, hFc26, ⟨x36, hx_36, hb_36⟩, ⟨x37, hx_37, hb_37⟩, -⟩, hO⟩ := hu26
  have hO : okn g T s26 pl := hO
  have hP : va_P g.1 vcl ([] ++ pl) _ := hP
  have hD : va_D _ ([] ++ pl) := hD
  have hFc26 : frm (M_MS_end) s25 s26 := hFc26
  have hb_36 : x36 = 0 := hb_36
  have hb_37 : x37 = x34 := hb_37
  replace hR := bnd_step hR eq26
  have hF := frm_tr hF hFc26 (fun k hk => by unfold M_MS_end at hk; unfold M_MH_message_1; omega)
  have hf61 : s26.1 225 23 = nI 1 := fc_F hf53 hFc26 (by unfold M_MS_end; omega)
  have hf62 : s26.1 225 24 = nI 6 := fc_F hf54 hFc26 (by unfold M_MS_end; omega)
  have hf63 : s26.1 225 25 = nI 5 := fc_F hf55 hFc26 (by unfold M_MS_end; omega)
  have hf64 : s26.1 225 26 = nI 4 := fc_F hf56 hFc26 (by unfold M_MS_end; omega)
  have hf65 : s26.1 225 27 = nI 524288 := fc_F hf57 hFc26 (by unfold M_MS_end; omega)
  have hf66 : s26.1 225 28 = nI 261888 := fc_F hf58 hFc26 (by unfold M_MS_end; omega)
  have hf67 : s26.1 225 29 = nI 196 := fc_F hf59 hFc26 (by unfold M_MS_end; omega)
  have hf68 : s26.1 225 30 = nI 48 := fc_F hf60 hFc26 (by unfold M_MS_end; omega)
  refine W.widen (k := 0) (n := 0) (by omega) (by omega) ?_
  refine lv_aload_n hx hb dMH_message_57 rfl (lv_at hl 0 rfl) ?_
  refine nw_get (C := "LatticeKeysModel$Hands") (TT := T_MH) (N := 31) hx hb hts (wg_ft i_MH) hown hK hO k_h0 (kn := 225) (ci := 12) (fl := [(3, 172), (3, 181), (3, 226), (3, 291), (3, 299), (3, 308), (3, 317), (3, 326), (3, 334), (3, 342), (3, 350), (3, 359), (3, 368), (3, 369), (3, 370), (3, 371), (3, 372), (3, 373), (3, 374), (3, 375), (3, 376), (3, 377), (3, 378), (0, 0), (0, 0), (0, 0), (0, 0), (0, 0), (0, 0), (0, 0), (0, 0)]) rfl hP rfl 0 (by decide) (hts _ (wg_t kw_1432)) (fun _ h9 => h9) (cd := (3, 172)) rfl dMH_message_58 (fun v27 hv27 => ?_)
  obtain ⟨r27, rfl, kr27⟩ := (show ∃ r : Nat, v27 = .ref r ∧ T r = some 172 from hv27)
  refine lv_aload_n hx hb dMH_message_61 rfl (lv_at hl 0 rfl) ?_
  refine nw_get (C := "LatticeKeysModel$Hands") (TT := T_MH) (N := 31) hx hb hts (wg_ft i_MH) hown hK hO k_h0 (kn := 225) (ci := 12) (fl := [(3, 172), (3, 181), (3, 226), (3, 291), (3, 299), (3, 308), (3, 317), (3, 326), (3, 334), (3, 342), (3, 350), (3, 359), (3, 368), (3, 369), (3, 370), (3, 371), (3, 372), (3, 373), (3, 374), (3, 375), (3, 376), (3, 377), (3, 378), (0, 0), (0, 0), (0, 0), (0, 0), (0, 0), (0, 0), (0, 0), (0, 0)]) rfl hP rfl 17 (by decide) (hts _ (wg_t kw_1449)) (fun _ h9 => h9) (cd := (3, 373)) rfl dMH_message_62 (fun v28 hv28 => ?_)
  obtain ⟨r28, rfl, kr28⟩ := (show ∃ r : Nat, v28 = .ref r ∧ T r = some 373 from hv28)
  refine lv_iconst (v := nI 0) hx hb dMH_message_65 (by decide) ?_
  refine lv_bipush (v := nI 64) hx hb dMH_message_66 (by decide) ?_
  refine mp_v (cx := []) (wr := []) hP hD hS hA [] [] rfl rfl rfl (by decide) (va_runV (As := [.ref r28, .int (nI 0), .int (nI 64)]) (rest := []) F (N_MS_take l g _ T s26 pl hO hU r27 r28 373 64 0 64 x36 x37 kr27 kr28 rfl hx_36 hx_37 (by omega) (by omega) (by omega) (by omega)) (cwV 3 hts (wg_app (wg_c kw_1722 (wg_c kw_1638 (wg_c kw_1639 (wg_c kw_10 wg_n)))) kw_1640) rfl rfl rfl (by decide +kernel) ⟨by decide, by decide⟩) (pn_W "LatticeKeysModel$Sponge" (en_ok g) (ci := 9) (kn := 172) (fl := [(3, 173), (3, 174), (3, 175), (3, 176), (3, 177), (0, 0), (0, 0), (0, 0)]) hK hO kr27 rfl hP hD hS hA hE [] rfl rfl rfl) rfl rfl hl.1 rfl (lv_room (Nat.le_of_ble_eq_true rfl)) dMH_message_68 ⟨by omega, by omega⟩) (fun  u27 H locs hu27 hP hD hS => ?_)
  obtain ⟨s27, pl⟩ := u27
  obtain ⟨⟨eq27, hFc27, ⟨x39, hx_39, hb_39⟩, ⟨x40, hx_40, hb_40⟩, -⟩, hO⟩ := hu27
  have hO : okn g T s27 pl := hO
  have hP : va_P g.1 vcl ([] ++ pl) _ := hP
  have hD : va_D _ ([] ++ pl) := hD
  have hFc27 : frm (M_MS_take 373) s26 s27 := hFc27
  have hb_39 : x39 ≤ x37 := hb_39
  have hb_40 : x40 = x37 := hb_40
  replace hR := bnd_step hR eq27
  have hF := frm_tr hF hFc27 (fun k hk => by unfold M_MS_take at hk; unfold M_MH_message_1; omega)
  have hf69 : s27.1 225 23 = nI 1 := fc_F hf61 hFc27 (by unfold M_MS_take; omega)
  have hf70 : s27.1 225 24 = nI 6 := fc_F hf62 hFc27 (by unfold M_MS_take; omega)
  have hf71 : s27.1 225 25 = nI 5 := fc_F hf63 hFc27 (by unfold M_MS_take; omega)
  have hf72 : s27.1 225 26 = nI 4 := fc_F hf64 hFc27 (by unfold M_MS_take; omega)
  have hf73 : s27.1 225 27 = nI 524288 := fc_F hf65 hFc27 (by unfold M_MS_take; omega)
  have hf74 : s27.1 225 28 = nI 261888 := fc_F hf66 hFc27 (by unfold M_MS_take; omega)
  have hf75 : s27.1 225 29 = nI 196 := fc_F hf67 hFc27 (by unfold M_MS_take; omega)
  have hf76 : s27.1 225 30 = nI 48 := fc_F hf68 hFc27 (by unfold M_MS_take; omega)
  refine W.widen (k := 0) (n := 0) (by omega) (by omega) ?_
  exact mp_vret hx hb hr hlk hP hD hS (s27, pl) ⟨⟨hR.symm, hF, trivial⟩, hO⟩ [] rfl rfl rfl (by omega) (by omega) dMH_message_71
def M_MH_message_2 (k : Nat) : Prop := k = 172 ∨ k = 373 ∨ (0 : Nat) = 1
noncomputable def F_MH_message_2 (phs : Nat) (nh : Nat) (ha : Nat) (pb : Nat) (nb : Nat) (at_ : Nat) (v : Int32) (ed : Nat) (s : Sto) : Sto := bnd (F_MS_shake  s) fun s21 => bnd (F_MS_puts phs nh ha 64 s21) fun s22 => bnd (F_MS_put (nI 0) s22) fun s23 => bnd (F_MS_put v s23) fun s24 => bnd (F_MS_puts pb nb at_ (ed - at_) s24) fun s25 => bnd (F_MS_end  s25) fun s26 => bnd (F_MS_take 373 64 0 64 s26) fun s27 => s27
set_option maxHeartbeats 8000000 in
set_option maxRecDepth 100000 in
theorem N_MH_message_2 (l : Launch) (g : Gd) (sz : Nat) (T : TyN) (s : Sto) (pl : va_W) (hO : okn g T s pl) (hU : inj T) (h0 hs b : Nat) (phs : Nat) (nh : Nat) (ha : Nat) (pb : Nat) (nb : Nat) (at_ : Nat) (v : Int32) (ed : Nat) (k_h0 : T h0 = some 225) (k_hs : T hs = some phs) (n_hs : nsp phs = (1, nh, [])) (k_b : T b = some pb) (n_b : nsp pb = (1, nb, [])) (e_c0 : s.1 225 23 = nI 2) (e_c1 : s.1 225 24 = nI 8) (e_c2 : s.1 225 25 = nI 7) (e_c3 : s.1 225 26 = nI 2) (e_c4 : s.1 225 27 = nI 524288) (e_c5 : s.1 225 28 = nI 261888) (e_c6 : s.1 225 29 = nI 120) (e_c7 : s.1 225 30 = nI 64) (h1 : ha + 64 ≤ nh) (h2 : nh < 65536) (h3 : at_ ≤ ed) (h4 : ed ≤ nb) (h5 : nb < 65536)  : Met l y_MH_message w_MH_message ({ frames := 4, cells := 0, slots := 0, locals := 90 } : Room) (va_Pc [.ref h0, .ref hs, .int (nI ha), .ref b, .int (nI at_), .int v, .int (nI ed)] (pr (en g) g.1 vcl sz ([] ++ pl))) (va_Qv (fun (u : (Sto) × va_W) => (u.1 = F_MH_message_2 phs nh ha pb nb at_ v ed s ∧ frm (M_MH_message_2) s u.1 ∧ True) ∧ okn g T u.1 u.2) (po g.1 vcl (va_A ([] ++ pl) sz) (fun (u : (Sto) × va_W) => [] ++ u.2)) (va_A ([] ++ pl) sz)) 0 0 (va_A ([] ++ pl) sz) := by
  refine mc_entry (cc := c_MH_message) (maxL := 7) (ret := none) (by decide) rfl (Nat.le_of_ble_eq_true rfl) ?_
  intro p e s0 m args below meth c ls F hr hlk hnm hsz hP hD hE hA hl
  obtain ⟨hx, hb, hml, hown, hts⟩ := id F
  have hK := hE.1
  generalize va_A ([] ++ pl) sz = A at hD hE hA ⊢
  have hS : va_S A s0.heap s0.heap [] := va_S.rf
  have hl : lv_has ls 7 [(0, .ref h0), (1, .ref hs), (2, .int (nI ha)), (3, .ref b), (4, .int (nI at_)), (5, .int v), (6, .int (nI ed))] := hl
  have hR : F_MH_message_2 phs nh ha pb nb at_ v ed s = F_MH_message_2 phs nh ha pb nb at_ v ed s := rfl
  have hF : frm (M_MH_message_2) s s := frm_rf
  have ne_172_phs : 172 ≠ phs := nsp_ne (p := 172) rfl n_hs (show (5 : Nat) ≠ 1 by decide)
  have ne_172_pb : 172 ≠ pb := nsp_ne (p := 172) rfl n_b (show (5 : Nat) ≠ 1 by decide)
  have ne_225_phs : 225 ≠ phs := nsp_ne (p := 225) rfl n_hs (show (5 : Nat) ≠ 1 by decide)
  have ne_225_pb : 225 ≠ pb := nsp_ne (p := 225) rfl n_b (show (5 : Nat) ≠ 1 by decide)
  refine lv_aload_n hx hb dMH_message_0 rfl (lv_at hl 0 rfl) ?_
  refine nw_get (C := "LatticeKeysModel$Hands") (TT := T_MH) (N := 31) hx hb hts (wg_ft i_MH) hown hK hO k_h0 (kn := 225) (ci := 12) (fl := [(3, 172), (3, 181), (3, 226), (3, 291), (3, 299), (3, 308), (3, 317), (3, 326), (3, 334), (3, 342), (3, 350), (3, 359), (3, 368), (3, 369), (3, 370), (3, 371), (3, 372), (3, 373), (3, 374), (3, 375), (3, 376), (3, 377), (3, 378), (0, 0), (0, 0), (0, 0), (0, 0), (0, 0), (0, 0), (0, 0), (0, 0)]) rfl hP rfl 0 (by decide) (hts _ (wg_t kw_1432)) (fun _ h9 => h9) (cd := (3, 172)) rfl dMH_message_1 (fun v21 hv21 => ?_)
  obtain ⟨r21, rfl, kr21⟩ := (show ∃ r : Nat, v21 = .ref r ∧ T r = some 172 from hv21)
  refine mp_v (cx := []) (wr := []) hP hD hS hA [] [] rfl rfl rfl (by decide) (va_runV (As := []) (rest := []) F (N_MS_shake l g _ T s pl hO hU r21 kr21) (cwV 0 hts (wg_app (wg_c kw_1718 (wg_c kw_1661 (wg_c kw_1662 (wg_c kw_10 wg_n)))) kw_1663) rfl rfl rfl (by decide +kernel) ⟨by decide, by decide⟩) (pn_W "LatticeKeysModel$Sponge" (en_ok g) (ci := 9) (kn := 172) (fl := [(3, 173), (3, 174), (3, 175), (3, 176), (3, 177), (0, 0), (0, 0), (0, 0)]) hK hO kr21 rfl hP hD hS hA hE [] rfl rfl rfl) rfl rfl hl.1 rfl (lv_room (Nat.le_of_ble_eq_true rfl)) dMH_message_4 ⟨by omega, by omega⟩) (fun  u21 H locs hu21 hP hD hS => ?_)
  obtain ⟨s21, pl⟩ := u21
  obtain ⟨⟨eq21, hFc21, ⟨x21, hx_21, hb_21⟩, ⟨x22, hx_22, hb_22⟩, -⟩, hO⟩ := hu21
  have hO : okn g T s21 pl := hO
  have hP : va_P g.1 vcl ([] ++ pl) _ := hP
  have hD : va_D _ ([] ++ pl) := hD
  have hFc21 : frm (M_MS_shake) s s21 := hFc21
  have hb_21 : x21 = 0 := hb_21
  have hb_22 : x22 = 136 := hb_22
  replace hR := bnd_step hR eq21
  have hF := frm_tr hF hFc21 (fun k hk => by unfold M_MS_shake at hk; unfold M_MH_message_2; omega)
  have hf21 : s21.1 225 23 = nI 2 := fc_F e_c0 hFc21 (by unfold M_MS_shake; omega)
  have hf22 : s21.1 225 24 = nI 8 := fc_F e_c1 hFc21 (by unfold M_MS_shake; omega)
  have hf23 : s21.1 225 25 = nI 7 := fc_F e_c2 hFc21 (by unfold M_MS_shake; omega)
  have hf24 : s21.1 225 26 = nI 2 := fc_F e_c3 hFc21 (by unfold M_MS_shake; omega)
  have hf25 : s21.1 225 27 = nI 524288 := fc_F e_c4 hFc21 (by unfold M_MS_shake; omega)
  have hf26 : s21.1 225 28 = nI 261888 := fc_F e_c5 hFc21 (by unfold M_MS_shake; omega)
  have hf27 : s21.1 225 29 = nI 120 := fc_F e_c6 hFc21 (by unfold M_MS_shake; omega)
  have hf28 : s21.1 225 30 = nI 64 := fc_F e_c7 hFc21 (by unfold M_MS_shake; omega)
  refine W.widen (k := 0) (n := 0) (by omega) (by omega) ?_
  refine lv_aload_n hx hb dMH_message_7 rfl (lv_at hl 0 rfl) ?_
  refine nw_get (C := "LatticeKeysModel$Hands") (TT := T_MH) (N := 31) hx hb hts (wg_ft i_MH) hown hK hO k_h0 (kn := 225) (ci := 12) (fl := [(3, 172), (3, 181), (3, 226), (3, 291), (3, 299), (3, 308), (3, 317), (3, 326), (3, 334), (3, 342), (3, 350), (3, 359), (3, 368), (3, 369), (3, 370), (3, 371), (3, 372), (3, 373), (3, 374), (3, 375), (3, 376), (3, 377), (3, 378), (0, 0), (0, 0), (0, 0), (0, 0), (0, 0), (0, 0), (0, 0), (0, 0)]) rfl hP rfl 0 (by decide) (hts _ (wg_t kw_1432)) (fun _ h9 => h9) (cd := (3, 172)) rfl dMH_message_8 (fun v22 hv22 => ?_)
  obtain ⟨r22, rfl, kr22⟩ := (show ∃ r : Nat, v22 = .ref r ∧ T r = some 172 from hv22)
  refine lv_aload_n hx hb dMH_message_11 rfl (lv_at hl 1 rfl) ?_
  refine lv_iload_n hx hb dMH_message_12 rfl (lv_at hl 2 rfl) ?_
  refine lv_bipush (v := nI 64) hx hb dMH_message_13 (by decide) ?_
  refine mp_v (cx := []) (wr := []) hP hD hS hA [] [] rfl rfl rfl (by decide) (va_runV (As := [.ref hs, .int (nI ha), .int (nI 64)]) (rest := []) F (N_MS_puts l g _ T s21 pl hO hU r22 hs phs nh ha 64 x21 x22 kr22 k_hs n_hs hx_21 hx_22 (by omega) (by omega) (by omega) (by omega)) (cwV 3 hts (wg_app (wg_c kw_1719 (wg_c kw_1612 (wg_c kw_1613 (wg_c kw_10 wg_n)))) kw_1614) rfl rfl rfl (by decide +kernel) ⟨by decide, by decide⟩) (pn_W "LatticeKeysModel$Sponge" (en_ok g) (ci := 9) (kn := 172) (fl := [(3, 173), (3, 174), (3, 175), (3, 176), (3, 177), (0, 0), (0, 0), (0, 0)]) hK hO kr22 rfl hP hD hS hA hE [] rfl rfl rfl) rfl rfl hl.1 rfl (lv_room (Nat.le_of_ble_eq_true rfl)) dMH_message_15 ⟨by omega, by omega⟩) (fun  u22 H locs hu22 hP hD hS => ?_)
  obtain ⟨s22, pl⟩ := u22
  obtain ⟨⟨eq22, hFc22, ⟨x24, hx_24, hb_24⟩, ⟨x25, hx_25, hb_25⟩, -⟩, hO⟩ := hu22
  have hO : okn g T s22 pl := hO
  have hP : va_P g.1 vcl ([] ++ pl) _ := hP
  have hD : va_D _ ([] ++ pl) := hD
  have hFc22 : frm (M_MS_puts) s21 s22 := hFc22
  have hb_24 : x24 < x22 := hb_24
  have hb_25 : x25 = x22 := hb_25
  replace hR := bnd_step hR eq22
  have hF := frm_tr hF hFc22 (fun k hk => by unfold M_MS_puts at hk; unfold M_MH_message_2; omega)
  have hf29 : s22.1 225 23 = nI 2 := fc_F hf21 hFc22 (by unfold M_MS_puts; omega)
  have hf30 : s22.1 225 24 = nI 8 := fc_F hf22 hFc22 (by unfold M_MS_puts; omega)
  have hf31 : s22.1 225 25 = nI 7 := fc_F hf23 hFc22 (by unfold M_MS_puts; omega)
  have hf32 : s22.1 225 26 = nI 2 := fc_F hf24 hFc22 (by unfold M_MS_puts; omega)
  have hf33 : s22.1 225 27 = nI 524288 := fc_F hf25 hFc22 (by unfold M_MS_puts; omega)
  have hf34 : s22.1 225 28 = nI 261888 := fc_F hf26 hFc22 (by unfold M_MS_puts; omega)
  have hf35 : s22.1 225 29 = nI 120 := fc_F hf27 hFc22 (by unfold M_MS_puts; omega)
  have hf36 : s22.1 225 30 = nI 64 := fc_F hf28 hFc22 (by unfold M_MS_puts; omega)
  refine W.widen (k := 0) (n := 0) (by omega) (by omega) ?_
  refine lv_aload_n hx hb dMH_message_18 rfl (lv_at hl 0 rfl) ?_
  refine nw_get (C := "LatticeKeysModel$Hands") (TT := T_MH) (N := 31) hx hb hts (wg_ft i_MH) hown hK hO k_h0 (kn := 225) (ci := 12) (fl := [(3, 172), (3, 181), (3, 226), (3, 291), (3, 299), (3, 308), (3, 317), (3, 326), (3, 334), (3, 342), (3, 350), (3, 359), (3, 368), (3, 369), (3, 370), (3, 371), (3, 372), (3, 373), (3, 374), (3, 375), (3, 376), (3, 377), (3, 378), (0, 0), (0, 0), (0, 0), (0, 0), (0, 0), (0, 0), (0, 0), (0, 0)]) rfl hP rfl 0 (by decide) (hts _ (wg_t kw_1432)) (fun _ h9 => h9) (cd := (3, 172)) rfl dMH_message_19 (fun v23 hv23 => ?_)
  obtain ⟨r23, rfl, kr23⟩ := (show ∃ r : Nat, v23 = .ref r ∧ T r = some 172 from hv23)
  refine lv_iconst (v := nI 0) hx hb dMH_message_22 (by decide) ?_
  refine mp_v (cx := []) (wr := []) hP hD hS hA [] [] rfl rfl rfl (by decide) (va_runV (As := [.int (nI 0)]) (rest := []) F (N_MS_put l g _ T s22 pl hO hU r23 (nI 0) x24 x25 kr23 hx_24 hx_25 (by omega) (by omega)) (cwV 1 hts (wg_app (wg_c kw_1720 (wg_c kw_1616 (wg_c kw_1617 (wg_c kw_10 wg_n)))) kw_1618) rfl rfl rfl (by decide +kernel) ⟨by decide, by decide⟩) (pn_W "LatticeKeysModel$Sponge" (en_ok g) (ci := 9) (kn := 172) (fl := [(3, 173), (3, 174), (3, 175), (3, 176), (3, 177), (0, 0), (0, 0), (0, 0)]) hK hO kr23 rfl hP hD hS hA hE [] rfl rfl rfl) rfl rfl hl.1 rfl (lv_room (Nat.le_of_ble_eq_true rfl)) dMH_message_23 ⟨by omega, by omega⟩) (fun  u23 H locs hu23 hP hD hS => ?_)
  obtain ⟨s23, pl⟩ := u23
  obtain ⟨⟨eq23, hFc23, ⟨x27, hx_27, hb_27⟩, ⟨x28, hx_28, hb_28⟩, -⟩, hO⟩ := hu23
  have hO : okn g T s23 pl := hO
  have hP : va_P g.1 vcl ([] ++ pl) _ := hP
  have hD : va_D _ ([] ++ pl) := hD
  have hFc23 : frm (M_MS_put) s22 s23 := hFc23
  have hb_27 : x27 < x25 := hb_27
  have hb_28 : x28 = x25 := hb_28
  replace hR := bnd_step hR eq23
  have hF := frm_tr hF hFc23 (fun k hk => by unfold M_MS_put at hk; unfold M_MH_message_2; omega)
  have hf37 : s23.1 225 23 = nI 2 := fc_F hf29 hFc23 (by unfold M_MS_put; omega)
  have hf38 : s23.1 225 24 = nI 8 := fc_F hf30 hFc23 (by unfold M_MS_put; omega)
  have hf39 : s23.1 225 25 = nI 7 := fc_F hf31 hFc23 (by unfold M_MS_put; omega)
  have hf40 : s23.1 225 26 = nI 2 := fc_F hf32 hFc23 (by unfold M_MS_put; omega)
  have hf41 : s23.1 225 27 = nI 524288 := fc_F hf33 hFc23 (by unfold M_MS_put; omega)
  have hf42 : s23.1 225 28 = nI 261888 := fc_F hf34 hFc23 (by unfold M_MS_put; omega)
  have hf43 : s23.1 225 29 = nI 120 := fc_F hf35 hFc23 (by unfold M_MS_put; omega)
  have hf44 : s23.1 225 30 = nI 64 := fc_F hf36 hFc23 (by unfold M_MS_put; omega)
  refine W.widen (k := 0) (n := 0) (by omega) (by omega) ?_
  refine lv_aload_n hx hb dMH_message_26 rfl (lv_at hl 0 rfl) ?_
  refine nw_get (C := "LatticeKeysModel$Hands") (TT := T_MH) (N := 31) hx hb hts (wg_ft i_MH) hown hK hO k_h0 (kn := 225) (ci := 12) (fl := [(3, 172), (3, 181), (3, 226), (3, 291), (3, 299), (3, 308), (3, 317), (3, 326), (3, 334), (3, 342), (3, 350), (3, 359), (3, 368), (3, 369), (3, 370), (3, 371), (3, 372), (3, 373), (3, 374), (3, 375), (3, 376), (3, 377), (3, 378), (0, 0), (0, 0), (0, 0), (0, 0), (0, 0), (0, 0), (0, 0), (0, 0)]) rfl hP rfl 0 (by decide) (hts _ (wg_t kw_1432)) (fun _ h9 => h9) (cd := (3, 172)) rfl dMH_message_27 (fun v24 hv24 => ?_)
  obtain ⟨r24, rfl, kr24⟩ := (show ∃ r : Nat, v24 = .ref r ∧ T r = some 172 from hv24)
  refine lv_iload hx hb dMH_message_30 (lv_at hl 5 rfl) ?_
  refine mp_v (cx := []) (wr := []) hP hD hS hA [] [] rfl rfl rfl (by decide) (va_runV (As := [.int v]) (rest := []) F (N_MS_put l g _ T s23 pl hO hU r24 v x27 x28 kr24 hx_27 hx_28 (by omega) (by omega)) (cwV 1 hts (wg_app (wg_c kw_1720 (wg_c kw_1616 (wg_c kw_1617 (wg_c kw_10 wg_n)))) kw_1618) rfl rfl rfl (by decide +kernel) ⟨by decide, by decide⟩) (pn_W "LatticeKeysModel$Sponge" (en_ok g) (ci := 9) (kn := 172) (fl := [(3, 173), (3, 174), (3, 175), (3, 176), (3, 177), (0, 0), (0, 0), (0, 0)]) hK hO kr24 rfl hP hD hS hA hE [] rfl rfl rfl) rfl rfl hl.1 rfl (lv_room (Nat.le_of_ble_eq_true rfl)) dMH_message_32 ⟨by omega, by omega⟩) (fun  u24 H locs hu24 hP hD hS => ?_)
  obtain ⟨s24, pl⟩ := u24
  obtain ⟨⟨eq24, hFc24, ⟨x30, hx_30, hb_30⟩, ⟨x31, hx_31, hb_31⟩, -⟩, hO⟩ := hu24
  have hO : okn g T s24 pl := hO
  have hP : va_P g.1 vcl ([] ++ pl) _ := hP
  have hD : va_D _ ([] ++ pl) := hD
  have hFc24 : frm (M_MS_put) s23 s24 := hFc24
  have hb_30 : x30 < x28 := hb_30
  have hb_31 : x31 = x28 := hb_31
  replace hR := bnd_step hR eq24
  have hF := frm_tr hF hFc24 (fun k hk => by unfold M_MS_put at hk; unfold M_MH_message_2; omega)
  have hf45 : s24.1 225 23 = nI 2 := fc_F hf37 hFc24 (by unfold M_MS_put; omega)
  have hf46 : s24.1 225 24 = nI 8 := fc_F hf38 hFc24 (by unfold M_MS_put; omega)
  have hf47 : s24.1 225 25 = nI 7 := fc_F hf39 hFc24 (by unfold M_MS_put; omega)
  have hf48 : s24.1 225 26 = nI 2 := fc_F hf40 hFc24 (by unfold M_MS_put; omega)
  have hf49 : s24.1 225 27 = nI 524288 := fc_F hf41 hFc24 (by unfold M_MS_put; omega)
  have hf50 : s24.1 225 28 = nI 261888 := fc_F hf42 hFc24 (by unfold M_MS_put; omega)
  have hf51 : s24.1 225 29 = nI 120 := fc_F hf43 hFc24 (by unfold M_MS_put; omega)
  have hf52 : s24.1 225 30 = nI 64 := fc_F hf44 hFc24 (by unfold M_MS_put; omega)
  refine W.widen (k := 0) (n := 0) (by omega) (by omega) ?_
  refine lv_aload_n hx hb dMH_message_35 rfl (lv_at hl 0 rfl) ?_
  refine nw_get (C := "LatticeKeysModel$Hands") (TT := T_MH) (N := 31) hx hb hts (wg_ft i_MH) hown hK hO k_h0 (kn := 225) (ci := 12) (fl := [(3, 172), (3, 181), (3, 226), (3, 291), (3, 299), (3, 308), (3, 317), (3, 326), (3, 334), (3, 342), (3, 350), (3, 359), (3, 368), (3, 369), (3, 370), (3, 371), (3, 372), (3, 373), (3, 374), (3, 375), (3, 376), (3, 377), (3, 378), (0, 0), (0, 0), (0, 0), (0, 0), (0, 0), (0, 0), (0, 0), (0, 0)]) rfl hP rfl 0 (by decide) (hts _ (wg_t kw_1432)) (fun _ h9 => h9) (cd := (3, 172)) rfl dMH_message_36 (fun v25 hv25 => ?_)
  obtain ⟨r25, rfl, kr25⟩ := (show ∃ r : Nat, v25 = .ref r ∧ T r = some 172 from hv25)
  refine lv_aload_n hx hb dMH_message_39 rfl (lv_at hl 3 rfl) ?_
  refine lv_iload hx hb dMH_message_40 (lv_at hl 4 rfl) ?_
  refine lv_iload hx hb dMH_message_42 (lv_at hl 6 rfl) ?_
  refine lv_iload hx hb dMH_message_44 (lv_at hl 4 rfl) ?_
  refine mi_isub hx hb dMH_message_46 (by omega) ?_
  refine mp_v (cx := []) (wr := []) hP hD hS hA [] [] rfl rfl rfl (by decide) (va_runV (As := [.ref b, .int (nI at_), .int (nI (ed - at_))]) (rest := []) F (N_MS_puts l g _ T s24 pl hO hU r25 b pb nb at_ (ed - at_) x30 x31 kr25 k_b n_b hx_30 hx_31 (by omega) (by omega) (by omega) (by omega)) (cwV 3 hts (wg_app (wg_c kw_1719 (wg_c kw_1612 (wg_c kw_1613 (wg_c kw_10 wg_n)))) kw_1614) rfl rfl rfl (by decide +kernel) ⟨by decide, by decide⟩) (pn_W "LatticeKeysModel$Sponge" (en_ok g) (ci := 9) (kn := 172) (fl := [(3, 173), (3, 174), (3, 175), (3, 176), (3, 177), (0, 0), (0, 0), (0, 0)]) hK hO kr25 rfl hP hD hS hA hE [] rfl rfl rfl) rfl rfl hl.1 rfl (lv_room (Nat.le_of_ble_eq_true rfl)) dMH_message_47 ⟨by omega, by omega⟩) (fun  u25 H locs hu25 hP hD hS => ?_)
  obtain ⟨s25, pl⟩ := u25
  obtain ⟨⟨eq25, hFc25, ⟨x33, hx_33, hb_33⟩, ⟨x34, hx_34, hb_34⟩, -⟩, hO⟩ := hu25
  have hO : okn g T s25 pl := hO
  have hP : va_P g.1 vcl ([] ++ pl) _ := hP
  have hD : va_D _ ([] ++ pl) := hD
  have hFc25 : frm (M_MS_puts) s24 s25 := hFc25
  have hb_33 : x33 < x31 := hb_33
  have hb_34 : x34 = x31 := hb_34
  replace hR := bnd_step hR eq25
  have hF := frm_tr hF hFc25 (fun k hk => by unfold M_MS_puts at hk; unfold M_MH_message_2; omega)
  have hf53 : s25.1 225 23 = nI 2 := fc_F hf45 hFc25 (by unfold M_MS_puts; omega)
  have hf54 : s25.1 225 24 = nI 8 := fc_F hf46 hFc25 (by unfold M_MS_puts; omega)
  have hf55 : s25.1 225 25 = nI 7 := fc_F hf47 hFc25 (by unfold M_MS_puts; omega)
  have hf56 : s25.1 225 26 = nI 2 := fc_F hf48 hFc25 (by unfold M_MS_puts; omega)
  have hf57 : s25.1 225 27 = nI 524288 := fc_F hf49 hFc25 (by unfold M_MS_puts; omega)
  have hf58 : s25.1 225 28 = nI 261888 := fc_F hf50 hFc25 (by unfold M_MS_puts; omega)
  have hf59 : s25.1 225 29 = nI 120 := fc_F hf51 hFc25 (by unfold M_MS_puts; omega)
  have hf60 : s25.1 225 30 = nI 64 := fc_F hf52 hFc25 (by unfold M_MS_puts; omega)
  refine W.widen (k := 0) (n := 0) (by omega) (by omega) ?_
  refine lv_aload_n hx hb dMH_message_50 rfl (lv_at hl 0 rfl) ?_
  refine nw_get (C := "LatticeKeysModel$Hands") (TT := T_MH) (N := 31) hx hb hts (wg_ft i_MH) hown hK hO k_h0 (kn := 225) (ci := 12) (fl := [(3, 172), (3, 181), (3, 226), (3, 291), (3, 299), (3, 308), (3, 317), (3, 326), (3, 334), (3, 342), (3, 350), (3, 359), (3, 368), (3, 369), (3, 370), (3, 371), (3, 372), (3, 373), (3, 374), (3, 375), (3, 376), (3, 377), (3, 378), (0, 0), (0, 0), (0, 0), (0, 0), (0, 0), (0, 0), (0, 0), (0, 0)]) rfl hP rfl 0 (by decide) (hts _ (wg_t kw_1432)) (fun _ h9 => h9) (cd := (3, 172)) rfl dMH_message_51 (fun v26 hv26 => ?_)
  obtain ⟨r26, rfl, kr26⟩ := (show ∃ r : Nat, v26 = .ref r ∧ T r = some 172 from hv26)
  refine mp_v (cx := []) (wr := []) hP hD hS hA [] [] rfl rfl rfl (by decide) (va_runV (As := []) (rest := []) F (N_MS_end l g _ T s25 pl hO hU r26 x33 x34 kr26 hx_33 hx_34 (by omega) (by omega)) (cwV 0 hts (wg_app (wg_c kw_1721 (wg_c kw_1634 (wg_c kw_1635 (wg_c kw_10 wg_n)))) kw_1636) rfl rfl rfl (by decide +kernel) ⟨by decide, by decide⟩) (pn_W "LatticeKeysModel$Sponge" (en_ok g) (ci := 9) (kn := 172) (fl := [(3, 173), (3, 174), (3, 175), (3, 176), (3, 177), (0, 0), (0, 0), (0, 0)]) hK hO kr26 rfl hP hD hS hA hE [] rfl rfl rfl) rfl rfl hl.1 rfl (lv_room (Nat.le_of_ble_eq_true rfl)) dMH_message_54 ⟨by omega, by omega⟩) (fun  u26 H locs hu26 hP hD hS => ?_)
  obtain ⟨s26, pl⟩ := u26
  obtain ⟨⟨eq26, hFc26, ⟨x36, hx_36, hb_36⟩, ⟨x37, hx_37, hb_37⟩, -⟩, hO⟩ := hu26
  have hO : okn g T s26 pl := hO
  have hP : va_P g.1 vcl ([] ++ pl) _ := hP
  have hD : va_D _ ([] ++ pl) := hD
  have hFc26 : frm (M_MS_end) s25 s26 := hFc26
  have hb_36 : x36 = 0 := hb_36
  have hb_37 : x37 = x34 := hb_37
  replace hR := bnd_step hR eq26
  have hF := frm_tr hF hFc26 (fun k hk => by unfold M_MS_end at hk; unfold M_MH_message_2; omega)
  have hf61 : s26.1 225 23 = nI 2 := fc_F hf53 hFc26 (by unfold M_MS_end; omega)
  have hf62 : s26.1 225 24 = nI 8 := fc_F hf54 hFc26 (by unfold M_MS_end; omega)
  have hf63 : s26.1 225 25 = nI 7 := fc_F hf55 hFc26 (by unfold M_MS_end; omega)
  have hf64 : s26.1 225 26 = nI 2 := fc_F hf56 hFc26 (by unfold M_MS_end; omega)
  have hf65 : s26.1 225 27 = nI 524288 := fc_F hf57 hFc26 (by unfold M_MS_end; omega)
  have hf66 : s26.1 225 28 = nI 261888 := fc_F hf58 hFc26 (by unfold M_MS_end; omega)
  have hf67 : s26.1 225 29 = nI 120 := fc_F hf59 hFc26 (by unfold M_MS_end; omega)
  have hf68 : s26.1 225 30 = nI 64 := fc_F hf60 hFc26 (by unfold M_MS_end; omega)
  refine W.widen (k := 0) (n := 0) (by omega) (by omega) ?_
  refine lv_aload_n hx hb dMH_message_57 rfl (lv_at hl 0 rfl) ?_
  refine nw_get (C := "LatticeKeysModel$Hands") (TT := T_MH) (N := 31) hx hb hts (wg_ft i_MH) hown hK hO k_h0 (kn := 225) (ci := 12) (fl := [(3, 172), (3, 181), (3, 226), (3, 291), (3, 299), (3, 308), (3, 317), (3, 326), (3, 334), (3, 342), (3, 350), (3, 359), (3, 368), (3, 369), (3, 370), (3, 371), (3, 372), (3, 373), (3, 374), (3, 375), (3, 376), (3, 377), (3, 378), (0, 0), (0, 0), (0, 0), (0, 0), (0, 0), (0, 0), (0, 0), (0, 0)]) rfl hP rfl 0 (by decide) (hts _ (wg_t kw_1432)) (fun _ h9 => h9) (cd := (3, 172)) rfl dMH_message_58 (fun v27 hv27 => ?_)
  obtain ⟨r27, rfl, kr27⟩ := (show ∃ r : Nat, v27 = .ref r ∧ T r = some 172 from hv27)
  refine lv_aload_n hx hb dMH_message_61 rfl (lv_at hl 0 rfl) ?_
  refine nw_get (C := "LatticeKeysModel$Hands") (TT := T_MH) (N := 31) hx hb hts (wg_ft i_MH) hown hK hO k_h0 (kn := 225) (ci := 12) (fl := [(3, 172), (3, 181), (3, 226), (3, 291), (3, 299), (3, 308), (3, 317), (3, 326), (3, 334), (3, 342), (3, 350), (3, 359), (3, 368), (3, 369), (3, 370), (3, 371), (3, 372), (3, 373), (3, 374), (3, 375), (3, 376), (3, 377), (3, 378), (0, 0), (0, 0), (0, 0), (0, 0), (0, 0), (0, 0), (0, 0), (0, 0)]) rfl hP rfl 17 (by decide) (hts _ (wg_t kw_1449)) (fun _ h9 => h9) (cd := (3, 373)) rfl dMH_message_62 (fun v28 hv28 => ?_)
  obtain ⟨r28, rfl, kr28⟩ := (show ∃ r : Nat, v28 = .ref r ∧ T r = some 373 from hv28)
  refine lv_iconst (v := nI 0) hx hb dMH_message_65 (by decide) ?_
  refine lv_bipush (v := nI 64) hx hb dMH_message_66 (by decide) ?_
  refine mp_v (cx := []) (wr := []) hP hD hS hA [] [] rfl rfl rfl (by decide) (va_runV (As := [.ref r28, .int (nI 0), .int (nI 64)]) (rest := []) F (N_MS_take l g _ T s26 pl hO hU r27 r28 373 64 0 64 x36 x37 kr27 kr28 rfl hx_36 hx_37 (by omega) (by omega) (by omega) (by omega)) (cwV 3 hts (wg_app (wg_c kw_1722 (wg_c kw_1638 (wg_c kw_1639 (wg_c kw_10 wg_n)))) kw_1640) rfl rfl rfl (by decide +kernel) ⟨by decide, by decide⟩) (pn_W "LatticeKeysModel$Sponge" (en_ok g) (ci := 9) (kn := 172) (fl := [(3, 173), (3, 174), (3, 175), (3, 176), (3, 177), (0, 0), (0, 0), (0, 0)]) hK hO kr27 rfl hP hD hS hA hE [] rfl rfl rfl) rfl rfl hl.1 rfl (lv_room (Nat.le_of_ble_eq_true rfl)) dMH_message_68 ⟨by omega, by omega⟩) (fun  u27 H locs hu27 hP hD hS => ?_)
  obtain ⟨s27, pl⟩ := u27
  obtain ⟨⟨eq27, hFc27, ⟨x39, hx_39, hb_39⟩, ⟨x40, hx_40, hb_40⟩, -⟩, hO⟩ := hu27
  have hO : okn g T s27 pl := hO
  have hP : va_P g.1 vcl ([] ++ pl) _ := hP
  have hD : va_D _ ([] ++ pl) := hD
  have hFc27 : frm (M_MS_take 373) s26 s27 := hFc27
  have hb_39 : x39 ≤ x37 := hb_39
  have hb_40 : x40 = x37 := hb_40
  replace hR := bnd_step hR eq27
  have hF := frm_tr hF hFc27 (fun k hk => by unfold M_MS_take at hk; unfold M_MH_message_2; omega)
  have hf69 : s27.1 225 23 = nI 2 := fc_F hf61 hFc27 (by unfold M_MS_take; omega)
  have hf70 : s27.1 225 24 = nI 8 := fc_F hf62 hFc27 (by unfold M_MS_take; omega)
  have hf71 : s27.1 225 25 = nI 7 := fc_F hf63 hFc27 (by unfold M_MS_take; omega)
  have hf72 : s27.1 225 26 = nI 2 := fc_F hf64 hFc27 (by unfold M_MS_take; omega)
  have hf73 : s27.1 225 27 = nI 524288 := fc_F hf65 hFc27 (by unfold M_MS_take; omega)
  have hf74 : s27.1 225 28 = nI 261888 := fc_F hf66 hFc27 (by unfold M_MS_take; omega)
  have hf75 : s27.1 225 29 = nI 120 := fc_F hf67 hFc27 (by unfold M_MS_take; omega)
  have hf76 : s27.1 225 30 = nI 64 := fc_F hf68 hFc27 (by unfold M_MS_take; omega)
  refine W.widen (k := 0) (n := 0) (by omega) (by omega) ?_
  exact mp_vret hx hb hr hlk hP hD hS (s27, pl) ⟨⟨hR.symm, hF, trivial⟩, hO⟩ [] rfl rfl rfl (by omega) (by omega) dMH_message_71
def M_MH_mask_0 (k : Nat) : Prop := (327 ≤ k ∧ k < 334) ∨ k = 172 ∨ k = 375 ∨ (0 : Nat) = 1
noncomputable def F_MH_mask_0_L1 (i21 : Nat) (kk : Nat → Sto → Sto) : Nat → Nat → Sto → Sto
  | 0, i22, s28 => kk (i21 + 1) s28
  | n22 + 1, i22, s28 => bnd ((s28.1 225 27).toNatClampNeg) fun z24 => bnd (F_M_unpack 375 640 (18 * i22) 18 s28) fun q21 => bnd (F_MH_minus (nI 131072) (q21.1) q21.2) fun q22 => bnd (sI q22.2 ((327 + i21)) i22 (q22.1)) fun s29 => F_MH_mask_0_L1 i21 kk n22 (i22 + 1) s29
noncomputable def F_MH_mask_0_L0 (fr : Int32) : Nat → Nat → Sto → Sto
  | 0, i21, s21 => bnd ((s21.1 225 25).toNatClampNeg) fun z22 => s21
  | n21 + 1, i21, s21 => bnd ((s21.1 225 25).toNatClampNeg) fun z23 => bnd (F_MS_shake  s21) fun s22 => bnd (F_MS_puts 374 64 0 64 s22) fun s23 => bnd (F_MS_put (fr + (nI i21)) s23) fun s24 => bnd (F_MS_put ((fr + (nI i21)) >>> ((nI 8) &&& 31)) s24) fun s25 => bnd (F_MS_end  s25) fun s26 => bnd (F_MS_take 375 640 0 576 s26) fun s27 => F_MH_mask_0_L1 i21 (F_MH_mask_0_L0 fr n21) 256 0 s27
noncomputable def F_MH_mask_0 (fr : Int32) (s : Sto) : Sto := bnd ((s.1 225 23).toNatClampNeg) fun z21 => F_MH_mask_0_L0 fr 4 0 s
set_option maxHeartbeats 8000000 in
set_option maxRecDepth 100000 in
theorem N_MH_mask_0 (l : Launch) (g : Gd) (sz : Nat) (T : TyN) (s : Sto) (pl : va_W) (hO : okn g T s pl) (hU : inj T) (h0 : Nat) (fr : Int32) (k_h0 : T h0 = some 225) (e_c0 : s.1 225 23 = nI 0) (e_c1 : s.1 225 24 = nI 4) (e_c2 : s.1 225 25 = nI 4) (e_c3 : s.1 225 26 = nI 2) (e_c4 : s.1 225 27 = nI 131072) (e_c5 : s.1 225 28 = nI 95232) (e_c6 : s.1 225 29 = nI 78) (e_c7 : s.1 225 30 = nI 32)  : Met l y_MH_mask w_MH_mask ({ frames := 4, cells := 0, slots := 0, locals := 90 } : Room) (va_Pc [.ref h0, .int fr] (pr (en g) g.1 vcl sz ([] ++ pl))) (va_Qv (fun (u : (Sto) × va_W) => (u.1 = F_MH_mask_0 fr s ∧ frm (M_MH_mask_0) s u.1 ∧ True) ∧ okn g T u.1 u.2) (po g.1 vcl (va_A ([] ++ pl) sz) (fun (u : (Sto) × va_W) => [] ++ u.2)) (va_A ([] ++ pl) sz)) 0 0 (va_A ([] ++ pl) sz) := by
  refine mc_entry (cc := c_MH_mask) (maxL := 5) (ret := none) (by decide) rfl (Nat.le_of_ble_eq_true rfl) ?_
  intro p e s0 m args below meth c ls F hr hlk hnm hsz hP hD hE hA hl
  obtain ⟨hx, hb, hml, hown, hts⟩ := id F
  have hK := hE.1
  generalize va_A ([] ++ pl) sz = A at hD hE hA ⊢
  have hS : va_S A s0.heap s0.heap [] := va_S.rf
  have hl : lv_has ls 5 [(0, .ref h0), (1, .int fr)] := hl
  have hR : F_MH_mask_0 fr s = F_MH_mask_0 fr s := rfl
  have hF : frm (M_MH_mask_0) s s := frm_rf
  refine lv_aload_n hx hb dMH_mask_0 rfl (lv_at hl 0 rfl) ?_
  refine nw_get (C := "LatticeKeysModel$Hands") (TT := T_MH) (N := 31) hx hb hts (wg_ft i_MH) hown hK hO k_h0 (kn := 225) (ci := 12) (fl := [(3, 172), (3, 181), (3, 226), (3, 291), (3, 299), (3, 308), (3, 317), (3, 326), (3, 334), (3, 342), (3, 350), (3, 359), (3, 368), (3, 369), (3, 370), (3, 371), (3, 372), (3, 373), (3, 374), (3, 375), (3, 376), (3, 377), (3, 378), (0, 0), (0, 0), (0, 0), (0, 0), (0, 0), (0, 0), (0, 0), (0, 0)]) rfl hP rfl 23 (by decide) (hts _ (wg_t kw_1455)) (fun _ h9 => h9) (cd := (0, 0)) rfl dMH_mask_1 (fun v21 hv21 => ?_)
  obtain rfl := (show v21 = .int (s.1 225 23) from hv21)
  obtain ⟨z21, ez21, hz21, hz22⟩ := cl_of (b := 2147483648) e_c0 (by omega) (by decide)
  replace hR := bnd_step hR ez21
  refine mi_as hz21 ?_
  subst hz22
  refine lv_if_ne (tgt := 12) hx hb dMH_mask_4 (by decide) (fun h21 => absurd h21 (by decide)) (fun h21 => ?_)
  refine lv_bipush (v := nI 18) hx hb dMH_mask_7 (by decide) ?_
  refine lv_goto (tgt := 14) hx hb dMH_mask_9 (by decide) ?_
  refine lv_istore_n (lv' := [(2, .int (nI 18)), (0, .ref h0), (1, .int fr)]) hx hb dMH_mask_14 rfl hl (by decide) rfl (fun ls hl => ?_)
  refine lv_iconst (v := nI 0) hx hb dMH_mask_15 (by decide) ?_
  refine lv_istore_n (lv' := [(3, .int (nI 0)), (2, .int (nI 18)), (0, .ref h0), (1, .int fr)]) hx hb dMH_mask_16 rfl hl (by decide) rfl (fun ls hl => ?_)
  have lp21 : ∀ (n21 : Nat) (i21 : Nat) (s21 : Sto) (pl : va_W) (ls : Array Slot) (H : Heap) (locs : List Loc), n21 + i21 = 4 → frm (M_MH_mask_0) s s21 → s21.1 225 23 = nI 0 → s21.1 225 24 = nI 4 → s21.1 225 25 = nI 4 → s21.1 225 26 = nI 2 → s21.1 225 27 = nI 131072 → s21.1 225 28 = nI 95232 → s21.1 225 29 = nI 78 → s21.1 225 30 = nI 32 → F_MH_mask_0 fr s = F_MH_mask_0_L0 fr n21 i21 s21 → lv_has ls 5 [(3, .int (nI i21)), (2, .int (nI 18)), (0, .ref h0), (1, .int fr)] → okn g T s21 pl → va_P g.1 vcl ([] ++ pl) H → va_D A ([] ++ pl) → va_S A s0.heap H locs → W p l e ({ frames := 4, cells := 0, slots := 0, locals := 90 } : Room) s0 m args below meth c H locs 0 0 (MQ below (va_Qv (fun (u : (Sto) × va_W) => (u.1 = F_MH_mask_0 fr s ∧ frm (M_MH_mask_0) s u.1 ∧ True) ∧ okn g T u.1 u.2) (po g.1 vcl A (fun (u : (Sto) × va_W) => [] ++ u.2)) A) args s0 0 0 A) (F0 m 17 ls []) := by
    intro n21
    induction n21 with
    | zero =>
      intro i21 s21 pl ls H locs hm21 hF hf21 hf22 hf23 hf24 hf25 hf26 hf27 hf28 hR hl hO hP hD hS
      refine lv_iload_n hx hb dMH_mask_17 rfl (lv_at hl 0 rfl) ?_
      refine lv_aload_n hx hb dMH_mask_18 rfl (lv_at hl 2 rfl) ?_
      refine nw_get (C := "LatticeKeysModel$Hands") (TT := T_MH) (N := 31) hx hb hts (wg_ft i_MH) hown hK hO k_h0 (kn := 225) (ci := 12) (fl := [(3, 172), (3, 181), (3, 226), (3, 291), (3, 299), (3, 308), (3, 317), (3, 326), (3, 334), (3, 342), (3, 350), (3, 359), (3, 368), (3, 369), (3, 370), (3, 371), (3, 372), (3, 373), (3, 374), (3, 375), (3, 376), (3, 377), (3, 378), (0, 0), (0, 0), (0, 0), (0, 0), (0, 0), (0, 0), (0, 0), (0, 0)]) rfl hP rfl 25 (by decide) (hts _ (wg_t kw_1457)) (fun _ h9 => h9) (cd := (0, 0)) rfl dMH_mask_19 (fun v22 hv22 => ?_)
      obtain rfl := (show v22 = .int (s21.1 225 25) from hv22)
      obtain ⟨z22, ez22, hz23, hz24⟩ := cl_of (b := 2147483648) hf23 (by omega) (by decide)
      replace hR := bnd_step hR ez22
      refine mi_as hz23 ?_
      subst hz24
      refine mi_ge (tgt := 143) hx hb dMH_mask_22 (by decide) (by omega) (by omega) (fun h22 => ?_) (fun h22 => absurd h22 (by omega))
      exact mp_vret hx hb hr hlk hP hD hS (s21, pl) ⟨⟨hR.symm, hF, trivial⟩, hO⟩ [] rfl rfl rfl (by omega) (by omega) dMH_mask_143
    | succ n21 ih21 =>
      intro i21 s21 pl ls H locs hm21 hF hf29 hf30 hf31 hf32 hf33 hf34 hf35 hf36 hR hl hO hP hD hS
      refine lv_iload_n hx hb dMH_mask_17 rfl (lv_at hl 0 rfl) ?_
      refine lv_aload_n hx hb dMH_mask_18 rfl (lv_at hl 2 rfl) ?_
      refine nw_get (C := "LatticeKeysModel$Hands") (TT := T_MH) (N := 31) hx hb hts (wg_ft i_MH) hown hK hO k_h0 (kn := 225) (ci := 12) (fl := [(3, 172), (3, 181), (3, 226), (3, 291), (3, 299), (3, 308), (3, 317), (3, 326), (3, 334), (3, 342), (3, 350), (3, 359), (3, 368), (3, 369), (3, 370), (3, 371), (3, 372), (3, 373), (3, 374), (3, 375), (3, 376), (3, 377), (3, 378), (0, 0), (0, 0), (0, 0), (0, 0), (0, 0), (0, 0), (0, 0), (0, 0)]) rfl hP rfl 25 (by decide) (hts _ (wg_t kw_1457)) (fun _ h9 => h9) (cd := (0, 0)) rfl dMH_mask_19 (fun v23 hv23 => ?_)
      obtain rfl := (show v23 = .int (s21.1 225 25) from hv23)
      obtain ⟨z23, ez23, hz25, hz26⟩ := cl_of (b := 2147483648) hf31 (by omega) (by decide)
      replace hR := bnd_step hR ez23
      refine mi_as hz25 ?_
      subst hz26
      refine mi_ge (tgt := 143) hx hb dMH_mask_22 (by decide) (by omega) (by omega) (fun h23 => absurd h23 (by omega)) (fun h23 => ?_)
      refine lv_aload_n hx hb dMH_mask_25 rfl (lv_at hl 2 rfl) ?_
      refine nw_get (C := "LatticeKeysModel$Hands") (TT := T_MH) (N := 31) hx hb hts (wg_ft i_MH) hown hK hO k_h0 (kn := 225) (ci := 12) (fl := [(3, 172), (3, 181), (3, 226), (3, 291), (3, 299), (3, 308), (3, 317), (3, 326), (3, 334), (3, 342), (3, 350), (3, 359), (3, 368), (3, 369), (3, 370), (3, 371), (3, 372), (3, 373), (3, 374), (3, 375), (3, 376), (3, 377), (3, 378), (0, 0), (0, 0), (0, 0), (0, 0), (0, 0), (0, 0), (0, 0), (0, 0)]) rfl hP rfl 0 (by decide) (hts _ (wg_t kw_1432)) (fun _ h9 => h9) (cd := (3, 172)) rfl dMH_mask_26 (fun v24 hv24 => ?_)
      obtain ⟨r21, rfl, kr21⟩ := (show ∃ r : Nat, v24 = .ref r ∧ T r = some 172 from hv24)
      refine mp_v (cx := []) (wr := []) hP hD hS hA [] [] rfl rfl rfl (by decide) (va_runV (As := []) (rest := []) F (N_MS_shake l g _ T s21 pl hO hU r21 kr21) (cwV 0 hts (wg_app (wg_c kw_1718 (wg_c kw_1661 (wg_c kw_1662 (wg_c kw_10 wg_n)))) kw_1663) rfl rfl rfl (by decide +kernel) ⟨by decide, by decide⟩) (pn_W "LatticeKeysModel$Sponge" (en_ok g) (ci := 9) (kn := 172) (fl := [(3, 173), (3, 174), (3, 175), (3, 176), (3, 177), (0, 0), (0, 0), (0, 0)]) hK hO kr21 rfl hP hD hS hA hE [] rfl rfl rfl) rfl rfl hl.1 rfl (lv_room (Nat.le_of_ble_eq_true rfl)) dMH_mask_29 ⟨by omega, by omega⟩) (fun  u21 H locs hu21 hP hD hS => ?_)
      obtain ⟨s22, pl⟩ := u21
      obtain ⟨⟨eq21, hFc21, ⟨x21, hx_21, hb_21⟩, ⟨x22, hx_22, hb_22⟩, -⟩, hO⟩ := hu21
      have hO : okn g T s22 pl := hO
      have hP : va_P g.1 vcl ([] ++ pl) _ := hP
      have hD : va_D _ ([] ++ pl) := hD
      have hFc21 : frm (M_MS_shake) s21 s22 := hFc21
      have hb_21 : x21 = 0 := hb_21
      have hb_22 : x22 = 136 := hb_22
      replace hR := bnd_step hR eq21
      have hF := frm_tr hF hFc21 (fun k hk => by unfold M_MS_shake at hk; unfold M_MH_mask_0; omega)
      have hf37 : s22.1 225 23 = nI 0 := fc_F hf29 hFc21 (by unfold M_MS_shake; omega)
      have hf38 : s22.1 225 24 = nI 4 := fc_F hf30 hFc21 (by unfold M_MS_shake; omega)
      have hf39 : s22.1 225 25 = nI 4 := fc_F hf31 hFc21 (by unfold M_MS_shake; omega)
      have hf40 : s22.1 225 26 = nI 2 := fc_F hf32 hFc21 (by unfold M_MS_shake; omega)
      have hf41 : s22.1 225 27 = nI 131072 := fc_F hf33 hFc21 (by unfold M_MS_shake; omega)
      have hf42 : s22.1 225 28 = nI 95232 := fc_F hf34 hFc21 (by unfold M_MS_shake; omega)
      have hf43 : s22.1 225 29 = nI 78 := fc_F hf35 hFc21 (by unfold M_MS_shake; omega)
      have hf44 : s22.1 225 30 = nI 32 := fc_F hf36 hFc21 (by unfold M_MS_shake; omega)
      refine W.widen (k := 0) (n := 0) (by omega) (by omega) ?_
      refine lv_aload_n hx hb dMH_mask_32 rfl (lv_at hl 2 rfl) ?_
      refine nw_get (C := "LatticeKeysModel$Hands") (TT := T_MH) (N := 31) hx hb hts (wg_ft i_MH) hown hK hO k_h0 (kn := 225) (ci := 12) (fl := [(3, 172), (3, 181), (3, 226), (3, 291), (3, 299), (3, 308), (3, 317), (3, 326), (3, 334), (3, 342), (3, 350), (3, 359), (3, 368), (3, 369), (3, 370), (3, 371), (3, 372), (3, 373), (3, 374), (3, 375), (3, 376), (3, 377), (3, 378), (0, 0), (0, 0), (0, 0), (0, 0), (0, 0), (0, 0), (0, 0), (0, 0)]) rfl hP rfl 0 (by decide) (hts _ (wg_t kw_1432)) (fun _ h9 => h9) (cd := (3, 172)) rfl dMH_mask_33 (fun v25 hv25 => ?_)
      obtain ⟨r22, rfl, kr22⟩ := (show ∃ r : Nat, v25 = .ref r ∧ T r = some 172 from hv25)
      refine lv_aload_n hx hb dMH_mask_36 rfl (lv_at hl 2 rfl) ?_
      refine nw_get (C := "LatticeKeysModel$Hands") (TT := T_MH) (N := 31) hx hb hts (wg_ft i_MH) hown hK hO k_h0 (kn := 225) (ci := 12) (fl := [(3, 172), (3, 181), (3, 226), (3, 291), (3, 299), (3, 308), (3, 317), (3, 326), (3, 334), (3, 342), (3, 350), (3, 359), (3, 368), (3, 369), (3, 370), (3, 371), (3, 372), (3, 373), (3, 374), (3, 375), (3, 376), (3, 377), (3, 378), (0, 0), (0, 0), (0, 0), (0, 0), (0, 0), (0, 0), (0, 0), (0, 0)]) rfl hP rfl 18 (by decide) (hts _ (wg_t kw_1450)) (fun _ h9 => h9) (cd := (3, 374)) rfl dMH_mask_37 (fun v26 hv26 => ?_)
      obtain ⟨r23, rfl, kr23⟩ := (show ∃ r : Nat, v26 = .ref r ∧ T r = some 374 from hv26)
      refine lv_iconst (v := nI 0) hx hb dMH_mask_40 (by decide) ?_
      refine lv_bipush (v := nI 64) hx hb dMH_mask_41 (by decide) ?_
      refine mp_v (cx := []) (wr := []) hP hD hS hA [] [] rfl rfl rfl (by decide) (va_runV (As := [.ref r23, .int (nI 0), .int (nI 64)]) (rest := []) F (N_MS_puts l g _ T s22 pl hO hU r22 r23 374 64 0 64 x21 x22 kr22 kr23 rfl hx_21 hx_22 (by omega) (by omega) (by omega) (by omega)) (cwV 3 hts (wg_app (wg_c kw_1719 (wg_c kw_1612 (wg_c kw_1613 (wg_c kw_10 wg_n)))) kw_1614) rfl rfl rfl (by decide +kernel) ⟨by decide, by decide⟩) (pn_W "LatticeKeysModel$Sponge" (en_ok g) (ci := 9) (kn := 172) (fl := [(3, 173), (3, 174), (3, 175), (3, 176), (3, 177), (0, 0), (0, 0), (0, 0)]) hK hO kr22 rfl hP hD hS hA hE [] rfl rfl rfl) rfl rfl hl.1 rfl (lv_room (Nat.le_of_ble_eq_true rfl)) dMH_mask_43 ⟨by omega, by omega⟩) (fun  u22 H locs hu22 hP hD hS => ?_)
      obtain ⟨s23, pl⟩ := u22
      obtain ⟨⟨eq22, hFc22, ⟨x24, hx_24, hb_24⟩, ⟨x25, hx_25, hb_25⟩, -⟩, hO⟩ := hu22
      have hO : okn g T s23 pl := hO
      have hP : va_P g.1 vcl ([] ++ pl) _ := hP
      have hD : va_D _ ([] ++ pl) := hD
      have hFc22 : frm (M_MS_puts) s22 s23 := hFc22
      have hb_24 : x24 < x22 := hb_24
      have hb_25 : x25 = x22 := hb_25
      replace hR := bnd_step hR eq22
      have hF := frm_tr hF hFc22 (fun k hk => by unfold M_MS_puts at hk; unfold M_MH_mask_0; omega)
      have hf45 : s23.1 225 23 = nI 0 := fc_F hf37 hFc22 (by unfold M_MS_puts; omega)
      have hf46 : s23.1 225 24 = nI 4 := fc_F hf38 hFc22 (by unfold M_MS_puts; omega)
      have hf47 : s23.1 225 25 = nI 4 := fc_F hf39 hFc22 (by unfold M_MS_puts; omega)
      have hf48 : s23.1 225 26 = nI 2 := fc_F hf40 hFc22 (by unfold M_MS_puts; omega)
      have hf49 : s23.1 225 27 = nI 131072 := fc_F hf41 hFc22 (by unfold M_MS_puts; omega)
      have hf50 : s23.1 225 28 = nI 95232 := fc_F hf42 hFc22 (by unfold M_MS_puts; omega)
      have hf51 : s23.1 225 29 = nI 78 := fc_F hf43 hFc22 (by unfold M_MS_puts; omega)
      have hf52 : s23.1 225 30 = nI 32 := fc_F hf44 hFc22 (by unfold M_MS_puts; omega)
      refine W.widen (k := 0) (n := 0) (by omega) (by omega) ?_
      refine lv_aload_n hx hb dMH_mask_46 rfl (lv_at hl 2 rfl) ?_
      refine nw_get (C := "LatticeKeysModel$Hands") (TT := T_MH) (N := 31) hx hb hts (wg_ft i_MH) hown hK hO k_h0 (kn := 225) (ci := 12) (fl := [(3, 172), (3, 181), (3, 226), (3, 291), (3, 299), (3, 308), (3, 317), (3, 326), (3, 334), (3, 342), (3, 350), (3, 359), (3, 368), (3, 369), (3, 370), (3, 371), (3, 372), (3, 373), (3, 374), (3, 375), (3, 376), (3, 377), (3, 378), (0, 0), (0, 0), (0, 0), (0, 0), (0, 0), (0, 0), (0, 0), (0, 0)]) rfl hP rfl 0 (by decide) (hts _ (wg_t kw_1432)) (fun _ h9 => h9) (cd := (3, 172)) rfl dMH_mask_47 (fun v27 hv27 => ?_)
      obtain ⟨r24, rfl, kr24⟩ := (show ∃ r : Nat, v27 = .ref r ∧ T r = some 172 from hv27)
      refine lv_iload_n hx hb dMH_mask_50 rfl (lv_at hl 3 rfl) ?_
      refine lv_iload_n hx hb dMH_mask_51 rfl (lv_at hl 0 rfl) ?_
      refine lv_iadd hx hb dMH_mask_52 ?_
      refine mp_v (cx := []) (wr := []) hP hD hS hA [] [] rfl rfl rfl (by decide) (va_runV (As := [.int ((fr + (nI i21)))]) (rest := []) F (N_MS_put l g _ T s23 pl hO hU r24 (fr + (nI i21)) x24 x25 kr24 hx_24 hx_25 (by omega) (by omega)) (cwV 1 hts (wg_app (wg_c kw_1720 (wg_c kw_1616 (wg_c kw_1617 (wg_c kw_10 wg_n)))) kw_1618) rfl rfl rfl (by decide +kernel) ⟨by decide, by decide⟩) (pn_W "LatticeKeysModel$Sponge" (en_ok g) (ci := 9) (kn := 172) (fl := [(3, 173), (3, 174), (3, 175), (3, 176), (3, 177), (0, 0), (0, 0), (0, 0)]) hK hO kr24 rfl hP hD hS hA hE [] rfl rfl rfl) rfl rfl hl.1 rfl (lv_room (Nat.le_of_ble_eq_true rfl)) dMH_mask_53 ⟨by omega, by omega⟩) (fun  u23 H locs hu23 hP hD hS => ?_)
      obtain ⟨s24, pl⟩ := u23
      obtain ⟨⟨eq23, hFc23, ⟨x27, hx_27, hb_27⟩, ⟨x28, hx_28, hb_28⟩, -⟩, hO⟩ := hu23
      have hO : okn g T s24 pl := hO
      have hP : va_P g.1 vcl ([] ++ pl) _ := hP
      have hD : va_D _ ([] ++ pl) := hD
      have hFc23 : frm (M_MS_put) s23 s24 := hFc23
      have hb_27 : x27 < x25 := hb_27
      have hb_28 : x28 = x25 := hb_28
      replace hR := bnd_step hR eq23
      have hF := frm_tr hF hFc23 (fun k hk => by unfold M_MS_put at hk; unfold M_MH_mask_0; omega)
      have hf53 : s24.1 225 23 = nI 0 := fc_F hf45 hFc23 (by unfold M_MS_put; omega)
      have hf54 : s24.1 225 24 = nI 4 := fc_F hf46 hFc23 (by unfold M_MS_put; omega)
      have hf55 : s24.1 225 25 = nI 4 := fc_F hf47 hFc23 (by unfold M_MS_put; omega)
      have hf56 : s24.1 225 26 = nI 2 := fc_F hf48 hFc23 (by unfold M_MS_put; omega)
      have hf57 : s24.1 225 27 = nI 131072 := fc_F hf49 hFc23 (by unfold M_MS_put; omega)
      have hf58 : s24.1 225 28 = nI 95232 := fc_F hf50 hFc23 (by unfold M_MS_put; omega)
      have hf59 : s24.1 225 29 = nI 78 := fc_F hf51 hFc23 (by unfold M_MS_put; omega)
      have hf60 : s24.1 225 30 = nI 32 := fc_F hf52 hFc23 (by unfold M_MS_put; omega)
      refine W.widen (k := 0) (n := 0) (by omega) (by omega) ?_
      refine lv_aload_n hx hb dMH_mask_56 rfl (lv_at hl 2 rfl) ?_
      refine nw_get (C := "LatticeKeysModel$Hands") (TT := T_MH) (N := 31) hx hb hts (wg_ft i_MH) hown hK hO k_h0 (kn := 225) (ci := 12) (fl := [(3, 172), (3, 181), (3, 226), (3, 291), (3, 299), (3, 308), (3, 317), (3, 326), (3, 334), (3, 342), (3, 350), (3, 359), (3, 368), (3, 369), (3, 370), (3, 371), (3, 372), (3, 373), (3, 374), (3, 375), (3, 376), (3, 377), (3, 378), (0, 0), (0, 0), (0, 0), (0, 0), (0, 0), (0, 0), (0, 0), (0, 0)]) rfl hP rfl 0 (by decide) (hts _ (wg_t kw_1432)) (fun _ h9 => h9) (cd := (3, 172)) rfl dMH_mask_57 (fun v28 hv28 => ?_)
      obtain ⟨r25, rfl, kr25⟩ := (show ∃ r : Nat, v28 = .ref r ∧ T r = some 172 from hv28)
      refine lv_iload_n hx hb dMH_mask_60 rfl (lv_at hl 3 rfl) ?_
      refine lv_iload_n hx hb dMH_mask_61 rfl (lv_at hl 0 rfl) ?_
      refine lv_iadd hx hb dMH_mask_62 ?_
      refine lv_bipush (v := nI 8) hx hb dMH_mask_63 (by decide) ?_
      refine lv_ishr hx hb dMH_mask_65 ?_
      refine mp_v (cx := []) (wr := []) hP hD hS hA [] [] rfl rfl rfl (by decide) (va_runV (As := [.int (((fr + (nI i21)) >>> ((nI 8) &&& 31)))]) (rest := []) F (N_MS_put l g _ T s24 pl hO hU r25 ((fr + (nI i21)) >>> ((nI 8) &&& 31)) x27 x28 kr25 hx_27 hx_28 (by omega) (by omega)) (cwV 1 hts (wg_app (wg_c kw_1720 (wg_c kw_1616 (wg_c kw_1617 (wg_c kw_10 wg_n)))) kw_1618) rfl rfl rfl (by decide +kernel) ⟨by decide, by decide⟩) (pn_W "LatticeKeysModel$Sponge" (en_ok g) (ci := 9) (kn := 172) (fl := [(3, 173), (3, 174), (3, 175), (3, 176), (3, 177), (0, 0), (0, 0), (0, 0)]) hK hO kr25 rfl hP hD hS hA hE [] rfl rfl rfl) rfl rfl hl.1 rfl (lv_room (Nat.le_of_ble_eq_true rfl)) dMH_mask_66 ⟨by omega, by omega⟩) (fun  u24 H locs hu24 hP hD hS => ?_)
      obtain ⟨s25, pl⟩ := u24
      obtain ⟨⟨eq24, hFc24, ⟨x30, hx_30, hb_30⟩, ⟨x31, hx_31, hb_31⟩, -⟩, hO⟩ := hu24
      have hO : okn g T s25 pl := hO
      have hP : va_P g.1 vcl ([] ++ pl) _ := hP
      have hD : va_D _ ([] ++ pl) := hD
      have hFc24 : frm (M_MS_put) s24 s25 := hFc24
      have hb_30 : x30 < x28 := hb_30
      have hb_31 : x31 = x28 := hb_31
      replace hR := bnd_step hR eq24
      have hF := frm_tr hF hFc24 (fun k hk => by unfold M_MS_put at hk; unfold M_MH_mask_0; omega)
      have hf61 : s25.1 225 23 = nI 0 := fc_F hf53 hFc24 (by unfold M_MS_put; omega)
      have hf62 : s25.1 225 24 = nI 4 := fc_F hf54 hFc24 (by unfold M_MS_put; omega)
      have hf63 : s25.1 225 25 = nI 4 := fc_F hf55 hFc24 (by unfold M_MS_put; omega)
      have hf64 : s25.1 225 26 = nI 2 := fc_F hf56 hFc24 (by unfold M_MS_put; omega)
      have hf65 : s25.1 225 27 = nI 131072 := fc_F hf57 hFc24 (by unfold M_MS_put; omega)
      have hf66 : s25.1 225 28 = nI 95232 := fc_F hf58 hFc24 (by unfold M_MS_put; omega)
      have hf67 : s25.1 225 29 = nI 78 := fc_F hf59 hFc24 (by unfold M_MS_put; omega)
      have hf68 : s25.1 225 30 = nI 32 := fc_F hf60 hFc24 (by unfold M_MS_put; omega)
      refine W.widen (k := 0) (n := 0) (by omega) (by omega) ?_
      refine lv_aload_n hx hb dMH_mask_69 rfl (lv_at hl 2 rfl) ?_
      refine nw_get (C := "LatticeKeysModel$Hands") (TT := T_MH) (N := 31) hx hb hts (wg_ft i_MH) hown hK hO k_h0 (kn := 225) (ci := 12) (fl := [(3, 172), (3, 181), (3, 226), (3, 291), (3, 299), (3, 308), (3, 317), (3, 326), (3, 334), (3, 342), (3, 350), (3, 359), (3, 368), (3, 369), (3, 370), (3, 371), (3, 372), (3, 373), (3, 374), (3, 375), (3, 376), (3, 377), (3, 378), (0, 0), (0, 0), (0, 0), (0, 0), (0, 0), (0, 0), (0, 0), (0, 0)]) rfl hP rfl 0 (by decide) (hts _ (wg_t kw_1432)) (fun _ h9 => h9) (cd := (3, 172)) rfl dMH_mask_70 (fun v29 hv29 => ?_)
      obtain ⟨r26, rfl, kr26⟩ := (show ∃ r : Nat, v29 = .ref r ∧ T r = some 172 from hv29)
      refine mp_v (cx := []) (wr := []) hP hD hS hA [] [] rfl rfl rfl (by decide) (va_runV (As := []) (rest := []) F (N_MS_end l g _ T s25 pl hO hU r26 x30 x31 kr26 hx_30 hx_31 (by omega) (by omega)) (cwV 0 hts (wg_app (wg_c kw_1721 (wg_c kw_1634 (wg_c kw_1635 (wg_c kw_10 wg_n)))) kw_1636) rfl rfl rfl (by decide +kernel) ⟨by decide, by decide⟩) (pn_W "LatticeKeysModel$Sponge" (en_ok g) (ci := 9) (kn := 172) (fl := [(3, 173), (3, 174), (3, 175), (3, 176), (3, 177), (0, 0), (0, 0), (0, 0)]) hK hO kr26 rfl hP hD hS hA hE [] rfl rfl rfl) rfl rfl hl.1 rfl (lv_room (Nat.le_of_ble_eq_true rfl)) dMH_mask_73 ⟨by omega, by omega⟩) (fun  u25 H locs hu25 hP hD hS => ?_)
      obtain ⟨s26, pl⟩ := u25
      obtain ⟨⟨eq25, hFc25, ⟨x33, hx_33, hb_33⟩, ⟨x34, hx_34, hb_34⟩, -⟩, hO⟩ := hu25
      have hO : okn g T s26 pl := hO
      have hP : va_P g.1 vcl ([] ++ pl) _ := hP
      have hD : va_D _ ([] ++ pl) := hD
      have hFc25 : frm (M_MS_end) s25 s26 := hFc25
      have hb_33 : x33 = 0 := hb_33
      have hb_34 : x34 = x31 := hb_34
      replace hR := bnd_step hR eq25
      have hF := frm_tr hF hFc25 (fun k hk => by unfold M_MS_end at hk; unfold M_MH_mask_0; omega)
      have hf69 : s26.1 225 23 = nI 0 := fc_F hf61 hFc25 (by unfold M_MS_end; omega)
      have hf70 : s26.1 225 24 = nI 4 := fc_F hf62 hFc25 (by unfold M_MS_end; omega)
      have hf71 : s26.1 225 25 = nI 4 := fc_F hf63 hFc25 (by unfold M_MS_end; omega)
      have hf72 : s26.1 225 26 = nI 2 := fc_F hf64 hFc25 (by unfold M_MS_end; omega)
      have hf73 : s26.1 225 27 = nI 131072 := fc_F hf65 hFc25 (by unfold M_MS_end; omega)
      have hf74 : s26.1 225 28 = nI 95232 := fc_F hf66 hFc25 (by unfold M_MS_end; omega)
      have hf75 : s26.1 225 29 = nI 78 := fc_F hf67 hFc25 (by unfold M_MS_end; omega)
      have hf76 : s26.1 225 30 = nI 32 := fc_F hf68 hFc25 (by unfold M_MS_end; omega)
      refine W.widen (k := 0) (n := 0) (by omega) (by omega) ?_
      refine lv_aload_n hx hb dMH_mask_76 rfl (lv_at hl 2 rfl) ?_
      refine nw_get (C := "LatticeKeysModel$Hands") (TT := T_MH) (N := 31) hx hb hts (wg_ft i_MH) hown hK hO k_h0 (kn := 225) (ci := 12) (fl := [(3, 172), (3, 181), (3, 226), (3, 291), (3, 299), (3, 308), (3, 317), (3, 326), (3, 334), (3, 342), (3, 350), (3, 359), (3, 368), (3, 369), (3, 370), (3, 371), (3, 372), (3, 373), (3, 374), (3, 375), (3, 376), (3, 377), (3, 378), (0, 0), (0, 0), (0, 0), (0, 0), (0, 0), (0, 0), (0, 0), (0, 0)]) rfl hP rfl 0 (by decide) (hts _ (wg_t kw_1432)) (fun _ h9 => h9) (cd := (3, 172)) rfl dMH_mask_77 (fun v30 hv30 => ?_)
      obtain ⟨r27, rfl, kr27⟩ := (show ∃ r : Nat, v30 = .ref r ∧ T r = some 172 from hv30)
      refine lv_aload_n hx hb dMH_mask_80 rfl (lv_at hl 2 rfl) ?_
      refine nw_get (C := "LatticeKeysModel$Hands") (TT := T_MH) (N := 31) hx hb hts (wg_ft i_MH) hown hK hO k_h0 (kn := 225) (ci := 12) (fl := [(3, 172), (3, 181), (3, 226), (3, 291), (3, 299), (3, 308), (3, 317), (3, 326), (3, 334), (3, 342), (3, 350), (3, 359), (3, 368), (3, 369), (3, 370), (3, 371), (3, 372), (3, 373), (3, 374), (3, 375), (3, 376), (3, 377), (3, 378), (0, 0), (0, 0), (0, 0), (0, 0), (0, 0), (0, 0), (0, 0), (0, 0)]) rfl hP rfl 19 (by decide) (hts _ (wg_t kw_1451)) (fun _ h9 => h9) (cd := (3, 375)) rfl dMH_mask_81 (fun v31 hv31 => ?_)
      obtain ⟨r28, rfl, kr28⟩ := (show ∃ r : Nat, v31 = .ref r ∧ T r = some 375 from hv31)
      refine lv_iconst (v := nI 0) hx hb dMH_mask_84 (by decide) ?_
      refine lv_bipush (v := nI 32) hx hb dMH_mask_85 (by decide) ?_
      refine lv_iload_n hx hb dMH_mask_87 rfl (lv_at hl 1 rfl) ?_
      refine mi_imul hx hb dMH_mask_88 ?_
      refine mi_as (show nI (32 * 18) = nI 576 from rfl) ?_
      refine mp_v (cx := []) (wr := []) hP hD hS hA [] [] rfl rfl rfl (by decide) (va_runV (As := [.ref r28, .int (nI 0), .int (nI 576)]) (rest := []) F (N_MS_take l g _ T s26 pl hO hU r27 r28 375 640 0 576 x33 x34 kr27 kr28 rfl hx_33 hx_34 (by omega) (by omega) (by omega) (by omega)) (cwV 3 hts (wg_app (wg_c kw_1722 (wg_c kw_1638 (wg_c kw_1639 (wg_c kw_10 wg_n)))) kw_1640) rfl rfl rfl (by decide +kernel) ⟨by decide, by decide⟩) (pn_W "LatticeKeysModel$Sponge" (en_ok g) (ci := 9) (kn := 172) (fl := [(3, 173), (3, 174), (3, 175), (3, 176), (3, 177), (0, 0), (0, 0), (0, 0)]) hK hO kr27 rfl hP hD hS hA hE [] rfl rfl rfl) rfl rfl hl.1 rfl (lv_room (Nat.le_of_ble_eq_true rfl)) dMH_mask_89 ⟨by omega, by omega⟩) (fun  u26 H locs hu26 hP hD hS => ?_)
      obtain ⟨s27, pl⟩ := u26
      obtain ⟨⟨eq26, hFc26, ⟨x36, hx_36, hb_36⟩, ⟨x37, hx_37, hb_37⟩, -⟩, hO⟩ := hu26
      have hO : okn g T s27 pl := hO
      have hP : va_P g.1 vcl ([] ++ pl) _ := hP
      have hD : va_D _ ([] ++ pl) := hD
      have hFc26 : frm (M_MS_take 375) s26 s27 := hFc26
      have hb_36 : x36 ≤ x34 := hb_36
      have hb_37 : x37 = x34 := hb_37
      replace hR := bnd_step hR eq26
      have hF := frm_tr hF hFc26 (fun k hk => by unfold M_MS_take at hk; unfold M_MH_mask_0; omega)
      have hf77 : s27.1 225 23 = nI 0 := fc_F hf69 hFc26 (by unfold M_MS_take; omega)
      have hf78 : s27.1 225 24 = nI 4 := fc_F hf70 hFc26 (by unfold M_MS_take; omega)
      have hf79 : s27.1 225 25 = nI 4 := fc_F hf71 hFc26 (by unfold M_MS_take; omega)
      have hf80 : s27.1 225 26 = nI 2 := fc_F hf72 hFc26 (by unfold M_MS_take; omega)
      have hf81 : s27.1 225 27 = nI 131072 := fc_F hf73 hFc26 (by unfold M_MS_take; omega)
      have hf82 : s27.1 225 28 = nI 95232 := fc_F hf74 hFc26 (by unfold M_MS_take; omega)
      have hf83 : s27.1 225 29 = nI 78 := fc_F hf75 hFc26 (by unfold M_MS_take; omega)
      have hf84 : s27.1 225 30 = nI 32 := fc_F hf76 hFc26 (by unfold M_MS_take; omega)
      refine W.widen (k := 0) (n := 0) (by omega) (by omega) ?_
      refine lv_iconst (v := nI 0) hx hb dMH_mask_92 (by decide) ?_
      refine lv_istore (lv' := [(4, .int (nI 0)), (3, .int (nI i21)), (2, .int (nI 18)), (0, .ref h0), (1, .int fr)]) hx hb dMH_mask_93 hl (by decide) rfl (fun ls hl => ?_)
      have lp22 : ∀ (n22 : Nat) (i22 : Nat) (s28 : Sto) (pl : va_W) (ls : Array Slot) (H : Heap) (locs : List Loc), n22 + i22 = 256 → frm (M_MH_mask_0) s s28 → s28.1 225 23 = nI 0 → s28.1 225 24 = nI 4 → s28.1 225 25 = nI 4 → s28.1 225 26 = nI 2 → s28.1 225 27 = nI 131072 → s28.1 225 28 = nI 95232 → s28.1 225 29 = nI 78 → s28.1 225 30 = nI 32 → F_MH_mask_0 fr s = F_MH_mask_0_L1 i21 (F_MH_mask_0_L0 fr n21) n22 i22 s28 → lv_has ls 5 [(4, .int (nI i22)), (3, .int (nI i21)), (2, .int (nI 18)), (0, .ref h0), (1, .int fr)] → okn g T s28 pl → va_P g.1 vcl ([] ++ pl) H → va_D A ([] ++ pl) → va_S A s0.heap H locs → W p l e ({ frames := 4, cells := 0, slots := 0, locals := 90 } : Room) s0 m args below meth c H locs 0 0 (MQ below (va_Qv (fun (u : (Sto) × va_W) => (u.1 = F_MH_mask_0 fr s ∧ frm (M_MH_mask_0) s u.1 ∧ True) ∧ okn g T u.1 u.2) (po g.1 vcl A (fun (u : (Sto) × va_W) => [] ++ u.2)) A) args s0 0 0 A) (F0 m 95 ls []) := by
        intro n22
        induction n22 with
        | zero =>
          intro i22 s28 pl ls H locs hm22 hF hf85 hf86 hf87 hf88 hf89 hf90 hf91 hf92 hR hl hO hP hD hS
          refine lv_iload hx hb dMH_mask_95 (lv_at hl 0 rfl) ?_
          refine lv_sipush (v := nI 256) hx hb dMH_mask_97 (by decide) ?_
          refine mi_ge (tgt := 137) hx hb dMH_mask_100 (by decide) (by omega) (by omega) (fun h24 => ?_) (fun h24 => absurd h24 (by omega))
          refine mi_iinc (k := 1) (x := i21) (d := 1) (y := i21 + 1) (lv' := [(3, .int (nI (i21 + 1))), (4, .int (nI i22)), (2, .int (nI 18)), (0, .ref h0), (1, .int fr)]) hx hb dMH_mask_137 hl rfl (by decide) rfl (by decide) rfl (fun ls hl => ?_)
          refine lv_goto (tgt := 17) hx hb dMH_mask_140 (by decide) ?_
          exact ih21 (i21 + 1) s28 pl ls H locs (by omega) hF hf85 hf86 hf87 hf88 hf89 hf90 hf91 hf92 hR (lv_sub hl [0, 2, 3, 4] rfl) hO hP hD hS
        | succ n22 ih22 =>
          intro i22 s28 pl ls H locs hm22 hF hf93 hf94 hf95 hf96 hf97 hf98 hf99 hf100 hR hl hO hP hD hS
          refine lv_iload hx hb dMH_mask_95 (lv_at hl 0 rfl) ?_
          refine lv_sipush (v := nI 256) hx hb dMH_mask_97 (by decide) ?_
          refine mi_ge (tgt := 137) hx hb dMH_mask_100 (by decide) (by omega) (by omega) (fun h25 => absurd h25 (by omega)) (fun h25 => ?_)
          refine lv_aload_n hx hb dMH_mask_103 rfl (lv_at hl 3 rfl) ?_
          refine nw_get (C := "LatticeKeysModel$Hands") (TT := T_MH) (N := 31) hx hb hts (wg_ft i_MH) hown hK hO k_h0 (kn := 225) (ci := 12) (fl := [(3, 172), (3, 181), (3, 226), (3, 291), (3, 299), (3, 308), (3, 317), (3, 326), (3, 334), (3, 342), (3, 350), (3, 359), (3, 368), (3, 369), (3, 370), (3, 371), (3, 372), (3, 373), (3, 374), (3, 375), (3, 376), (3, 377), (3, 378), (0, 0), (0, 0), (0, 0), (0, 0), (0, 0), (0, 0), (0, 0), (0, 0)]) rfl hP rfl 7 (by decide) (hts _ (wg_t kw_1439)) (fun _ h9 => h9) (cd := (3, 326)) rfl dMH_mask_104 (fun v32 hv32 => ?_)
          obtain ⟨r29, rfl, kr29⟩ := (show ∃ r : Nat, v32 = .ref r ∧ T r = some 326 from hv32)
          refine lv_iload_n hx hb dMH_mask_107 rfl (lv_at hl 1 rfl) ?_
          refine nw_aald3 hx hb hK hO kr29 (k := 326) (b := 327) rfl hP (by omega) (by omega) dMH_mask_108 (fun r30 kr30 => ?_)
          have hn21 : nsp (327 + i21) = (0, 256, []) := rows_ok 327 7 (by decide) _ (by omega)
          refine lv_iload hx hb dMH_mask_109 (lv_at hl 0 rfl) ?_
          refine lv_aload_n hx hb dMH_mask_111 rfl (lv_at hl 3 rfl) ?_
          refine nw_get (C := "LatticeKeysModel$Hands") (TT := T_MH) (N := 31) hx hb hts (wg_ft i_MH) hown hK hO k_h0 (kn := 225) (ci := 12) (fl := [(3, 172), (3, 181), (3, 226), (3, 291), (3, 299), (3, 308), (3, 317), (3, 326), (3, 334), (3, 342), (3, 350), (3, 359), (3, 368), (3, 369), (3, 370), (3, 371), (3, 372), (3, 373), (3, 374), (3, 375), (3, 376), (3, 377), (3, 378), (0, 0), (0, 0), (0, 0), (0, 0), (0, 0), (0, 0), (0, 0), (0, 0)]) rfl hP rfl 27 (by decide) (hts _ (wg_t kw_1459)) (fun _ h9 => h9) (cd := (0, 0)) rfl dMH_mask_112 (fun v33 hv33 => ?_)
          obtain rfl := (show v33 = .int (s28.1 225 27) from hv33)
          obtain ⟨z24, ez24, hz27, hz28⟩ := cl_of (b := 2147483648) hf97 (by omega) (by decide)
          replace hR := bnd_step hR ez24
          refine mi_as hz27 ?_
          subst hz28
          refine lv_aload_n hx hb dMH_mask_115 rfl (lv_at hl 3 rfl) ?_
          refine nw_get (C := "LatticeKeysModel$Hands") (TT := T_MH) (N := 31) hx hb hts (wg_ft i_MH) hown hK hO k_h0 (kn := 225) (ci := 12) (fl := [(3, 172), (3, 181), (3, 226), (3, 291), (3, 299), (3, 308), (3, 317), (3, 326), (3, 334), (3, 342), (3, 350), (3, 359), (3, 368), (3, 369), (3, 370), (3, 371), (3, 372), (3, 373), (3, 374), (3, 375), (3, 376), (3, 377), (3, 378), (0, 0), (0, 0), (0, 0), (0, 0), (0, 0), (0, 0), (0, 0), (0, 0)]) rfl hP rfl 19 (by decide) (hts _ (wg_t kw_1451)) (fun _ h9 => h9) (cd := (3, 375)) rfl dMH_mask_116 (fun v34 hv34 => ?_)
          obtain ⟨r31, rfl, kr31⟩ := (show ∃ r : Nat, v34 = .ref r ∧ T r = some 375 from hv34)
          refine lv_iload_n hx hb dMH_mask_119 rfl (lv_at hl 2 rfl) ?_
          refine lv_iload hx hb dMH_mask_120 (lv_at hl 0 rfl) ?_
          refine mi_imul hx hb dMH_mask_122 ?_
          refine lv_iload_n hx hb dMH_mask_123 rfl (lv_at hl 2 rfl) ?_
          refine mp_i (cx := []) (wr := []) hP hD hS hA [] [] rfl rfl rfl (by decide) (va_runSN (As := [.ref r31, .int (nI (18 * i22)), .int (nI 18)]) (rest := [.int (nI 131072), .int (nI i22), .ref r30]) F (N_M_unpack l g _ T s28 pl hO hU r31 375 640 (18 * i22) 18 kr31 rfl (by omega) (by omega) (by omega)) ⟨va_cnB 3 hts (wg_in kw_1667) rfl rfl rfl (hE.2.2.2.2.2.2.2.2.2.2) (hts _ (wg_t kw_9)) (by decide +kernel) ⟨by decide, by decide⟩, hts _ (wg_t kw_1666), trivial⟩ (pp_S (en_ok g) hP hD hS hA hE [] rfl rfl) rfl rfl hl.1 rfl (lv_room (Nat.le_of_ble_eq_true rfl)) dMH_mask_124 ⟨by omega, by omega⟩) (fun r32 u27 H locs hu27 hP hD hS => ?_)
          obtain ⟨q21, pl⟩ := u27
          obtain ⟨⟨eq27, rfl, hFc27, -⟩, hO⟩ := hu27
          have hO : okn g T q21.2 pl := hO
          have hP : va_P g.1 vcl ([] ++ pl) _ := hP
          have hD : va_D _ ([] ++ pl) := hD
          have hFc27 : frm (M_M_unpack) s28 q21.2 := hFc27
          replace hR := bnd_step hR eq27
          have hF := frm_tr hF hFc27 (fun k hk => by unfold M_M_unpack at hk; unfold M_MH_mask_0; omega)
          have hf101 : q21.2.1 225 23 = nI 0 := fc_F hf93 hFc27 (by unfold M_M_unpack; omega)
          have hf102 : q21.2.1 225 24 = nI 4 := fc_F hf94 hFc27 (by unfold M_M_unpack; omega)
          have hf103 : q21.2.1 225 25 = nI 4 := fc_F hf95 hFc27 (by unfold M_M_unpack; omega)
          have hf104 : q21.2.1 225 26 = nI 2 := fc_F hf96 hFc27 (by unfold M_M_unpack; omega)
          have hf105 : q21.2.1 225 27 = nI 131072 := fc_F hf97 hFc27 (by unfold M_M_unpack; omega)
          have hf106 : q21.2.1 225 28 = nI 95232 := fc_F hf98 hFc27 (by unfold M_M_unpack; omega)
          have hf107 : q21.2.1 225 29 = nI 78 := fc_F hf99 hFc27 (by unfold M_M_unpack; omega)
          have hf108 : q21.2.1 225 30 = nI 32 := fc_F hf100 hFc27 (by unfold M_M_unpack; omega)
          refine W.widen (k := 0) (n := 0) (by omega) (by omega) ?_
          refine mp_i (cx := []) (wr := []) hP hD hS hA [] [] rfl rfl rfl (by decide) (va_runS (As := [.int (nI 131072), .int q21.1]) (rest := [.int (nI i22), .ref r30]) F (N_MH_minus l g _ T q21.2 pl hO hU (nI 131072) (q21.1)) (va_cwS 2 hts (wg_app (wg_c kw_1865 (wg_c kw_1866 (wg_c kw_13 wg_n))) kw_1867) rfl rfl rfl (by decide +kernel) ⟨by decide, by decide⟩) (pp_S (en_ok g) hP hD hS hA hE [] rfl rfl) rfl rfl hl.1 rfl (lv_room (Nat.le_of_ble_eq_true rfl)) dMH_mask_127 ⟨by omega, by omega⟩) (fun r33 u28 H locs hu28 hP hD hS => ?_)
          obtain ⟨q22, pl⟩ := u28
          obtain ⟨⟨eq28, rfl, hFc28, -⟩, hO⟩ := hu28
          have hO : okn g T q22.2 pl := hO
          have hP : va_P g.1 vcl ([] ++ pl) _ := hP
          have hD : va_D _ ([] ++ pl) := hD
          have hFc28 : frm (M_MH_minus) q21.2 q22.2 := hFc28
          replace hR := bnd_step hR eq28
          have hF := frm_tr hF hFc28 (fun k hk => by unfold M_MH_minus at hk; unfold M_MH_mask_0; omega)
          have hf109 : q22.2.1 225 23 = nI 0 := fc_F hf101 hFc28 (by unfold M_MH_minus; omega)
          have hf110 : q22.2.1 225 24 = nI 4 := fc_F hf102 hFc28 (by unfold M_MH_minus; omega)
          have hf111 : q22.2.1 225 25 = nI 4 := fc_F hf103 hFc28 (by unfold M_MH_minus; omega)
          have hf112 : q22.2.1 225 26 = nI 2 := fc_F hf104 hFc28 (by unfold M_MH_minus; omega)
          have hf113 : q22.2.1 225 27 = nI 131072 := fc_F hf105 hFc28 (by unfold M_MH_minus; omega)
          have hf114 : q22.2.1 225 28 = nI 95232 := fc_F hf106 hFc28 (by unfold M_MH_minus; omega)
          have hf115 : q22.2.1 225 29 = nI 78 := fc_F hf107 hFc28 (by unfold M_MH_minus; omega)
          have hf116 : q22.2.1 225 30 = nI 32 := fc_F hf108 hFc28 (by unfold M_MH_minus; omega)
          refine W.widen (k := 0) (n := 0) (by omega) (by omega) ?_
          refine nw_iast hx hb hK hO hU kr30 (k := (327 + i21)) hn21 hP hD hS (by omega) (by omega) dMH_mask_130 (fun s29 pl H locs es21 hO hP hD hS => ?_)
          replace hR := bnd_step hR es21
          have hF := frm_sI hF es21 (by unfold M_MH_mask_0; omega)
          have hf117 : s29.1 225 23 = nI 0 := fc_ne hf109 es21 (by omega)
          have hf118 : s29.1 225 24 = nI 4 := fc_ne hf110 es21 (by omega)
          have hf119 : s29.1 225 25 = nI 4 := fc_ne hf111 es21 (by omega)
          have hf120 : s29.1 225 26 = nI 2 := fc_ne hf112 es21 (by omega)
          have hf121 : s29.1 225 27 = nI 131072 := fc_ne hf113 es21 (by omega)
          have hf122 : s29.1 225 28 = nI 95232 := fc_ne hf114 es21 (by omega)
          have hf123 : s29.1 225 29 = nI 78 := fc_ne hf115 es21 (by omega)
          have hf124 : s29.1 225 30 = nI 32 := fc_ne hf116 es21 (by omega)
          refine mi_iinc (k := 0) (x := i22) (d := 1) (y := i22 + 1) (lv' := [(4, .int (nI (i22 + 1))), (3, .int (nI i21)), (2, .int (nI 18)), (0, .ref h0), (1, .int fr)]) hx hb dMH_mask_131 hl rfl (by decide) rfl (by decide) rfl (fun ls hl => ?_)
          refine lv_goto (tgt := 95) hx hb dMH_mask_134 (by decide) ?_
          exact ih22 (i22 + 1) s29 pl ls H locs (by omega) hF hf117 hf118 hf119 hf120 hf121 hf122 hf123 hf124 hR (lv_sub hl [0, 1, 2, 3, 4] rfl) hO hP hD hS
      exact lp22 256 0 s27 pl ls _ _ (by omega) hF hf77 hf78 hf79 hf80 hf81 hf82 hf83 hf84 hR (lv_sub hl [0, 1, 2, 3, 4] rfl) hO hP hD hS
  exact lp21 4 0 s pl ls _ _ (by omega) hF e_c0 e_c1 e_c2 e_c3 e_c4 e_c5 e_c6 e_c7 hR (lv_sub hl [0, 1, 2, 3] rfl) hO hP hD hS
def M_MH_mask_1 (k : Nat) : Prop := (327 ≤ k ∧ k < 334) ∨ k = 172 ∨ k = 375 ∨ (0 : Nat) = 1
noncomputable def F_MH_mask_1_L1 (i21 : Nat) (kk : Nat → Sto → Sto) : Nat → Nat → Sto → Sto
  | 0, i22, s28 => kk (i21 + 1) s28
  | n22 + 1, i22, s28 => bnd ((s28.1 225 27).toNatClampNeg) fun z24 => bnd (F_M_unpack 375 640 (20 * i22) 20 s28) fun q21 => bnd (F_MH_minus (nI 524288) (q21.1) q21.2) fun q22 => bnd (sI q22.2 ((327 + i21)) i22 (q22.1)) fun s29 => F_MH_mask_1_L1 i21 kk n22 (i22 + 1) s29
noncomputable def F_MH_mask_1_L0 (fr : Int32) : Nat → Nat → Sto → Sto
  | 0, i21, s21 => bnd ((s21.1 225 25).toNatClampNeg) fun z22 => s21
  | n21 + 1, i21, s21 => bnd ((s21.1 225 25).toNatClampNeg) fun z23 => bnd (F_MS_shake  s21) fun s22 => bnd (F_MS_puts 374 64 0 64 s22) fun s23 => bnd (F_MS_put (fr + (nI i21)) s23) fun s24 => bnd (F_MS_put ((fr + (nI i21)) >>> ((nI 8) &&& 31)) s24) fun s25 => bnd (F_MS_end  s25) fun s26 => bnd (F_MS_take 375 640 0 640 s26) fun s27 => F_MH_mask_1_L1 i21 (F_MH_mask_1_L0 fr n21) 256 0 s27
noncomputable def F_MH_mask_1 (fr : Int32) (s : Sto) : Sto := bnd ((s.1 225 23).toNatClampNeg) fun z21 => F_MH_mask_1_L0 fr 5 0 s
set_option maxHeartbeats 8000000 in
set_option maxRecDepth 100000 in
theorem N_MH_mask_1 (l : Launch) (g : Gd) (sz : Nat) (T : TyN) (s : Sto) (pl : va_W) (hO : okn g T s pl) (hU : inj T) (h0 : Nat) (fr : Int32) (k_h0 : T h0 = some 225) (e_c0 : s.1 225 23 = nI 1) (e_c1 : s.1 225 24 = nI 6) (e_c2 : s.1 225 25 = nI 5) (e_c3 : s.1 225 26 = nI 4) (e_c4 : s.1 225 27 = nI 524288) (e_c5 : s.1 225 28 = nI 261888) (e_c6 : s.1 225 29 = nI 196) (e_c7 : s.1 225 30 = nI 48)  : Met l y_MH_mask w_MH_mask ({ frames := 4, cells := 0, slots := 0, locals := 90 } : Room) (va_Pc [.ref h0, .int fr] (pr (en g) g.1 vcl sz ([] ++ pl))) (va_Qv (fun (u : (Sto) × va_W) => (u.1 = F_MH_mask_1 fr s ∧ frm (M_MH_mask_1) s u.1 ∧ True) ∧ okn g T u.1 u.2) (po g.1 vcl (va_A ([] ++ pl) sz) (fun (u : (Sto) × va_W) => [] ++ u.2)) (va_A ([] ++ pl) sz)) 0 0 (va_A ([] ++ pl) sz) := by
  refine mc_entry (cc := c_MH_mask) (maxL := 5) (ret := none) (by decide) rfl (Nat.le_of_ble_eq_true rfl) ?_
  intro p e s0 m args below meth c ls F hr hlk hnm hsz hP hD hE hA hl
  obtain ⟨hx, hb, hml, hown, hts⟩ := id F
  have hK := hE.1
  generalize va_A ([] ++ pl) sz = A at hD hE hA ⊢
  have hS : va_S A s0.heap s0.heap [] := va_S.rf
  have hl : lv_has ls 5 [(0, .ref h0), (1, .int fr)] := hl
  have hR : F_MH_mask_1 fr s = F_MH_mask_1 fr s := rfl
  have hF : frm (M_MH_mask_1) s s := frm_rf
  refine lv_aload_n hx hb dMH_mask_0 rfl (lv_at hl 0 rfl) ?_
  refine nw_get (C := "LatticeKeysModel$Hands") (TT := T_MH) (N := 31) hx hb hts (wg_ft i_MH) hown hK hO k_h0 (kn := 225) (ci := 12) (fl := [(3, 172), (3, 181), (3, 226), (3, 291), (3, 299), (3, 308), (3, 317), (3, 326), (3, 334), (3, 342), (3, 350), (3, 359), (3, 368), (3, 369), (3, 370), (3, 371), (3, 372), (3, 373), (3, 374), (3, 375), (3, 376), (3, 377), (3, 378), (0, 0), (0, 0), (0, 0), (0, 0), (0, 0), (0, 0), (0, 0), (0, 0)]) rfl hP rfl 23 (by decide) (hts _ (wg_t kw_1455)) (fun _ h9 => h9) (cd := (0, 0)) rfl dMH_mask_1 (fun v21 hv21 => ?_)
  obtain rfl := (show v21 = .int (s.1 225 23) from hv21)
  obtain ⟨z21, ez21, hz21, hz22⟩ := cl_of (b := 2147483648) e_c0 (by omega) (by decide)
  replace hR := bnd_step hR ez21
  refine mi_as hz21 ?_
  subst hz22
  refine lv_if_ne (tgt := 12) hx hb dMH_mask_4 (by decide) (fun h21 => ?_) (fun h21 => absurd h21 (by decide))
  refine lv_bipush (v := nI 20) hx hb dMH_mask_12 (by decide) ?_
  refine lv_istore_n (lv' := [(2, .int (nI 20)), (0, .ref h0), (1, .int fr)]) hx hb dMH_mask_14 rfl hl (by decide) rfl (fun ls hl => ?_)
  refine lv_iconst (v := nI 0) hx hb dMH_mask_15 (by decide) ?_
  refine lv_istore_n (lv' := [(3, .int (nI 0)), (2, .int (nI 20)), (0, .ref h0), (1, .int fr)]) hx hb dMH_mask_16 rfl hl (by decide) rfl (fun ls hl => ?_)
  have lp21 : ∀ (n21 : Nat) (i21 : Nat) (s21 : Sto) (pl : va_W) (ls : Array Slot) (H : Heap) (locs : List Loc), n21 + i21 = 5 → frm (M_MH_mask_1) s s21 → s21.1 225 23 = nI 1 → s21.1 225 24 = nI 6 → s21.1 225 25 = nI 5 → s21.1 225 26 = nI 4 → s21.1 225 27 = nI 524288 → s21.1 225 28 = nI 261888 → s21.1 225 29 = nI 196 → s21.1 225 30 = nI 48 → F_MH_mask_1 fr s = F_MH_mask_1_L0 fr n21 i21 s21 → lv_has ls 5 [(3, .int (nI i21)), (2, .int (nI 20)), (0, .ref h0), (1, .int fr)] → okn g T s21 pl → va_P g.1 vcl ([] ++ pl) H → va_D A ([] ++ pl) → va_S A s0.heap H locs → W p l e ({ frames := 4, cells := 0, slots := 0, locals := 90 } : Room) s0 m args below meth c H locs 0 0 (MQ below (va_Qv (fun (u : (Sto) × va_W) => (u.1 = F_MH_mask_1 fr s ∧ frm (M_MH_mask_1) s u.1 ∧ True) ∧ okn g T u.1 u.2) (po g.1 vcl A (fun (u : (Sto) × va_W) => [] ++ u.2)) A) args s0 0 0 A) (F0 m 17 ls []) := by
    intro n21
    induction n21 with
    | zero =>
      intro i21 s21 pl ls H locs hm21 hF hf21 hf22 hf23 hf24 hf25 hf26 hf27 hf28 hR hl hO hP hD hS
      refine lv_iload_n hx hb dMH_mask_17 rfl (lv_at hl 0 rfl) ?_
      refine lv_aload_n hx hb dMH_mask_18 rfl (lv_at hl 2 rfl) ?_
      refine nw_get (C := "LatticeKeysModel$Hands") (TT := T_MH) (N := 31) hx hb hts (wg_ft i_MH) hown hK hO k_h0 (kn := 225) (ci := 12) (fl := [(3, 172), (3, 181), (3, 226), (3, 291), (3, 299), (3, 308), (3, 317), (3, 326), (3, 334), (3, 342), (3, 350), (3, 359), (3, 368), (3, 369), (3, 370), (3, 371), (3, 372), (3, 373), (3, 374), (3, 375), (3, 376), (3, 377), (3, 378), (0, 0), (0, 0), (0, 0), (0, 0), (0, 0), (0, 0), (0, 0), (0, 0)]) rfl hP rfl 25 (by decide) (hts _ (wg_t kw_1457)) (fun _ h9 => h9) (cd := (0, 0)) rfl dMH_mask_19 (fun v22 hv22 => ?_)
      obtain rfl := (show v22 = .int (s21.1 225 25) from hv22)
      obtain ⟨z22, ez22, hz23, hz24⟩ := cl_of (b := 2147483648) hf23 (by omega) (by decide)
      replace hR := bnd_step hR ez22
      refine mi_as hz23 ?_
      subst hz24
      refine mi_ge (tgt := 143) hx hb dMH_mask_22 (by decide) (by omega) (by omega) (fun h22 => ?_) (fun h22 => absurd h22 (by omega))
      exact mp_vret hx hb hr hlk hP hD hS (s21, pl) ⟨⟨hR.symm, hF, trivial⟩, hO⟩ [] rfl rfl rfl (by omega) (by omega) dMH_mask_143
    | succ n21 ih21 =>
      intro i21 s21 pl ls H locs hm21 hF hf29 hf30 hf31 hf32 hf33 hf34 hf35 hf36 hR hl hO hP hD hS
      refine lv_iload_n hx hb dMH_mask_17 rfl (lv_at hl 0 rfl) ?_
      refine lv_aload_n hx hb dMH_mask_18 rfl (lv_at hl 2 rfl) ?_
      refine nw_get (C := "LatticeKeysModel$Hands") (TT := T_MH) (N := 31) hx hb hts (wg_ft i_MH) hown hK hO k_h0 (kn := 225) (ci := 12) (fl := [(3, 172), (3, 181), (3, 226), (3, 291), (3, 299), (3, 308), (3, 317), (3, 326), (3, 334), (3, 342), (3, 350), (3, 359), (3, 368), (3, 369), (3, 370), (3, 371), (3, 372), (3, 373), (3, 374), (3, 375), (3, 376), (3, 377), (3, 378), (0, 0), (0, 0), (0, 0), (0, 0), (0, 0), (0, 0), (0, 0), (0, 0)]) rfl hP rfl 25 (by decide) (hts _ (wg_t kw_1457)) (fun _ h9 => h9) (cd := (0, 0)) rfl dMH_mask_19 (fun v23 hv23 => ?_)
      obtain rfl := (show v23 = .int (s21.1 225 25) from hv23)
      obtain ⟨z23, ez23, hz25, hz26⟩ := cl_of (b := 2147483648) hf31 (by omega) (by decide)
      replace hR := bnd_step hR ez23
      refine mi_as hz25 ?_
      subst hz26
      refine mi_ge (tgt := 143) hx hb dMH_mask_22 (by decide) (by omega) (by omega) (fun h23 => absurd h23 (by omega)) (fun h23 => ?_)
      refine lv_aload_n hx hb dMH_mask_25 rfl (lv_at hl 2 rfl) ?_
      refine nw_get (C := "LatticeKeysModel$Hands") (TT := T_MH) (N := 31) hx hb hts (wg_ft i_MH) hown hK hO k_h0 (kn := 225) (ci := 12) (fl := [(3, 172), (3, 181), (3, 226), (3, 291), (3, 299), (3, 308), (3, 317), (3, 326), (3, 334), (3, 342), (3, 350), (3, 359), (3, 368), (3, 369), (3, 370), (3, 371), (3, 372), (3, 373), (3, 374), (3, 375), (3, 376), (3, 377), (3, 378), (0, 0), (0, 0), (0, 0), (0, 0), (0, 0), (0, 0), (0, 0), (0, 0)]) rfl hP rfl 0 (by decide) (hts _ (wg_t kw_1432)) (fun _ h9 => h9) (cd := (3, 172)) rfl dMH_mask_26 (fun v24 hv24 => ?_)
      obtain ⟨r21, rfl, kr21⟩ := (show ∃ r : Nat, v24 = .ref r ∧ T r = some 172 from hv24)
      refine mp_v (cx := []) (wr := []) hP hD hS hA [] [] rfl rfl rfl (by decide) (va_runV (As := []) (rest := []) F (N_MS_shake l g _ T s21 pl hO hU r21 kr21) (cwV 0 hts (wg_app (wg_c kw_1718 (wg_c kw_1661 (wg_c kw_1662 (wg_c kw_10 wg_n)))) kw_1663) rfl rfl rfl (by decide +kernel) ⟨by decide, by decide⟩) (pn_W "LatticeKeysModel$Sponge" (en_ok g) (ci := 9) (kn := 172) (fl := [(3, 173), (3, 174), (3, 175), (3, 176), (3, 177), (0, 0), (0, 0), (0, 0)]) hK hO kr21 rfl hP hD hS hA hE [] rfl rfl rfl) rfl rfl hl.1 rfl (lv_room (Nat.le_of_ble_eq_true rfl)) dMH_mask_29 ⟨by omega, by omega⟩) (fun  u21 H locs hu21 hP hD hS => ?_)
      obtain ⟨s22, pl⟩ := u21
      obtain ⟨⟨eq21, hFc21, ⟨x21, hx_21, hb_21⟩, ⟨x22, hx_22, hb_22⟩, -⟩, hO⟩ := hu21
      have hO : okn g T s22 pl := hO
      have hP : va_P g.1 vcl ([] ++ pl) _ := hP
      have hD : va_D _ ([] ++ pl) := hD
      have hFc21 : frm (M_MS_shake) s21 s22 := hFc21
      have hb_21 : x21 = 0 := hb_21
      have hb_22 : x22 = 136 := hb_22
      replace hR := bnd_step hR eq21
      have hF := frm_tr hF hFc21 (fun k hk => by unfold M_MS_shake at hk; unfold M_MH_mask_1; omega)
      have hf37 : s22.1 225 23 = nI 1 := fc_F hf29 hFc21 (by unfold M_MS_shake; omega)
      have hf38 : s22.1 225 24 = nI 6 := fc_F hf30 hFc21 (by unfold M_MS_shake; omega)
      have hf39 : s22.1 225 25 = nI 5 := fc_F hf31 hFc21 (by unfold M_MS_shake; omega)
      have hf40 : s22.1 225 26 = nI 4 := fc_F hf32 hFc21 (by unfold M_MS_shake; omega)
      have hf41 : s22.1 225 27 = nI 524288 := fc_F hf33 hFc21 (by unfold M_MS_shake; omega)
      have hf42 : s22.1 225 28 = nI 261888 := fc_F hf34 hFc21 (by unfold M_MS_shake; omega)
      have hf43 : s22.1 225 29 = nI 196 := fc_F hf35 hFc21 (by unfold M_MS_shake; omega)
      have hf44 : s22.1 225 30 = nI 48 := fc_F hf36 hFc21 (by unfold M_MS_shake; omega)
      refine W.widen (k := 0) (n := 0) (by omega) (by omega) ?_
      refine lv_aload_n hx hb dMH_mask_32 rfl (lv_at hl 2 rfl) ?_
      refine nw_get (C := "LatticeKeysModel$Hands") (TT := T_MH) (N := 31) hx hb hts (wg_ft i_MH) hown hK hO k_h0 (kn := 225) (ci := 12) (fl := [(3, 172), (3, 181), (3, 226), (3, 291), (3, 299), (3, 308), (3, 317), (3, 326), (3, 334), (3, 342), (3, 350), (3, 359), (3, 368), (3, 369), (3, 370), (3, 371), (3, 372), (3, 373), (3, 374), (3, 375), (3, 376), (3, 377), (3, 378), (0, 0), (0, 0), (0, 0), (0, 0), (0, 0), (0, 0), (0, 0), (0, 0)]) rfl hP rfl 0 (by decide) (hts _ (wg_t kw_1432)) (fun _ h9 => h9) (cd := (3, 172)) rfl dMH_mask_33 (fun v25 hv25 => ?_)
      obtain ⟨r22, rfl, kr22⟩ := (show ∃ r : Nat, v25 = .ref r ∧ T r = some 172 from hv25)
      refine lv_aload_n hx hb dMH_mask_36 rfl (lv_at hl 2 rfl) ?_
      refine nw_get (C := "LatticeKeysModel$Hands") (TT := T_MH) (N := 31) hx hb hts (wg_ft i_MH) hown hK hO k_h0 (kn := 225) (ci := 12) (fl := [(3, 172), (3, 181), (3, 226), (3, 291), (3, 299), (3, 308), (3, 317), (3, 326), (3, 334), (3, 342), (3, 350), (3, 359), (3, 368), (3, 369), (3, 370), (3, 371), (3, 372), (3, 373), (3, 374), (3, 375), (3, 376), (3, 377), (3, 378), (0, 0), (0, 0), (0, 0), (0, 0), (0, 0), (0, 0), (0, 0), (0, 0)]) rfl hP rfl 18 (by decide) (hts _ (wg_t kw_1450)) (fun _ h9 => h9) (cd := (3, 374)) rfl dMH_mask_37 (fun v26 hv26 => ?_)
      obtain ⟨r23, rfl, kr23⟩ := (show ∃ r : Nat, v26 = .ref r ∧ T r = some 374 from hv26)
      refine lv_iconst (v := nI 0) hx hb dMH_mask_40 (by decide) ?_
      refine lv_bipush (v := nI 64) hx hb dMH_mask_41 (by decide) ?_
      refine mp_v (cx := []) (wr := []) hP hD hS hA [] [] rfl rfl rfl (by decide) (va_runV (As := [.ref r23, .int (nI 0), .int (nI 64)]) (rest := []) F (N_MS_puts l g _ T s22 pl hO hU r22 r23 374 64 0 64 x21 x22 kr22 kr23 rfl hx_21 hx_22 (by omega) (by omega) (by omega) (by omega)) (cwV 3 hts (wg_app (wg_c kw_1719 (wg_c kw_1612 (wg_c kw_1613 (wg_c kw_10 wg_n)))) kw_1614) rfl rfl rfl (by decide +kernel) ⟨by decide, by decide⟩) (pn_W "LatticeKeysModel$Sponge" (en_ok g) (ci := 9) (kn := 172) (fl := [(3, 173), (3, 174), (3, 175), (3, 176), (3, 177), (0, 0), (0, 0), (0, 0)]) hK hO kr22 rfl hP hD hS hA hE [] rfl rfl rfl) rfl rfl hl.1 rfl (lv_room (Nat.le_of_ble_eq_true rfl)) dMH_mask_43 ⟨by omega, by omega⟩) (fun  u22 H locs hu22 hP hD hS => ?_)
      obtain ⟨s23, pl⟩ := u22
      obtain ⟨⟨eq22, hFc22, ⟨x24, hx_24, hb_24⟩, ⟨x25, hx_25, hb_25⟩, -⟩, hO⟩ := hu22
      have hO : okn g T s23 pl := hO
      have hP : va_P g.1 vcl ([] ++ pl) _ := hP
      have hD : va_D _ ([] ++ pl) := hD
      have hFc22 : frm (M_MS_puts) s22 s23 := hFc22
      have hb_24 : x24 < x22 := hb_24
      have hb_25 : x25 = x22 := hb_25
      replace hR := bnd_step hR eq22
      have hF := frm_tr hF hFc22 (fun k hk => by unfold M_MS_puts at hk; unfold M_MH_mask_1; omega)
      have hf45 : s23.1 225 23 = nI 1 := fc_F hf37 hFc22 (by unfold M_MS_puts; omega)
      have hf46 : s23.1 225 24 = nI 6 := fc_F hf38 hFc22 (by unfold M_MS_puts; omega)
      have hf47 : s23.1 225 25 = nI 5 := fc_F hf39 hFc22 (by unfold M_MS_puts; omega)
      have hf48 : s23.1 225 26 = nI 4 := fc_F hf40 hFc22 (by unfold M_MS_puts; omega)
      have hf49 : s23.1 225 27 = nI 524288 := fc_F hf41 hFc22 (by unfold M_MS_puts; omega)
      have hf50 : s23.1 225 28 = nI 261888 := fc_F hf42 hFc22 (by unfold M_MS_puts; omega)
      have hf51 : s23.1 225 29 = nI 196 := fc_F hf43 hFc22 (by unfold M_MS_puts; omega)
      have hf52 : s23.1 225 30 = nI 48 := fc_F hf44 hFc22 (by unfold M_MS_puts; omega)
      refine W.widen (k := 0) (n := 0) (by omega) (by omega) ?_
      refine lv_aload_n hx hb dMH_mask_46 rfl (lv_at hl 2 rfl) ?_
      refine nw_get (C := "LatticeKeysModel$Hands") (TT := T_MH) (N := 31) hx hb hts (wg_ft i_MH) hown hK hO k_h0 (kn := 225) (ci := 12) (fl := [(3, 172), (3, 181), (3, 226), (3, 291), (3, 299), (3, 308), (3, 317), (3, 326), (3, 334), (3, 342), (3, 350), (3, 359), (3, 368), (3, 369), (3, 370), (3, 371), (3, 372), (3, 373), (3, 374), (3, 375), (3, 376), (3, 377), (3, 378), (0, 0), (0, 0), (0, 0), (0, 0), (0, 0), (0, 0), (0, 0), (0, 0)]) rfl hP rfl 0 (by decide) (hts _ (wg_t kw_1432)) (fun _ h9 => h9) (cd := (3, 172)) rfl dMH_mask_47 (fun v27 hv27 => ?_)
      obtain ⟨r24, rfl, kr24⟩ := (show ∃ r : Nat, v27 = .ref r ∧ T r = some 172 from hv27)
      refine lv_iload_n hx hb dMH_mask_50 rfl (lv_at hl 3 rfl) ?_
      refine lv_iload_n hx hb dMH_mask_51 rfl (lv_at hl 0 rfl) ?_
      refine lv_iadd hx hb dMH_mask_52 ?_
      refine mp_v (cx := []) (wr := []) hP hD hS hA [] [] rfl rfl rfl (by decide) (va_runV (As := [.int ((fr + (nI i21)))]) (rest := []) F (N_MS_put l g _ T s23 pl hO hU r24 (fr + (nI i21)) x24 x25 kr24 hx_24 hx_25 (by omega) (by omega)) (cwV 1 hts (wg_app (wg_c kw_1720 (wg_c kw_1616 (wg_c kw_1617 (wg_c kw_10 wg_n)))) kw_1618) rfl rfl rfl (by decide +kernel) ⟨by decide, by decide⟩) (pn_W "LatticeKeysModel$Sponge" (en_ok g) (ci := 9) (kn := 172) (fl := [(3, 173), (3, 174), (3, 175), (3, 176), (3, 177), (0, 0), (0, 0), (0, 0)]) hK hO kr24 rfl hP hD hS hA hE [] rfl rfl rfl) rfl rfl hl.1 rfl (lv_room (Nat.le_of_ble_eq_true rfl)) dMH_mask_53 ⟨by omega, by omega⟩) (fun  u23 H locs hu23 hP hD hS => ?_)
      obtain ⟨s24, pl⟩ := u23
      obtain ⟨⟨eq23, hFc23, ⟨x27, hx_27, hb_27⟩, ⟨x28, hx_28, hb_28⟩, -⟩, hO⟩ := hu23
      have hO : okn g T s24 pl := hO
      have hP : va_P g.1 vcl ([] ++ pl) _ := hP
      have hD : va_D _ ([] ++ pl) := hD
      have hFc23 : frm (M_MS_put) s23 s24 := hFc23
      have hb_27 : x27 < x25 := hb_27
      have hb_28 : x28 = x25 := hb_28
      replace hR := bnd_step hR eq23
      have hF := frm_tr hF hFc23 (fun k hk => by unfold M_MS_put at hk; unfold M_MH_mask_1; omega)
      have hf53 : s24.1 225 23 = nI 1 := fc_F hf45 hFc23 (by unfold M_MS_put; omega)
      have hf54 : s24.1 225 24 = nI 6 := fc_F hf46 hFc23 (by unfold M_MS_put; omega)
      have hf55 : s24.1 225 25 = nI 5 := fc_F hf47 hFc23 (by unfold M_MS_put; omega)
      have hf56 : s24.1 225 26 = nI 4 := fc_F hf48 hFc23 (by unfold M_MS_put; omega)
      have hf57 : s24.1 225 27 = nI 524288 := fc_F hf49 hFc23 (by unfold M_MS_put; omega)
      have hf58 : s24.1 225 28 = nI 261888 := fc_F hf50 hFc23 (by unfold M_MS_put; omega)
      have hf59 : s24.1 225 29 = nI 196 := fc_F hf51 hFc23 (by unfold M_MS_put; omega)
      have hf60 : s24.1 225 30 = nI 48 := fc_F hf52 hFc23 (by unfold M_MS_put; omega)
      refine W.widen (k := 0) (n := 0) (by omega) (by omega) ?_
      refine lv_aload_n hx hb dMH_mask_56 rfl (lv_at hl 2 rfl) ?_
      refine nw_get (C := "LatticeKeysModel$Hands") (TT := T_MH) (N := 31) hx hb hts (wg_ft i_MH) hown hK hO k_h0 (kn := 225) (ci := 12) (fl := [(3, 172), (3, 181), (3, 226), (3, 291), (3, 299), (3, 308), (3, 317), (3, 326), (3, 334), (3, 342), (3, 350), (3, 359), (3, 368), (3, 369), (3, 370), (3, 371), (3, 372), (3, 373), (3, 374), (3, 375), (3, 376), (3, 377), (3, 378), (0, 0), (0, 0), (0, 0), (0, 0), (0, 0), (0, 0), (0, 0), (0, 0)]) rfl hP rfl 0 (by decide) (hts _ (wg_t kw_1432)) (fun _ h9 => h9) (cd := (3, 172)) rfl dMH_mask_57 (fun v28 hv28 => ?_)
      obtain ⟨r25, rfl, kr25⟩ := (show ∃ r : Nat, v28 = .ref r ∧ T r = some 172 from hv28)
      refine lv_iload_n hx hb dMH_mask_60 rfl (lv_at hl 3 rfl) ?_
      refine lv_iload_n hx hb dMH_mask_61 rfl (lv_at hl 0 rfl) ?_
      refine lv_iadd hx hb dMH_mask_62 ?_
      refine lv_bipush (v := nI 8) hx hb dMH_mask_63 (by decide) ?_
      refine lv_ishr hx hb dMH_mask_65 ?_
      refine mp_v (cx := []) (wr := []) hP hD hS hA [] [] rfl rfl rfl (by decide) (va_runV (As := [.int (((fr + (nI i21)) >>> ((nI 8) &&& 31)))]) (rest := []) F (N_MS_put l g _ T s24 pl hO hU r25 ((fr + (nI i21)) >>> ((nI 8) &&& 31)) x27 x28 kr25 hx_27 hx_28 (by omega) (by omega)) (cwV 1 hts (wg_app (wg_c kw_1720 (wg_c kw_1616 (wg_c kw_1617 (wg_c kw_10 wg_n)))) kw_1618) rfl rfl rfl (by decide +kernel) ⟨by decide, by decide⟩) (pn_W "LatticeKeysModel$Sponge" (en_ok g) (ci := 9) (kn := 172) (fl := [(3, 173), (3, 174), (3, 175), (3, 176), (3, 177), (0, 0), (0, 0), (0, 0)]) hK hO kr25 rfl hP hD hS hA hE [] rfl rfl rfl) rfl rfl hl.1 rfl (lv_room (Nat.le_of_ble_eq_true rfl)) dMH_mask_66 ⟨by omega, by omega⟩) (fun  u24 H locs hu24 hP hD hS => ?_)
      obtain ⟨s25, pl⟩ := u24
      obtain ⟨⟨eq24, hFc24, ⟨x30, hx_30, hb_30⟩, ⟨x31, hx_31, hb_31⟩, -⟩, hO⟩ := hu24
      have hO : okn g T s25 pl := hO
      have hP : va_P g.1 vcl ([] ++ pl) _ := hP
      have hD : va_D _ ([] ++ pl) := hD
      have hFc24 : frm (M_MS_put) s24 s25 := hFc24
      have hb_30 : x30 < x28 := hb_30
      have hb_31 : x31 = x28 := hb_31
      replace hR := bnd_step hR eq24
      have hF := frm_tr hF hFc24 (fun k hk => by unfold M_MS_put at hk; unfold M_MH_mask_1; omega)
      have hf61 : s25.1 225 23 = nI 1 := fc_F hf53 hFc24 (by unfold M_MS_put; omega)
      have hf62 : s25.1 225 24 = nI 6 := fc_F hf54 hFc24 (by unfold M_MS_put; omega)
      have hf63 : s25.1 225 25 = nI 5 := fc_F hf55 hFc24 (by unfold M_MS_put; omega)
      have hf64 : s25.1 225 26 = nI 4 := fc_F hf56 hFc24 (by unfold M_MS_put; omega)
      have hf65 : s25.1 225 27 = nI 524288 := fc_F hf57 hFc24 (by unfold M_MS_put; omega)
      have hf66 : s25.1 225 28 = nI 261888 := fc_F hf58 hFc24 (by unfold M_MS_put; omega)
      have hf67 : s25.1 225 29 = nI 196 := fc_F hf59 hFc24 (by unfold M_MS_put; omega)
      have hf68 : s25.1 225 30 = nI 48 := fc_F hf60 hFc24 (by unfold M_MS_put; omega)
      refine W.widen (k := 0) (n := 0) (by omega) (by omega) ?_
      refine lv_aload_n hx hb dMH_mask_69 rfl (lv_at hl 2 rfl) ?_
      refine nw_get (C := "LatticeKeysModel$Hands") (TT := T_MH) (N := 31) hx hb hts (wg_ft i_MH) hown hK hO k_h0 (kn := 225) (ci := 12) (fl := [(3, 172), (3, 181), (3, 226), (3, 291), (3, 299), (3, 308), (3, 317), (3, 326), (3, 334), (3, 342), (3, 350), (3, 359), (3, 368), (3, 369), (3, 370), (3, 371), (3, 372), (3, 373), (3, 374), (3, 375), (3, 376), (3, 377), (3, 378), (0, 0), (0, 0), (0, 0), (0, 0), (0, 0), (0, 0), (0, 0), (0, 0)]) rfl hP rfl 0 (by decide) (hts _ (wg_t kw_1432)) (fun _ h9 => h9) (cd := (3, 172)) rfl dMH_mask_70 (fun v29 hv29 => ?_)
      obtain ⟨r26, rfl, kr26⟩ := (show ∃ r : Nat, v29 = .ref r ∧ T r = some 172 from hv29)
      refine mp_v (cx := []) (wr := []) hP hD hS hA [] [] rfl rfl rfl (by decide) (va_runV (As := []) (rest := []) F (N_MS_end l g _ T s25 pl hO hU r26 x30 x31 kr26 hx_30 hx_31 (by omega) (by omega)) (cwV 0 hts (wg_app (wg_c kw_1721 (wg_c kw_1634 (wg_c kw_1635 (wg_c kw_10 wg_n)))) kw_1636) rfl rfl rfl (by decide +kernel) ⟨by decide, by decide⟩) (pn_W "LatticeKeysModel$Sponge" (en_ok g) (ci := 9) (kn := 172) (fl := [(3, 173), (3, 174), (3, 175), (3, 176), (3, 177), (0, 0), (0, 0), (0, 0)]) hK hO kr26 rfl hP hD hS hA hE [] rfl rfl rfl) rfl rfl hl.1 rfl (lv_room (Nat.le_of_ble_eq_true rfl)) dMH_mask_73 ⟨by omega, by omega⟩) (fun  u25 H locs hu25 hP hD hS => ?_)
      obtain ⟨s26, pl⟩ := u25
      obtain ⟨⟨eq25, hFc25, ⟨x33, hx_33, hb_33⟩, ⟨x34, hx_34, hb_34⟩, -⟩, hO⟩ := hu25
      have hO : okn g T s26 pl := hO
      have hP : va_P g.1 vcl ([] ++ pl) _ := hP
      have hD : va_D _ ([] ++ pl) := hD
      have hFc25 : frm (M_MS_end) s25 s26 := hFc25
      have hb_33 : x33 = 0 := hb_33
      have hb_34 : x34 = x31 := hb_34
      replace hR := bnd_step hR eq25
      have hF := frm_tr hF hFc25 (fun k hk => by unfold M_MS_end at hk; unfold M_MH_mask_1; omega)
      have hf69 : s26.1 225 23 = nI 1 := fc_F hf61 hFc25 (by unfold M_MS_end; omega)
      have hf70 : s26.1 225 24 = nI 6 := fc_F hf62 hFc25 (by unfold M_MS_end; omega)
      have hf71 : s26.1 225 25 = nI 5 := fc_F hf63 hFc25 (by unfold M_MS_end; omega)
      have hf72 : s26.1 225 26 = nI 4 := fc_F hf64 hFc25 (by unfold M_MS_end; omega)
      have hf73 : s26.1 225 27 = nI 524288 := fc_F hf65 hFc25 (by unfold M_MS_end; omega)
      have hf74 : s26.1 225 28 = nI 261888 := fc_F hf66 hFc25 (by unfold M_MS_end; omega)
      have hf75 : s26.1 225 29 = nI 196 := fc_F hf67 hFc25 (by unfold M_MS_end; omega)
      have hf76 : s26.1 225 30 = nI 48 := fc_F hf68 hFc25 (by unfold M_MS_end; omega)
      refine W.widen (k := 0) (n := 0) (by omega) (by omega) ?_
      refine lv_aload_n hx hb dMH_mask_76 rfl (lv_at hl 2 rfl) ?_
      refine nw_get (C := "LatticeKeysModel$Hands") (TT := T_MH) (N := 31) hx hb hts (wg_ft i_MH) hown hK hO k_h0 (kn := 225) (ci := 12) (fl := [(3, 172), (3, 181), (3, 226), (3, 291), (3, 299), (3, 308), (3, 317), (3, 326), (3, 334), (3, 342), (3, 350), (3, 359), (3, 368), (3, 369), (3, 370), (3, 371), (3, 372), (3, 373), (3, 374), (3, 375), (3, 376), (3, 377), (3, 378), (0, 0), (0, 0), (0, 0), (0, 0), (0, 0), (0, 0), (0, 0), (0, 0)]) rfl hP rfl 0 (by decide) (hts _ (wg_t kw_1432)) (fun _ h9 => h9) (cd := (3, 172)) rfl dMH_mask_77 (fun v30 hv30 => ?_)
      obtain ⟨r27, rfl, kr27⟩ := (show ∃ r : Nat, v30 = .ref r ∧ T r = some 172 from hv30)
      refine lv_aload_n hx hb dMH_mask_80 rfl (lv_at hl 2 rfl) ?_
      refine nw_get (C := "LatticeKeysModel$Hands") (TT := T_MH) (N := 31) hx hb hts (wg_ft i_MH) hown hK hO k_h0 (kn := 225) (ci := 12) (fl := [(3, 172), (3, 181), (3, 226), (3, 291), (3, 299), (3, 308), (3, 317), (3, 326), (3, 334), (3, 342), (3, 350), (3, 359), (3, 368), (3, 369), (3, 370), (3, 371), (3, 372), (3, 373), (3, 374), (3, 375), (3, 376), (3, 377), (3, 378), (0, 0), (0, 0), (0, 0), (0, 0), (0, 0), (0, 0), (0, 0), (0, 0)]) rfl hP rfl 19 (by decide) (hts _ (wg_t kw_1451)) (fun _ h9 => h9) (cd := (3, 375)) rfl dMH_mask_81 (fun v31 hv31 => ?_)
      obtain ⟨r28, rfl, kr28⟩ := (show ∃ r : Nat, v31 = .ref r ∧ T r = some 375 from hv31)
      refine lv_iconst (v := nI 0) hx hb dMH_mask_84 (by decide) ?_
      refine lv_bipush (v := nI 32) hx hb dMH_mask_85 (by decide) ?_
      refine lv_iload_n hx hb dMH_mask_87 rfl (lv_at hl 1 rfl) ?_
      refine mi_imul hx hb dMH_mask_88 ?_
      refine mi_as (show nI (32 * 20) = nI 640 from rfl) ?_
      refine mp_v (cx := []) (wr := []) hP hD hS hA [] [] rfl rfl rfl (by decide) (va_runV (As := [.ref r28, .int (nI 0), .int (nI 640)]) (rest := []) F (N_MS_take l g _ T s26 pl hO hU r27 r28 375 640 0 640 x33 x34 kr27 kr28 rfl hx_33 hx_34 (by omega) (by omega) (by omega) (by omega)) (cwV 3 hts (wg_app (wg_c kw_1722 (wg_c kw_1638 (wg_c kw_1639 (wg_c kw_10 wg_n)))) kw_1640) rfl rfl rfl (by decide +kernel) ⟨by decide, by decide⟩) (pn_W "LatticeKeysModel$Sponge" (en_ok g) (ci := 9) (kn := 172) (fl := [(3, 173), (3, 174), (3, 175), (3, 176), (3, 177), (0, 0), (0, 0), (0, 0)]) hK hO kr27 rfl hP hD hS hA hE [] rfl rfl rfl) rfl rfl hl.1 rfl (lv_room (Nat.le_of_ble_eq_true rfl)) dMH_mask_89 ⟨by omega, by omega⟩) (fun  u26 H locs hu26 hP hD hS => ?_)
      obtain ⟨s27, pl⟩ := u26
      obtain ⟨⟨eq26, hFc26, ⟨x36, hx_36, hb_36⟩, ⟨x37, hx_37, hb_37⟩, -⟩, hO⟩ := hu26
      have hO : okn g T s27 pl := hO
      have hP : va_P g.1 vcl ([] ++ pl) _ := hP
      have hD : va_D _ ([] ++ pl) := hD
      have hFc26 : frm (M_MS_take 375) s26 s27 := hFc26
      have hb_36 : x36 ≤ x34 := hb_36
      have hb_37 : x37 = x34 := hb_37
      replace hR := bnd_step hR eq26
      have hF := frm_tr hF hFc26 (fun k hk => by unfold M_MS_take at hk; unfold M_MH_mask_1; omega)
      have hf77 : s27.1 225 23 = nI 1 := fc_F hf69 hFc26 (by unfold M_MS_take; omega)
      have hf78 : s27.1 225 24 = nI 6 := fc_F hf70 hFc26 (by unfold M_MS_take; omega)
      have hf79 : s27.1 225 25 = nI 5 := fc_F hf71 hFc26 (by unfold M_MS_take; omega)
      have hf80 : s27.1 225 26 = nI 4 := fc_F hf72 hFc26 (by unfold M_MS_take; omega)
      have hf81 : s27.1 225 27 = nI 524288 := fc_F hf73 hFc26 (by unfold M_MS_take; omega)
      have hf82 : s27.1 225 28 = nI 261888 := fc_F hf74 hFc26 (by unfold M_MS_take; omega)
      have hf83 : s27.1 225 29 = nI 196 := fc_F hf75 hFc26 (by unfold M_MS_take; omega)
      have hf84 : s27.1 225 30 = nI 48 := fc_F hf76 hFc26 (by unfold M_MS_take; omega)
      refine W.widen (k := 0) (n := 0) (by omega) (by omega) ?_
      refine lv_iconst (v := nI 0) hx hb dMH_mask_92 (by decide) ?_
      refine lv_istore (lv' := [(4, .int (nI 0)), (3, .int (nI i21)), (2, .int (nI 20)), (0, .ref h0), (1, .int fr)]) hx hb dMH_mask_93 hl (by decide) rfl (fun ls hl => ?_)
      have lp22 : ∀ (n22 : Nat) (i22 : Nat) (s28 : Sto) (pl : va_W) (ls : Array Slot) (H : Heap) (locs : List Loc), n22 + i22 = 256 → frm (M_MH_mask_1) s s28 → s28.1 225 23 = nI 1 → s28.1 225 24 = nI 6 → s28.1 225 25 = nI 5 → s28.1 225 26 = nI 4 → s28.1 225 27 = nI 524288 → s28.1 225 28 = nI 261888 → s28.1 225 29 = nI 196 → s28.1 225 30 = nI 48 → F_MH_mask_1 fr s = F_MH_mask_1_L1 i21 (F_MH_mask_1_L0 fr n21) n22 i22 s28 → lv_has ls 5 [(4, .int (nI i22)), (3, .int (nI i21)), (2, .int (nI 20)), (0, .ref h0), (1, .int fr)] → okn g T s28 pl → va_P g.1 vcl ([] ++ pl) H → va_D A ([] ++ pl) → va_S A s0.heap H locs → W p l e ({ frames := 4, cells := 0, slots := 0, locals := 90 } : Room) s0 m args below meth c H locs 0 0 (MQ below (va_Qv (fun (u : (Sto) × va_W) => (u.1 = F_MH_mask_1 fr s ∧ frm (M_MH_mask_1) s u.1 ∧ True) ∧ okn g T u.1 u.2) (po g.1 vcl A (fun (u : (Sto) × va_W) => [] ++ u.2)) A) args s0 0 0 A) (F0 m 95 ls []) := by
        intro n22
        induction n22 with
        | zero =>
          intro i22 s28 pl ls H locs hm22 hF hf85 hf86 hf87 hf88 hf89 hf90 hf91 hf92 hR hl hO hP hD hS
          refine lv_iload hx hb dMH_mask_95 (lv_at hl 0 rfl) ?_
          refine lv_sipush (v := nI 256) hx hb dMH_mask_97 (by decide) ?_
          refine mi_ge (tgt := 137) hx hb dMH_mask_100 (by decide) (by omega) (by omega) (fun h24 => ?_) (fun h24 => absurd h24 (by omega))
          refine mi_iinc (k := 1) (x := i21) (d := 1) (y := i21 + 1) (lv' := [(3, .int (nI (i21 + 1))), (4, .int (nI i22)), (2, .int (nI 20)), (0, .ref h0), (1, .int fr)]) hx hb dMH_mask_137 hl rfl (by decide) rfl (by decide) rfl (fun ls hl => ?_)
          refine lv_goto (tgt := 17) hx hb dMH_mask_140 (by decide) ?_
          exact ih21 (i21 + 1) s28 pl ls H locs (by omega) hF hf85 hf86 hf87 hf88 hf89 hf90 hf91 hf92 hR (lv_sub hl [0, 2, 3, 4] rfl) hO hP hD hS
        | succ n22 ih22 =>
          intro i22 s28 pl ls H locs hm22 hF hf93 hf94 hf95 hf96 hf97 hf98 hf99 hf100 hR hl hO hP hD hS
          refine lv_iload hx hb dMH_mask_95 (lv_at hl 0 rfl) ?_
          refine lv_sipush (v := nI 256) hx hb dMH_mask_97 (by decide) ?_
          refine mi_ge (tgt := 137) hx hb dMH_mask_100 (by decide) (by omega) (by omega) (fun h25 => absurd h25 (by omega)) (fun h25 => ?_)
          refine lv_aload_n hx hb dMH_mask_103 rfl (lv_at hl 3 rfl) ?_
          refine nw_get (C := "LatticeKeysModel$Hands") (TT := T_MH) (N := 31) hx hb hts (wg_ft i_MH) hown hK hO k_h0 (kn := 225) (ci := 12) (fl := [(3, 172), (3, 181), (3, 226), (3, 291), (3, 299), (3, 308), (3, 317), (3, 326), (3, 334), (3, 342), (3, 350), (3, 359), (3, 368), (3, 369), (3, 370), (3, 371), (3, 372), (3, 373), (3, 374), (3, 375), (3, 376), (3, 377), (3, 378), (0, 0), (0, 0), (0, 0), (0, 0), (0, 0), (0, 0), (0, 0), (0, 0)]) rfl hP rfl 7 (by decide) (hts _ (wg_t kw_1439)) (fun _ h9 => h9) (cd := (3, 326)) rfl dMH_mask_104 (fun v32 hv32 => ?_)
          obtain ⟨r29, rfl, kr29⟩ := (show ∃ r : Nat, v32 = .ref r ∧ T r = some 326 from hv32)
          refine lv_iload_n hx hb dMH_mask_107 rfl (lv_at hl 1 rfl) ?_
          refine nw_aald3 hx hb hK hO kr29 (k := 326) (b := 327) rfl hP (by omega) (by omega) dMH_mask_108 (fun r30 kr30 => ?_)
          have hn21 : nsp (327 + i21) = (0, 256, []) := rows_ok 327 7 (by decide) _ (by omega)
          refine lv_iload hx hb dMH_mask_109 (lv_at hl 0 rfl) ?_
          refine lv_aload_n hx hb dMH_mask_111 rfl (lv_at hl 3 rfl) ?_
          refine nw_get (C := "LatticeKeysModel$Hands") (TT := T_MH) (N := 31) hx hb hts (wg_ft i_MH) hown hK hO k_h0 (kn := 225) (ci := 12) (fl := [(3, 172), (3, 181), (3, 226), (3, 291), (3, 299), (3, 308), (3, 317), (3, 326), (3, 334), (3, 342), (3, 350), (3, 359), (3, 368), (3, 369), (3, 370), (3, 371), (3, 372), (3, 373), (3, 374), (3, 375), (3, 376), (3, 377), (3, 378), (0, 0), (0, 0), (0, 0), (0, 0), (0, 0), (0, 0), (0, 0), (0, 0)]) rfl hP rfl 27 (by decide) (hts _ (wg_t kw_1459)) (fun _ h9 => h9) (cd := (0, 0)) rfl dMH_mask_112 (fun v33 hv33 => ?_)
          obtain rfl := (show v33 = .int (s28.1 225 27) from hv33)
          obtain ⟨z24, ez24, hz27, hz28⟩ := cl_of (b := 2147483648) hf97 (by omega) (by decide)
          replace hR := bnd_step hR ez24
          refine mi_as hz27 ?_
          subst hz28
          refine lv_aload_n hx hb dMH_mask_115 rfl (lv_at hl 3 rfl) ?_
          refine nw_get (C := "LatticeKeysModel$Hands") (TT := T_MH) (N := 31) hx hb hts (wg_ft i_MH) hown hK hO k_h0 (kn := 225) (ci := 12) (fl := [(3, 172), (3, 181), (3, 226), (3, 291), (3, 299), (3, 308), (3, 317), (3, 326), (3, 334), (3, 342), (3, 350), (3, 359), (3, 368), (3, 369), (3, 370), (3, 371), (3, 372), (3, 373), (3, 374), (3, 375), (3, 376), (3, 377), (3, 378), (0, 0), (0, 0), (0, 0), (0, 0), (0, 0), (0, 0), (0, 0), (0, 0)]) rfl hP rfl 19 (by decide) (hts _ (wg_t kw_1451)) (fun _ h9 => h9) (cd := (3, 375)) rfl dMH_mask_116 (fun v34 hv34 => ?_)
          obtain ⟨r31, rfl, kr31⟩ := (show ∃ r : Nat, v34 = .ref r ∧ T r = some 375 from hv34)
          refine lv_iload_n hx hb dMH_mask_119 rfl (lv_at hl 2 rfl) ?_
          refine lv_iload hx hb dMH_mask_120 (lv_at hl 0 rfl) ?_
          refine mi_imul hx hb dMH_mask_122 ?_
          refine lv_iload_n hx hb dMH_mask_123 rfl (lv_at hl 2 rfl) ?_
          refine mp_i (cx := []) (wr := []) hP hD hS hA [] [] rfl rfl rfl (by decide) (va_runSN (As := [.ref r31, .int (nI (20 * i22)), .int (nI 20)]) (rest := [.int (nI 524288), .int (nI i22), .ref r30]) F (N_M_unpack l g _ T s28 pl hO hU r31 375 640 (20 * i22) 20 kr31 rfl (by omega) (by omega) (by omega)) ⟨va_cnB 3 hts (wg_in kw_1667) rfl rfl rfl (hE.2.2.2.2.2.2.2.2.2.2) (hts _ (wg_t kw_9)) (by decide +kernel) ⟨by decide, by decide⟩, hts _ (wg_t kw_1666), trivial⟩ (pp_S (en_ok g) hP hD hS hA hE [] rfl rfl) rfl rfl hl.1 rfl (lv_room (Nat.le_of_ble_eq_true rfl)) dMH_mask_124 ⟨by omega, by omega⟩) (fun r32 u27 H locs hu27 hP hD hS => ?_)
          obtain ⟨q21, pl⟩ := u27
          obtain ⟨⟨eq27, rfl, hFc27, -⟩, hO⟩ := hu27
          have hO : okn g T q21.2 pl := hO
          have hP : va_P g.1 vcl ([] ++ pl) _ := hP
          have hD : va_D _ ([] ++ pl) := hD
          have hFc27 : frm (M_M_unpack) s28 q21.2 := hFc27
          replace hR := bnd_step hR eq27
          have hF := frm_tr hF hFc27 (fun k hk => by unfold M_M_unpack at hk; unfold M_MH_mask_1; omega)
          have hf101 : q21.2.1 225 23 = nI 1 := fc_F hf93 hFc27 (by unfold M_M_unpack; omega)
          have hf102 : q21.2.1 225 24 = nI 6 := fc_F hf94 hFc27 (by unfold M_M_unpack; omega)
          have hf103 : q21.2.1 225 25 = nI 5 := fc_F hf95 hFc27 (by unfold M_M_unpack; omega)
          have hf104 : q21.2.1 225 26 = nI 4 := fc_F hf96 hFc27 (by unfold M_M_unpack; omega)
          have hf105 : q21.2.1 225 27 = nI 524288 := fc_F hf97 hFc27 (by unfold M_M_unpack; omega)
          have hf106 : q21.2.1 225 28 = nI 261888 := fc_F hf98 hFc27 (by unfold M_M_unpack; omega)
          have hf107 : q21.2.1 225 29 = nI 196 := fc_F hf99 hFc27 (by unfold M_M_unpack; omega)
          have hf108 : q21.2.1 225 30 = nI 48 := fc_F hf100 hFc27 (by unfold M_M_unpack; omega)
          refine W.widen (k := 0) (n := 0) (by omega) (by omega) ?_
          refine mp_i (cx := []) (wr := []) hP hD hS hA [] [] rfl rfl rfl (by decide) (va_runS (As := [.int (nI 524288), .int q21.1]) (rest := [.int (nI i22), .ref r30]) F (N_MH_minus l g _ T q21.2 pl hO hU (nI 524288) (q21.1)) (va_cwS 2 hts (wg_app (wg_c kw_1865 (wg_c kw_1866 (wg_c kw_13 wg_n))) kw_1867) rfl rfl rfl (by decide +kernel) ⟨by decide, by decide⟩) (pp_S (en_ok g) hP hD hS hA hE [] rfl rfl) rfl rfl hl.1 rfl (lv_room (Nat.le_of_ble_eq_true rfl)) dMH_mask_127 ⟨by omega, by omega⟩) (fun r33 u28 H locs hu28 hP hD hS => ?_)
          obtain ⟨q22, pl⟩ := u28
          obtain ⟨⟨eq28, rfl, hFc28, -⟩, hO⟩ := hu28
          have hO : okn g T q22.2 pl := hO
          have hP : va_P g.1 vcl ([] ++ pl) _ := hP
          have hD : va_D _ ([] ++ pl) := hD
          have hFc28 : frm (M_MH_minus) q21.2 q22.2 := hFc28
          replace hR := bnd_step hR eq28
          have hF := frm_tr hF hFc28 (fun k hk => by unfold M_MH_minus at hk; unfold M_MH_mask_1; omega)
          have hf109 : q22.2.1 225 23 = nI 1 := fc_F hf101 hFc28 (by unfold M_MH_minus; omega)
          have hf110 : q22.2.1 225 24 = nI 6 := fc_F hf102 hFc28 (by unfold M_MH_minus; omega)
          have hf111 : q22.2.1 225 25 = nI 5 := fc_F hf103 hFc28 (by unfold M_MH_minus; omega)
          have hf112 : q22.2.1 225 26 = nI 4 := fc_F hf104 hFc28 (by unfold M_MH_minus; omega)
          have hf113 : q22.2.1 225 27 = nI 524288 := fc_F hf105 hFc28 (by unfold M_MH_minus; omega)
          have hf114 : q22.2.1 225 28 = nI 261888 := fc_F hf106 hFc28 (by unfold M_MH_minus; omega)
          have hf115 : q22.2.1 225 29 = nI 196 := fc_F hf107 hFc28 (by unfold M_MH_minus; omega)
          have hf116 : q22.2.1 225 30 = nI 48 := fc_F hf108 hFc28 (by unfold M_MH_minus; omega)
          refine W.widen (k := 0) (n := 0) (by omega) (by omega) ?_
          refine nw_iast hx hb hK hO hU kr30 (k := (327 + i21)) hn21 hP hD hS (by omega) (by omega) dMH_mask_130 (fun s29 pl H locs es21 hO hP hD hS => ?_)
          replace hR := bnd_step hR es21
          have hF := frm_sI hF es21 (by unfold M_MH_mask_1; omega)
          have hf117 : s29.1 225 23 = nI 1 := fc_ne hf109 es21 (by omega)
          have hf118 : s29.1 225 24 = nI 6 := fc_ne hf110 es21 (by omega)
          have hf119 : s29.1 225 25 = nI 5 := fc_ne hf111 es21 (by omega)
          have hf120 : s29.1 225 26 = nI 4 := fc_ne hf112 es21 (by omega)
          have hf121 : s29.1 225 27 = nI 524288 := fc_ne hf113 es21 (by omega)
          have hf122 : s29.1 225 28 = nI 261888 := fc_ne hf114 es21 (by omega)
          have hf123 : s29.1 225 29 = nI 196 := fc_ne hf115 es21 (by omega)
          have hf124 : s29.1 225 30 = nI 48 := fc_ne hf116 es21 (by omega)
          refine mi_iinc (k := 0) (x := i22) (d := 1) (y := i22 + 1) (lv' := [(4, .int (nI (i22 + 1))), (3, .int (nI i21)), (2, .int (nI 20)), (0, .ref h0), (1, .int fr)]) hx hb dMH_mask_131 hl rfl (by decide) rfl (by decide) rfl (fun ls hl => ?_)
          refine lv_goto (tgt := 95) hx hb dMH_mask_134 (by decide) ?_
          exact ih22 (i22 + 1) s29 pl ls H locs (by omega) hF hf117 hf118 hf119 hf120 hf121 hf122 hf123 hf124 hR (lv_sub hl [0, 1, 2, 3, 4] rfl) hO hP hD hS
      exact lp22 256 0 s27 pl ls _ _ (by omega) hF hf77 hf78 hf79 hf80 hf81 hf82 hf83 hf84 hR (lv_sub hl [0, 1, 2, 3, 4] rfl) hO hP hD hS
  exact lp21 5 0 s pl ls _ _ (by omega) hF e_c0 e_c1 e_c2 e_c3 e_c4 e_c5 e_c6 e_c7 hR (lv_sub hl [0, 1, 2, 3] rfl) hO hP hD hS
def M_MH_mask_2 (k : Nat) : Prop := (327 ≤ k ∧ k < 334) ∨ k = 172 ∨ k = 375 ∨ (0 : Nat) = 1
noncomputable def F_MH_mask_2_L1 (i21 : Nat) (kk : Nat → Sto → Sto) : Nat → Nat → Sto → Sto
  | 0, i22, s28 => kk (i21 + 1) s28
  | n22 + 1, i22, s28 => bnd ((s28.1 225 27).toNatClampNeg) fun z24 => bnd (F_M_unpack 375 640 (20 * i22) 20 s28) fun q21 => bnd (F_MH_minus (nI 524288) (q21.1) q21.2) fun q22 => bnd (sI q22.2 ((327 + i21)) i22 (q22.1)) fun s29 => F_MH_mask_2_L1 i21 kk n22 (i22 + 1) s29
noncomputable def F_MH_mask_2_L0 (fr : Int32) : Nat → Nat → Sto → Sto
  | 0, i21, s21 => bnd ((s21.1 225 25).toNatClampNeg) fun z22 => s21
  | n21 + 1, i21, s21 => bnd ((s21.1 225 25).toNatClampNeg) fun z23 => bnd (F_MS_shake  s21) fun s22 => bnd (F_MS_puts 374 64 0 64 s22) fun s23 => bnd (F_MS_put (fr + (nI i21)) s23) fun s24 => bnd (F_MS_put ((fr + (nI i21)) >>> ((nI 8) &&& 31)) s24) fun s25 => bnd (F_MS_end  s25) fun s26 => bnd (F_MS_take 375 640 0 640 s26) fun s27 => F_MH_mask_2_L1 i21 (F_MH_mask_2_L0 fr n21) 256 0 s27
noncomputable def F_MH_mask_2 (fr : Int32) (s : Sto) : Sto := bnd ((s.1 225 23).toNatClampNeg) fun z21 => F_MH_mask_2_L0 fr 7 0 s
set_option maxHeartbeats 8000000 in
set_option maxRecDepth 100000 in
theorem N_MH_mask_2 (l : Launch) (g : Gd) (sz : Nat) (T : TyN) (s : Sto) (pl : va_W) (hO : okn g T s pl) (hU : inj T) (h0 : Nat) (fr : Int32) (k_h0 : T h0 = some 225) (e_c0 : s.1 225 23 = nI 2) (e_c1 : s.1 225 24 = nI 8) (e_c2 : s.1 225 25 = nI 7) (e_c3 : s.1 225 26 = nI 2) (e_c4 : s.1 225 27 = nI 524288) (e_c5 : s.1 225 28 = nI 261888) (e_c6 : s.1 225 29 = nI 120) (e_c7 : s.1 225 30 = nI 64)  : Met l y_MH_mask w_MH_mask ({ frames := 4, cells := 0, slots := 0, locals := 90 } : Room) (va_Pc [.ref h0, .int fr] (pr (en g) g.1 vcl sz ([] ++ pl))) (va_Qv (fun (u : (Sto) × va_W) => (u.1 = F_MH_mask_2 fr s ∧ frm (M_MH_mask_2) s u.1 ∧ True) ∧ okn g T u.1 u.2) (po g.1 vcl (va_A ([] ++ pl) sz) (fun (u : (Sto) × va_W) => [] ++ u.2)) (va_A ([] ++ pl) sz)) 0 0 (va_A ([] ++ pl) sz) := by
  refine mc_entry (cc := c_MH_mask) (maxL := 5) (ret := none) (by decide) rfl (Nat.le_of_ble_eq_true rfl) ?_
  intro p e s0 m args below meth c ls F hr hlk hnm hsz hP hD hE hA hl
  obtain ⟨hx, hb, hml, hown, hts⟩ := id F
  have hK := hE.1
  generalize va_A ([] ++ pl) sz = A at hD hE hA ⊢
  have hS : va_S A s0.heap s0.heap [] := va_S.rf
  have hl : lv_has ls 5 [(0, .ref h0), (1, .int fr)] := hl
  have hR : F_MH_mask_2 fr s = F_MH_mask_2 fr s := rfl
  have hF : frm (M_MH_mask_2) s s := frm_rf
  refine lv_aload_n hx hb dMH_mask_0 rfl (lv_at hl 0 rfl) ?_
  refine nw_get (C := "LatticeKeysModel$Hands") (TT := T_MH) (N := 31) hx hb hts (wg_ft i_MH) hown hK hO k_h0 (kn := 225) (ci := 12) (fl := [(3, 172), (3, 181), (3, 226), (3, 291), (3, 299), (3, 308), (3, 317), (3, 326), (3, 334), (3, 342), (3, 350), (3, 359), (3, 368), (3, 369), (3, 370), (3, 371), (3, 372), (3, 373), (3, 374), (3, 375), (3, 376), (3, 377), (3, 378), (0, 0), (0, 0), (0, 0), (0, 0), (0, 0), (0, 0), (0, 0), (0, 0)]) rfl hP rfl 23 (by decide) (hts _ (wg_t kw_1455)) (fun _ h9 => h9) (cd := (0, 0)) rfl dMH_mask_1 (fun v21 hv21 => ?_)
  obtain rfl := (show v21 = .int (s.1 225 23) from hv21)
  obtain ⟨z21, ez21, hz21, hz22⟩ := cl_of (b := 2147483648) e_c0 (by omega) (by decide)
  replace hR := bnd_step hR ez21
  refine mi_as hz21 ?_
  subst hz22
  refine lv_if_ne (tgt := 12) hx hb dMH_mask_4 (by decide) (fun h21 => ?_) (fun h21 => absurd h21 (by decide))
  refine lv_bipush (v := nI 20) hx hb dMH_mask_12 (by decide) ?_
  refine lv_istore_n (lv' := [(2, .int (nI 20)), (0, .ref h0), (1, .int fr)]) hx hb dMH_mask_14 rfl hl (by decide) rfl (fun ls hl => ?_)
  refine lv_iconst (v := nI 0) hx hb dMH_mask_15 (by decide) ?_
  refine lv_istore_n (lv' := [(3, .int (nI 0)), (2, .int (nI 20)), (0, .ref h0), (1, .int fr)]) hx hb dMH_mask_16 rfl hl (by decide) rfl (fun ls hl => ?_)
  have lp21 : ∀ (n21 : Nat) (i21 : Nat) (s21 : Sto) (pl : va_W) (ls : Array Slot) (H : Heap) (locs : List Loc), n21 + i21 = 7 → frm (M_MH_mask_2) s s21 → s21.1 225 23 = nI 2 → s21.1 225 24 = nI 8 → s21.1 225 25 = nI 7 → s21.1 225 26 = nI 2 → s21.1 225 27 = nI 524288 → s21.1 225 28 = nI 261888 → s21.1 225 29 = nI 120 → s21.1 225 30 = nI 64 → F_MH_mask_2 fr s = F_MH_mask_2_L0 fr n21 i21 s21 → lv_has ls 5 [(3, .int (nI i21)), (2, .int (nI 20)), (0, .ref h0), (1, .int fr)] → okn g T s21 pl → va_P g.1 vcl ([] ++ pl) H → va_D A ([] ++ pl) → va_S A s0.heap H locs → W p l e ({ frames := 4, cells := 0, slots := 0, locals := 90 } : Room) s0 m args below meth c H locs 0 0 (MQ below (va_Qv (fun (u : (Sto) × va_W) => (u.1 = F_MH_mask_2 fr s ∧ frm (M_MH_mask_2) s u.1 ∧ True) ∧ okn g T u.1 u.2) (po g.1 vcl A (fun (u : (Sto) × va_W) => [] ++ u.2)) A) args s0 0 0 A) (F0 m 17 ls []) := by
    intro n21
    induction n21 with
    | zero =>
      intro i21 s21 pl ls H locs hm21 hF hf21 hf22 hf23 hf24 hf25 hf26 hf27 hf28 hR hl hO hP hD hS
      refine lv_iload_n hx hb dMH_mask_17 rfl (lv_at hl 0 rfl) ?_
      refine lv_aload_n hx hb dMH_mask_18 rfl (lv_at hl 2 rfl) ?_
      refine nw_get (C := "LatticeKeysModel$Hands") (TT := T_MH) (N := 31) hx hb hts (wg_ft i_MH) hown hK hO k_h0 (kn := 225) (ci := 12) (fl := [(3, 172), (3, 181), (3, 226), (3, 291), (3, 299), (3, 308), (3, 317), (3, 326), (3, 334), (3, 342), (3, 350), (3, 359), (3, 368), (3, 369), (3, 370), (3, 371), (3, 372), (3, 373), (3, 374), (3, 375), (3, 376), (3, 377), (3, 378), (0, 0), (0, 0), (0, 0), (0, 0), (0, 0), (0, 0), (0, 0), (0, 0)]) rfl hP rfl 25 (by decide) (hts _ (wg_t kw_1457)) (fun _ h9 => h9) (cd := (0, 0)) rfl dMH_mask_19 (fun v22 hv22 => ?_)
      obtain rfl := (show v22 = .int (s21.1 225 25) from hv22)
      obtain ⟨z22, ez22, hz23, hz24⟩ := cl_of (b := 2147483648) hf23 (by omega) (by decide)
      replace hR := bnd_step hR ez22
      refine mi_as hz23 ?_
      subst hz24
      refine mi_ge (tgt := 143) hx hb dMH_mask_22 (by decide) (by omega) (by omega) (fun h22 => ?_) (fun h22 => absurd h22 (by omega))
      exact mp_vret hx hb hr hlk hP hD hS (s21, pl) ⟨⟨hR.symm, hF, trivial⟩, hO⟩ [] rfl rfl rfl (by omega) (by omega) dMH_mask_143
    | succ n21 ih21 =>
      intro i21 s21 pl ls H locs hm21 hF hf29 hf30 hf31 hf32 hf33 hf34 hf35 hf36 hR hl hO hP hD hS
      refine lv_iload_n hx hb dMH_mask_17 rfl (lv_at hl 0 rfl) ?_
      refine lv_aload_n hx hb dMH_mask_18 rfl (lv_at hl 2 rfl) ?_
      refine nw_get (C := "LatticeKeysModel$Hands") (TT := T_MH) (N := 31) hx hb hts (wg_ft i_MH) hown hK hO k_h0 (kn := 225) (ci := 12) (fl := [(3, 172), (3, 181), (3, 226), (3, 291), (3, 299), (3, 308), (3, 317), (3, 326), (3, 334), (3, 342), (3, 350), (3, 359), (3, 368), (3, 369), (3, 370), (3, 371), (3, 372), (3, 373), (3, 374), (3, 375), (3, 376), (3, 377), (3, 378), (0, 0), (0, 0), (0, 0), (0, 0), (0, 0), (0, 0), (0, 0), (0, 0)]) rfl hP rfl 25 (by decide) (hts _ (wg_t kw_1457)) (fun _ h9 => h9) (cd := (0, 0)) rfl dMH_mask_19 (fun v23 hv23 => ?_)
      obtain rfl := (show v23 = .int (s21.1 225 25) from hv23)
      obtain ⟨z23, ez23, hz25, hz26⟩ := cl_of (b := 2147483648) hf31 (by omega) (by decide)
      replace hR := bnd_step hR ez23
      refine mi_as hz25 ?_
      subst hz26
      refine mi_ge (tgt := 143) hx hb dMH_mask_22 (by decide) (by omega) (by omega) (fun h23 => absurd h23 (by omega)) (fun h23 => ?_)
      refine lv_aload_n hx hb dMH_mask_25 rfl (lv_at hl 2 rfl) ?_
      refine nw_get (C := "LatticeKeysModel$Hands") (TT := T_MH) (N := 31) hx hb hts (wg_ft i_MH) hown hK hO k_h0 (kn := 225) (ci := 12) (fl := [(3, 172), (3, 181), (3, 226), (3, 291), (3, 299), (3, 308), (3, 317), (3, 326), (3, 334), (3, 342), (3, 350), (3, 359), (3, 368), (3, 369), (3, 370), (3, 371), (3, 372), (3, 373), (3, 374), (3, 375), (3, 376), (3, 377), (3, 378), (0, 0), (0, 0), (0, 0), (0, 0), (0, 0), (0, 0), (0, 0), (0, 0)]) rfl hP rfl 0 (by decide) (hts _ (wg_t kw_1432)) (fun _ h9 => h9) (cd := (3, 172)) rfl dMH_mask_26 (fun v24 hv24 => ?_)
      obtain ⟨r21, rfl, kr21⟩ := (show ∃ r : Nat, v24 = .ref r ∧ T r = some 172 from hv24)
      refine mp_v (cx := []) (wr := []) hP hD hS hA [] [] rfl rfl rfl (by decide) (va_runV (As := []) (rest := []) F (N_MS_shake l g _ T s21 pl hO hU r21 kr21) (cwV 0 hts (wg_app (wg_c kw_1718 (wg_c kw_1661 (wg_c kw_1662 (wg_c kw_10 wg_n)))) kw_1663) rfl rfl rfl (by decide +kernel) ⟨by decide, by decide⟩) (pn_W "LatticeKeysModel$Sponge" (en_ok g) (ci := 9) (kn := 172) (fl := [(3, 173), (3, 174), (3, 175), (3, 176), (3, 177), (0, 0), (0, 0), (0, 0)]) hK hO kr21 rfl hP hD hS hA hE [] rfl rfl rfl) rfl rfl hl.1 rfl (lv_room (Nat.le_of_ble_eq_true rfl)) dMH_mask_29 ⟨by omega, by omega⟩) (fun  u21 H locs hu21 hP hD hS => ?_)
      obtain ⟨s22, pl⟩ := u21
      obtain ⟨⟨eq21, hFc21, ⟨x21, hx_21, hb_21⟩, ⟨x22, hx_22, hb_22⟩, -⟩, hO⟩ := hu21
      have hO : okn g T s22 pl := hO
      have hP : va_P g.1 vcl ([] ++ pl) _ := hP
      have hD : va_D _ ([] ++ pl) := hD
      have hFc21 : frm (M_MS_shake) s21 s22 := hFc21
      have hb_21 : x21 = 0 := hb_21
      have hb_22 : x22 = 136 := hb_22
      replace hR := bnd_step hR eq21
      have hF := frm_tr hF hFc21 (fun k hk => by unfold M_MS_shake at hk; unfold M_MH_mask_2; omega)
      have hf37 : s22.1 225 23 = nI 2 := fc_F hf29 hFc21 (by unfold M_MS_shake; omega)
      have hf38 : s22.1 225 24 = nI 8 := fc_F hf30 hFc21 (by unfold M_MS_shake; omega)
      have hf39 : s22.1 225 25 = nI 7 := fc_F hf31 hFc21 (by unfold M_MS_shake; omega)
      have hf40 : s22.1 225 26 = nI 2 := fc_F hf32 hFc21 (by unfold M_MS_shake; omega)
      have hf41 : s22.1 225 27 = nI 524288 := fc_F hf33 hFc21 (by unfold M_MS_shake; omega)
      have hf42 : s22.1 225 28 = nI 261888 := fc_F hf34 hFc21 (by unfold M_MS_shake; omega)
      have hf43 : s22.1 225 29 = nI 120 := fc_F hf35 hFc21 (by unfold M_MS_shake; omega)
      have hf44 : s22.1 225 30 = nI 64 := fc_F hf36 hFc21 (by unfold M_MS_shake; omega)
      refine W.widen (k := 0) (n := 0) (by omega) (by omega) ?_
      refine lv_aload_n hx hb dMH_mask_32 rfl (lv_at hl 2 rfl) ?_
      refine nw_get (C := "LatticeKeysModel$Hands") (TT := T_MH) (N := 31) hx hb hts (wg_ft i_MH) hown hK hO k_h0 (kn := 225) (ci := 12) (fl := [(3, 172), (3, 181), (3, 226), (3, 291), (3, 299), (3, 308), (3, 317), (3, 326), (3, 334), (3, 342), (3, 350), (3, 359), (3, 368), (3, 369), (3, 370), (3, 371), (3, 372), (3, 373), (3, 374), (3, 375), (3, 376), (3, 377), (3, 378), (0, 0), (0, 0), (0, 0), (0, 0), (0, 0), (0, 0), (0, 0), (0, 0)]) rfl hP rfl 0 (by decide) (hts _ (wg_t kw_1432)) (fun _ h9 => h9) (cd := (3, 172)) rfl dMH_mask_33 (fun v25 hv25 => ?_)
      obtain ⟨r22, rfl, kr22⟩ := (show ∃ r : Nat, v25 = .ref r ∧ T r = some 172 from hv25)
      refine lv_aload_n hx hb dMH_mask_36 rfl (lv_at hl 2 rfl) ?_
      refine nw_get (C := "LatticeKeysModel$Hands") (TT := T_MH) (N := 31) hx hb hts (wg_ft i_MH) hown hK hO k_h0 (kn := 225) (ci := 12) (fl := [(3, 172), (3, 181), (3, 226), (3, 291), (3, 299), (3, 308), (3, 317), (3, 326), (3, 334), (3, 342), (3, 350), (3, 359), (3, 368), (3, 369), (3, 370), (3, 371), (3, 372), (3, 373), (3, 374), (3, 375), (3, 376), (3, 377), (3, 378), (0, 0), (0, 0), (0, 0), (0, 0), (0, 0), (0, 0), (0, 0), (0, 0)]) rfl hP rfl 18 (by decide) (hts _ (wg_t kw_1450)) (fun _ h9 => h9) (cd := (3, 374)) rfl dMH_mask_37 (fun v26 hv26 => ?_)
      obtain ⟨r23, rfl, kr23⟩ := (show ∃ r : Nat, v26 = .ref r ∧ T r = some 374 from hv26)
      refine lv_iconst (v := nI 0) hx hb dMH_mask_40 (by decide) ?_
      refine lv_bipush (v := nI 64) hx hb dMH_mask_41 (by decide) ?_
      refine mp_v (cx := []) (wr := []) hP hD hS hA [] [] rfl rfl rfl (by decide) (va_runV (As := [.ref r23, .int (nI 0), .int (nI 64)]) (rest := []) F (N_MS_puts l g _ T s22 pl hO hU r22 r23 374 64 0 64 x21 x22 kr22 kr23 rfl hx_21 hx_22 (by omega) (by omega) (by omega) (by omega)) (cwV 3 hts (wg_app (wg_c kw_1719 (wg_c kw_1612 (wg_c kw_1613 (wg_c kw_10 wg_n)))) kw_1614) rfl rfl rfl (by decide +kernel) ⟨by decide, by decide⟩) (pn_W "LatticeKeysModel$Sponge" (en_ok g) (ci := 9) (kn := 172) (fl := [(3, 173), (3, 174), (3, 175), (3, 176), (3, 177), (0, 0), (0, 0), (0, 0)]) hK hO kr22 rfl hP hD hS hA hE [] rfl rfl rfl) rfl rfl hl.1 rfl (lv_room (Nat.le_of_ble_eq_true rfl)) dMH_mask_43 ⟨by omega, by omega⟩) (fun  u22 H locs hu22 hP hD hS => ?_)
      obtain ⟨s23, pl⟩ := u22
      obtain ⟨⟨eq22, hFc22, ⟨x24, hx_24, hb_24⟩, ⟨x25, hx_25, hb_25⟩, -⟩, hO⟩ := hu22
      have hO : okn g T s23 pl := hO
      have hP : va_P g.1 vcl ([] ++ pl) _ := hP
      have hD : va_D _ ([] ++ pl) := hD
      have hFc22 : frm (M_MS_puts) s22 s23 := hFc22
      have hb_24 : x24 < x22 := hb_24
      have hb_25 : x25 = x22 := hb_25
      replace hR := bnd_step hR eq22
      have hF := frm_tr hF hFc22 (fun k hk => by unfold M_MS_puts at hk; unfold M_MH_mask_2; omega)
      have hf45 : s23.1 225 23 = nI 2 := fc_F hf37 hFc22 (by unfold M_MS_puts; omega)
      have hf46 : s23.1 225 24 = nI 8 := fc_F hf38 hFc22 (by unfold M_MS_puts; omega)
      have hf47 : s23.1 225 25 = nI 7 := fc_F hf39 hFc22 (by unfold M_MS_puts; omega)
      have hf48 : s23.1 225 26 = nI 2 := fc_F hf40 hFc22 (by unfold M_MS_puts; omega)
      have hf49 : s23.1 225 27 = nI 524288 := fc_F hf41 hFc22 (by unfold M_MS_puts; omega)
      have hf50 : s23.1 225 28 = nI 261888 := fc_F hf42 hFc22 (by unfold M_MS_puts; omega)
      have hf51 : s23.1 225 29 = nI 120 := fc_F hf43 hFc22 (by unfold M_MS_puts; omega)
      have hf52 : s23.1 225 30 = nI 64 := fc_F hf44 hFc22 (by unfold M_MS_puts; omega)
      refine W.widen (k := 0) (n := 0) (by omega) (by omega) ?_
      refine lv_aload_n hx hb dMH_mask_46 rfl (lv_at hl 2 rfl) ?_
      refine nw_get (C := "LatticeKeysModel$Hands") (TT := T_MH) (N := 31) hx hb hts (wg_ft i_MH) hown hK hO k_h0 (kn := 225) (ci := 12) (fl := [(3, 172), (3, 181), (3, 226), (3, 291), (3, 299), (3, 308), (3, 317), (3, 326), (3, 334), (3, 342), (3, 350), (3, 359), (3, 368), (3, 369), (3, 370), (3, 371), (3, 372), (3, 373), (3, 374), (3, 375), (3, 376), (3, 377), (3, 378), (0, 0), (0, 0), (0, 0), (0, 0), (0, 0), (0, 0), (0, 0), (0, 0)]) rfl hP rfl 0 (by decide) (hts _ (wg_t kw_1432)) (fun _ h9 => h9) (cd := (3, 172)) rfl dMH_mask_47 (fun v27 hv27 => ?_)
      obtain ⟨r24, rfl, kr24⟩ := (show ∃ r : Nat, v27 = .ref r ∧ T r = some 172 from hv27)
      refine lv_iload_n hx hb dMH_mask_50 rfl (lv_at hl 3 rfl) ?_
      refine lv_iload_n hx hb dMH_mask_51 rfl (lv_at hl 0 rfl) ?_
      refine lv_iadd hx hb dMH_mask_52 ?_
      refine mp_v (cx := []) (wr := []) hP hD hS hA [] [] rfl rfl rfl (by decide) (va_runV (As := [.int ((fr + (nI i21)))]) (rest := []) F (N_MS_put l g _ T s23 pl hO hU r24 (fr + (nI i21)) x24 x25 kr24 hx_24 hx_25 (by omega) (by omega)) (cwV 1 hts (wg_app (wg_c kw_1720 (wg_c kw_1616 (wg_c kw_1617 (wg_c kw_10 wg_n)))) kw_1618) rfl rfl rfl (by decide +kernel) ⟨by decide, by decide⟩) (pn_W "LatticeKeysModel$Sponge" (en_ok g) (ci := 9) (kn := 172) (fl := [(3, 173), (3, 174), (3, 175), (3, 176), (3, 177), (0, 0), (0, 0), (0, 0)]) hK hO kr24 rfl hP hD hS hA hE [] rfl rfl rfl) rfl rfl hl.1 rfl (lv_room (Nat.le_of_ble_eq_true rfl)) dMH_mask_53 ⟨by omega, by omega⟩) (fun  u23 H locs hu23 hP hD hS => ?_)
      obtain ⟨s24, pl⟩ := u23
      obtain ⟨⟨eq23, hFc23, ⟨x27, hx_27, hb_27⟩, ⟨x28, hx_28, hb_28⟩, -⟩, hO⟩ := hu23
      have hO : okn g T s24 pl := hO
      have hP : va_P g.1 vcl ([] ++ pl) _ := hP
      have hD : va_D _ ([] ++ pl) := hD
      have hFc23 : frm (M_MS_put) s23 s24 := hFc23
      have hb_27 : x27 < x25 := hb_27
      have hb_28 : x28 = x25 := hb_28
      replace hR := bnd_step hR eq23
      have hF := frm_tr hF hFc23 (fun k hk => by unfold M_MS_put at hk; unfold M_MH_mask_2; omega)
      have hf53 : s24.1 225 23 = nI 2 := fc_F hf45 hFc23 (by unfold M_MS_put; omega)
      have hf54 : s24.1 225 24 = nI 8 := fc_F hf46 hFc23 (by unfold M_MS_put; omega)
      have hf55 : s24.1 225 25 = nI 7 := fc_F hf47 hFc23 (by unfold M_MS_put; omega)
      have hf56 : s24.1 225 26 = nI 2 := fc_F hf48 hFc23 (by unfold M_MS_put; omega)
      have hf57 : s24.1 225 27 = nI 524288 := fc_F hf49 hFc23 (by unfold M_MS_put; omega)
      have hf58 : s24.1 225 28 = nI 261888 := fc_F hf50 hFc23 (by unfold M_MS_put; omega)
      have hf59 : s24.1 225 29 = nI 120 := fc_F hf51 hFc23 (by unfold M_MS_put; omega)
      have hf60 : s24.1 225 30 = nI 64 := fc_F hf52 hFc23 (by unfold M_MS_put; omega)
      refine W.widen (k := 0) (n := 0) (by omega) (by omega) ?_
      refine lv_aload_n hx hb dMH_mask_56 rfl (lv_at hl 2 rfl) ?_
      refine nw_get (C := "LatticeKeysModel$Hands") (TT := T_MH) (N := 31) hx hb hts (wg_ft i_MH) hown hK hO k_h0 (kn := 225) (ci := 12) (fl := [(3, 172), (3, 181), (3, 226), (3, 291), (3, 299), (3, 308), (3, 317), (3, 326), (3, 334), (3, 342), (3, 350), (3, 359), (3, 368), (3, 369), (3, 370), (3, 371), (3, 372), (3, 373), (3, 374), (3, 375), (3, 376), (3, 377), (3, 378), (0, 0), (0, 0), (0, 0), (0, 0), (0, 0), (0, 0), (0, 0), (0, 0)]) rfl hP rfl 0 (by decide) (hts _ (wg_t kw_1432)) (fun _ h9 => h9) (cd := (3, 172)) rfl dMH_mask_57 (fun v28 hv28 => ?_)
      obtain ⟨r25, rfl, kr25⟩ := (show ∃ r : Nat, v28 = .ref r ∧ T r = some 172 from hv28)
      refine lv_iload_n hx hb dMH_mask_60 rfl (lv_at hl 3 rfl) ?_
      refine lv_iload_n hx hb dMH_mask_61 rfl (lv_at hl 0 rfl) ?_
      refine lv_iadd hx hb dMH_mask_62 ?_
      refine lv_bipush (v := nI 8) hx hb dMH_mask_63 (by decide) ?_
      refine lv_ishr hx hb dMH_mask_65 ?_
      refine mp_v (cx := []) (wr := []) hP hD hS hA [] [] rfl rfl rfl (by decide) (va_runV (As := [.int (((fr + (nI i21)) >>> ((nI 8) &&& 31)))]) (rest := []) F (N_MS_put l g _ T s24 pl hO hU r25 ((fr + (nI i21)) >>> ((nI 8) &&& 31)) x27 x28 kr25 hx_27 hx_28 (by omega) (by omega)) (cwV 1 hts (wg_app (wg_c kw_1720 (wg_c kw_1616 (wg_c kw_1617 (wg_c kw_10 wg_n)))) kw_1618) rfl rfl rfl (by decide +kernel) ⟨by decide, by decide⟩) (pn_W "LatticeKeysModel$Sponge" (en_ok g) (ci := 9) (kn := 172) (fl := [(3, 173), (3, 174), (3, 175), (3, 176), (3, 177), (0, 0), (0, 0), (0, 0)]) hK hO kr25 rfl hP hD hS hA hE [] rfl rfl rfl) rfl rfl hl.1 rfl (lv_room (Nat.le_of_ble_eq_true rfl)) dMH_mask_66 ⟨by omega, by omega⟩) (fun  u24 H locs hu24 hP hD hS => ?_)
      obtain ⟨s25, pl⟩ := u24
      obtain ⟨⟨eq24, hFc24, ⟨x30, hx_30, hb_30⟩, ⟨x31, hx_31, hb_31⟩, -⟩, hO⟩ := hu24
      have hO : okn g T s25 pl := hO
      have hP : va_P g.1 vcl ([] ++ pl) _ := hP
      have hD : va_D _ ([] ++ pl) := hD
      have hFc24 : frm (M_MS_put) s24 s25 := hFc24
      have hb_30 : x30 < x28 := hb_30
      have hb_31 : x31 = x28 := hb_31
      replace hR := bnd_step hR eq24
      have hF := frm_tr hF hFc24 (fun k hk => by unfold M_MS_put at hk; unfold M_MH_mask_2; omega)
      have hf61 : s25.1 225 23 = nI 2 := fc_F hf53 hFc24 (by unfold M_MS_put; omega)
      have hf62 : s25.1 225 24 = nI 8 := fc_F hf54 hFc24 (by unfold M_MS_put; omega)
      have hf63 : s25.1 225 25 = nI 7 := fc_F hf55 hFc24 (by unfold M_MS_put; omega)
      have hf64 : s25.1 225 26 = nI 2 := fc_F hf56 hFc24 (by unfold M_MS_put; omega)
      have hf65 : s25.1 225 27 = nI 524288 := fc_F hf57 hFc24 (by unfold M_MS_put; omega)
      have hf66 : s25.1 225 28 = nI 261888 := fc_F hf58 hFc24 (by unfold M_MS_put; omega)
      have hf67 : s25.1 225 29 = nI 120 := fc_F hf59 hFc24 (by unfold M_MS_put; omega)
      have hf68 : s25.1 225 30 = nI 64 := fc_F hf60 hFc24 (by unfold M_MS_put; omega)
      refine W.widen (k := 0) (n := 0) (by omega) (by omega) ?_
      refine lv_aload_n hx hb dMH_mask_69 rfl (lv_at hl 2 rfl) ?_
      refine nw_get (C := "LatticeKeysModel$Hands") (TT := T_MH) (N := 31) hx hb hts (wg_ft i_MH) hown hK hO k_h0 (kn := 225) (ci := 12) (fl := [(3, 172), (3, 181), (3, 226), (3, 291), (3, 299), (3, 308), (3, 317), (3, 326), (3, 334), (3, 342), (3, 350), (3, 359), (3, 368), (3, 369), (3, 370), (3, 371), (3, 372), (3, 373), (3, 374), (3, 375), (3, 376), (3, 377), (3, 378), (0, 0), (0, 0), (0, 0), (0, 0), (0, 0), (0, 0), (0, 0), (0, 0)]) rfl hP rfl 0 (by decide) (hts _ (wg_t kw_1432)) (fun _ h9 => h9) (cd := (3, 172)) rfl dMH_mask_70 (fun v29 hv29 => ?_)
      obtain ⟨r26, rfl, kr26⟩ := (show ∃ r : Nat, v29 = .ref r ∧ T r = some 172 from hv29)
      refine mp_v (cx := []) (wr := []) hP hD hS hA [] [] rfl rfl rfl (by decide) (va_runV (As := []) (rest := []) F (N_MS_end l g _ T s25 pl hO hU r26 x30 x31 kr26 hx_30 hx_31 (by omega) (by omega)) (cwV 0 hts (wg_app (wg_c kw_1721 (wg_c kw_1634 (wg_c kw_1635 (wg_c kw_10 wg_n)))) kw_1636) rfl rfl rfl (by decide +kernel) ⟨by decide, by decide⟩) (pn_W "LatticeKeysModel$Sponge" (en_ok g) (ci := 9) (kn := 172) (fl := [(3, 173), (3, 174), (3, 175), (3, 176), (3, 177), (0, 0), (0, 0), (0, 0)]) hK hO kr26 rfl hP hD hS hA hE [] rfl rfl rfl) rfl rfl hl.1 rfl (lv_room (Nat.le_of_ble_eq_true rfl)) dMH_mask_73 ⟨by omega, by omega⟩) (fun  u25 H locs hu25 hP hD hS => ?_)
      obtain ⟨s26, pl⟩ := u25
      obtain ⟨⟨eq25, hFc25, ⟨x33, hx_33, hb_33⟩, ⟨x34, hx_34, hb_34⟩, -⟩, hO⟩ := hu25
      have hO : okn g T s26 pl := hO
      have hP : va_P g.1 vcl ([] ++ pl) _ := hP
      have hD : va_D _ ([] ++ pl) := hD
      have hFc25 : frm (M_MS_end) s25 s26 := hFc25
      have hb_33 : x33 = 0 := hb_33
      have hb_34 : x34 = x31 := hb_34
      replace hR := bnd_step hR eq25
      have hF := frm_tr hF hFc25 (fun k hk => by unfold M_MS_end at hk; unfold M_MH_mask_2; omega)
      have hf69 : s26.1 225 23 = nI 2 := fc_F hf61 hFc25 (by unfold M_MS_end; omega)
      have hf70 : s26.1 225 24 = nI 8 := fc_F hf62 hFc25 (by unfold M_MS_end; omega)
      have hf71 : s26.1 225 25 = nI 7 := fc_F hf63 hFc25 (by unfold M_MS_end; omega)
      have hf72 : s26.1 225 26 = nI 2 := fc_F hf64 hFc25 (by unfold M_MS_end; omega)
      have hf73 : s26.1 225 27 = nI 524288 := fc_F hf65 hFc25 (by unfold M_MS_end; omega)
      have hf74 : s26.1 225 28 = nI 261888 := fc_F hf66 hFc25 (by unfold M_MS_end; omega)
      have hf75 : s26.1 225 29 = nI 120 := fc_F hf67 hFc25 (by unfold M_MS_end; omega)
      have hf76 : s26.1 225 30 = nI 64 := fc_F hf68 hFc25 (by unfold M_MS_end; omega)
      refine W.widen (k := 0) (n := 0) (by omega) (by omega) ?_
      refine lv_aload_n hx hb dMH_mask_76 rfl (lv_at hl 2 rfl) ?_
      refine nw_get (C := "LatticeKeysModel$Hands") (TT := T_MH) (N := 31) hx hb hts (wg_ft i_MH) hown hK hO k_h0 (kn := 225) (ci := 12) (fl := [(3, 172), (3, 181), (3, 226), (3, 291), (3, 299), (3, 308), (3, 317), (3, 326), (3, 334), (3, 342), (3, 350), (3, 359), (3, 368), (3, 369), (3, 370), (3, 371), (3, 372), (3, 373), (3, 374), (3, 375), (3, 376), (3, 377), (3, 378), (0, 0), (0, 0), (0, 0), (0, 0), (0, 0), (0, 0), (0, 0), (0, 0)]) rfl hP rfl 0 (by decide) (hts _ (wg_t kw_1432)) (fun _ h9 => h9) (cd := (3, 172)) rfl dMH_mask_77 (fun v30 hv30 => ?_)
      obtain ⟨r27, rfl, kr27⟩ := (show ∃ r : Nat, v30 = .ref r ∧ T r = some 172 from hv30)
      refine lv_aload_n hx hb dMH_mask_80 rfl (lv_at hl 2 rfl) ?_
      refine nw_get (C := "LatticeKeysModel$Hands") (TT := T_MH) (N := 31) hx hb hts (wg_ft i_MH) hown hK hO k_h0 (kn := 225) (ci := 12) (fl := [(3, 172), (3, 181), (3, 226), (3, 291), (3, 299), (3, 308), (3, 317), (3, 326), (3, 334), (3, 342), (3, 350), (3, 359), (3, 368), (3, 369), (3, 370), (3, 371), (3, 372), (3, 373), (3, 374), (3, 375), (3, 376), (3, 377), (3, 378), (0, 0), (0, 0), (0, 0), (0, 0), (0, 0), (0, 0), (0, 0), (0, 0)]) rfl hP rfl 19 (by decide) (hts _ (wg_t kw_1451)) (fun _ h9 => h9) (cd := (3, 375)) rfl dMH_mask_81 (fun v31 hv31 => ?_)
      obtain ⟨r28, rfl, kr28⟩ := (show ∃ r : Nat, v31 = .ref r ∧ T r = some 375 from hv31)
      refine lv_iconst (v := nI 0) hx hb dMH_mask_84 (by decide) ?_
      refine lv_bipush (v := nI 32) hx hb dMH_mask_85 (by decide) ?_
      refine lv_iload_n hx hb dMH_mask_87 rfl (lv_at hl 1 rfl) ?_
      refine mi_imul hx hb dMH_mask_88 ?_
      refine mi_as (show nI (32 * 20) = nI 640 from rfl) ?_
      refine mp_v (cx := []) (wr := []) hP hD hS hA [] [] rfl rfl rfl (by decide) (va_runV (As := [.ref r28, .int (nI 0), .int (nI 640)]) (rest := []) F (N_MS_take l g _ T s26 pl hO hU r27 r28 375 640 0 640 x33 x34 kr27 kr28 rfl hx_33 hx_34 (by omega) (by omega) (by omega) (by omega)) (cwV 3 hts (wg_app (wg_c kw_1722 (wg_c kw_1638 (wg_c kw_1639 (wg_c kw_10 wg_n)))) kw_1640) rfl rfl rfl (by decide +kernel) ⟨by decide, by decide⟩) (pn_W "LatticeKeysModel$Sponge" (en_ok g) (ci := 9) (kn := 172) (fl := [(3, 173), (3, 174), (3, 175), (3, 176), (3, 177), (0, 0), (0, 0), (0, 0)]) hK hO kr27 rfl hP hD hS hA hE [] rfl rfl rfl) rfl rfl hl.1 rfl (lv_room (Nat.le_of_ble_eq_true rfl)) dMH_mask_89 ⟨by omega, by omega⟩) (fun  u26 H locs hu26 hP hD hS => ?_)
      obtain ⟨s27, pl⟩ := u26
      obtain ⟨⟨eq26, hFc26, ⟨x36, hx_36, hb_36⟩, ⟨x37, hx_37, hb_37⟩, -⟩, hO⟩ := hu26
      have hO : okn g T s27 pl := hO
      have hP : va_P g.1 vcl ([] ++ pl) _ := hP
      have hD : va_D _ ([] ++ pl) := hD
      have hFc26 : frm (M_MS_take 375) s26 s27 := hFc26
      have hb_36 : x36 ≤ x34 := hb_36
      have hb_37 : x37 = x34 := hb_37
      replace hR := bnd_step hR eq26
      have hF := frm_tr hF hFc26 (fun k hk => by unfold M_MS_take at hk; unfold M_MH_mask_2; omega)
      have hf77 : s27.1 225 23 = nI 2 := fc_F hf69 hFc26 (by unfold M_MS_take; omega)
      have hf78 : s27.1 225 24 = nI 8 := fc_F hf70 hFc26 (by unfold M_MS_take; omega)
      have hf79 : s27.1 225 25 = nI 7 := fc_F hf71 hFc26 (by unfold M_MS_take; omega)
      have hf80 : s27.1 225 26 = nI 2 := fc_F hf72 hFc26 (by unfold M_MS_take; omega)
      have hf81 : s27.1 225 27 = nI 524288 := fc_F hf73 hFc26 (by unfold M_MS_take; omega)
      have hf82 : s27.1 225 28 = nI 261888 := fc_F hf74 hFc26 (by unfold M_MS_take; omega)
      have hf83 : s27.1 225 29 = nI 120 := fc_F hf75 hFc26 (by unfold M_MS_take; omega)
      have hf84 : s27.1 225 30 = nI 64 := fc_F hf76 hFc26 (by unfold M_MS_take; omega)
      refine W.widen (k := 0) (n := 0) (by omega) (by omega) ?_
      refine lv_iconst (v := nI 0) hx hb dMH_mask_92 (by decide) ?_
      refine lv_istore (lv' := [(4, .int (nI 0)), (3, .int (nI i21)), (2, .int (nI 20)), (0, .ref h0), (1, .int fr)]) hx hb dMH_mask_93 hl (by decide) rfl (fun ls hl => ?_)
      have lp22 : ∀ (n22 : Nat) (i22 : Nat) (s28 : Sto) (pl : va_W) (ls : Array Slot) (H : Heap) (locs : List Loc), n22 + i22 = 256 → frm (M_MH_mask_2) s s28 → s28.1 225 23 = nI 2 → s28.1 225 24 = nI 8 → s28.1 225 25 = nI 7 → s28.1 225 26 = nI 2 → s28.1 225 27 = nI 524288 → s28.1 225 28 = nI 261888 → s28.1 225 29 = nI 120 → s28.1 225 30 = nI 64 → F_MH_mask_2 fr s = F_MH_mask_2_L1 i21 (F_MH_mask_2_L0 fr n21) n22 i22 s28 → lv_has ls 5 [(4, .int (nI i22)), (3, .int (nI i21)), (2, .int (nI 20)), (0, .ref h0), (1, .int fr)] → okn g T s28 pl → va_P g.1 vcl ([] ++ pl) H → va_D A ([] ++ pl) → va_S A s0.heap H locs → W p l e ({ frames := 4, cells := 0, slots := 0, locals := 90 } : Room) s0 m args below meth c H locs 0 0 (MQ below (va_Qv (fun (u : (Sto) × va_W) => (u.1 = F_MH_mask_2 fr s ∧ frm (M_MH_mask_2) s u.1 ∧ True) ∧ okn g T u.1 u.2) (po g.1 vcl A (fun (u : (Sto) × va_W) => [] ++ u.2)) A) args s0 0 0 A) (F0 m 95 ls []) := by
        intro n22
        induction n22 with
        | zero =>
          intro i22 s28 pl ls H locs hm22 hF hf85 hf86 hf87 hf88 hf89 hf90 hf91 hf92 hR hl hO hP hD hS
          refine lv_iload hx hb dMH_mask_95 (lv_at hl 0 rfl) ?_
          refine lv_sipush (v := nI 256) hx hb dMH_mask_97 (by decide) ?_
          refine mi_ge (tgt := 137) hx hb dMH_mask_100 (by decide) (by omega) (by omega) (fun h24 => ?_) (fun h24 => absurd h24 (by omega))
          refine mi_iinc (k := 1) (x := i21) (d := 1) (y := i21 + 1) (lv' := [(3, .int (nI (i21 + 1))), (4, .int (nI i22)), (2, .int (nI 20)), (0, .ref h0), (1, .int fr)]) hx hb dMH_mask_137 hl rfl (by decide) rfl (by decide) rfl (fun ls hl => ?_)
          refine lv_goto (tgt := 17) hx hb dMH_mask_140 (by decide) ?_
          exact ih21 (i21 + 1) s28 pl ls H locs (by omega) hF hf85 hf86 hf87 hf88 hf89 hf90 hf91 hf92 hR (lv_sub hl [0, 2, 3, 4] rfl) hO hP hD hS
        | succ n22 ih22 =>
          intro i22 s28 pl ls H locs hm22 hF hf93 hf94 hf95 hf96 hf97 hf98 hf99 hf100 hR hl hO hP hD hS
          refine lv_iload hx hb dMH_mask_95 (lv_at hl 0 rfl) ?_
          refine lv_sipush (v := nI 256) hx hb dMH_mask_97 (by decide) ?_
          refine mi_ge (tgt := 137) hx hb dMH_mask_100 (by decide) (by omega) (by omega) (fun h25 => absurd h25 (by omega)) (fun h25 => ?_)
          refine lv_aload_n hx hb dMH_mask_103 rfl (lv_at hl 3 rfl) ?_
          refine nw_get (C := "LatticeKeysModel$Hands") (TT := T_MH) (N := 31) hx hb hts (wg_ft i_MH) hown hK hO k_h0 (kn := 225) (ci := 12) (fl := [(3, 172), (3, 181), (3, 226), (3, 291), (3, 299), (3, 308), (3, 317), (3, 326), (3, 334), (3, 342), (3, 350), (3, 359), (3, 368), (3, 369), (3, 370), (3, 371), (3, 372), (3, 373), (3, 374), (3, 375), (3, 376), (3, 377), (3, 378), (0, 0), (0, 0), (0, 0), (0, 0), (0, 0), (0, 0), (0, 0), (0, 0)]) rfl hP rfl 7 (by decide) (hts _ (wg_t kw_1439)) (fun _ h9 => h9) (cd := (3, 326)) rfl dMH_mask_104 (fun v32 hv32 => ?_)
          obtain ⟨r29, rfl, kr29⟩ := (show ∃ r : Nat, v32 = .ref r ∧ T r = some 326 from hv32)
          refine lv_iload_n hx hb dMH_mask_107 rfl (lv_at hl 1 rfl) ?_
          refine nw_aald3 hx hb hK hO kr29 (k := 326) (b := 327) rfl hP (by omega) (by omega) dMH_mask_108 (fun r30 kr30 => ?_)
          have hn21 : nsp (327 + i21) = (0, 256, []) := rows_ok 327 7 (by decide) _ (by omega)
          refine lv_iload hx hb dMH_mask_109 (lv_at hl 0 rfl) ?_
          refine lv_aload_n hx hb dMH_mask_111 rfl (lv_at hl 3 rfl) ?_
          refine nw_get (C := "LatticeKeysModel$Hands") (TT := T_MH) (N := 31) hx hb hts (wg_ft i_MH) hown hK hO k_h0 (kn := 225) (ci := 12) (fl := [(3, 172), (3, 181), (3, 226), (3, 291), (3, 299), (3, 308), (3, 317), (3, 326), (3, 334), (3, 342), (3, 350), (3, 359), (3, 368), (3, 369), (3, 370), (3, 371), (3, 372), (3, 373), (3, 374), (3, 375), (3, 376), (3, 377), (3, 378), (0, 0), (0, 0), (0, 0), (0, 0), (0, 0), (0, 0), (0, 0), (0, 0)]) rfl hP rfl 27 (by decide) (hts _ (wg_t kw_1459)) (fun _ h9 => h9) (cd := (0, 0)) rfl dMH_mask_112 (fun v33 hv33 => ?_)
          obtain rfl := (show v33 = .int (s28.1 225 27) from hv33)
          obtain ⟨z24, ez24, hz27, hz28⟩ := cl_of (b := 2147483648) hf97 (by omega) (by decide)
          replace hR := bnd_step hR ez24
          refine mi_as hz27 ?_
          subst hz28
          refine lv_aload_n hx hb dMH_mask_115 rfl (lv_at hl 3 rfl) ?_
          refine nw_get (C := "LatticeKeysModel$Hands") (TT := T_MH) (N := 31) hx hb hts (wg_ft i_MH) hown hK hO k_h0 (kn := 225) (ci := 12) (fl := [(3, 172), (3, 181), (3, 226), (3, 291), (3, 299), (3, 308), (3, 317), (3, 326), (3, 334), (3, 342), (3, 350), (3, 359), (3, 368), (3, 369), (3, 370), (3, 371), (3, 372), (3, 373), (3, 374), (3, 375), (3, 376), (3, 377), (3, 378), (0, 0), (0, 0), (0, 0), (0, 0), (0, 0), (0, 0), (0, 0), (0, 0)]) rfl hP rfl 19 (by decide) (hts _ (wg_t kw_1451)) (fun _ h9 => h9) (cd := (3, 375)) rfl dMH_mask_116 (fun v34 hv34 => ?_)
          obtain ⟨r31, rfl, kr31⟩ := (show ∃ r : Nat, v34 = .ref r ∧ T r = some 375 from hv34)
          refine lv_iload_n hx hb dMH_mask_119 rfl (lv_at hl 2 rfl) ?_
          refine lv_iload hx hb dMH_mask_120 (lv_at hl 0 rfl) ?_
          refine mi_imul hx hb dMH_mask_122 ?_
          refine lv_iload_n hx hb dMH_mask_123 rfl (lv_at hl 2 rfl) ?_
          refine mp_i (cx := []) (wr := []) hP hD hS hA [] [] rfl rfl rfl (by decide) (va_runSN (As := [.ref r31, .int (nI (20 * i22)), .int (nI 20)]) (rest := [.int (nI 524288), .int (nI i22), .ref r30]) F (N_M_unpack l g _ T s28 pl hO hU r31 375 640 (20 * i22) 20 kr31 rfl (by omega) (by omega) (by omega)) ⟨va_cnB 3 hts (wg_in kw_1667) rfl rfl rfl (hE.2.2.2.2.2.2.2.2.2.2) (hts _ (wg_t kw_9)) (by decide +kernel) ⟨by decide, by decide⟩, hts _ (wg_t kw_1666), trivial⟩ (pp_S (en_ok g) hP hD hS hA hE [] rfl rfl) rfl rfl hl.1 rfl (lv_room (Nat.le_of_ble_eq_true rfl)) dMH_mask_124 ⟨by omega, by omega⟩) (fun r32 u27 H locs hu27 hP hD hS => ?_)
          obtain ⟨q21, pl⟩ := u27
          obtain ⟨⟨eq27, rfl, hFc27, -⟩, hO⟩ := hu27
          have hO : okn g T q21.2 pl := hO
          have hP : va_P g.1 vcl ([] ++ pl) _ := hP
          have hD : va_D _ ([] ++ pl) := hD
          have hFc27 : frm (M_M_unpack) s28 q21.2 := hFc27
          replace hR := bnd_step hR eq27
          have hF := frm_tr hF hFc27 (fun k hk => by unfold M_M_unpack at hk; unfold M_MH_mask_2; omega)
          have hf101 : q21.2.1 225 23 = nI 2 := fc_F hf93 hFc27 (by unfold M_M_unpack; omega)
          have hf102 : q21.2.1 225 24 = nI 8 := fc_F hf94 hFc27 (by unfold M_M_unpack; omega)
          have hf103 : q21.2.1 225 25 = nI 7 := fc_F hf95 hFc27 (by unfold M_M_unpack; omega)
          have hf104 : q21.2.1 225 26 = nI 2 := fc_F hf96 hFc27 (by unfold M_M_unpack; omega)
          have hf105 : q21.2.1 225 27 = nI 524288 := fc_F hf97 hFc27 (by unfold M_M_unpack; omega)
          have hf106 : q21.2.1 225 28 = nI 261888 := fc_F hf98 hFc27 (by unfold M_M_unpack; omega)
          have hf107 : q21.2.1 225 29 = nI 120 := fc_F hf99 hFc27 (by unfold M_M_unpack; omega)
          have hf108 : q21.2.1 225 30 = nI 64 := fc_F hf100 hFc27 (by unfold M_M_unpack; omega)
          refine W.widen (k := 0) (n := 0) (by omega) (by omega) ?_
          refine mp_i (cx := []) (wr := []) hP hD hS hA [] [] rfl rfl rfl (by decide) (va_runS (As := [.int (nI 524288), .int q21.1]) (rest := [.int (nI i22), .ref r30]) F (N_MH_minus l g _ T q21.2 pl hO hU (nI 524288) (q21.1)) (va_cwS 2 hts (wg_app (wg_c kw_1865 (wg_c kw_1866 (wg_c kw_13 wg_n))) kw_1867) rfl rfl rfl (by decide +kernel) ⟨by decide, by decide⟩) (pp_S (en_ok g) hP hD hS hA hE [] rfl rfl) rfl rfl hl.1 rfl (lv_room (Nat.le_of_ble_eq_true rfl)) dMH_mask_127 ⟨by omega, by omega⟩) (fun r33 u28 H locs hu28 hP hD hS => ?_)
          obtain ⟨q22, pl⟩ := u28
          obtain ⟨⟨eq28, rfl, hFc28, -⟩, hO⟩ := hu28
          have hO : okn g T q22.2 pl := hO
          have hP : va_P g.1 vcl ([] ++ pl) _ := hP
          have hD : va_D _ ([] ++ pl) := hD
          have hFc28 : frm (M_MH_minus) q21.2 q22.2 := hFc28
          replace hR := bnd_step hR eq28
          have hF := frm_tr hF hFc28 (fun k hk => by unfold M_MH_minus at hk; unfold M_MH_mask_2; omega)
          have hf109 : q22.2.1 225 23 = nI 2 := fc_F hf101 hFc28 (by unfold M_MH_minus; omega)
          have hf110 : q22.2.1 225 24 = nI 8 := fc_F hf102 hFc28 (by unfold M_MH_minus; omega)
          have hf111 : q22.2.1 225 25 = nI 7 := fc_F hf103 hFc28 (by unfold M_MH_minus; omega)
          have hf112 : q22.2.1 225 26 = nI 2 := fc_F hf104 hFc28 (by unfold M_MH_minus; omega)
          have hf113 : q22.2.1 225 27 = nI 524288 := fc_F hf105 hFc28 (by unfold M_MH_minus; omega)
          have hf114 : q22.2.1 225 28 = nI 261888 := fc_F hf106 hFc28 (by unfold M_MH_minus; omega)
          have hf115 : q22.2.1 225 29 = nI 120 := fc_F hf107 hFc28 (by unfold M_MH_minus; omega)
          have hf116 : q22.2.1 225 30 = nI 64 := fc_F hf108 hFc28 (by unfold M_MH_minus; omega)
          refine W.widen (k := 0) (n := 0) (by omega) (by omega) ?_
          refine nw_iast hx hb hK hO hU kr30 (k := (327 + i21)) hn21 hP hD hS (by omega) (by omega) dMH_mask_130 (fun s29 pl H locs es21 hO hP hD hS => ?_)
          replace hR := bnd_step hR es21
          have hF := frm_sI hF es21 (by unfold M_MH_mask_2; omega)
          have hf117 : s29.1 225 23 = nI 2 := fc_ne hf109 es21 (by omega)
          have hf118 : s29.1 225 24 = nI 8 := fc_ne hf110 es21 (by omega)
          have hf119 : s29.1 225 25 = nI 7 := fc_ne hf111 es21 (by omega)
          have hf120 : s29.1 225 26 = nI 2 := fc_ne hf112 es21 (by omega)
          have hf121 : s29.1 225 27 = nI 524288 := fc_ne hf113 es21 (by omega)
          have hf122 : s29.1 225 28 = nI 261888 := fc_ne hf114 es21 (by omega)
          have hf123 : s29.1 225 29 = nI 120 := fc_ne hf115 es21 (by omega)
          have hf124 : s29.1 225 30 = nI 64 := fc_ne hf116 es21 (by omega)
          refine mi_iinc (k := 0) (x := i22) (d := 1) (y := i22 + 1) (lv' := [(4, .int (nI (i22 + 1))), (3, .int (nI i21)), (2, .int (nI 20)), (0, .ref h0), (1, .int fr)]) hx hb dMH_mask_131 hl rfl (by decide) rfl (by decide) rfl (fun ls hl => ?_)
          refine lv_goto (tgt := 95) hx hb dMH_mask_134 (by decide) ?_
          exact ih22 (i22 + 1) s29 pl ls H locs (by omega) hF hf117 hf118 hf119 hf120 hf121 hf122 hf123 hf124 hR (lv_sub hl [0, 1, 2, 3, 4] rfl) hO hP hD hS
      exact lp22 256 0 s27 pl ls _ _ (by omega) hF hf77 hf78 hf79 hf80 hf81 hf82 hf83 hf84 hR (lv_sub hl [0, 1, 2, 3, 4] rfl) hO hP hD hS
  exact lp21 7 0 s pl ls _ _ (by omega) hF e_c0 e_c1 e_c2 e_c3 e_c4 e_c5 e_c6 e_c7 hR (lv_sub hl [0, 1, 2, 3] rfl) hO hP hD hS
def M_MH_marked_0 (pt : Nat) (k : Nat) : Prop := k = 172 ∨ k = 375 ∨ k = pt ∨ (0 : Nat) = 1
noncomputable def F_MH_marked_0_L1 (hd : Int32) (i21 : Nat) (kk : Nat → Sto → Sto) : Nat → Nat → Sto → Sto
  | 0, i22, s26 => bnd (F_MS_puts 375 640 0 192 s26) fun s27 => kk (i21 + 1) s27
  | n22 + 1, i22, s26 => if hd = 0 then bnd (F_MH_high_0 (s26.1 ((351 + i21)) i22) s26) fun q21 => bnd (F_M_pack 375 640 (6 * i22) 6 (q21.1) q21.2) fun s28 => F_MH_marked_0_L1 hd i21 kk n22 (i22 + 1) s28 else bnd (F_MH_used_0 (s26.1 ((360 + i21)) i22) (s26.1 ((351 + i21)) i22) s26) fun q22 => bnd (F_M_pack 375 640 (6 * i22) 6 (q22.1) q22.2) fun s29 => F_MH_marked_0_L1 hd i21 kk n22 (i22 + 1) s29
noncomputable def F_MH_marked_0_L0 (hd : Int32) (pt : Nat) : Nat → Nat → Sto → Sto
  | 0, i21, s23 => bnd ((s23.1 225 24).toNatClampNeg) fun z22 => bnd (F_MS_end  s23) fun s24 => bnd ((s24.1 225 30).toNatClampNeg) fun z23 => bnd (F_MS_take pt 64 0 32 s24) fun s25 => s25
  | n21 + 1, i21, s23 => bnd ((s23.1 225 24).toNatClampNeg) fun z24 => F_MH_marked_0_L1 hd i21 (F_MH_marked_0_L0 hd pt n21) 256 0 s23
noncomputable def F_MH_marked_0 (hd : Int32) (pt : Nat) (s : Sto) : Sto := bnd ((s.1 225 23).toNatClampNeg) fun z21 => bnd (F_MS_shake  s) fun s21 => bnd (F_MS_puts 373 64 0 64 s21) fun s22 => F_MH_marked_0_L0 hd pt 4 0 s22
set_option maxHeartbeats 8000000 in
set_option maxRecDepth 100000 in
theorem N_MH_marked_0 (l : Launch) (g : Gd) (sz : Nat) (T : TyN) (s : Sto) (pl : va_W) (hO : okn g T s pl) (hU : inj T) (h0 to : Nat) (hd : Int32) (pt : Nat) (k_h0 : T h0 = some 225) (k_to : T to = some pt) (n_to : nsp pt = (1, 64, [])) (e_c0 : s.1 225 23 = nI 0) (e_c1 : s.1 225 24 = nI 4) (e_c2 : s.1 225 25 = nI 4) (e_c3 : s.1 225 26 = nI 2) (e_c4 : s.1 225 27 = nI 131072) (e_c5 : s.1 225 28 = nI 95232) (e_c6 : s.1 225 29 = nI 78) (e_c7 : s.1 225 30 = nI 32)  : Met l y_MH_marked w_MH_marked ({ frames := 4, cells := 0, slots := 0, locals := 90 } : Room) (va_Pc [.ref h0, .int hd, .ref to] (pr (en g) g.1 vcl sz ([] ++ pl))) (va_Qv (fun (u : (Sto) × va_W) => (u.1 = F_MH_marked_0 hd pt s ∧ frm (M_MH_marked_0 pt) s u.1 ∧ True) ∧ okn g T u.1 u.2) (po g.1 vcl (va_A ([] ++ pl) sz) (fun (u : (Sto) × va_W) => [] ++ u.2)) (va_A ([] ++ pl) sz)) 0 0 (va_A ([] ++ pl) sz) := by
  refine mc_entry (cc := c_MH_marked) (maxL := 6) (ret := none) (by decide) rfl (Nat.le_of_ble_eq_true rfl) ?_
  intro p e s0 m args below meth c ls F hr hlk hnm hsz hP hD hE hA hl
  obtain ⟨hx, hb, hml, hown, hts⟩ := id F
  have hK := hE.1
  generalize va_A ([] ++ pl) sz = A at hD hE hA ⊢
  have hS : va_S A s0.heap s0.heap [] := va_S.rf
  have hl : lv_has ls 6 [(0, .ref h0), (1, .int hd), (2, .ref to)] := hl
  have hR : F_MH_marked_0 hd pt s = F_MH_marked_0 hd pt s := rfl
  have hF : frm (M_MH_marked_0 pt) s s := frm_rf
  have ne_172_pt : 172 ≠ pt := nsp_ne (p := 172) rfl n_to (show (5 : Nat) ≠ 1 by decide)
  have ne_225_pt : 225 ≠ pt := nsp_ne (p := 225) rfl n_to (show (5 : Nat) ≠ 1 by decide)
  refine lv_aload_n hx hb dMH_marked_0 rfl (lv_at hl 0 rfl) ?_
  refine nw_get (C := "LatticeKeysModel$Hands") (TT := T_MH) (N := 31) hx hb hts (wg_ft i_MH) hown hK hO k_h0 (kn := 225) (ci := 12) (fl := [(3, 172), (3, 181), (3, 226), (3, 291), (3, 299), (3, 308), (3, 317), (3, 326), (3, 334), (3, 342), (3, 350), (3, 359), (3, 368), (3, 369), (3, 370), (3, 371), (3, 372), (3, 373), (3, 374), (3, 375), (3, 376), (3, 377), (3, 378), (0, 0), (0, 0), (0, 0), (0, 0), (0, 0), (0, 0), (0, 0), (0, 0)]) rfl hP rfl 23 (by decide) (hts _ (wg_t kw_1455)) (fun _ h9 => h9) (cd := (0, 0)) rfl dMH_marked_1 (fun v21 hv21 => ?_)
  obtain rfl := (show v21 = .int (s.1 225 23) from hv21)
  obtain ⟨z21, ez21, hz21, hz22⟩ := cl_of (b := 2147483648) e_c0 (by omega) (by decide)
  replace hR := bnd_step hR ez21
  refine mi_as hz21 ?_
  subst hz22
  refine lv_if_ne (tgt := 12) hx hb dMH_marked_4 (by decide) (fun h21 => absurd h21 (by decide)) (fun h21 => ?_)
  refine lv_bipush (v := nI 6) hx hb dMH_marked_7 (by decide) ?_
  refine lv_goto (tgt := 13) hx hb dMH_marked_9 (by decide) ?_
  refine lv_istore_n (lv' := [(3, .int (nI 6)), (0, .ref h0), (1, .int hd), (2, .ref to)]) hx hb dMH_marked_13 rfl hl (by decide) rfl (fun ls hl => ?_)
  refine lv_aload_n hx hb dMH_marked_14 rfl (lv_at hl 1 rfl) ?_
  refine nw_get (C := "LatticeKeysModel$Hands") (TT := T_MH) (N := 31) hx hb hts (wg_ft i_MH) hown hK hO k_h0 (kn := 225) (ci := 12) (fl := [(3, 172), (3, 181), (3, 226), (3, 291), (3, 299), (3, 308), (3, 317), (3, 326), (3, 334), (3, 342), (3, 350), (3, 359), (3, 368), (3, 369), (3, 370), (3, 371), (3, 372), (3, 373), (3, 374), (3, 375), (3, 376), (3, 377), (3, 378), (0, 0), (0, 0), (0, 0), (0, 0), (0, 0), (0, 0), (0, 0), (0, 0)]) rfl hP rfl 0 (by decide) (hts _ (wg_t kw_1432)) (fun _ h9 => h9) (cd := (3, 172)) rfl dMH_marked_15 (fun v22 hv22 => ?_)
  obtain ⟨r21, rfl, kr21⟩ := (show ∃ r : Nat, v22 = .ref r ∧ T r = some 172 from hv22)
  refine mp_v (cx := []) (wr := []) hP hD hS hA [] [] rfl rfl rfl (by decide) (va_runV (As := []) (rest := []) F (N_MS_shake l g _ T s pl hO hU r21 kr21) (cwV 0 hts (wg_app (wg_c kw_1718 (wg_c kw_1661 (wg_c kw_1662 (wg_c kw_10 wg_n)))) kw_1663) rfl rfl rfl (by decide +kernel) ⟨by decide, by decide⟩) (pn_W "LatticeKeysModel$Sponge" (en_ok g) (ci := 9) (kn := 172) (fl := [(3, 173), (3, 174), (3, 175), (3, 176), (3, 177), (0, 0), (0, 0), (0, 0)]) hK hO kr21 rfl hP hD hS hA hE [] rfl rfl rfl) rfl rfl hl.1 rfl (lv_room (Nat.le_of_ble_eq_true rfl)) dMH_marked_18 ⟨by omega, by omega⟩) (fun  u21 H locs hu21 hP hD hS => ?_)
  obtain ⟨s21, pl⟩ := u21
  obtain ⟨⟨eq21, hFc21, ⟨x21, hx_21, hb_21⟩, ⟨x22, hx_22, hb_22⟩, -⟩, hO⟩ := hu21
  have hO : okn g T s21 pl := hO
  have hP : va_P g.1 vcl ([] ++ pl) _ := hP
  have hD : va_D _ ([] ++ pl) := hD
  have hFc21 : frm (M_MS_shake) s s21 := hFc21
  have hb_21 : x21 = 0 := hb_21
  have hb_22 : x22 = 136 := hb_22
  replace hR := bnd_step hR eq21
  have hF := frm_tr hF hFc21 (fun k hk => by unfold M_MS_shake at hk; unfold M_MH_marked_0; omega)
  have hf21 : s21.1 225 23 = nI 0 := fc_F e_c0 hFc21 (by unfold M_MS_shake; omega)
  have hf22 : s21.1 225 24 = nI 4 := fc_F e_c1 hFc21 (by unfold M_MS_shake; omega)
  have hf23 : s21.1 225 25 = nI 4 := fc_F e_c2 hFc21 (by unfold M_MS_shake; omega)
  have hf24 : s21.1 225 26 = nI 2 := fc_F e_c3 hFc21 (by unfold M_MS_shake; omega)
  have hf25 : s21.1 225 27 = nI 131072 := fc_F e_c4 hFc21 (by unfold M_MS_shake; omega)
  have hf26 : s21.1 225 28 = nI 95232 := fc_F e_c5 hFc21 (by unfold M_MS_shake; omega)
  have hf27 : s21.1 225 29 = nI 78 := fc_F e_c6 hFc21 (by unfold M_MS_shake; omega)
  have hf28 : s21.1 225 30 = nI 32 := fc_F e_c7 hFc21 (by unfold M_MS_shake; omega)
  refine W.widen (k := 0) (n := 0) (by omega) (by omega) ?_
  refine lv_aload_n hx hb dMH_marked_21 rfl (lv_at hl 1 rfl) ?_
  refine nw_get (C := "LatticeKeysModel$Hands") (TT := T_MH) (N := 31) hx hb hts (wg_ft i_MH) hown hK hO k_h0 (kn := 225) (ci := 12) (fl := [(3, 172), (3, 181), (3, 226), (3, 291), (3, 299), (3, 308), (3, 317), (3, 326), (3, 334), (3, 342), (3, 350), (3, 359), (3, 368), (3, 369), (3, 370), (3, 371), (3, 372), (3, 373), (3, 374), (3, 375), (3, 376), (3, 377), (3, 378), (0, 0), (0, 0), (0, 0), (0, 0), (0, 0), (0, 0), (0, 0), (0, 0)]) rfl hP rfl 0 (by decide) (hts _ (wg_t kw_1432)) (fun _ h9 => h9) (cd := (3, 172)) rfl dMH_marked_22 (fun v23 hv23 => ?_)
  obtain ⟨r22, rfl, kr22⟩ := (show ∃ r : Nat, v23 = .ref r ∧ T r = some 172 from hv23)
  refine lv_aload_n hx hb dMH_marked_25 rfl (lv_at hl 1 rfl) ?_
  refine nw_get (C := "LatticeKeysModel$Hands") (TT := T_MH) (N := 31) hx hb hts (wg_ft i_MH) hown hK hO k_h0 (kn := 225) (ci := 12) (fl := [(3, 172), (3, 181), (3, 226), (3, 291), (3, 299), (3, 308), (3, 317), (3, 326), (3, 334), (3, 342), (3, 350), (3, 359), (3, 368), (3, 369), (3, 370), (3, 371), (3, 372), (3, 373), (3, 374), (3, 375), (3, 376), (3, 377), (3, 378), (0, 0), (0, 0), (0, 0), (0, 0), (0, 0), (0, 0), (0, 0), (0, 0)]) rfl hP rfl 17 (by decide) (hts _ (wg_t kw_1449)) (fun _ h9 => h9) (cd := (3, 373)) rfl dMH_marked_26 (fun v24 hv24 => ?_)
  obtain ⟨r23, rfl, kr23⟩ := (show ∃ r : Nat, v24 = .ref r ∧ T r = some 373 from hv24)
  refine lv_iconst (v := nI 0) hx hb dMH_marked_29 (by decide) ?_
  refine lv_bipush (v := nI 64) hx hb dMH_marked_30 (by decide) ?_
  refine mp_v (cx := []) (wr := []) hP hD hS hA [] [] rfl rfl rfl (by decide) (va_runV (As := [.ref r23, .int (nI 0), .int (nI 64)]) (rest := []) F (N_MS_puts l g _ T s21 pl hO hU r22 r23 373 64 0 64 x21 x22 kr22 kr23 rfl hx_21 hx_22 (by omega) (by omega) (by omega) (by omega)) (cwV 3 hts (wg_app (wg_c kw_1719 (wg_c kw_1612 (wg_c kw_1613 (wg_c kw_10 wg_n)))) kw_1614) rfl rfl rfl (by decide +kernel) ⟨by decide, by decide⟩) (pn_W "LatticeKeysModel$Sponge" (en_ok g) (ci := 9) (kn := 172) (fl := [(3, 173), (3, 174), (3, 175), (3, 176), (3, 177), (0, 0), (0, 0), (0, 0)]) hK hO kr22 rfl hP hD hS hA hE [] rfl rfl rfl) rfl rfl hl.1 rfl (lv_room (Nat.le_of_ble_eq_true rfl)) dMH_marked_32 ⟨by omega, by omega⟩) (fun  u22 H locs hu22 hP hD hS => ?_)
  obtain ⟨s22, pl⟩ := u22
  obtain ⟨⟨eq22, hFc22, ⟨x24, hx_24, hb_24⟩, ⟨x25, hx_25, hb_25⟩, -⟩, hO⟩ := hu22
  have hO : okn g T s22 pl := hO
  have hP : va_P g.1 vcl ([] ++ pl) _ := hP
  have hD : va_D _ ([] ++ pl) := hD
  have hFc22 : frm (M_MS_puts) s21 s22 := hFc22
  have hb_24 : x24 < x22 := hb_24
  have hb_25 : x25 = x22 := hb_25
  replace hR := bnd_step hR eq22
  have hF := frm_tr hF hFc22 (fun k hk => by unfold M_MS_puts at hk; unfold M_MH_marked_0; omega)
  have hf29 : s22.1 225 23 = nI 0 := fc_F hf21 hFc22 (by unfold M_MS_puts; omega)
  have hf30 : s22.1 225 24 = nI 4 := fc_F hf22 hFc22 (by unfold M_MS_puts; omega)
  have hf31 : s22.1 225 25 = nI 4 := fc_F hf23 hFc22 (by unfold M_MS_puts; omega)
  have hf32 : s22.1 225 26 = nI 2 := fc_F hf24 hFc22 (by unfold M_MS_puts; omega)
  have hf33 : s22.1 225 27 = nI 131072 := fc_F hf25 hFc22 (by unfold M_MS_puts; omega)
  have hf34 : s22.1 225 28 = nI 95232 := fc_F hf26 hFc22 (by unfold M_MS_puts; omega)
  have hf35 : s22.1 225 29 = nI 78 := fc_F hf27 hFc22 (by unfold M_MS_puts; omega)
  have hf36 : s22.1 225 30 = nI 32 := fc_F hf28 hFc22 (by unfold M_MS_puts; omega)
  refine W.widen (k := 0) (n := 0) (by omega) (by omega) ?_
  refine lv_iconst (v := nI 0) hx hb dMH_marked_35 (by decide) ?_
  refine lv_istore (lv' := [(4, .int (nI 0)), (3, .int (nI 6)), (0, .ref h0), (1, .int hd), (2, .ref to)]) hx hb dMH_marked_36 hl (by decide) rfl (fun ls hl => ?_)
  have lp21 : ∀ (n21 : Nat) (i21 : Nat) (s23 : Sto) (ps21 : Nat) (pl : va_W) (ls : Array Slot) (H : Heap) (locs : List Loc), n21 + i21 = 4 → (ps21 < 136) → frm (M_MH_marked_0 pt) s s23 → s23.1 225 23 = nI 0 → s23.1 225 24 = nI 4 → s23.1 225 25 = nI 4 → s23.1 225 26 = nI 2 → s23.1 225 27 = nI 131072 → s23.1 225 28 = nI 95232 → s23.1 225 29 = nI 78 → s23.1 225 30 = nI 32 → s23.1 172 6 = nI ps21 → s23.1 172 5 = nI x25 → F_MH_marked_0 hd pt s = F_MH_marked_0_L0 hd pt n21 i21 s23 → lv_has ls 6 [(4, .int (nI i21)), (3, .int (nI 6)), (0, .ref h0), (1, .int hd), (2, .ref to)] → okn g T s23 pl → va_P g.1 vcl ([] ++ pl) H → va_D A ([] ++ pl) → va_S A s0.heap H locs → W p l e ({ frames := 4, cells := 0, slots := 0, locals := 90 } : Room) s0 m args below meth c H locs 0 0 (MQ below (va_Qv (fun (u : (Sto) × va_W) => (u.1 = F_MH_marked_0 hd pt s ∧ frm (M_MH_marked_0 pt) s u.1 ∧ True) ∧ okn g T u.1 u.2) (po g.1 vcl A (fun (u : (Sto) × va_W) => [] ++ u.2)) A) args s0 0 0 A) (F0 m 38 ls []) := by
    intro n21
    induction n21 with
    | zero =>
      intro i21 s23 ps21 pl ls H locs hm21 hi21 hF hf37 hf38 hf39 hf40 hf41 hf42 hf43 hf44 hf45 hf46 hR hl hO hP hD hS
      refine lv_iload hx hb dMH_marked_38 (lv_at hl 0 rfl) ?_
      refine lv_aload_n hx hb dMH_marked_40 rfl (lv_at hl 2 rfl) ?_
      refine nw_get (C := "LatticeKeysModel$Hands") (TT := T_MH) (N := 31) hx hb hts (wg_ft i_MH) hown hK hO k_h0 (kn := 225) (ci := 12) (fl := [(3, 172), (3, 181), (3, 226), (3, 291), (3, 299), (3, 308), (3, 317), (3, 326), (3, 334), (3, 342), (3, 350), (3, 359), (3, 368), (3, 369), (3, 370), (3, 371), (3, 372), (3, 373), (3, 374), (3, 375), (3, 376), (3, 377), (3, 378), (0, 0), (0, 0), (0, 0), (0, 0), (0, 0), (0, 0), (0, 0), (0, 0)]) rfl hP rfl 24 (by decide) (hts _ (wg_t kw_1456)) (fun _ h9 => h9) (cd := (0, 0)) rfl dMH_marked_41 (fun v25 hv25 => ?_)
      obtain rfl := (show v25 = .int (s23.1 225 24) from hv25)
      obtain ⟨z22, ez22, hz23, hz24⟩ := cl_of (b := 2147483648) hf38 (by omega) (by decide)
      replace hR := bnd_step hR ez22
      refine mi_as hz23 ?_
      subst hz24
      refine mi_ge (tgt := 143) hx hb dMH_marked_44 (by decide) (by omega) (by omega) (fun h22 => ?_) (fun h22 => absurd h22 (by omega))
      refine lv_aload_n hx hb dMH_marked_143 rfl (lv_at hl 2 rfl) ?_
      refine nw_get (C := "LatticeKeysModel$Hands") (TT := T_MH) (N := 31) hx hb hts (wg_ft i_MH) hown hK hO k_h0 (kn := 225) (ci := 12) (fl := [(3, 172), (3, 181), (3, 226), (3, 291), (3, 299), (3, 308), (3, 317), (3, 326), (3, 334), (3, 342), (3, 350), (3, 359), (3, 368), (3, 369), (3, 370), (3, 371), (3, 372), (3, 373), (3, 374), (3, 375), (3, 376), (3, 377), (3, 378), (0, 0), (0, 0), (0, 0), (0, 0), (0, 0), (0, 0), (0, 0), (0, 0)]) rfl hP rfl 0 (by decide) (hts _ (wg_t kw_1432)) (fun _ h9 => h9) (cd := (3, 172)) rfl dMH_marked_144 (fun v26 hv26 => ?_)
      obtain ⟨r24, rfl, kr24⟩ := (show ∃ r : Nat, v26 = .ref r ∧ T r = some 172 from hv26)
      refine mp_v (cx := []) (wr := []) hP hD hS hA [] [] rfl rfl rfl (by decide) (va_runV (As := []) (rest := []) F (N_MS_end l g _ T s23 pl hO hU r24 ps21 x25 kr24 hf45 hf46 (by omega) (by omega)) (cwV 0 hts (wg_app (wg_c kw_1721 (wg_c kw_1634 (wg_c kw_1635 (wg_c kw_10 wg_n)))) kw_1636) rfl rfl rfl (by decide +kernel) ⟨by decide, by decide⟩) (pn_W "LatticeKeysModel$Sponge" (en_ok g) (ci := 9) (kn := 172) (fl := [(3, 173), (3, 174), (3, 175), (3, 176), (3, 177), (0, 0), (0, 0), (0, 0)]) hK hO kr24 rfl hP hD hS hA hE [] rfl rfl rfl) rfl rfl hl.1 rfl (lv_room (Nat.le_of_ble_eq_true rfl)) dMH_marked_147 ⟨by omega, by omega⟩) (fun  u23 H locs hu23 hP hD hS => ?_)
      obtain ⟨s24, pl⟩ := u23
      obtain ⟨⟨eq23, hFc23, ⟨x27, hx_27, hb_27⟩, ⟨x28, hx_28, hb_28⟩, -⟩, hO⟩ := hu23
      have hO : okn g T s24 pl := hO
      have hP : va_P g.1 vcl ([] ++ pl) _ := hP
      have hD : va_D _ ([] ++ pl) := hD
      have hFc23 : frm (M_MS_end) s23 s24 := hFc23
      have hb_27 : x27 = 0 := hb_27
      have hb_28 : x28 = x25 := hb_28
      replace hR := bnd_step hR eq23
      have hF := frm_tr hF hFc23 (fun k hk => by unfold M_MS_end at hk; unfold M_MH_marked_0; omega)
      have hf47 : s24.1 225 23 = nI 0 := fc_F hf37 hFc23 (by unfold M_MS_end; omega)
      have hf48 : s24.1 225 24 = nI 4 := fc_F hf38 hFc23 (by unfold M_MS_end; omega)
      have hf49 : s24.1 225 25 = nI 4 := fc_F hf39 hFc23 (by unfold M_MS_end; omega)
      have hf50 : s24.1 225 26 = nI 2 := fc_F hf40 hFc23 (by unfold M_MS_end; omega)
      have hf51 : s24.1 225 27 = nI 131072 := fc_F hf41 hFc23 (by unfold M_MS_end; omega)
      have hf52 : s24.1 225 28 = nI 95232 := fc_F hf42 hFc23 (by unfold M_MS_end; omega)
      have hf53 : s24.1 225 29 = nI 78 := fc_F hf43 hFc23 (by unfold M_MS_end; omega)
      have hf54 : s24.1 225 30 = nI 32 := fc_F hf44 hFc23 (by unfold M_MS_end; omega)
      refine W.widen (k := 0) (n := 0) (by omega) (by omega) ?_
      refine lv_aload_n hx hb dMH_marked_150 rfl (lv_at hl 2 rfl) ?_
      refine nw_get (C := "LatticeKeysModel$Hands") (TT := T_MH) (N := 31) hx hb hts (wg_ft i_MH) hown hK hO k_h0 (kn := 225) (ci := 12) (fl := [(3, 172), (3, 181), (3, 226), (3, 291), (3, 299), (3, 308), (3, 317), (3, 326), (3, 334), (3, 342), (3, 350), (3, 359), (3, 368), (3, 369), (3, 370), (3, 371), (3, 372), (3, 373), (3, 374), (3, 375), (3, 376), (3, 377), (3, 378), (0, 0), (0, 0), (0, 0), (0, 0), (0, 0), (0, 0), (0, 0), (0, 0)]) rfl hP rfl 0 (by decide) (hts _ (wg_t kw_1432)) (fun _ h9 => h9) (cd := (3, 172)) rfl dMH_marked_151 (fun v27 hv27 => ?_)
      obtain ⟨r25, rfl, kr25⟩ := (show ∃ r : Nat, v27 = .ref r ∧ T r = some 172 from hv27)
      refine lv_aload_n hx hb dMH_marked_154 rfl (lv_at hl 4 rfl) ?_
      refine lv_iconst (v := nI 0) hx hb dMH_marked_155 (by decide) ?_
      refine lv_aload_n hx hb dMH_marked_156 rfl (lv_at hl 2 rfl) ?_
      refine nw_get (C := "LatticeKeysModel$Hands") (TT := T_MH) (N := 31) hx hb hts (wg_ft i_MH) hown hK hO k_h0 (kn := 225) (ci := 12) (fl := [(3, 172), (3, 181), (3, 226), (3, 291), (3, 299), (3, 308), (3, 317), (3, 326), (3, 334), (3, 342), (3, 350), (3, 359), (3, 368), (3, 369), (3, 370), (3, 371), (3, 372), (3, 373), (3, 374), (3, 375), (3, 376), (3, 377), (3, 378), (0, 0), (0, 0), (0, 0), (0, 0), (0, 0), (0, 0), (0, 0), (0, 0)]) rfl hP rfl 30 (by decide) (hts _ (wg_t kw_1462)) (fun _ h9 => h9) (cd := (0, 0)) rfl dMH_marked_157 (fun v28 hv28 => ?_)
      obtain rfl := (show v28 = .int (s24.1 225 30) from hv28)
      obtain ⟨z23, ez23, hz25, hz26⟩ := cl_of (b := 2147483648) hf54 (by omega) (by decide)
      replace hR := bnd_step hR ez23
      refine mi_as hz25 ?_
      subst hz26
      refine mp_v (cx := []) (wr := []) hP hD hS hA [] [] rfl rfl rfl (by decide) (va_runV (As := [.ref to, .int (nI 0), .int (nI 32)]) (rest := []) F (N_MS_take l g _ T s24 pl hO hU r25 to pt 64 0 32 x27 x28 kr25 k_to n_to hx_27 hx_28 (by omega) (by omega) (by omega) (by omega)) (cwV 3 hts (wg_app (wg_c kw_1722 (wg_c kw_1638 (wg_c kw_1639 (wg_c kw_10 wg_n)))) kw_1640) rfl rfl rfl (by decide +kernel) ⟨by decide, by decide⟩) (pn_W "LatticeKeysModel$Sponge" (en_ok g) (ci := 9) (kn := 172) (fl := [(3, 173), (3, 174), (3, 175), (3, 176), (3, 177), (0, 0), (0, 0), (0, 0)]) hK hO kr25 rfl hP hD hS hA hE [] rfl rfl rfl) rfl rfl hl.1 rfl (lv_room (Nat.le_of_ble_eq_true rfl)) dMH_marked_160 ⟨by omega, by omega⟩) (fun  u24 H locs hu24 hP hD hS => ?_)
      obtain ⟨s25, pl⟩ := u24
      obtain ⟨⟨eq24, hFc24, ⟨x30, hx_30, hb_30⟩, ⟨x31, hx_31, hb_31⟩, -⟩, hO⟩ := hu24
      have hO : okn g T s25 pl := hO
      have hP : va_P g.1 vcl ([] ++ pl) _ := hP
      have hD : va_D _ ([] ++ pl) := hD
      have hFc24 : frm (M_MS_take pt) s24 s25 := hFc24
      have hb_30 : x30 ≤ x28 := hb_30
      have hb_31 : x31 = x28 := hb_31
      replace hR := bnd_step hR eq24
      have hF := frm_tr hF hFc24 (fun k hk => by unfold M_MS_take at hk; unfold M_MH_marked_0; omega)
      have hf55 : s25.1 225 23 = nI 0 := fc_F hf47 hFc24 (by unfold M_MS_take; omega)
      have hf56 : s25.1 225 24 = nI 4 := fc_F hf48 hFc24 (by unfold M_MS_take; omega)
      have hf57 : s25.1 225 25 = nI 4 := fc_F hf49 hFc24 (by unfold M_MS_take; omega)
      have hf58 : s25.1 225 26 = nI 2 := fc_F hf50 hFc24 (by unfold M_MS_take; omega)
      have hf59 : s25.1 225 27 = nI 131072 := fc_F hf51 hFc24 (by unfold M_MS_take; omega)
      have hf60 : s25.1 225 28 = nI 95232 := fc_F hf52 hFc24 (by unfold M_MS_take; omega)
      have hf61 : s25.1 225 29 = nI 78 := fc_F hf53 hFc24 (by unfold M_MS_take; omega)
      have hf62 : s25.1 225 30 = nI 32 := fc_F hf54 hFc24 (by unfold M_MS_take; omega)
      refine W.widen (k := 0) (n := 0) (by omega) (by omega) ?_
      exact mp_vret hx hb hr hlk hP hD hS (s25, pl) ⟨⟨hR.symm, hF, trivial⟩, hO⟩ [] rfl rfl rfl (by omega) (by omega) dMH_marked_163
    | succ n21 ih21 =>
      intro i21 s23 ps21 pl ls H locs hm21 hi21 hF hf63 hf64 hf65 hf66 hf67 hf68 hf69 hf70 hf71 hf72 hR hl hO hP hD hS
      refine lv_iload hx hb dMH_marked_38 (lv_at hl 0 rfl) ?_
      refine lv_aload_n hx hb dMH_marked_40 rfl (lv_at hl 2 rfl) ?_
      refine nw_get (C := "LatticeKeysModel$Hands") (TT := T_MH) (N := 31) hx hb hts (wg_ft i_MH) hown hK hO k_h0 (kn := 225) (ci := 12) (fl := [(3, 172), (3, 181), (3, 226), (3, 291), (3, 299), (3, 308), (3, 317), (3, 326), (3, 334), (3, 342), (3, 350), (3, 359), (3, 368), (3, 369), (3, 370), (3, 371), (3, 372), (3, 373), (3, 374), (3, 375), (3, 376), (3, 377), (3, 378), (0, 0), (0, 0), (0, 0), (0, 0), (0, 0), (0, 0), (0, 0), (0, 0)]) rfl hP rfl 24 (by decide) (hts _ (wg_t kw_1456)) (fun _ h9 => h9) (cd := (0, 0)) rfl dMH_marked_41 (fun v29 hv29 => ?_)
      obtain rfl := (show v29 = .int (s23.1 225 24) from hv29)
      obtain ⟨z24, ez24, hz27, hz28⟩ := cl_of (b := 2147483648) hf64 (by omega) (by decide)
      replace hR := bnd_step hR ez24
      refine mi_as hz27 ?_
      subst hz28
      refine mi_ge (tgt := 143) hx hb dMH_marked_44 (by decide) (by omega) (by omega) (fun h23 => absurd h23 (by omega)) (fun h23 => ?_)
      refine lv_iconst (v := nI 0) hx hb dMH_marked_47 (by decide) ?_
      refine lv_istore (lv' := [(5, .int (nI 0)), (4, .int (nI i21)), (3, .int (nI 6)), (0, .ref h0), (1, .int hd), (2, .ref to)]) hx hb dMH_marked_48 hl (by decide) rfl (fun ls hl => ?_)
      have lp22 : ∀ (n22 : Nat) (i22 : Nat) (s26 : Sto) (ps22 : Nat) (pl : va_W) (ls : Array Slot) (H : Heap) (locs : List Loc), n22 + i22 = 256 → (ps22 < 136) → frm (M_MH_marked_0 pt) s s26 → s26.1 225 23 = nI 0 → s26.1 225 24 = nI 4 → s26.1 225 25 = nI 4 → s26.1 225 26 = nI 2 → s26.1 225 27 = nI 131072 → s26.1 225 28 = nI 95232 → s26.1 225 29 = nI 78 → s26.1 225 30 = nI 32 → s26.1 172 6 = nI ps22 → s26.1 172 5 = nI x25 → F_MH_marked_0 hd pt s = F_MH_marked_0_L1 hd i21 (F_MH_marked_0_L0 hd pt n21) n22 i22 s26 → lv_has ls 6 [(5, .int (nI i22)), (4, .int (nI i21)), (3, .int (nI 6)), (0, .ref h0), (1, .int hd), (2, .ref to)] → okn g T s26 pl → va_P g.1 vcl ([] ++ pl) H → va_D A ([] ++ pl) → va_S A s0.heap H locs → W p l e ({ frames := 4, cells := 0, slots := 0, locals := 90 } : Room) s0 m args below meth c H locs 0 0 (MQ below (va_Qv (fun (u : (Sto) × va_W) => (u.1 = F_MH_marked_0 hd pt s ∧ frm (M_MH_marked_0 pt) s u.1 ∧ True) ∧ okn g T u.1 u.2) (po g.1 vcl A (fun (u : (Sto) × va_W) => [] ++ u.2)) A) args s0 0 0 A) (F0 m 50 ls []) := by
        intro n22
        induction n22 with
        | zero =>
          intro i22 s26 ps22 pl ls H locs hm22 hi22 hF hf73 hf74 hf75 hf76 hf77 hf78 hf79 hf80 hf81 hf82 hR hl hO hP hD hS
          refine lv_iload hx hb dMH_marked_50 (lv_at hl 0 rfl) ?_
          refine lv_sipush (v := nI 256) hx hb dMH_marked_52 (by decide) ?_
          refine mi_ge (tgt := 121) hx hb dMH_marked_55 (by decide) (by omega) (by omega) (fun h24 => ?_) (fun h24 => absurd h24 (by omega))
          refine lv_aload_n hx hb dMH_marked_121 rfl (lv_at hl 3 rfl) ?_
          refine nw_get (C := "LatticeKeysModel$Hands") (TT := T_MH) (N := 31) hx hb hts (wg_ft i_MH) hown hK hO k_h0 (kn := 225) (ci := 12) (fl := [(3, 172), (3, 181), (3, 226), (3, 291), (3, 299), (3, 308), (3, 317), (3, 326), (3, 334), (3, 342), (3, 350), (3, 359), (3, 368), (3, 369), (3, 370), (3, 371), (3, 372), (3, 373), (3, 374), (3, 375), (3, 376), (3, 377), (3, 378), (0, 0), (0, 0), (0, 0), (0, 0), (0, 0), (0, 0), (0, 0), (0, 0)]) rfl hP rfl 0 (by decide) (hts _ (wg_t kw_1432)) (fun _ h9 => h9) (cd := (3, 172)) rfl dMH_marked_122 (fun v30 hv30 => ?_)
          obtain ⟨r26, rfl, kr26⟩ := (show ∃ r : Nat, v30 = .ref r ∧ T r = some 172 from hv30)
          refine lv_aload_n hx hb dMH_marked_125 rfl (lv_at hl 3 rfl) ?_
          refine nw_get (C := "LatticeKeysModel$Hands") (TT := T_MH) (N := 31) hx hb hts (wg_ft i_MH) hown hK hO k_h0 (kn := 225) (ci := 12) (fl := [(3, 172), (3, 181), (3, 226), (3, 291), (3, 299), (3, 308), (3, 317), (3, 326), (3, 334), (3, 342), (3, 350), (3, 359), (3, 368), (3, 369), (3, 370), (3, 371), (3, 372), (3, 373), (3, 374), (3, 375), (3, 376), (3, 377), (3, 378), (0, 0), (0, 0), (0, 0), (0, 0), (0, 0), (0, 0), (0, 0), (0, 0)]) rfl hP rfl 19 (by decide) (hts _ (wg_t kw_1451)) (fun _ h9 => h9) (cd := (3, 375)) rfl dMH_marked_126 (fun v31 hv31 => ?_)
          obtain ⟨r27, rfl, kr27⟩ := (show ∃ r : Nat, v31 = .ref r ∧ T r = some 375 from hv31)
          refine lv_iconst (v := nI 0) hx hb dMH_marked_129 (by decide) ?_
          refine lv_bipush (v := nI 32) hx hb dMH_marked_130 (by decide) ?_
          refine lv_iload_n hx hb dMH_marked_132 rfl (lv_at hl 2 rfl) ?_
          refine mi_imul hx hb dMH_marked_133 ?_
          refine mi_as (show nI (32 * 6) = nI 192 from rfl) ?_
          refine mp_v (cx := []) (wr := []) hP hD hS hA [] [] rfl rfl rfl (by decide) (va_runV (As := [.ref r27, .int (nI 0), .int (nI 192)]) (rest := []) F (N_MS_puts l g _ T s26 pl hO hU r26 r27 375 640 0 192 ps22 x25 kr26 kr27 rfl hf81 hf82 (by omega) (by omega) (by omega) (by omega)) (cwV 3 hts (wg_app (wg_c kw_1719 (wg_c kw_1612 (wg_c kw_1613 (wg_c kw_10 wg_n)))) kw_1614) rfl rfl rfl (by decide +kernel) ⟨by decide, by decide⟩) (pn_W "LatticeKeysModel$Sponge" (en_ok g) (ci := 9) (kn := 172) (fl := [(3, 173), (3, 174), (3, 175), (3, 176), (3, 177), (0, 0), (0, 0), (0, 0)]) hK hO kr26 rfl hP hD hS hA hE [] rfl rfl rfl) rfl rfl hl.1 rfl (lv_room (Nat.le_of_ble_eq_true rfl)) dMH_marked_134 ⟨by omega, by omega⟩) (fun  u25 H locs hu25 hP hD hS => ?_)
          obtain ⟨s27, pl⟩ := u25
          obtain ⟨⟨eq25, hFc25, ⟨x33, hx_33, hb_33⟩, ⟨x34, hx_34, hb_34⟩, -⟩, hO⟩ := hu25
          have hO : okn g T s27 pl := hO
          have hP : va_P g.1 vcl ([] ++ pl) _ := hP
          have hD : va_D _ ([] ++ pl) := hD
          have hFc25 : frm (M_MS_puts) s26 s27 := hFc25
          have hb_33 : x33 < x25 := hb_33
          have hb_34 : x34 = x25 := hb_34
          replace hR := bnd_step hR eq25
          have hF := frm_tr hF hFc25 (fun k hk => by unfold M_MS_puts at hk; unfold M_MH_marked_0; omega)
          have hf83 : s27.1 225 23 = nI 0 := fc_F hf73 hFc25 (by unfold M_MS_puts; omega)
          have hf84 : s27.1 225 24 = nI 4 := fc_F hf74 hFc25 (by unfold M_MS_puts; omega)
          have hf85 : s27.1 225 25 = nI 4 := fc_F hf75 hFc25 (by unfold M_MS_puts; omega)
          have hf86 : s27.1 225 26 = nI 2 := fc_F hf76 hFc25 (by unfold M_MS_puts; omega)
          have hf87 : s27.1 225 27 = nI 131072 := fc_F hf77 hFc25 (by unfold M_MS_puts; omega)
          have hf88 : s27.1 225 28 = nI 95232 := fc_F hf78 hFc25 (by unfold M_MS_puts; omega)
          have hf89 : s27.1 225 29 = nI 78 := fc_F hf79 hFc25 (by unfold M_MS_puts; omega)
          have hf90 : s27.1 225 30 = nI 32 := fc_F hf80 hFc25 (by unfold M_MS_puts; omega)
          refine W.widen (k := 0) (n := 0) (by omega) (by omega) ?_
          refine mi_iinc (k := 1) (x := i21) (d := 1) (y := i21 + 1) (lv' := [(4, .int (nI (i21 + 1))), (5, .int (nI i22)), (3, .int (nI 6)), (0, .ref h0), (1, .int hd), (2, .ref to)]) hx hb dMH_marked_137 hl rfl (by decide) rfl (by decide) rfl (fun ls hl => ?_)
          refine lv_goto (tgt := 38) hx hb dMH_marked_140 (by decide) ?_
          exact ih21 (i21 + 1) s27 x33 pl ls H locs (by omega) (by omega) hF hf83 hf84 hf85 hf86 hf87 hf88 hf89 hf90 hx_33 (by have h9 := hx_34; rw [show x34 = x25 by omega] at h9; exact h9) hR (lv_sub hl [0, 2, 3, 4, 5] rfl) hO hP hD hS
        | succ n22 ih22 =>
          intro i22 s26 ps22 pl ls H locs hm22 hi22 hF hf91 hf92 hf93 hf94 hf95 hf96 hf97 hf98 hf99 hf100 hR hl hO hP hD hS
          refine lv_iload hx hb dMH_marked_50 (lv_at hl 0 rfl) ?_
          refine lv_sipush (v := nI 256) hx hb dMH_marked_52 (by decide) ?_
          refine mi_ge (tgt := 121) hx hb dMH_marked_55 (by decide) (by omega) (by omega) (fun h25 => absurd h25 (by omega)) (fun h25 => ?_)
          refine lv_aload_n hx hb dMH_marked_58 rfl (lv_at hl 3 rfl) ?_
          refine nw_get (C := "LatticeKeysModel$Hands") (TT := T_MH) (N := 31) hx hb hts (wg_ft i_MH) hown hK hO k_h0 (kn := 225) (ci := 12) (fl := [(3, 172), (3, 181), (3, 226), (3, 291), (3, 299), (3, 308), (3, 317), (3, 326), (3, 334), (3, 342), (3, 350), (3, 359), (3, 368), (3, 369), (3, 370), (3, 371), (3, 372), (3, 373), (3, 374), (3, 375), (3, 376), (3, 377), (3, 378), (0, 0), (0, 0), (0, 0), (0, 0), (0, 0), (0, 0), (0, 0), (0, 0)]) rfl hP rfl 19 (by decide) (hts _ (wg_t kw_1451)) (fun _ h9 => h9) (cd := (3, 375)) rfl dMH_marked_59 (fun v32 hv32 => ?_)
          obtain ⟨r28, rfl, kr28⟩ := (show ∃ r : Nat, v32 = .ref r ∧ T r = some 375 from hv32)
          refine lv_iload_n hx hb dMH_marked_62 rfl (lv_at hl 2 rfl) ?_
          refine lv_iload hx hb dMH_marked_63 (lv_at hl 0 rfl) ?_
          refine mi_imul hx hb dMH_marked_65 ?_
          refine lv_iload_n hx hb dMH_marked_66 rfl (lv_at hl 2 rfl) ?_
          refine lv_iload_n hx hb dMH_marked_67 rfl (lv_at hl 4 rfl) ?_
          refine lv_if_eq (tgt := 98) hx hb dMH_marked_68 (by decide) (fun h26 => ?_) (fun h26 => ?_)
          · replace hR := hR.trans (if_pos h26)
            refine lv_aload_n hx hb dMH_marked_98 rfl (lv_at hl 3 rfl) ?_
            refine lv_aload_n hx hb dMH_marked_99 rfl (lv_at hl 3 rfl) ?_
            refine nw_get (C := "LatticeKeysModel$Hands") (TT := T_MH) (N := 31) hx hb hts (wg_ft i_MH) hown hK hO k_h0 (kn := 225) (ci := 12) (fl := [(3, 172), (3, 181), (3, 226), (3, 291), (3, 299), (3, 308), (3, 317), (3, 326), (3, 334), (3, 342), (3, 350), (3, 359), (3, 368), (3, 369), (3, 370), (3, 371), (3, 372), (3, 373), (3, 374), (3, 375), (3, 376), (3, 377), (3, 378), (0, 0), (0, 0), (0, 0), (0, 0), (0, 0), (0, 0), (0, 0), (0, 0)]) rfl hP rfl 10 (by decide) (hts _ (wg_t kw_1442)) (fun _ h9 => h9) (cd := (3, 350)) rfl dMH_marked_100 (fun v33 hv33 => ?_)
            obtain ⟨r29, rfl, kr29⟩ := (show ∃ r : Nat, v33 = .ref r ∧ T r = some 350 from hv33)
            refine lv_iload hx hb dMH_marked_103 (lv_at hl 1 rfl) ?_
            refine nw_aald3 hx hb hK hO kr29 (k := 350) (b := 351) rfl hP (by omega) (by omega) dMH_marked_105 (fun r30 kr30 => ?_)
            have hn21 : nsp (351 + i21) = (0, 256, []) := rows_ok 351 8 (by decide) _ (by omega)
            refine lv_iload hx hb dMH_marked_106 (lv_at hl 0 rfl) ?_
            refine nw_iald hx hb hK hO kr30 (k := (351 + i21)) hn21 hP (by omega) (by omega) dMH_marked_108 ?_
            refine mp_i (cx := []) (wr := []) hP hD hS hA [] [] rfl rfl rfl (by decide) (va_runV (As := [.int ((s26.1 ((351 + i21)) i22))]) (rest := [.int (nI 6), .int (nI (6 * i22)), .ref r28]) F (N_MH_high_0 l g _ T s26 pl hO hU h0 (s26.1 ((351 + i21)) i22) k_h0 hf91 hf92 hf93 hf94 hf95 hf96 hf97 hf98) (cwV 1 hts (wg_app (wg_c kw_1885 (wg_c kw_1887 (wg_c ks_75 (wg_c kw_13 wg_n)))) kw_1888) rfl rfl rfl (by decide +kernel) ⟨by decide, by decide⟩) (pn_W "LatticeKeysModel$Hands" (en_ok g) (ci := 12) (kn := 225) (fl := [(3, 172), (3, 181), (3, 226), (3, 291), (3, 299), (3, 308), (3, 317), (3, 326), (3, 334), (3, 342), (3, 350), (3, 359), (3, 368), (3, 369), (3, 370), (3, 371), (3, 372), (3, 373), (3, 374), (3, 375), (3, 376), (3, 377), (3, 378), (0, 0), (0, 0), (0, 0), (0, 0), (0, 0), (0, 0), (0, 0), (0, 0)]) hK hO k_h0 rfl hP hD hS hA hE [] rfl rfl rfl) rfl rfl hl.1 rfl (lv_room (Nat.le_of_ble_eq_true rfl)) dMH_marked_109 ⟨by omega, by omega⟩) (fun r31 u26 H locs hu26 hP hD hS => ?_)
            obtain ⟨q21, pl⟩ := u26
            obtain ⟨⟨eq26, rfl, hFc26, -⟩, hO⟩ := hu26
            have hO : okn g T q21.2 pl := hO
            have hP : va_P g.1 vcl ([] ++ pl) _ := hP
            have hD : va_D _ ([] ++ pl) := hD
            have hFc26 : frm (M_MH_high_0) s26 q21.2 := hFc26
            replace hR := bnd_step hR eq26
            have hF := frm_tr hF hFc26 (fun k hk => by unfold M_MH_high_0 at hk; unfold M_MH_marked_0; omega)
            have hf101 : q21.2.1 225 23 = nI 0 := fc_F hf91 hFc26 (by unfold M_MH_high_0; omega)
            have hf102 : q21.2.1 225 24 = nI 4 := fc_F hf92 hFc26 (by unfold M_MH_high_0; omega)
            have hf103 : q21.2.1 225 25 = nI 4 := fc_F hf93 hFc26 (by unfold M_MH_high_0; omega)
            have hf104 : q21.2.1 225 26 = nI 2 := fc_F hf94 hFc26 (by unfold M_MH_high_0; omega)
            have hf105 : q21.2.1 225 27 = nI 131072 := fc_F hf95 hFc26 (by unfold M_MH_high_0; omega)
            have hf106 : q21.2.1 225 28 = nI 95232 := fc_F hf96 hFc26 (by unfold M_MH_high_0; omega)
            have hf107 : q21.2.1 225 29 = nI 78 := fc_F hf97 hFc26 (by unfold M_MH_high_0; omega)
            have hf108 : q21.2.1 225 30 = nI 32 := fc_F hf98 hFc26 (by unfold M_MH_high_0; omega)
            have hf109 : q21.2.1 172 6 = nI ps22 := fc_F hf99 hFc26 (by unfold M_MH_high_0; omega)
            have hf110 : q21.2.1 172 5 = nI x25 := fc_F hf100 hFc26 (by unfold M_MH_high_0; omega)
            refine W.widen (k := 0) (n := 0) (by omega) (by omega) ?_
            refine mp_v (cx := []) (wr := []) hP hD hS hA [] [] rfl rfl rfl (by decide) (va_runSN (As := [.ref r28, .int (nI (6 * i22)), .int (nI 6), .int q21.1]) (rest := []) F (N_M_pack l g _ T q21.2 pl hO hU r28 375 640 (6 * i22) 6 (q21.1) kr28 rfl (by omega) (by omega)) ⟨va_cnB 4 hts (wg_in kw_1690) rfl rfl rfl (hE.2.2.2.2.2.2.2.2.2.1) (hts _ (wg_t kw_9)) (by decide +kernel) ⟨by decide, by decide⟩, hts _ (wg_t kw_1689), trivial⟩ (pp_S (en_ok g) hP hD hS hA hE [] rfl rfl) rfl rfl hl.1 rfl (lv_room (Nat.le_of_ble_eq_true rfl)) dMH_marked_112 ⟨by omega, by omega⟩) (fun  u27 H locs hu27 hP hD hS => ?_)
            obtain ⟨s28, pl⟩ := u27
            obtain ⟨⟨eq27, hFc27, -⟩, hO⟩ := hu27
            have hO : okn g T s28 pl := hO
            have hP : va_P g.1 vcl ([] ++ pl) _ := hP
            have hD : va_D _ ([] ++ pl) := hD
            have hFc27 : frm (M_M_pack 375) q21.2 s28 := hFc27
            replace hR := bnd_step hR eq27
            have hF := frm_tr hF hFc27 (fun k hk => by unfold M_M_pack at hk; unfold M_MH_marked_0; omega)
            have hf111 : s28.1 225 23 = nI 0 := fc_F hf101 hFc27 (by unfold M_M_pack; omega)
            have hf112 : s28.1 225 24 = nI 4 := fc_F hf102 hFc27 (by unfold M_M_pack; omega)
            have hf113 : s28.1 225 25 = nI 4 := fc_F hf103 hFc27 (by unfold M_M_pack; omega)
            have hf114 : s28.1 225 26 = nI 2 := fc_F hf104 hFc27 (by unfold M_M_pack; omega)
            have hf115 : s28.1 225 27 = nI 131072 := fc_F hf105 hFc27 (by unfold M_M_pack; omega)
            have hf116 : s28.1 225 28 = nI 95232 := fc_F hf106 hFc27 (by unfold M_M_pack; omega)
            have hf117 : s28.1 225 29 = nI 78 := fc_F hf107 hFc27 (by unfold M_M_pack; omega)
            have hf118 : s28.1 225 30 = nI 32 := fc_F hf108 hFc27 (by unfold M_M_pack; omega)
            have hf119 : s28.1 172 6 = nI ps22 := fc_F hf109 hFc27 (by unfold M_M_pack; omega)
            have hf120 : s28.1 172 5 = nI x25 := fc_F hf110 hFc27 (by unfold M_M_pack; omega)
            refine W.widen (k := 0) (n := 0) (by omega) (by omega) ?_
            refine mi_iinc (k := 0) (x := i22) (d := 1) (y := i22 + 1) (lv' := [(5, .int (nI (i22 + 1))), (4, .int (nI i21)), (3, .int (nI 6)), (0, .ref h0), (1, .int hd), (2, .ref to)]) hx hb dMH_marked_115 hl rfl (by decide) rfl (by decide) rfl (fun ls hl => ?_)
            refine lv_goto (tgt := 50) hx hb dMH_marked_118 (by decide) ?_
            exact ih22 (i22 + 1) s28 ps22 pl ls H locs (by omega) (by omega) hF hf111 hf112 hf113 hf114 hf115 hf116 hf117 hf118 hf119 hf120 hR (lv_sub hl [0, 1, 2, 3, 4, 5] rfl) hO hP hD hS
          · replace hR := hR.trans (if_neg h26)
            refine lv_aload_n hx hb dMH_marked_71 rfl (lv_at hl 3 rfl) ?_
            refine lv_aload_n hx hb dMH_marked_72 rfl (lv_at hl 3 rfl) ?_
            refine nw_get (C := "LatticeKeysModel$Hands") (TT := T_MH) (N := 31) hx hb hts (wg_ft i_MH) hown hK hO k_h0 (kn := 225) (ci := 12) (fl := [(3, 172), (3, 181), (3, 226), (3, 291), (3, 299), (3, 308), (3, 317), (3, 326), (3, 334), (3, 342), (3, 350), (3, 359), (3, 368), (3, 369), (3, 370), (3, 371), (3, 372), (3, 373), (3, 374), (3, 375), (3, 376), (3, 377), (3, 378), (0, 0), (0, 0), (0, 0), (0, 0), (0, 0), (0, 0), (0, 0), (0, 0)]) rfl hP rfl 11 (by decide) (hts _ (wg_t kw_1443)) (fun _ h9 => h9) (cd := (3, 359)) rfl dMH_marked_73 (fun v34 hv34 => ?_)
            obtain ⟨r32, rfl, kr31⟩ := (show ∃ r : Nat, v34 = .ref r ∧ T r = some 359 from hv34)
            refine lv_iload hx hb dMH_marked_76 (lv_at hl 1 rfl) ?_
            refine nw_aald3 hx hb hK hO kr31 (k := 359) (b := 360) rfl hP (by omega) (by omega) dMH_marked_78 (fun r33 kr32 => ?_)
            have hn22 : nsp (360 + i21) = (0, 256, []) := rows_ok 360 8 (by decide) _ (by omega)
            refine lv_iload hx hb dMH_marked_79 (lv_at hl 0 rfl) ?_
            refine nw_iald hx hb hK hO kr32 (k := (360 + i21)) hn22 hP (by omega) (by omega) dMH_marked_81 ?_
            refine lv_aload_n hx hb dMH_marked_82 rfl (lv_at hl 3 rfl) ?_
            refine nw_get (C := "LatticeKeysModel$Hands") (TT := T_MH) (N := 31) hx hb hts (wg_ft i_MH) hown hK hO k_h0 (kn := 225) (ci := 12) (fl := [(3, 172), (3, 181), (3, 226), (3, 291), (3, 299), (3, 308), (3, 317), (3, 326), (3, 334), (3, 342), (3, 350), (3, 359), (3, 368), (3, 369), (3, 370), (3, 371), (3, 372), (3, 373), (3, 374), (3, 375), (3, 376), (3, 377), (3, 378), (0, 0), (0, 0), (0, 0), (0, 0), (0, 0), (0, 0), (0, 0), (0, 0)]) rfl hP rfl 10 (by decide) (hts _ (wg_t kw_1442)) (fun _ h9 => h9) (cd := (3, 350)) rfl dMH_marked_83 (fun v35 hv35 => ?_)
            obtain ⟨r34, rfl, kr33⟩ := (show ∃ r : Nat, v35 = .ref r ∧ T r = some 350 from hv35)
            refine lv_iload hx hb dMH_marked_86 (lv_at hl 1 rfl) ?_
            refine nw_aald3 hx hb hK hO kr33 (k := 350) (b := 351) rfl hP (by omega) (by omega) dMH_marked_88 (fun r35 kr34 => ?_)
            have hn23 : nsp (351 + i21) = (0, 256, []) := rows_ok 351 8 (by decide) _ (by omega)
            refine lv_iload hx hb dMH_marked_89 (lv_at hl 0 rfl) ?_
            refine nw_iald hx hb hK hO kr34 (k := (351 + i21)) hn23 hP (by omega) (by omega) dMH_marked_91 ?_
            refine mp_i (cx := []) (wr := []) hP hD hS hA [] [] rfl rfl rfl (by decide) (va_runV (As := [.int ((s26.1 ((360 + i21)) i22)), .int ((s26.1 ((351 + i21)) i22))]) (rest := [.int (nI 6), .int (nI (6 * i22)), .ref r28]) F (N_MH_used_0 l g _ T s26 pl hO hU h0 (s26.1 ((360 + i21)) i22) (s26.1 ((351 + i21)) i22) k_h0 hf91 hf92 hf93 hf94 hf95 hf96 hf97 hf98) (cwV 2 hts (wg_app (wg_c kw_1880 (wg_c kw_1882 (wg_c ks_74 (wg_c kw_13 wg_n)))) kw_1883) rfl rfl rfl (by decide +kernel) ⟨by decide, by decide⟩) (pn_W "LatticeKeysModel$Hands" (en_ok g) (ci := 12) (kn := 225) (fl := [(3, 172), (3, 181), (3, 226), (3, 291), (3, 299), (3, 308), (3, 317), (3, 326), (3, 334), (3, 342), (3, 350), (3, 359), (3, 368), (3, 369), (3, 370), (3, 371), (3, 372), (3, 373), (3, 374), (3, 375), (3, 376), (3, 377), (3, 378), (0, 0), (0, 0), (0, 0), (0, 0), (0, 0), (0, 0), (0, 0), (0, 0)]) hK hO k_h0 rfl hP hD hS hA hE [] rfl rfl rfl) rfl rfl hl.1 rfl (lv_room (Nat.le_of_ble_eq_true rfl)) dMH_marked_92 ⟨by omega, by omega⟩) (fun r36 u28 H locs hu28 hP hD hS => ?_)
            obtain ⟨q22, pl⟩ := u28
            obtain ⟨⟨eq28, rfl, hFc28, -⟩, hO⟩ := hu28
            have hO : okn g T q22.2 pl := hO
            have hP : va_P g.1 vcl ([] ++ pl) _ := hP
            have hD : va_D _ ([] ++ pl) := hD
            have hFc28 : frm (M_MH_used_0) s26 q22.2 := hFc28
            replace hR := bnd_step hR eq28
            have hF := frm_tr hF hFc28 (fun k hk => by unfold M_MH_used_0 at hk; unfold M_MH_marked_0; omega)
            have hf121 : q22.2.1 225 23 = nI 0 := fc_F hf91 hFc28 (by unfold M_MH_used_0; omega)
            have hf122 : q22.2.1 225 24 = nI 4 := fc_F hf92 hFc28 (by unfold M_MH_used_0; omega)
            have hf123 : q22.2.1 225 25 = nI 4 := fc_F hf93 hFc28 (by unfold M_MH_used_0; omega)
            have hf124 : q22.2.1 225 26 = nI 2 := fc_F hf94 hFc28 (by unfold M_MH_used_0; omega)
            have hf125 : q22.2.1 225 27 = nI 131072 := fc_F hf95 hFc28 (by unfold M_MH_used_0; omega)
            have hf126 : q22.2.1 225 28 = nI 95232 := fc_F hf96 hFc28 (by unfold M_MH_used_0; omega)
            have hf127 : q22.2.1 225 29 = nI 78 := fc_F hf97 hFc28 (by unfold M_MH_used_0; omega)
            have hf128 : q22.2.1 225 30 = nI 32 := fc_F hf98 hFc28 (by unfold M_MH_used_0; omega)
            have hf129 : q22.2.1 172 6 = nI ps22 := fc_F hf99 hFc28 (by unfold M_MH_used_0; omega)
            have hf130 : q22.2.1 172 5 = nI x25 := fc_F hf100 hFc28 (by unfold M_MH_used_0; omega)
            refine W.widen (k := 0) (n := 0) (by omega) (by omega) ?_
            refine lv_goto (tgt := 112) hx hb dMH_marked_95 (by decide) ?_
            refine mp_v (cx := []) (wr := []) hP hD hS hA [] [] rfl rfl rfl (by decide) (va_runSN (As := [.ref r28, .int (nI (6 * i22)), .int (nI 6), .int q22.1]) (rest := []) F (N_M_pack l g _ T q22.2 pl hO hU r28 375 640 (6 * i22) 6 (q22.1) kr28 rfl (by omega) (by omega)) ⟨va_cnB 4 hts (wg_in kw_1690) rfl rfl rfl (hE.2.2.2.2.2.2.2.2.2.1) (hts _ (wg_t kw_9)) (by decide +kernel) ⟨by decide, by decide⟩, hts _ (wg_t kw_1689), trivial⟩ (pp_S (en_ok g) hP hD hS hA hE [] rfl rfl) rfl rfl hl.1 rfl (lv_room (Nat.le_of_ble_eq_true rfl)) dMH_marked_112 ⟨by omega, by omega⟩) (fun  u29 H locs hu29 hP hD hS => ?_)
            obtain ⟨s29, pl⟩ := u29
            obtain ⟨⟨eq29, hFc29, -⟩, hO⟩ := hu29
            have hO : okn g T s29 pl := hO
            have hP : va_P g.1 vcl ([] ++ pl) _ := hP
            have hD : va_D _ ([] ++ pl) := hD
            have hFc29 : frm (M_M_pack 375) q22.2 s29 := hFc29
            replace hR := bnd_step hR eq29
            have hF := frm_tr hF hFc29 (fun k hk => by unfold M_M_pack at hk; unfold M_MH_marked_0; omega)
            have hf131 : s29.1 225 23 = nI 0 := fc_F hf121 hFc29 (by unfold M_M_pack; omega)
            have hf132 : s29.1 225 24 = nI 4 := fc_F hf122 hFc29 (by unfold M_M_pack; omega)
            have hf133 : s29.1 225 25 = nI 4 := fc_F hf123 hFc29 (by unfold M_M_pack; omega)
            have hf134 : s29.1 225 26 = nI 2 := fc_F hf124 hFc29 (by unfold M_M_pack; omega)
            have hf135 : s29.1 225 27 = nI 131072 := fc_F hf125 hFc29 (by unfold M_M_pack; omega)
            have hf136 : s29.1 225 28 = nI 95232 := fc_F hf126 hFc29 (by unfold M_M_pack; omega)
            have hf137 : s29.1 225 29 = nI 78 := fc_F hf127 hFc29 (by unfold M_M_pack; omega)
            have hf138 : s29.1 225 30 = nI 32 := fc_F hf128 hFc29 (by unfold M_M_pack; omega)
            have hf139 : s29.1 172 6 = nI ps22 := fc_F hf129 hFc29 (by unfold M_M_pack; omega)
            have hf140 : s29.1 172 5 = nI x25 := fc_F hf130 hFc29 (by unfold M_M_pack; omega)
            refine W.widen (k := 0) (n := 0) (by omega) (by omega) ?_
            refine mi_iinc (k := 0) (x := i22) (d := 1) (y := i22 + 1) (lv' := [(5, .int (nI (i22 + 1))), (4, .int (nI i21)), (3, .int (nI 6)), (0, .ref h0), (1, .int hd), (2, .ref to)]) hx hb dMH_marked_115 hl rfl (by decide) rfl (by decide) rfl (fun ls hl => ?_)
            refine lv_goto (tgt := 50) hx hb dMH_marked_118 (by decide) ?_
            exact ih22 (i22 + 1) s29 ps22 pl ls H locs (by omega) (by omega) hF hf131 hf132 hf133 hf134 hf135 hf136 hf137 hf138 hf139 hf140 hR (lv_sub hl [0, 1, 2, 3, 4, 5] rfl) hO hP hD hS
      exact lp22 256 0 s23 ps21 pl ls _ _ (by omega) (by omega) hF hf63 hf64 hf65 hf66 hf67 hf68 hf69 hf70 hf71 hf72 hR (lv_sub hl [0, 1, 2, 3, 4, 5] rfl) hO hP hD hS
  exact lp21 4 0 s22 x24 pl ls _ _ (by omega) (by omega) hF hf29 hf30 hf31 hf32 hf33 hf34 hf35 hf36 hx_24 hx_25 hR (lv_sub hl [0, 1, 2, 3, 4] rfl) hO hP hD hS
def M_MH_marked_1 (pt : Nat) (k : Nat) : Prop := k = 172 ∨ k = 375 ∨ k = pt ∨ (0 : Nat) = 1
noncomputable def F_MH_marked_1_L1 (hd : Int32) (i21 : Nat) (kk : Nat → Sto → Sto) : Nat → Nat → Sto → Sto
  | 0, i22, s26 => bnd (F_MS_puts 375 640 0 128 s26) fun s27 => kk (i21 + 1) s27
  | n22 + 1, i22, s26 => if hd = 0 then bnd (F_MH_high_1 (s26.1 ((351 + i21)) i22) s26) fun q21 => bnd (F_M_pack 375 640 (4 * i22) 4 (q21.1) q21.2) fun s28 => F_MH_marked_1_L1 hd i21 kk n22 (i22 + 1) s28 else bnd (F_MH_used_1 (s26.1 ((360 + i21)) i22) (s26.1 ((351 + i21)) i22) s26) fun q22 => bnd (F_M_pack 375 640 (4 * i22) 4 (q22.1) q22.2) fun s29 => F_MH_marked_1_L1 hd i21 kk n22 (i22 + 1) s29
noncomputable def F_MH_marked_1_L0 (hd : Int32) (pt : Nat) : Nat → Nat → Sto → Sto
  | 0, i21, s23 => bnd ((s23.1 225 24).toNatClampNeg) fun z22 => bnd (F_MS_end  s23) fun s24 => bnd ((s24.1 225 30).toNatClampNeg) fun z23 => bnd (F_MS_take pt 64 0 48 s24) fun s25 => s25
  | n21 + 1, i21, s23 => bnd ((s23.1 225 24).toNatClampNeg) fun z24 => F_MH_marked_1_L1 hd i21 (F_MH_marked_1_L0 hd pt n21) 256 0 s23
noncomputable def F_MH_marked_1 (hd : Int32) (pt : Nat) (s : Sto) : Sto := bnd ((s.1 225 23).toNatClampNeg) fun z21 => bnd (F_MS_shake  s) fun s21 => bnd (F_MS_puts 373 64 0 64 s21) fun s22 => F_MH_marked_1_L0 hd pt 6 0 s22
set_option maxHeartbeats 8000000 in
set_option maxRecDepth 100000 in
theorem N_MH_marked_1 (l : Launch) (g : Gd) (sz : Nat) (T : TyN) (s : Sto) (pl : va_W) (hO : okn g T s pl) (hU : inj T) (h0 to : Nat) (hd : Int32) (pt : Nat) (k_h0 : T h0 = some 225) (k_to : T to = some pt) (n_to : nsp pt = (1, 64, [])) (e_c0 : s.1 225 23 = nI 1) (e_c1 : s.1 225 24 = nI 6) (e_c2 : s.1 225 25 = nI 5) (e_c3 : s.1 225 26 = nI 4) (e_c4 : s.1 225 27 = nI 524288) (e_c5 : s.1 225 28 = nI 261888) (e_c6 : s.1 225 29 = nI 196) (e_c7 : s.1 225 30 = nI 48)  : Met l y_MH_marked w_MH_marked ({ frames := 4, cells := 0, slots := 0, locals := 90 } : Room) (va_Pc [.ref h0, .int hd, .ref to] (pr (en g) g.1 vcl sz ([] ++ pl))) (va_Qv (fun (u : (Sto) × va_W) => (u.1 = F_MH_marked_1 hd pt s ∧ frm (M_MH_marked_1 pt) s u.1 ∧ True) ∧ okn g T u.1 u.2) (po g.1 vcl (va_A ([] ++ pl) sz) (fun (u : (Sto) × va_W) => [] ++ u.2)) (va_A ([] ++ pl) sz)) 0 0 (va_A ([] ++ pl) sz) := by
  refine mc_entry (cc := c_MH_marked) (maxL := 6) (ret := none) (by decide) rfl (Nat.le_of_ble_eq_true rfl) ?_
  intro p e s0 m args below meth c ls F hr hlk hnm hsz hP hD hE hA hl
  obtain ⟨hx, hb, hml, hown, hts⟩ := id F
  have hK := hE.1
  generalize va_A ([] ++ pl) sz = A at hD hE hA ⊢
  have hS : va_S A s0.heap s0.heap [] := va_S.rf
  have hl : lv_has ls 6 [(0, .ref h0), (1, .int hd), (2, .ref to)] := hl
  have hR : F_MH_marked_1 hd pt s = F_MH_marked_1 hd pt s := rfl
  have hF : frm (M_MH_marked_1 pt) s s := frm_rf
  have ne_172_pt : 172 ≠ pt := nsp_ne (p := 172) rfl n_to (show (5 : Nat) ≠ 1 by decide)
  have ne_225_pt : 225 ≠ pt := nsp_ne (p := 225) rfl n_to (show (5 : Nat) ≠ 1 by decide)
  refine lv_aload_n hx hb dMH_marked_0 rfl (lv_at hl 0 rfl) ?_
  refine nw_get (C := "LatticeKeysModel$Hands") (TT := T_MH) (N := 31) hx hb hts (wg_ft i_MH) hown hK hO k_h0 (kn := 225) (ci := 12) (fl := [(3, 172), (3, 181), (3, 226), (3, 291), (3, 299), (3, 308), (3, 317), (3, 326), (3, 334), (3, 342), (3, 350), (3, 359), (3, 368), (3, 369), (3, 370), (3, 371), (3, 372), (3, 373), (3, 374), (3, 375), (3, 376), (3, 377), (3, 378), (0, 0), (0, 0), (0, 0), (0, 0), (0, 0), (0, 0), (0, 0), (0, 0)]) rfl hP rfl 23 (by decide) (hts _ (wg_t kw_1455)) (fun _ h9 => h9) (cd := (0, 0)) rfl dMH_marked_1 (fun v21 hv21 => ?_)
  obtain rfl := (show v21 = .int (s.1 225 23) from hv21)
  obtain ⟨z21, ez21, hz21, hz22⟩ := cl_of (b := 2147483648) e_c0 (by omega) (by decide)
  replace hR := bnd_step hR ez21
  refine mi_as hz21 ?_
  subst hz22
  refine lv_if_ne (tgt := 12) hx hb dMH_marked_4 (by decide) (fun h21 => ?_) (fun h21 => absurd h21 (by decide))
  refine lv_iconst (v := nI 4) hx hb dMH_marked_12 (by decide) ?_
  refine lv_istore_n (lv' := [(3, .int (nI 4)), (0, .ref h0), (1, .int hd), (2, .ref to)]) hx hb dMH_marked_13 rfl hl (by decide) rfl (fun ls hl => ?_)
  refine lv_aload_n hx hb dMH_marked_14 rfl (lv_at hl 1 rfl) ?_
  refine nw_get (C := "LatticeKeysModel$Hands") (TT := T_MH) (N := 31) hx hb hts (wg_ft i_MH) hown hK hO k_h0 (kn := 225) (ci := 12) (fl := [(3, 172), (3, 181), (3, 226), (3, 291), (3, 299), (3, 308), (3, 317), (3, 326), (3, 334), (3, 342), (3, 350), (3, 359), (3, 368), (3, 369), (3, 370), (3, 371), (3, 372), (3, 373), (3, 374), (3, 375), (3, 376), (3, 377), (3, 378), (0, 0), (0, 0), (0, 0), (0, 0), (0, 0), (0, 0), (0, 0), (0, 0)]) rfl hP rfl 0 (by decide) (hts _ (wg_t kw_1432)) (fun _ h9 => h9) (cd := (3, 172)) rfl dMH_marked_15 (fun v22 hv22 => ?_)
  obtain ⟨r21, rfl, kr21⟩ := (show ∃ r : Nat, v22 = .ref r ∧ T r = some 172 from hv22)
  refine mp_v (cx := []) (wr := []) hP hD hS hA [] [] rfl rfl rfl (by decide) (va_runV (As := []) (rest := []) F (N_MS_shake l g _ T s pl hO hU r21 kr21) (cwV 0 hts (wg_app (wg_c kw_1718 (wg_c kw_1661 (wg_c kw_1662 (wg_c kw_10 wg_n)))) kw_1663) rfl rfl rfl (by decide +kernel) ⟨by decide, by decide⟩) (pn_W "LatticeKeysModel$Sponge" (en_ok g) (ci := 9) (kn := 172) (fl := [(3, 173), (3, 174), (3, 175), (3, 176), (3, 177), (0, 0), (0, 0), (0, 0)]) hK hO kr21 rfl hP hD hS hA hE [] rfl rfl rfl) rfl rfl hl.1 rfl (lv_room (Nat.le_of_ble_eq_true rfl)) dMH_marked_18 ⟨by omega, by omega⟩) (fun  u21 H locs hu21 hP hD hS => ?_)
  obtain ⟨s21, pl⟩ := u21
  obtain ⟨⟨eq21, hFc21, ⟨x21, hx_21, hb_21⟩, ⟨x22, hx_22, hb_22⟩, -⟩, hO⟩ := hu21
  have hO : okn g T s21 pl := hO
  have hP : va_P g.1 vcl ([] ++ pl) _ := hP
  have hD : va_D _ ([] ++ pl) := hD
  have hFc21 : frm (M_MS_shake) s s21 := hFc21
  have hb_21 : x21 = 0 := hb_21
  have hb_22 : x22 = 136 := hb_22
  replace hR := bnd_step hR eq21
  have hF := frm_tr hF hFc21 (fun k hk => by unfold M_MS_shake at hk; unfold M_MH_marked_1; omega)
  have hf21 : s21.1 225 23 = nI 1 := fc_F e_c0 hFc21 (by unfold M_MS_shake; omega)
  have hf22 : s21.1 225 24 = nI 6 := fc_F e_c1 hFc21 (by unfold M_MS_shake; omega)
  have hf23 : s21.1 225 25 = nI 5 := fc_F e_c2 hFc21 (by unfold M_MS_shake; omega)
  have hf24 : s21.1 225 26 = nI 4 := fc_F e_c3 hFc21 (by unfold M_MS_shake; omega)
  have hf25 : s21.1 225 27 = nI 524288 := fc_F e_c4 hFc21 (by unfold M_MS_shake; omega)
  have hf26 : s21.1 225 28 = nI 261888 := fc_F e_c5 hFc21 (by unfold M_MS_shake; omega)
  have hf27 : s21.1 225 29 = nI 196 := fc_F e_c6 hFc21 (by unfold M_MS_shake; omega)
  have hf28 : s21.1 225 30 = nI 48 := fc_F e_c7 hFc21 (by unfold M_MS_shake; omega)
  refine W.widen (k := 0) (n := 0) (by omega) (by omega) ?_
  refine lv_aload_n hx hb dMH_marked_21 rfl (lv_at hl 1 rfl) ?_
  refine nw_get (C := "LatticeKeysModel$Hands") (TT := T_MH) (N := 31) hx hb hts (wg_ft i_MH) hown hK hO k_h0 (kn := 225) (ci := 12) (fl := [(3, 172), (3, 181), (3, 226), (3, 291), (3, 299), (3, 308), (3, 317), (3, 326), (3, 334), (3, 342), (3, 350), (3, 359), (3, 368), (3, 369), (3, 370), (3, 371), (3, 372), (3, 373), (3, 374), (3, 375), (3, 376), (3, 377), (3, 378), (0, 0), (0, 0), (0, 0), (0, 0), (0, 0), (0, 0), (0, 0), (0, 0)]) rfl hP rfl 0 (by decide) (hts _ (wg_t kw_1432)) (fun _ h9 => h9) (cd := (3, 172)) rfl dMH_marked_22 (fun v23 hv23 => ?_)
  obtain ⟨r22, rfl, kr22⟩ := (show ∃ r : Nat, v23 = .ref r ∧ T r = some 172 from hv23)
  refine lv_aload_n hx hb dMH_marked_25 rfl (lv_at hl 1 rfl) ?_
  refine nw_get (C := "LatticeKeysModel$Hands") (TT := T_MH) (N := 31) hx hb hts (wg_ft i_MH) hown hK hO k_h0 (kn := 225) (ci := 12) (fl := [(3, 172), (3, 181), (3, 226), (3, 291), (3, 299), (3, 308), (3, 317), (3, 326), (3, 334), (3, 342), (3, 350), (3, 359), (3, 368), (3, 369), (3, 370), (3, 371), (3, 372), (3, 373), (3, 374), (3, 375), (3, 376), (3, 377), (3, 378), (0, 0), (0, 0), (0, 0), (0, 0), (0, 0), (0, 0), (0, 0), (0, 0)]) rfl hP rfl 17 (by decide) (hts _ (wg_t kw_1449)) (fun _ h9 => h9) (cd := (3, 373)) rfl dMH_marked_26 (fun v24 hv24 => ?_)
  obtain ⟨r23, rfl, kr23⟩ := (show ∃ r : Nat, v24 = .ref r ∧ T r = some 373 from hv24)
  refine lv_iconst (v := nI 0) hx hb dMH_marked_29 (by decide) ?_
  refine lv_bipush (v := nI 64) hx hb dMH_marked_30 (by decide) ?_
  refine mp_v (cx := []) (wr := []) hP hD hS hA [] [] rfl rfl rfl (by decide) (va_runV (As := [.ref r23, .int (nI 0), .int (nI 64)]) (rest := []) F (N_MS_puts l g _ T s21 pl hO hU r22 r23 373 64 0 64 x21 x22 kr22 kr23 rfl hx_21 hx_22 (by omega) (by omega) (by omega) (by omega)) (cwV 3 hts (wg_app (wg_c kw_1719 (wg_c kw_1612 (wg_c kw_1613 (wg_c kw_10 wg_n)))) kw_1614) rfl rfl rfl (by decide +kernel) ⟨by decide, by decide⟩) (pn_W "LatticeKeysModel$Sponge" (en_ok g) (ci := 9) (kn := 172) (fl := [(3, 173), (3, 174), (3, 175), (3, 176), (3, 177), (0, 0), (0, 0), (0, 0)]) hK hO kr22 rfl hP hD hS hA hE [] rfl rfl rfl) rfl rfl hl.1 rfl (lv_room (Nat.le_of_ble_eq_true rfl)) dMH_marked_32 ⟨by omega, by omega⟩) (fun  u22 H locs hu22 hP hD hS => ?_)
  obtain ⟨s22, pl⟩ := u22
  obtain ⟨⟨eq22, hFc22, ⟨x24, hx_24, hb_24⟩, ⟨x25, hx_25, hb_25⟩, -⟩, hO⟩ := hu22
  have hO : okn g T s22 pl := hO
  have hP : va_P g.1 vcl ([] ++ pl) _ := hP
  have hD : va_D _ ([] ++ pl) := hD
  have hFc22 : frm (M_MS_puts) s21 s22 := hFc22
  have hb_24 : x24 < x22 := hb_24
  have hb_25 : x25 = x22 := hb_25
  replace hR := bnd_step hR eq22
  have hF := frm_tr hF hFc22 (fun k hk => by unfold M_MS_puts at hk; unfold M_MH_marked_1; omega)
  have hf29 : s22.1 225 23 = nI 1 := fc_F hf21 hFc22 (by unfold M_MS_puts; omega)
  have hf30 : s22.1 225 24 = nI 6 := fc_F hf22 hFc22 (by unfold M_MS_puts; omega)
  have hf31 : s22.1 225 25 = nI 5 := fc_F hf23 hFc22 (by unfold M_MS_puts; omega)
  have hf32 : s22.1 225 26 = nI 4 := fc_F hf24 hFc22 (by unfold M_MS_puts; omega)
  have hf33 : s22.1 225 27 = nI 524288 := fc_F hf25 hFc22 (by unfold M_MS_puts; omega)
  have hf34 : s22.1 225 28 = nI 261888 := fc_F hf26 hFc22 (by unfold M_MS_puts; omega)
  have hf35 : s22.1 225 29 = nI 196 := fc_F hf27 hFc22 (by unfold M_MS_puts; omega)
  have hf36 : s22.1 225 30 = nI 48 := fc_F hf28 hFc22 (by unfold M_MS_puts; omega)
  refine W.widen (k := 0) (n := 0) (by omega) (by omega) ?_
  refine lv_iconst (v := nI 0) hx hb dMH_marked_35 (by decide) ?_
  refine lv_istore (lv' := [(4, .int (nI 0)), (3, .int (nI 4)), (0, .ref h0), (1, .int hd), (2, .ref to)]) hx hb dMH_marked_36 hl (by decide) rfl (fun ls hl => ?_)
  have lp21 : ∀ (n21 : Nat) (i21 : Nat) (s23 : Sto) (ps21 : Nat) (pl : va_W) (ls : Array Slot) (H : Heap) (locs : List Loc), n21 + i21 = 6 → (ps21 < 136) → frm (M_MH_marked_1 pt) s s23 → s23.1 225 23 = nI 1 → s23.1 225 24 = nI 6 → s23.1 225 25 = nI 5 → s23.1 225 26 = nI 4 → s23.1 225 27 = nI 524288 → s23.1 225 28 = nI 261888 → s23.1 225 29 = nI 196 → s23.1 225 30 = nI 48 → s23.1 172 6 = nI ps21 → s23.1 172 5 = nI x25 → F_MH_marked_1 hd pt s = F_MH_marked_1_L0 hd pt n21 i21 s23 → lv_has ls 6 [(4, .int (nI i21)), (3, .int (nI 4)), (0, .ref h0), (1, .int hd), (2, .ref to)] → okn g T s23 pl → va_P g.1 vcl ([] ++ pl) H → va_D A ([] ++ pl) → va_S A s0.heap H locs → W p l e ({ frames := 4, cells := 0, slots := 0, locals := 90 } : Room) s0 m args below meth c H locs 0 0 (MQ below (va_Qv (fun (u : (Sto) × va_W) => (u.1 = F_MH_marked_1 hd pt s ∧ frm (M_MH_marked_1 pt) s u.1 ∧ True) ∧ okn g T u.1 u.2) (po g.1 vcl A (fun (u : (Sto) × va_W) => [] ++ u.2)) A) args s0 0 0 A) (F0 m 38 ls []) := by
    intro n21
    induction n21 with
    | zero =>
      intro i21 s23 ps21 pl ls H locs hm21 hi21 hF hf37 hf38 hf39 hf40 hf41 hf42 hf43 hf44 hf45 hf46 hR hl hO hP hD hS
      refine lv_iload hx hb dMH_marked_38 (lv_at hl 0 rfl) ?_
      refine lv_aload_n hx hb dMH_marked_40 rfl (lv_at hl 2 rfl) ?_
      refine nw_get (C := "LatticeKeysModel$Hands") (TT := T_MH) (N := 31) hx hb hts (wg_ft i_MH) hown hK hO k_h0 (kn := 225) (ci := 12) (fl := [(3, 172), (3, 181), (3, 226), (3, 291), (3, 299), (3, 308), (3, 317), (3, 326), (3, 334), (3, 342), (3, 350), (3, 359), (3, 368), (3, 369), (3, 370), (3, 371), (3, 372), (3, 373), (3, 374), (3, 375), (3, 376), (3, 377), (3, 378), (0, 0), (0, 0), (0, 0), (0, 0), (0, 0), (0, 0), (0, 0), (0, 0)]) rfl hP rfl 24 (by decide) (hts _ (wg_t kw_1456)) (fun _ h9 => h9) (cd := (0, 0)) rfl dMH_marked_41 (fun v25 hv25 => ?_)
      obtain rfl := (show v25 = .int (s23.1 225 24) from hv25)
      obtain ⟨z22, ez22, hz23, hz24⟩ := cl_of (b := 2147483648) hf38 (by omega) (by decide)
      replace hR := bnd_step hR ez22
      refine mi_as hz23 ?_
      subst hz24
      refine mi_ge (tgt := 143) hx hb dMH_marked_44 (by decide) (by omega) (by omega) (fun h22 => ?_) (fun h22 => absurd h22 (by omega))
      refine lv_aload_n hx hb dMH_marked_143 rfl (lv_at hl 2 rfl) ?_
      refine nw_get (C := "LatticeKeysModel$Hands") (TT := T_MH) (N := 31) hx hb hts (wg_ft i_MH) hown hK hO k_h0 (kn := 225) (ci := 12) (fl := [(3, 172), (3, 181), (3, 226), (3, 291), (3, 299), (3, 308), (3, 317), (3, 326), (3, 334), (3, 342), (3, 350), (3, 359), (3, 368), (3, 369), (3, 370), (3, 371), (3, 372), (3, 373), (3, 374), (3, 375), (3, 376), (3, 377), (3, 378), (0, 0), (0, 0), (0, 0), (0, 0), (0, 0), (0, 0), (0, 0), (0, 0)]) rfl hP rfl 0 (by decide) (hts _ (wg_t kw_1432)) (fun _ h9 => h9) (cd := (3, 172)) rfl dMH_marked_144 (fun v26 hv26 => ?_)
      obtain ⟨r24, rfl, kr24⟩ := (show ∃ r : Nat, v26 = .ref r ∧ T r = some 172 from hv26)
      refine mp_v (cx := []) (wr := []) hP hD hS hA [] [] rfl rfl rfl (by decide) (va_runV (As := []) (rest := []) F (N_MS_end l g _ T s23 pl hO hU r24 ps21 x25 kr24 hf45 hf46 (by omega) (by omega)) (cwV 0 hts (wg_app (wg_c kw_1721 (wg_c kw_1634 (wg_c kw_1635 (wg_c kw_10 wg_n)))) kw_1636) rfl rfl rfl (by decide +kernel) ⟨by decide, by decide⟩) (pn_W "LatticeKeysModel$Sponge" (en_ok g) (ci := 9) (kn := 172) (fl := [(3, 173), (3, 174), (3, 175), (3, 176), (3, 177), (0, 0), (0, 0), (0, 0)]) hK hO kr24 rfl hP hD hS hA hE [] rfl rfl rfl) rfl rfl hl.1 rfl (lv_room (Nat.le_of_ble_eq_true rfl)) dMH_marked_147 ⟨by omega, by omega⟩) (fun  u23 H locs hu23 hP hD hS => ?_)
      obtain ⟨s24, pl⟩ := u23
      obtain ⟨⟨eq23, hFc23, ⟨x27, hx_27, hb_27⟩, ⟨x28, hx_28, hb_28⟩, -⟩, hO⟩ := hu23
      have hO : okn g T s24 pl := hO
      have hP : va_P g.1 vcl ([] ++ pl) _ := hP
      have hD : va_D _ ([] ++ pl) := hD
      have hFc23 : frm (M_MS_end) s23 s24 := hFc23
      have hb_27 : x27 = 0 := hb_27
      have hb_28 : x28 = x25 := hb_28
      replace hR := bnd_step hR eq23
      have hF := frm_tr hF hFc23 (fun k hk => by unfold M_MS_end at hk; unfold M_MH_marked_1; omega)
      have hf47 : s24.1 225 23 = nI 1 := fc_F hf37 hFc23 (by unfold M_MS_end; omega)
      have hf48 : s24.1 225 24 = nI 6 := fc_F hf38 hFc23 (by unfold M_MS_end; omega)
      have hf49 : s24.1 225 25 = nI 5 := fc_F hf39 hFc23 (by unfold M_MS_end; omega)
      have hf50 : s24.1 225 26 = nI 4 := fc_F hf40 hFc23 (by unfold M_MS_end; omega)
      have hf51 : s24.1 225 27 = nI 524288 := fc_F hf41 hFc23 (by unfold M_MS_end; omega)
      have hf52 : s24.1 225 28 = nI 261888 := fc_F hf42 hFc23 (by unfold M_MS_end; omega)
      have hf53 : s24.1 225 29 = nI 196 := fc_F hf43 hFc23 (by unfold M_MS_end; omega)
      have hf54 : s24.1 225 30 = nI 48 := fc_F hf44 hFc23 (by unfold M_MS_end; omega)
      refine W.widen (k := 0) (n := 0) (by omega) (by omega) ?_
      refine lv_aload_n hx hb dMH_marked_150 rfl (lv_at hl 2 rfl) ?_
      refine nw_get (C := "LatticeKeysModel$Hands") (TT := T_MH) (N := 31) hx hb hts (wg_ft i_MH) hown hK hO k_h0 (kn := 225) (ci := 12) (fl := [(3, 172), (3, 181), (3, 226), (3, 291), (3, 299), (3, 308), (3, 317), (3, 326), (3, 334), (3, 342), (3, 350), (3, 359), (3, 368), (3, 369), (3, 370), (3, 371), (3, 372), (3, 373), (3, 374), (3, 375), (3, 376), (3, 377), (3, 378), (0, 0), (0, 0), (0, 0), (0, 0), (0, 0), (0, 0), (0, 0), (0, 0)]) rfl hP rfl 0 (by decide) (hts _ (wg_t kw_1432)) (fun _ h9 => h9) (cd := (3, 172)) rfl dMH_marked_151 (fun v27 hv27 => ?_)
      obtain ⟨r25, rfl, kr25⟩ := (show ∃ r : Nat, v27 = .ref r ∧ T r = some 172 from hv27)
      refine lv_aload_n hx hb dMH_marked_154 rfl (lv_at hl 4 rfl) ?_
      refine lv_iconst (v := nI 0) hx hb dMH_marked_155 (by decide) ?_
      refine lv_aload_n hx hb dMH_marked_156 rfl (lv_at hl 2 rfl) ?_
      refine nw_get (C := "LatticeKeysModel$Hands") (TT := T_MH) (N := 31) hx hb hts (wg_ft i_MH) hown hK hO k_h0 (kn := 225) (ci := 12) (fl := [(3, 172), (3, 181), (3, 226), (3, 291), (3, 299), (3, 308), (3, 317), (3, 326), (3, 334), (3, 342), (3, 350), (3, 359), (3, 368), (3, 369), (3, 370), (3, 371), (3, 372), (3, 373), (3, 374), (3, 375), (3, 376), (3, 377), (3, 378), (0, 0), (0, 0), (0, 0), (0, 0), (0, 0), (0, 0), (0, 0), (0, 0)]) rfl hP rfl 30 (by decide) (hts _ (wg_t kw_1462)) (fun _ h9 => h9) (cd := (0, 0)) rfl dMH_marked_157 (fun v28 hv28 => ?_)
      obtain rfl := (show v28 = .int (s24.1 225 30) from hv28)
      obtain ⟨z23, ez23, hz25, hz26⟩ := cl_of (b := 2147483648) hf54 (by omega) (by decide)
      replace hR := bnd_step hR ez23
      refine mi_as hz25 ?_
      subst hz26
      refine mp_v (cx := []) (wr := []) hP hD hS hA [] [] rfl rfl rfl (by decide) (va_runV (As := [.ref to, .int (nI 0), .int (nI 48)]) (rest := []) F (N_MS_take l g _ T s24 pl hO hU r25 to pt 64 0 48 x27 x28 kr25 k_to n_to hx_27 hx_28 (by omega) (by omega) (by omega) (by omega)) (cwV 3 hts (wg_app (wg_c kw_1722 (wg_c kw_1638 (wg_c kw_1639 (wg_c kw_10 wg_n)))) kw_1640) rfl rfl rfl (by decide +kernel) ⟨by decide, by decide⟩) (pn_W "LatticeKeysModel$Sponge" (en_ok g) (ci := 9) (kn := 172) (fl := [(3, 173), (3, 174), (3, 175), (3, 176), (3, 177), (0, 0), (0, 0), (0, 0)]) hK hO kr25 rfl hP hD hS hA hE [] rfl rfl rfl) rfl rfl hl.1 rfl (lv_room (Nat.le_of_ble_eq_true rfl)) dMH_marked_160 ⟨by omega, by omega⟩) (fun  u24 H locs hu24 hP hD hS => ?_)
      obtain ⟨s25, pl⟩ := u24
      obtain ⟨⟨eq24, hFc24, ⟨x30, hx_30, hb_30⟩, ⟨x31, hx_31, hb_31⟩, -⟩, hO⟩ := hu24
      have hO : okn g T s25 pl := hO
      have hP : va_P g.1 vcl ([] ++ pl) _ := hP
      have hD : va_D _ ([] ++ pl) := hD
      have hFc24 : frm (M_MS_take pt) s24 s25 := hFc24
      have hb_30 : x30 ≤ x28 := hb_30
      have hb_31 : x31 = x28 := hb_31
      replace hR := bnd_step hR eq24
      have hF := frm_tr hF hFc24 (fun k hk => by unfold M_MS_take at hk; unfold M_MH_marked_1; omega)
      have hf55 : s25.1 225 23 = nI 1 := fc_F hf47 hFc24 (by unfold M_MS_take; omega)
      have hf56 : s25.1 225 24 = nI 6 := fc_F hf48 hFc24 (by unfold M_MS_take; omega)
      have hf57 : s25.1 225 25 = nI 5 := fc_F hf49 hFc24 (by unfold M_MS_take; omega)
      have hf58 : s25.1 225 26 = nI 4 := fc_F hf50 hFc24 (by unfold M_MS_take; omega)
      have hf59 : s25.1 225 27 = nI 524288 := fc_F hf51 hFc24 (by unfold M_MS_take; omega)
      have hf60 : s25.1 225 28 = nI 261888 := fc_F hf52 hFc24 (by unfold M_MS_take; omega)
      have hf61 : s25.1 225 29 = nI 196 := fc_F hf53 hFc24 (by unfold M_MS_take; omega)
      have hf62 : s25.1 225 30 = nI 48 := fc_F hf54 hFc24 (by unfold M_MS_take; omega)
      refine W.widen (k := 0) (n := 0) (by omega) (by omega) ?_
      exact mp_vret hx hb hr hlk hP hD hS (s25, pl) ⟨⟨hR.symm, hF, trivial⟩, hO⟩ [] rfl rfl rfl (by omega) (by omega) dMH_marked_163
    | succ n21 ih21 =>
      intro i21 s23 ps21 pl ls H locs hm21 hi21 hF hf63 hf64 hf65 hf66 hf67 hf68 hf69 hf70 hf71 hf72 hR hl hO hP hD hS
      refine lv_iload hx hb dMH_marked_38 (lv_at hl 0 rfl) ?_
      refine lv_aload_n hx hb dMH_marked_40 rfl (lv_at hl 2 rfl) ?_
      refine nw_get (C := "LatticeKeysModel$Hands") (TT := T_MH) (N := 31) hx hb hts (wg_ft i_MH) hown hK hO k_h0 (kn := 225) (ci := 12) (fl := [(3, 172), (3, 181), (3, 226), (3, 291), (3, 299), (3, 308), (3, 317), (3, 326), (3, 334), (3, 342), (3, 350), (3, 359), (3, 368), (3, 369), (3, 370), (3, 371), (3, 372), (3, 373), (3, 374), (3, 375), (3, 376), (3, 377), (3, 378), (0, 0), (0, 0), (0, 0), (0, 0), (0, 0), (0, 0), (0, 0), (0, 0)]) rfl hP rfl 24 (by decide) (hts _ (wg_t kw_1456)) (fun _ h9 => h9) (cd := (0, 0)) rfl dMH_marked_41 (fun v29 hv29 => ?_)
      obtain rfl := (show v29 = .int (s23.1 225 24) from hv29)
      obtain ⟨z24, ez24, hz27, hz28⟩ := cl_of (b := 2147483648) hf64 (by omega) (by decide)
      replace hR := bnd_step hR ez24
      refine mi_as hz27 ?_
      subst hz28
      refine mi_ge (tgt := 143) hx hb dMH_marked_44 (by decide) (by omega) (by omega) (fun h23 => absurd h23 (by omega)) (fun h23 => ?_)
      refine lv_iconst (v := nI 0) hx hb dMH_marked_47 (by decide) ?_
      refine lv_istore (lv' := [(5, .int (nI 0)), (4, .int (nI i21)), (3, .int (nI 4)), (0, .ref h0), (1, .int hd), (2, .ref to)]) hx hb dMH_marked_48 hl (by decide) rfl (fun ls hl => ?_)
      have lp22 : ∀ (n22 : Nat) (i22 : Nat) (s26 : Sto) (ps22 : Nat) (pl : va_W) (ls : Array Slot) (H : Heap) (locs : List Loc), n22 + i22 = 256 → (ps22 < 136) → frm (M_MH_marked_1 pt) s s26 → s26.1 225 23 = nI 1 → s26.1 225 24 = nI 6 → s26.1 225 25 = nI 5 → s26.1 225 26 = nI 4 → s26.1 225 27 = nI 524288 → s26.1 225 28 = nI 261888 → s26.1 225 29 = nI 196 → s26.1 225 30 = nI 48 → s26.1 172 6 = nI ps22 → s26.1 172 5 = nI x25 → F_MH_marked_1 hd pt s = F_MH_marked_1_L1 hd i21 (F_MH_marked_1_L0 hd pt n21) n22 i22 s26 → lv_has ls 6 [(5, .int (nI i22)), (4, .int (nI i21)), (3, .int (nI 4)), (0, .ref h0), (1, .int hd), (2, .ref to)] → okn g T s26 pl → va_P g.1 vcl ([] ++ pl) H → va_D A ([] ++ pl) → va_S A s0.heap H locs → W p l e ({ frames := 4, cells := 0, slots := 0, locals := 90 } : Room) s0 m args below meth c H locs 0 0 (MQ below (va_Qv (fun (u : (Sto) × va_W) => (u.1 = F_MH_marked_1 hd pt s ∧ frm (M_MH_marked_1 pt) s u.1 ∧ True) ∧ okn g T u.1 u.2) (po g.1 vcl A (fun (u : (Sto) × va_W) => [] ++ u.2)) A) args s0 0 0 A) (F0 m 50 ls []) := by
        intro n22
        induction n22 with
        | zero =>
          intro i22 s26 ps22 pl ls H locs hm22 hi22 hF hf73 hf74 hf75 hf76 hf77 hf78 hf79 hf80 hf81 hf82 hR hl hO hP hD hS
          refine lv_iload hx hb dMH_marked_50 (lv_at hl 0 rfl) ?_
          refine lv_sipush (v := nI 256) hx hb dMH_marked_52 (by decide) ?_
          refine mi_ge (tgt := 121) hx hb dMH_marked_55 (by decide) (by omega) (by omega) (fun h24 => ?_) (fun h24 => absurd h24 (by omega))
          refine lv_aload_n hx hb dMH_marked_121 rfl (lv_at hl 3 rfl) ?_
          refine nw_get (C := "LatticeKeysModel$Hands") (TT := T_MH) (N := 31) hx hb hts (wg_ft i_MH) hown hK hO k_h0 (kn := 225) (ci := 12) (fl := [(3, 172), (3, 181), (3, 226), (3, 291), (3, 299), (3, 308), (3, 317), (3, 326), (3, 334), (3, 342), (3, 350), (3, 359), (3, 368), (3, 369), (3, 370), (3, 371), (3, 372), (3, 373), (3, 374), (3, 375), (3, 376), (3, 377), (3, 378), (0, 0), (0, 0), (0, 0), (0, 0), (0, 0), (0, 0), (0, 0), (0, 0)]) rfl hP rfl 0 (by decide) (hts _ (wg_t kw_1432)) (fun _ h9 => h9) (cd := (3, 172)) rfl dMH_marked_122 (fun v30 hv30 => ?_)
          obtain ⟨r26, rfl, kr26⟩ := (show ∃ r : Nat, v30 = .ref r ∧ T r = some 172 from hv30)
          refine lv_aload_n hx hb dMH_marked_125 rfl (lv_at hl 3 rfl) ?_
          refine nw_get (C := "LatticeKeysModel$Hands") (TT := T_MH) (N := 31) hx hb hts (wg_ft i_MH) hown hK hO k_h0 (kn := 225) (ci := 12) (fl := [(3, 172), (3, 181), (3, 226), (3, 291), (3, 299), (3, 308), (3, 317), (3, 326), (3, 334), (3, 342), (3, 350), (3, 359), (3, 368), (3, 369), (3, 370), (3, 371), (3, 372), (3, 373), (3, 374), (3, 375), (3, 376), (3, 377), (3, 378), (0, 0), (0, 0), (0, 0), (0, 0), (0, 0), (0, 0), (0, 0), (0, 0)]) rfl hP rfl 19 (by decide) (hts _ (wg_t kw_1451)) (fun _ h9 => h9) (cd := (3, 375)) rfl dMH_marked_126 (fun v31 hv31 => ?_)
          obtain ⟨r27, rfl, kr27⟩ := (show ∃ r : Nat, v31 = .ref r ∧ T r = some 375 from hv31)
          refine lv_iconst (v := nI 0) hx hb dMH_marked_129 (by decide) ?_
          refine lv_bipush (v := nI 32) hx hb dMH_marked_130 (by decide) ?_
          refine lv_iload_n hx hb dMH_marked_132 rfl (lv_at hl 2 rfl) ?_
          refine mi_imul hx hb dMH_marked_133 ?_
          refine mi_as (show nI (32 * 4) = nI 128 from rfl) ?_
          refine mp_v (cx := []) (wr := []) hP hD hS hA [] [] rfl rfl rfl (by decide) (va_runV (As := [.ref r27, .int (nI 0), .int (nI 128)]) (rest := []) F (N_MS_puts l g _ T s26 pl hO hU r26 r27 375 640 0 128 ps22 x25 kr26 kr27 rfl hf81 hf82 (by omega) (by omega) (by omega) (by omega)) (cwV 3 hts (wg_app (wg_c kw_1719 (wg_c kw_1612 (wg_c kw_1613 (wg_c kw_10 wg_n)))) kw_1614) rfl rfl rfl (by decide +kernel) ⟨by decide, by decide⟩) (pn_W "LatticeKeysModel$Sponge" (en_ok g) (ci := 9) (kn := 172) (fl := [(3, 173), (3, 174), (3, 175), (3, 176), (3, 177), (0, 0), (0, 0), (0, 0)]) hK hO kr26 rfl hP hD hS hA hE [] rfl rfl rfl) rfl rfl hl.1 rfl (lv_room (Nat.le_of_ble_eq_true rfl)) dMH_marked_134 ⟨by omega, by omega⟩) (fun  u25 H locs hu25 hP hD hS => ?_)
          obtain ⟨s27, pl⟩ := u25
          obtain ⟨⟨eq25, hFc25, ⟨x33, hx_33, hb_33⟩, ⟨x34, hx_34, hb_34⟩, -⟩, hO⟩ := hu25
          have hO : okn g T s27 pl := hO
          have hP : va_P g.1 vcl ([] ++ pl) _ := hP
          have hD : va_D _ ([] ++ pl) := hD
          have hFc25 : frm (M_MS_puts) s26 s27 := hFc25
          have hb_33 : x33 < x25 := hb_33
          have hb_34 : x34 = x25 := hb_34
          replace hR := bnd_step hR eq25
          have hF := frm_tr hF hFc25 (fun k hk => by unfold M_MS_puts at hk; unfold M_MH_marked_1; omega)
          have hf83 : s27.1 225 23 = nI 1 := fc_F hf73 hFc25 (by unfold M_MS_puts; omega)
          have hf84 : s27.1 225 24 = nI 6 := fc_F hf74 hFc25 (by unfold M_MS_puts; omega)
          have hf85 : s27.1 225 25 = nI 5 := fc_F hf75 hFc25 (by unfold M_MS_puts; omega)
          have hf86 : s27.1 225 26 = nI 4 := fc_F hf76 hFc25 (by unfold M_MS_puts; omega)
          have hf87 : s27.1 225 27 = nI 524288 := fc_F hf77 hFc25 (by unfold M_MS_puts; omega)
          have hf88 : s27.1 225 28 = nI 261888 := fc_F hf78 hFc25 (by unfold M_MS_puts; omega)
          have hf89 : s27.1 225 29 = nI 196 := fc_F hf79 hFc25 (by unfold M_MS_puts; omega)
          have hf90 : s27.1 225 30 = nI 48 := fc_F hf80 hFc25 (by unfold M_MS_puts; omega)
          refine W.widen (k := 0) (n := 0) (by omega) (by omega) ?_
          refine mi_iinc (k := 1) (x := i21) (d := 1) (y := i21 + 1) (lv' := [(4, .int (nI (i21 + 1))), (5, .int (nI i22)), (3, .int (nI 4)), (0, .ref h0), (1, .int hd), (2, .ref to)]) hx hb dMH_marked_137 hl rfl (by decide) rfl (by decide) rfl (fun ls hl => ?_)
          refine lv_goto (tgt := 38) hx hb dMH_marked_140 (by decide) ?_
          exact ih21 (i21 + 1) s27 x33 pl ls H locs (by omega) (by omega) hF hf83 hf84 hf85 hf86 hf87 hf88 hf89 hf90 hx_33 (by have h9 := hx_34; rw [show x34 = x25 by omega] at h9; exact h9) hR (lv_sub hl [0, 2, 3, 4, 5] rfl) hO hP hD hS
        | succ n22 ih22 =>
          intro i22 s26 ps22 pl ls H locs hm22 hi22 hF hf91 hf92 hf93 hf94 hf95 hf96 hf97 hf98 hf99 hf100 hR hl hO hP hD hS
          refine lv_iload hx hb dMH_marked_50 (lv_at hl 0 rfl) ?_
          refine lv_sipush (v := nI 256) hx hb dMH_marked_52 (by decide) ?_
          refine mi_ge (tgt := 121) hx hb dMH_marked_55 (by decide) (by omega) (by omega) (fun h25 => absurd h25 (by omega)) (fun h25 => ?_)
          refine lv_aload_n hx hb dMH_marked_58 rfl (lv_at hl 3 rfl) ?_
          refine nw_get (C := "LatticeKeysModel$Hands") (TT := T_MH) (N := 31) hx hb hts (wg_ft i_MH) hown hK hO k_h0 (kn := 225) (ci := 12) (fl := [(3, 172), (3, 181), (3, 226), (3, 291), (3, 299), (3, 308), (3, 317), (3, 326), (3, 334), (3, 342), (3, 350), (3, 359), (3, 368), (3, 369), (3, 370), (3, 371), (3, 372), (3, 373), (3, 374), (3, 375), (3, 376), (3, 377), (3, 378), (0, 0), (0, 0), (0, 0), (0, 0), (0, 0), (0, 0), (0, 0), (0, 0)]) rfl hP rfl 19 (by decide) (hts _ (wg_t kw_1451)) (fun _ h9 => h9) (cd := (3, 375)) rfl dMH_marked_59 (fun v32 hv32 => ?_)
          obtain ⟨r28, rfl, kr28⟩ := (show ∃ r : Nat, v32 = .ref r ∧ T r = some 375 from hv32)
          refine lv_iload_n hx hb dMH_marked_62 rfl (lv_at hl 2 rfl) ?_
          refine lv_iload hx hb dMH_marked_63 (lv_at hl 0 rfl) ?_
          refine mi_imul hx hb dMH_marked_65 ?_
          refine lv_iload_n hx hb dMH_marked_66 rfl (lv_at hl 2 rfl) ?_
          refine lv_iload_n hx hb dMH_marked_67 rfl (lv_at hl 4 rfl) ?_
          refine lv_if_eq (tgt := 98) hx hb dMH_marked_68 (by decide) (fun h26 => ?_) (fun h26 => ?_)
          · replace hR := hR.trans (if_pos h26)
            refine lv_aload_n hx hb dMH_marked_98 rfl (lv_at hl 3 rfl) ?_
            refine lv_aload_n hx hb dMH_marked_99 rfl (lv_at hl 3 rfl) ?_
            refine nw_get (C := "LatticeKeysModel$Hands") (TT := T_MH) (N := 31) hx hb hts (wg_ft i_MH) hown hK hO k_h0 (kn := 225) (ci := 12) (fl := [(3, 172), (3, 181), (3, 226), (3, 291), (3, 299), (3, 308), (3, 317), (3, 326), (3, 334), (3, 342), (3, 350), (3, 359), (3, 368), (3, 369), (3, 370), (3, 371), (3, 372), (3, 373), (3, 374), (3, 375), (3, 376), (3, 377), (3, 378), (0, 0), (0, 0), (0, 0), (0, 0), (0, 0), (0, 0), (0, 0), (0, 0)]) rfl hP rfl 10 (by decide) (hts _ (wg_t kw_1442)) (fun _ h9 => h9) (cd := (3, 350)) rfl dMH_marked_100 (fun v33 hv33 => ?_)
            obtain ⟨r29, rfl, kr29⟩ := (show ∃ r : Nat, v33 = .ref r ∧ T r = some 350 from hv33)
            refine lv_iload hx hb dMH_marked_103 (lv_at hl 1 rfl) ?_
            refine nw_aald3 hx hb hK hO kr29 (k := 350) (b := 351) rfl hP (by omega) (by omega) dMH_marked_105 (fun r30 kr30 => ?_)
            have hn21 : nsp (351 + i21) = (0, 256, []) := rows_ok 351 8 (by decide) _ (by omega)
            refine lv_iload hx hb dMH_marked_106 (lv_at hl 0 rfl) ?_
            refine nw_iald hx hb hK hO kr30 (k := (351 + i21)) hn21 hP (by omega) (by omega) dMH_marked_108 ?_
            refine mp_i (cx := []) (wr := []) hP hD hS hA [] [] rfl rfl rfl (by decide) (va_runV (As := [.int ((s26.1 ((351 + i21)) i22))]) (rest := [.int (nI 4), .int (nI (4 * i22)), .ref r28]) F (N_MH_high_1 l g _ T s26 pl hO hU h0 (s26.1 ((351 + i21)) i22) k_h0 hf91 hf92 hf93 hf94 hf95 hf96 hf97 hf98) (cwV 1 hts (wg_app (wg_c kw_1885 (wg_c kw_1887 (wg_c ks_75 (wg_c kw_13 wg_n)))) kw_1888) rfl rfl rfl (by decide +kernel) ⟨by decide, by decide⟩) (pn_W "LatticeKeysModel$Hands" (en_ok g) (ci := 12) (kn := 225) (fl := [(3, 172), (3, 181), (3, 226), (3, 291), (3, 299), (3, 308), (3, 317), (3, 326), (3, 334), (3, 342), (3, 350), (3, 359), (3, 368), (3, 369), (3, 370), (3, 371), (3, 372), (3, 373), (3, 374), (3, 375), (3, 376), (3, 377), (3, 378), (0, 0), (0, 0), (0, 0), (0, 0), (0, 0), (0, 0), (0, 0), (0, 0)]) hK hO k_h0 rfl hP hD hS hA hE [] rfl rfl rfl) rfl rfl hl.1 rfl (lv_room (Nat.le_of_ble_eq_true rfl)) dMH_marked_109 ⟨by omega, by omega⟩) (fun r31 u26 H locs hu26 hP hD hS => ?_)
            obtain ⟨q21, pl⟩ := u26
            obtain ⟨⟨eq26, rfl, hFc26, -⟩, hO⟩ := hu26
            have hO : okn g T q21.2 pl := hO
            have hP : va_P g.1 vcl ([] ++ pl) _ := hP
            have hD : va_D _ ([] ++ pl) := hD
            have hFc26 : frm (M_MH_high_1) s26 q21.2 := hFc26
            replace hR := bnd_step hR eq26
            have hF := frm_tr hF hFc26 (fun k hk => by unfold M_MH_high_1 at hk; unfold M_MH_marked_1; omega)
            have hf101 : q21.2.1 225 23 = nI 1 := fc_F hf91 hFc26 (by unfold M_MH_high_1; omega)
            have hf102 : q21.2.1 225 24 = nI 6 := fc_F hf92 hFc26 (by unfold M_MH_high_1; omega)
            have hf103 : q21.2.1 225 25 = nI 5 := fc_F hf93 hFc26 (by unfold M_MH_high_1; omega)
            have hf104 : q21.2.1 225 26 = nI 4 := fc_F hf94 hFc26 (by unfold M_MH_high_1; omega)
            have hf105 : q21.2.1 225 27 = nI 524288 := fc_F hf95 hFc26 (by unfold M_MH_high_1; omega)
            have hf106 : q21.2.1 225 28 = nI 261888 := fc_F hf96 hFc26 (by unfold M_MH_high_1; omega)
            have hf107 : q21.2.1 225 29 = nI 196 := fc_F hf97 hFc26 (by unfold M_MH_high_1; omega)
            have hf108 : q21.2.1 225 30 = nI 48 := fc_F hf98 hFc26 (by unfold M_MH_high_1; omega)
            have hf109 : q21.2.1 172 6 = nI ps22 := fc_F hf99 hFc26 (by unfold M_MH_high_1; omega)
            have hf110 : q21.2.1 172 5 = nI x25 := fc_F hf100 hFc26 (by unfold M_MH_high_1; omega)
            refine W.widen (k := 0) (n := 0) (by omega) (by omega) ?_
            refine mp_v (cx := []) (wr := []) hP hD hS hA [] [] rfl rfl rfl (by decide) (va_runSN (As := [.ref r28, .int (nI (4 * i22)), .int (nI 4), .int q21.1]) (rest := []) F (N_M_pack l g _ T q21.2 pl hO hU r28 375 640 (4 * i22) 4 (q21.1) kr28 rfl (by omega) (by omega)) ⟨va_cnB 4 hts (wg_in kw_1690) rfl rfl rfl (hE.2.2.2.2.2.2.2.2.2.1) (hts _ (wg_t kw_9)) (by decide +kernel) ⟨by decide, by decide⟩, hts _ (wg_t kw_1689), trivial⟩ (pp_S (en_ok g) hP hD hS hA hE [] rfl rfl) rfl rfl hl.1 rfl (lv_room (Nat.le_of_ble_eq_true rfl)) dMH_marked_112 ⟨by omega, by omega⟩) (fun  u27 H locs hu27 hP hD hS => ?_)
            obtain ⟨s28, pl⟩ := u27
            obtain ⟨⟨eq27, hFc27, -⟩, hO⟩ := hu27
            have hO : okn g T s28 pl := hO
            have hP : va_P g.1 vcl ([] ++ pl) _ := hP
            have hD : va_D _ ([] ++ pl) := hD
            have hFc27 : frm (M_M_pack 375) q21.2 s28 := hFc27
            replace hR := bnd_step hR eq27
            have hF := frm_tr hF hFc27 (fun k hk => by unfold M_M_pack at hk; unfold M_MH_marked_1; omega)
            have hf111 : s28.1 225 23 = nI 1 := fc_F hf101 hFc27 (by unfold M_M_pack; omega)
            have hf112 : s28.1 225 24 = nI 6 := fc_F hf102 hFc27 (by unfold M_M_pack; omega)
            have hf113 : s28.1 225 25 = nI 5 := fc_F hf103 hFc27 (by unfold M_M_pack; omega)
            have hf114 : s28.1 225 26 = nI 4 := fc_F hf104 hFc27 (by unfold M_M_pack; omega)
            have hf115 : s28.1 225 27 = nI 524288 := fc_F hf105 hFc27 (by unfold M_M_pack; omega)
            have hf116 : s28.1 225 28 = nI 261888 := fc_F hf106 hFc27 (by unfold M_M_pack; omega)
            have hf117 : s28.1 225 29 = nI 196 := fc_F hf107 hFc27 (by unfold M_M_pack; omega)
            have hf118 : s28.1 225 30 = nI 48 := fc_F hf108 hFc27 (by unfold M_M_pack; omega)
            have hf119 : s28.1 172 6 = nI ps22 := fc_F hf109 hFc27 (by unfold M_M_pack; omega)
            have hf120 : s28.1 172 5 = nI x25 := fc_F hf110 hFc27 (by unfold M_M_pack; omega)
            refine W.widen (k := 0) (n := 0) (by omega) (by omega) ?_
            refine mi_iinc (k := 0) (x := i22) (d := 1) (y := i22 + 1) (lv' := [(5, .int (nI (i22 + 1))), (4, .int (nI i21)), (3, .int (nI 4)), (0, .ref h0), (1, .int hd), (2, .ref to)]) hx hb dMH_marked_115 hl rfl (by decide) rfl (by decide) rfl (fun ls hl => ?_)
            refine lv_goto (tgt := 50) hx hb dMH_marked_118 (by decide) ?_
            exact ih22 (i22 + 1) s28 ps22 pl ls H locs (by omega) (by omega) hF hf111 hf112 hf113 hf114 hf115 hf116 hf117 hf118 hf119 hf120 hR (lv_sub hl [0, 1, 2, 3, 4, 5] rfl) hO hP hD hS
          · replace hR := hR.trans (if_neg h26)
            refine lv_aload_n hx hb dMH_marked_71 rfl (lv_at hl 3 rfl) ?_
            refine lv_aload_n hx hb dMH_marked_72 rfl (lv_at hl 3 rfl) ?_
            refine nw_get (C := "LatticeKeysModel$Hands") (TT := T_MH) (N := 31) hx hb hts (wg_ft i_MH) hown hK hO k_h0 (kn := 225) (ci := 12) (fl := [(3, 172), (3, 181), (3, 226), (3, 291), (3, 299), (3, 308), (3, 317), (3, 326), (3, 334), (3, 342), (3, 350), (3, 359), (3, 368), (3, 369), (3, 370), (3, 371), (3, 372), (3, 373), (3, 374), (3, 375), (3, 376), (3, 377), (3, 378), (0, 0), (0, 0), (0, 0), (0, 0), (0, 0), (0, 0), (0, 0), (0, 0)]) rfl hP rfl 11 (by decide) (hts _ (wg_t kw_1443)) (fun _ h9 => h9) (cd := (3, 359)) rfl dMH_marked_73 (fun v34 hv34 => ?_)
            obtain ⟨r32, rfl, kr31⟩ := (show ∃ r : Nat, v34 = .ref r ∧ T r = some 359 from hv34)
            refine lv_iload hx hb dMH_marked_76 (lv_at hl 1 rfl) ?_
            refine nw_aald3 hx hb hK hO kr31 (k := 359) (b := 360) rfl hP (by omega) (by omega) dMH_marked_78 (fun r33 kr32 => ?_)
            have hn22 : nsp (360 + i21) = (0, 256, []) := rows_ok 360 8 (by decide) _ (by omega)
            refine lv_iload hx hb dMH_marked_79 (lv_at hl 0 rfl) ?_
            refine nw_iald hx hb hK hO kr32 (k := (360 + i21)) hn22 hP (by omega) (by omega) dMH_marked_81 ?_
            refine lv_aload_n hx hb dMH_marked_82 rfl (lv_at hl 3 rfl) ?_
            refine nw_get (C := "LatticeKeysModel$Hands") (TT := T_MH) (N := 31) hx hb hts (wg_ft i_MH) hown hK hO k_h0 (kn := 225) (ci := 12) (fl := [(3, 172), (3, 181), (3, 226), (3, 291), (3, 299), (3, 308), (3, 317), (3, 326), (3, 334), (3, 342), (3, 350), (3, 359), (3, 368), (3, 369), (3, 370), (3, 371), (3, 372), (3, 373), (3, 374), (3, 375), (3, 376), (3, 377), (3, 378), (0, 0), (0, 0), (0, 0), (0, 0), (0, 0), (0, 0), (0, 0), (0, 0)]) rfl hP rfl 10 (by decide) (hts _ (wg_t kw_1442)) (fun _ h9 => h9) (cd := (3, 350)) rfl dMH_marked_83 (fun v35 hv35 => ?_)
            obtain ⟨r34, rfl, kr33⟩ := (show ∃ r : Nat, v35 = .ref r ∧ T r = some 350 from hv35)
            refine lv_iload hx hb dMH_marked_86 (lv_at hl 1 rfl) ?_
            refine nw_aald3 hx hb hK hO kr33 (k := 350) (b := 351) rfl hP (by omega) (by omega) dMH_marked_88 (fun r35 kr34 => ?_)
            have hn23 : nsp (351 + i21) = (0, 256, []) := rows_ok 351 8 (by decide) _ (by omega)
            refine lv_iload hx hb dMH_marked_89 (lv_at hl 0 rfl) ?_
            refine nw_iald hx hb hK hO kr34 (k := (351 + i21)) hn23 hP (by omega) (by omega) dMH_marked_91 ?_
            refine mp_i (cx := []) (wr := []) hP hD hS hA [] [] rfl rfl rfl (by decide) (va_runV (As := [.int ((s26.1 ((360 + i21)) i22)), .int ((s26.1 ((351 + i21)) i22))]) (rest := [.int (nI 4), .int (nI (4 * i22)), .ref r28]) F (N_MH_used_1 l g _ T s26 pl hO hU h0 (s26.1 ((360 + i21)) i22) (s26.1 ((351 + i21)) i22) k_h0 hf91 hf92 hf93 hf94 hf95 hf96 hf97 hf98) (cwV 2 hts (wg_app (wg_c kw_1880 (wg_c kw_1882 (wg_c ks_74 (wg_c kw_13 wg_n)))) kw_1883) rfl rfl rfl (by decide +kernel) ⟨by decide, by decide⟩) (pn_W "LatticeKeysModel$Hands" (en_ok g) (ci := 12) (kn := 225) (fl := [(3, 172), (3, 181), (3, 226), (3, 291), (3, 299), (3, 308), (3, 317), (3, 326), (3, 334), (3, 342), (3, 350), (3, 359), (3, 368), (3, 369), (3, 370), (3, 371), (3, 372), (3, 373), (3, 374), (3, 375), (3, 376), (3, 377), (3, 378), (0, 0), (0, 0), (0, 0), (0, 0), (0, 0), (0, 0), (0, 0), (0, 0)]) hK hO k_h0 rfl hP hD hS hA hE [] rfl rfl rfl) rfl rfl hl.1 rfl (lv_room (Nat.le_of_ble_eq_true rfl)) dMH_marked_92 ⟨by omega, by omega⟩) (fun r36 u28 H locs hu28 hP hD hS => ?_)
            obtain ⟨q22, pl⟩ := u28
            obtain ⟨⟨eq28, rfl, hFc28, -⟩, hO⟩ := hu28
            have hO : okn g T q22.2 pl := hO
            have hP : va_P g.1 vcl ([] ++ pl) _ := hP
            have hD : va_D _ ([] ++ pl) := hD
            have hFc28 : frm (M_MH_used_1) s26 q22.2 := hFc28
            replace hR := bnd_step hR eq28
            have hF := frm_tr hF hFc28 (fun k hk => by unfold M_MH_used_1 at hk; unfold M_MH_marked_1; omega)
            have hf121 : q22.2.1 225 23 = nI 1 := fc_F hf91 hFc28 (by unfold M_MH_used_1; omega)
            have hf122 : q22.2.1 225 24 = nI 6 := fc_F hf92 hFc28 (by unfold M_MH_used_1; omega)
            have hf123 : q22.2.1 225 25 = nI 5 := fc_F hf93 hFc28 (by unfold M_MH_used_1; omega)
            have hf124 : q22.2.1 225 26 = nI 4 := fc_F hf94 hFc28 (by unfold M_MH_used_1; omega)
            have hf125 : q22.2.1 225 27 = nI 524288 := fc_F hf95 hFc28 (by unfold M_MH_used_1; omega)
            have hf126 : q22.2.1 225 28 = nI 261888 := fc_F hf96 hFc28 (by unfold M_MH_used_1; omega)
            have hf127 : q22.2.1 225 29 = nI 196 := fc_F hf97 hFc28 (by unfold M_MH_used_1; omega)
            have hf128 : q22.2.1 225 30 = nI 48 := fc_F hf98 hFc28 (by unfold M_MH_used_1; omega)
            have hf129 : q22.2.1 172 6 = nI ps22 := fc_F hf99 hFc28 (by unfold M_MH_used_1; omega)
            have hf130 : q22.2.1 172 5 = nI x25 := fc_F hf100 hFc28 (by unfold M_MH_used_1; omega)
            refine W.widen (k := 0) (n := 0) (by omega) (by omega) ?_
            refine lv_goto (tgt := 112) hx hb dMH_marked_95 (by decide) ?_
            refine mp_v (cx := []) (wr := []) hP hD hS hA [] [] rfl rfl rfl (by decide) (va_runSN (As := [.ref r28, .int (nI (4 * i22)), .int (nI 4), .int q22.1]) (rest := []) F (N_M_pack l g _ T q22.2 pl hO hU r28 375 640 (4 * i22) 4 (q22.1) kr28 rfl (by omega) (by omega)) ⟨va_cnB 4 hts (wg_in kw_1690) rfl rfl rfl (hE.2.2.2.2.2.2.2.2.2.1) (hts _ (wg_t kw_9)) (by decide +kernel) ⟨by decide, by decide⟩, hts _ (wg_t kw_1689), trivial⟩ (pp_S (en_ok g) hP hD hS hA hE [] rfl rfl) rfl rfl hl.1 rfl (lv_room (Nat.le_of_ble_eq_true rfl)) dMH_marked_112 ⟨by omega, by omega⟩) (fun  u29 H locs hu29 hP hD hS => ?_)
            obtain ⟨s29, pl⟩ := u29
            obtain ⟨⟨eq29, hFc29, -⟩, hO⟩ := hu29
            have hO : okn g T s29 pl := hO
            have hP : va_P g.1 vcl ([] ++ pl) _ := hP
            have hD : va_D _ ([] ++ pl) := hD
            have hFc29 : frm (M_M_pack 375) q22.2 s29 := hFc29
            replace hR := bnd_step hR eq29
            have hF := frm_tr hF hFc29 (fun k hk => by unfold M_M_pack at hk; unfold M_MH_marked_1; omega)
            have hf131 : s29.1 225 23 = nI 1 := fc_F hf121 hFc29 (by unfold M_M_pack; omega)
            have hf132 : s29.1 225 24 = nI 6 := fc_F hf122 hFc29 (by unfold M_M_pack; omega)
            have hf133 : s29.1 225 25 = nI 5 := fc_F hf123 hFc29 (by unfold M_M_pack; omega)
            have hf134 : s29.1 225 26 = nI 4 := fc_F hf124 hFc29 (by unfold M_M_pack; omega)
            have hf135 : s29.1 225 27 = nI 524288 := fc_F hf125 hFc29 (by unfold M_M_pack; omega)
            have hf136 : s29.1 225 28 = nI 261888 := fc_F hf126 hFc29 (by unfold M_M_pack; omega)
            have hf137 : s29.1 225 29 = nI 196 := fc_F hf127 hFc29 (by unfold M_M_pack; omega)
            have hf138 : s29.1 225 30 = nI 48 := fc_F hf128 hFc29 (by unfold M_M_pack; omega)
            have hf139 : s29.1 172 6 = nI ps22 := fc_F hf129 hFc29 (by unfold M_M_pack; omega)
            have hf140 : s29.1 172 5 = nI x25 := fc_F hf130 hFc29 (by unfold M_M_pack; omega)
            refine W.widen (k := 0) (n := 0) (by omega) (by omega) ?_
            refine mi_iinc (k := 0) (x := i22) (d := 1) (y := i22 + 1) (lv' := [(5, .int (nI (i22 + 1))), (4, .int (nI i21)), (3, .int (nI 4)), (0, .ref h0), (1, .int hd), (2, .ref to)]) hx hb dMH_marked_115 hl rfl (by decide) rfl (by decide) rfl (fun ls hl => ?_)
            refine lv_goto (tgt := 50) hx hb dMH_marked_118 (by decide) ?_
            exact ih22 (i22 + 1) s29 ps22 pl ls H locs (by omega) (by omega) hF hf131 hf132 hf133 hf134 hf135 hf136 hf137 hf138 hf139 hf140 hR (lv_sub hl [0, 1, 2, 3, 4, 5] rfl) hO hP hD hS
      exact lp22 256 0 s23 ps21 pl ls _ _ (by omega) (by omega) hF hf63 hf64 hf65 hf66 hf67 hf68 hf69 hf70 hf71 hf72 hR (lv_sub hl [0, 1, 2, 3, 4, 5] rfl) hO hP hD hS
  exact lp21 6 0 s22 x24 pl ls _ _ (by omega) (by omega) hF hf29 hf30 hf31 hf32 hf33 hf34 hf35 hf36 hx_24 hx_25 hR (lv_sub hl [0, 1, 2, 3, 4] rfl) hO hP hD hS
def M_MH_marked_2 (pt : Nat) (k : Nat) : Prop := k = 172 ∨ k = 375 ∨ k = pt ∨ (0 : Nat) = 1
noncomputable def F_MH_marked_2_L1 (hd : Int32) (i21 : Nat) (kk : Nat → Sto → Sto) : Nat → Nat → Sto → Sto
  | 0, i22, s26 => bnd (F_MS_puts 375 640 0 128 s26) fun s27 => kk (i21 + 1) s27
  | n22 + 1, i22, s26 => if hd = 0 then bnd (F_MH_high_2 (s26.1 ((351 + i21)) i22) s26) fun q21 => bnd (F_M_pack 375 640 (4 * i22) 4 (q21.1) q21.2) fun s28 => F_MH_marked_2_L1 hd i21 kk n22 (i22 + 1) s28 else bnd (F_MH_used_2 (s26.1 ((360 + i21)) i22) (s26.1 ((351 + i21)) i22) s26) fun q22 => bnd (F_M_pack 375 640 (4 * i22) 4 (q22.1) q22.2) fun s29 => F_MH_marked_2_L1 hd i21 kk n22 (i22 + 1) s29
noncomputable def F_MH_marked_2_L0 (hd : Int32) (pt : Nat) : Nat → Nat → Sto → Sto
  | 0, i21, s23 => bnd ((s23.1 225 24).toNatClampNeg) fun z22 => bnd (F_MS_end  s23) fun s24 => bnd ((s24.1 225 30).toNatClampNeg) fun z23 => bnd (F_MS_take pt 64 0 64 s24) fun s25 => s25
  | n21 + 1, i21, s23 => bnd ((s23.1 225 24).toNatClampNeg) fun z24 => F_MH_marked_2_L1 hd i21 (F_MH_marked_2_L0 hd pt n21) 256 0 s23
noncomputable def F_MH_marked_2 (hd : Int32) (pt : Nat) (s : Sto) : Sto := bnd ((s.1 225 23).toNatClampNeg) fun z21 => bnd (F_MS_shake  s) fun s21 => bnd (F_MS_puts 373 64 0 64 s21) fun s22 => F_MH_marked_2_L0 hd pt 8 0 s22
set_option maxHeartbeats 8000000 in
set_option maxRecDepth 100000 in
theorem N_MH_marked_2 (l : Launch) (g : Gd) (sz : Nat) (T : TyN) (s : Sto) (pl : va_W) (hO : okn g T s pl) (hU : inj T) (h0 to : Nat) (hd : Int32) (pt : Nat) (k_h0 : T h0 = some 225) (k_to : T to = some pt) (n_to : nsp pt = (1, 64, [])) (e_c0 : s.1 225 23 = nI 2) (e_c1 : s.1 225 24 = nI 8) (e_c2 : s.1 225 25 = nI 7) (e_c3 : s.1 225 26 = nI 2) (e_c4 : s.1 225 27 = nI 524288) (e_c5 : s.1 225 28 = nI 261888) (e_c6 : s.1 225 29 = nI 120) (e_c7 : s.1 225 30 = nI 64)  : Met l y_MH_marked w_MH_marked ({ frames := 4, cells := 0, slots := 0, locals := 90 } : Room) (va_Pc [.ref h0, .int hd, .ref to] (pr (en g) g.1 vcl sz ([] ++ pl))) (va_Qv (fun (u : (Sto) × va_W) => (u.1 = F_MH_marked_2 hd pt s ∧ frm (M_MH_marked_2 pt) s u.1 ∧ True) ∧ okn g T u.1 u.2) (po g.1 vcl (va_A ([] ++ pl) sz) (fun (u : (Sto) × va_W) => [] ++ u.2)) (va_A ([] ++ pl) sz)) 0 0 (va_A ([] ++ pl) sz) := by
  refine mc_entry (cc := c_MH_marked) (maxL := 6) (ret := none) (by decide) rfl (Nat.le_of_ble_eq_true rfl) ?_
  intro p e s0 m args below meth c ls F hr hlk hnm hsz hP hD hE hA hl
  obtain ⟨hx, hb, hml, hown, hts⟩ := id F
  have hK := hE.1
  generalize va_A ([] ++ pl) sz = A at hD hE hA ⊢
  have hS : va_S A s0.heap s0.heap [] := va_S.rf
  have hl : lv_has ls 6 [(0, .ref h0), (1, .int hd), (2, .ref to)] := hl
  have hR : F_MH_marked_2 hd pt s = F_MH_marked_2 hd pt s := rfl
  have hF : frm (M_MH_marked_2 pt) s s := frm_rf
  have ne_172_pt : 172 ≠ pt := nsp_ne (p := 172) rfl n_to (show (5 : Nat) ≠ 1 by decide)
  have ne_225_pt : 225 ≠ pt := nsp_ne (p := 225) rfl n_to (show (5 : Nat) ≠ 1 by decide)
  refine lv_aload_n hx hb dMH_marked_0 rfl (lv_at hl 0 rfl) ?_
  refine nw_get (C := "LatticeKeysModel$Hands") (TT := T_MH) (N := 31) hx hb hts (wg_ft i_MH) hown hK hO k_h0 (kn := 225) (ci := 12) (fl := [(3, 172), (3, 181), (3, 226), (3, 291), (3, 299), (3, 308), (3, 317), (3, 326), (3, 334), (3, 342), (3, 350), (3, 359), (3, 368), (3, 369), (3, 370), (3, 371), (3, 372), (3, 373), (3, 374), (3, 375), (3, 376), (3, 377), (3, 378), (0, 0), (0, 0), (0, 0), (0, 0), (0, 0), (0, 0), (0, 0), (0, 0)]) rfl hP rfl 23 (by decide) (hts _ (wg_t kw_1455)) (fun _ h9 => h9) (cd := (0, 0)) rfl dMH_marked_1 (fun v21 hv21 => ?_)
  obtain rfl := (show v21 = .int (s.1 225 23) from hv21)
  obtain ⟨z21, ez21, hz21, hz22⟩ := cl_of (b := 2147483648) e_c0 (by omega) (by decide)
  replace hR := bnd_step hR ez21
  refine mi_as hz21 ?_
  subst hz22
  refine lv_if_ne (tgt := 12) hx hb dMH_marked_4 (by decide) (fun h21 => ?_) (fun h21 => absurd h21 (by decide))
  refine lv_iconst (v := nI 4) hx hb dMH_marked_12 (by decide) ?_
  refine lv_istore_n (lv' := [(3, .int (nI 4)), (0, .ref h0), (1, .int hd), (2, .ref to)]) hx hb dMH_marked_13 rfl hl (by decide) rfl (fun ls hl => ?_)
  refine lv_aload_n hx hb dMH_marked_14 rfl (lv_at hl 1 rfl) ?_
  refine nw_get (C := "LatticeKeysModel$Hands") (TT := T_MH) (N := 31) hx hb hts (wg_ft i_MH) hown hK hO k_h0 (kn := 225) (ci := 12) (fl := [(3, 172), (3, 181), (3, 226), (3, 291), (3, 299), (3, 308), (3, 317), (3, 326), (3, 334), (3, 342), (3, 350), (3, 359), (3, 368), (3, 369), (3, 370), (3, 371), (3, 372), (3, 373), (3, 374), (3, 375), (3, 376), (3, 377), (3, 378), (0, 0), (0, 0), (0, 0), (0, 0), (0, 0), (0, 0), (0, 0), (0, 0)]) rfl hP rfl 0 (by decide) (hts _ (wg_t kw_1432)) (fun _ h9 => h9) (cd := (3, 172)) rfl dMH_marked_15 (fun v22 hv22 => ?_)
  obtain ⟨r21, rfl, kr21⟩ := (show ∃ r : Nat, v22 = .ref r ∧ T r = some 172 from hv22)
  refine mp_v (cx := []) (wr := []) hP hD hS hA [] [] rfl rfl rfl (by decide) (va_runV (As := []) (rest := []) F (N_MS_shake l g _ T s pl hO hU r21 kr21) (cwV 0 hts (wg_app (wg_c kw_1718 (wg_c kw_1661 (wg_c kw_1662 (wg_c kw_10 wg_n)))) kw_1663) rfl rfl rfl (by decide +kernel) ⟨by decide, by decide⟩) (pn_W "LatticeKeysModel$Sponge" (en_ok g) (ci := 9) (kn := 172) (fl := [(3, 173), (3, 174), (3, 175), (3, 176), (3, 177), (0, 0), (0, 0), (0, 0)]) hK hO kr21 rfl hP hD hS hA hE [] rfl rfl rfl) rfl rfl hl.1 rfl (lv_room (Nat.le_of_ble_eq_true rfl)) dMH_marked_18 ⟨by omega, by omega⟩) (fun  u21 H locs hu21 hP hD hS => ?_)
  obtain ⟨s21, pl⟩ := u21
  obtain ⟨⟨eq21, hFc21, ⟨x21, hx_21, hb_21⟩, ⟨x22, hx_22, hb_22⟩, -⟩, hO⟩ := hu21
  have hO : okn g T s21 pl := hO
  have hP : va_P g.1 vcl ([] ++ pl) _ := hP
  have hD : va_D _ ([] ++ pl) := hD
  have hFc21 : frm (M_MS_shake) s s21 := hFc21
  have hb_21 : x21 = 0 := hb_21
  have hb_22 : x22 = 136 := hb_22
  replace hR := bnd_step hR eq21
  have hF := frm_tr hF hFc21 (fun k hk => by unfold M_MS_shake at hk; unfold M_MH_marked_2; omega)
  have hf21 : s21.1 225 23 = nI 2 := fc_F e_c0 hFc21 (by unfold M_MS_shake; omega)
  have hf22 : s21.1 225 24 = nI 8 := fc_F e_c1 hFc21 (by unfold M_MS_shake; omega)
  have hf23 : s21.1 225 25 = nI 7 := fc_F e_c2 hFc21 (by unfold M_MS_shake; omega)
  have hf24 : s21.1 225 26 = nI 2 := fc_F e_c3 hFc21 (by unfold M_MS_shake; omega)
  have hf25 : s21.1 225 27 = nI 524288 := fc_F e_c4 hFc21 (by unfold M_MS_shake; omega)
  have hf26 : s21.1 225 28 = nI 261888 := fc_F e_c5 hFc21 (by unfold M_MS_shake; omega)
  have hf27 : s21.1 225 29 = nI 120 := fc_F e_c6 hFc21 (by unfold M_MS_shake; omega)
  have hf28 : s21.1 225 30 = nI 64 := fc_F e_c7 hFc21 (by unfold M_MS_shake; omega)
  refine W.widen (k := 0) (n := 0) (by omega) (by omega) ?_
  refine lv_aload_n hx hb dMH_marked_21 rfl (lv_at hl 1 rfl) ?_
  refine nw_get (C := "LatticeKeysModel$Hands") (TT := T_MH) (N := 31) hx hb hts (wg_ft i_MH) hown hK hO k_h0 (kn := 225) (ci := 12) (fl := [(3, 172), (3, 181), (3, 226), (3, 291), (3, 299), (3, 308), (3, 317), (3, 326), (3, 334), (3, 342), (3, 350), (3, 359), (3, 368), (3, 369), (3, 370), (3, 371), (3, 372), (3, 373), (3, 374), (3, 375), (3, 376), (3, 377), (3, 378), (0, 0), (0, 0), (0, 0), (0, 0), (0, 0), (0, 0), (0, 0), (0, 0)]) rfl hP rfl 0 (by decide) (hts _ (wg_t kw_1432)) (fun _ h9 => h9) (cd := (3, 172)) rfl dMH_marked_22 (fun v23 hv23 => ?_)
  obtain ⟨r22, rfl, kr22⟩ := (show ∃ r : Nat, v23 = .ref r ∧ T r = some 172 from hv23)
  refine lv_aload_n hx hb dMH_marked_25 rfl (lv_at hl 1 rfl) ?_
  refine nw_get (C := "LatticeKeysModel$Hands") (TT := T_MH) (N := 31) hx hb hts (wg_ft i_MH) hown hK hO k_h0 (kn := 225) (ci := 12) (fl := [(3, 172), (3, 181), (3, 226), (3, 291), (3, 299), (3, 308), (3, 317), (3, 326), (3, 334), (3, 342), (3, 350), (3, 359), (3, 368), (3, 369), (3, 370), (3, 371), (3, 372), (3, 373), (3, 374), (3, 375), (3, 376), (3, 377), (3, 378), (0, 0), (0, 0), (0, 0), (0, 0), (0, 0), (0, 0), (0, 0), (0, 0)]) rfl hP rfl 17 (by decide) (hts _ (wg_t kw_1449)) (fun _ h9 => h9) (cd := (3, 373)) rfl dMH_marked_26 (fun v24 hv24 => ?_)
  obtain ⟨r23, rfl, kr23⟩ := (show ∃ r : Nat, v24 = .ref r ∧ T r = some 373 from hv24)
  refine lv_iconst (v := nI 0) hx hb dMH_marked_29 (by decide) ?_
  refine lv_bipush (v := nI 64) hx hb dMH_marked_30 (by decide) ?_
  refine mp_v (cx := []) (wr := []) hP hD hS hA [] [] rfl rfl rfl (by decide) (va_runV (As := [.ref r23, .int (nI 0), .int (nI 64)]) (rest := []) F (N_MS_puts l g _ T s21 pl hO hU r22 r23 373 64 0 64 x21 x22 kr22 kr23 rfl hx_21 hx_22 (by omega) (by omega) (by omega) (by omega)) (cwV 3 hts (wg_app (wg_c kw_1719 (wg_c kw_1612 (wg_c kw_1613 (wg_c kw_10 wg_n)))) kw_1614) rfl rfl rfl (by decide +kernel) ⟨by decide, by decide⟩) (pn_W "LatticeKeysModel$Sponge" (en_ok g) (ci := 9) (kn := 172) (fl := [(3, 173), (3, 174), (3, 175), (3, 176), (3, 177), (0, 0), (0, 0), (0, 0)]) hK hO kr22 rfl hP hD hS hA hE [] rfl rfl rfl) rfl rfl hl.1 rfl (lv_room (Nat.le_of_ble_eq_true rfl)) dMH_marked_32 ⟨by omega, by omega⟩) (fun  u22 H locs hu22 hP hD hS => ?_)
  obtain ⟨s22, pl⟩ := u22
  obtain ⟨⟨eq22, hFc22, ⟨x24, hx_24, hb_24⟩, ⟨x25, hx_25, hb_25⟩, -⟩, hO⟩ := hu22
  have hO : okn g T s22 pl := hO
  have hP : va_P g.1 vcl ([] ++ pl) _ := hP
  have hD : va_D _ ([] ++ pl) := hD
  have hFc22 : frm (M_MS_puts) s21 s22 := hFc22
  have hb_24 : x24 < x22 := hb_24
  have hb_25 : x25 = x22 := hb_25
  replace hR := bnd_step hR eq22
  have hF := frm_tr hF hFc22 (fun k hk => by unfold M_MS_puts at hk; unfold M_MH_marked_2; omega)
  have hf29 : s22.1 225 23 = nI 2 := fc_F hf21 hFc22 (by unfold M_MS_puts; omega)
  have hf30 : s22.1 225 24 = nI 8 := fc_F hf22 hFc22 (by unfold M_MS_puts; omega)
  have hf31 : s22.1 225 25 = nI 7 := fc_F hf23 hFc22 (by unfold M_MS_puts; omega)
  have hf32 : s22.1 225 26 = nI 2 := fc_F hf24 hFc22 (by unfold M_MS_puts; omega)
  have hf33 : s22.1 225 27 = nI 524288 := fc_F hf25 hFc22 (by unfold M_MS_puts; omega)
  have hf34 : s22.1 225 28 = nI 261888 := fc_F hf26 hFc22 (by unfold M_MS_puts; omega)
  have hf35 : s22.1 225 29 = nI 120 := fc_F hf27 hFc22 (by unfold M_MS_puts; omega)
  have hf36 : s22.1 225 30 = nI 64 := fc_F hf28 hFc22 (by unfold M_MS_puts; omega)
  refine W.widen (k := 0) (n := 0) (by omega) (by omega) ?_
  refine lv_iconst (v := nI 0) hx hb dMH_marked_35 (by decide) ?_
  refine lv_istore (lv' := [(4, .int (nI 0)), (3, .int (nI 4)), (0, .ref h0), (1, .int hd), (2, .ref to)]) hx hb dMH_marked_36 hl (by decide) rfl (fun ls hl => ?_)
  have lp21 : ∀ (n21 : Nat) (i21 : Nat) (s23 : Sto) (ps21 : Nat) (pl : va_W) (ls : Array Slot) (H : Heap) (locs : List Loc), n21 + i21 = 8 → (ps21 < 136) → frm (M_MH_marked_2 pt) s s23 → s23.1 225 23 = nI 2 → s23.1 225 24 = nI 8 → s23.1 225 25 = nI 7 → s23.1 225 26 = nI 2 → s23.1 225 27 = nI 524288 → s23.1 225 28 = nI 261888 → s23.1 225 29 = nI 120 → s23.1 225 30 = nI 64 → s23.1 172 6 = nI ps21 → s23.1 172 5 = nI x25 → F_MH_marked_2 hd pt s = F_MH_marked_2_L0 hd pt n21 i21 s23 → lv_has ls 6 [(4, .int (nI i21)), (3, .int (nI 4)), (0, .ref h0), (1, .int hd), (2, .ref to)] → okn g T s23 pl → va_P g.1 vcl ([] ++ pl) H → va_D A ([] ++ pl) → va_S A s0.heap H locs → W p l e ({ frames := 4, cells := 0, slots := 0, locals := 90 } : Room) s0 m args below meth c H locs 0 0 (MQ below (va_Qv (fun (u : (Sto) × va_W) => (u.1 = F_MH_marked_2 hd pt s ∧ frm (M_MH_marked_2 pt) s u.1 ∧ True) ∧ okn g T u.1 u.2) (po g.1 vcl A (fun (u : (Sto) × va_W) => [] ++ u.2)) A) args s0 0 0 A) (F0 m 38 ls []) := by
    intro n21
    induction n21 with
    | zero =>
      intro i21 s23 ps21 pl ls H locs hm21 hi21 hF hf37 hf38 hf39 hf40 hf41 hf42 hf43 hf44 hf45 hf46 hR hl hO hP hD hS
      refine lv_iload hx hb dMH_marked_38 (lv_at hl 0 rfl) ?_
      refine lv_aload_n hx hb dMH_marked_40 rfl (lv_at hl 2 rfl) ?_
      refine nw_get (C := "LatticeKeysModel$Hands") (TT := T_MH) (N := 31) hx hb hts (wg_ft i_MH) hown hK hO k_h0 (kn := 225) (ci := 12) (fl := [(3, 172), (3, 181), (3, 226), (3, 291), (3, 299), (3, 308), (3, 317), (3, 326), (3, 334), (3, 342), (3, 350), (3, 359), (3, 368), (3, 369), (3, 370), (3, 371), (3, 372), (3, 373), (3, 374), (3, 375), (3, 376), (3, 377), (3, 378), (0, 0), (0, 0), (0, 0), (0, 0), (0, 0), (0, 0), (0, 0), (0, 0)]) rfl hP rfl 24 (by decide) (hts _ (wg_t kw_1456)) (fun _ h9 => h9) (cd := (0, 0)) rfl dMH_marked_41 (fun v25 hv25 => ?_)
      obtain rfl := (show v25 = .int (s23.1 225 24) from hv25)
      obtain ⟨z22, ez22, hz23, hz24⟩ := cl_of (b := 2147483648) hf38 (by omega) (by decide)
      replace hR := bnd_step hR ez22
      refine mi_as hz23 ?_
      subst hz24
      refine mi_ge (tgt := 143) hx hb dMH_marked_44 (by decide) (by omega) (by omega) (fun h22 => ?_) (fun h22 => absurd h22 (by omega))
      refine lv_aload_n hx hb dMH_marked_143 rfl (lv_at hl 2 rfl) ?_
      refine nw_get (C := "LatticeKeysModel$Hands") (TT := T_MH) (N := 31) hx hb hts (wg_ft i_MH) hown hK hO k_h0 (kn := 225) (ci := 12) (fl := [(3, 172), (3, 181), (3, 226), (3, 291), (3, 299), (3, 308), (3, 317), (3, 326), (3, 334), (3, 342), (3, 350), (3, 359), (3, 368), (3, 369), (3, 370), (3, 371), (3, 372), (3, 373), (3, 374), (3, 375), (3, 376), (3, 377), (3, 378), (0, 0), (0, 0), (0, 0), (0, 0), (0, 0), (0, 0), (0, 0), (0, 0)]) rfl hP rfl 0 (by decide) (hts _ (wg_t kw_1432)) (fun _ h9 => h9) (cd := (3, 172)) rfl dMH_marked_144 (fun v26 hv26 => ?_)
      obtain ⟨r24, rfl, kr24⟩ := (show ∃ r : Nat, v26 = .ref r ∧ T r = some 172 from hv26)
      refine mp_v (cx := []) (wr := []) hP hD hS hA [] [] rfl rfl rfl (by decide) (va_runV (As := []) (rest := []) F (N_MS_end l g _ T s23 pl hO hU r24 ps21 x25 kr24 hf45 hf46 (by omega) (by omega)) (cwV 0 hts (wg_app (wg_c kw_1721 (wg_c kw_1634 (wg_c kw_1635 (wg_c kw_10 wg_n)))) kw_1636) rfl rfl rfl (by decide +kernel) ⟨by decide, by decide⟩) (pn_W "LatticeKeysModel$Sponge" (en_ok g) (ci := 9) (kn := 172) (fl := [(3, 173), (3, 174), (3, 175), (3, 176), (3, 177), (0, 0), (0, 0), (0, 0)]) hK hO kr24 rfl hP hD hS hA hE [] rfl rfl rfl) rfl rfl hl.1 rfl (lv_room (Nat.le_of_ble_eq_true rfl)) dMH_marked_147 ⟨by omega, by omega⟩) (fun  u23 H locs hu23 hP hD hS => ?_)
      obtain ⟨s24, pl⟩ := u23
      obtain ⟨⟨eq23, hFc23, ⟨x27, hx_27, hb_27⟩, ⟨x28, hx_28, hb_28⟩, -⟩, hO⟩ := hu23
      have hO : okn g T s24 pl := hO
      have hP : va_P g.1 vcl ([] ++ pl) _ := hP
      have hD : va_D _ ([] ++ pl) := hD
      have hFc23 : frm (M_MS_end) s23 s24 := hFc23
      have hb_27 : x27 = 0 := hb_27
      have hb_28 : x28 = x25 := hb_28
      replace hR := bnd_step hR eq23
      have hF := frm_tr hF hFc23 (fun k hk => by unfold M_MS_end at hk; unfold M_MH_marked_2; omega)
      have hf47 : s24.1 225 23 = nI 2 := fc_F hf37 hFc23 (by unfold M_MS_end; omega)
      have hf48 : s24.1 225 24 = nI 8 := fc_F hf38 hFc23 (by unfold M_MS_end; omega)
      have hf49 : s24.1 225 25 = nI 7 := fc_F hf39 hFc23 (by unfold M_MS_end; omega)
      have hf50 : s24.1 225 26 = nI 2 := fc_F hf40 hFc23 (by unfold M_MS_end; omega)
      have hf51 : s24.1 225 27 = nI 524288 := fc_F hf41 hFc23 (by unfold M_MS_end; omega)
      have hf52 : s24.1 225 28 = nI 261888 := fc_F hf42 hFc23 (by unfold M_MS_end; omega)
      have hf53 : s24.1 225 29 = nI 120 := fc_F hf43 hFc23 (by unfold M_MS_end; omega)
      have hf54 : s24.1 225 30 = nI 64 := fc_F hf44 hFc23 (by unfold M_MS_end; omega)
      refine W.widen (k := 0) (n := 0) (by omega) (by omega) ?_
      refine lv_aload_n hx hb dMH_marked_150 rfl (lv_at hl 2 rfl) ?_
      refine nw_get (C := "LatticeKeysModel$Hands") (TT := T_MH) (N := 31) hx hb hts (wg_ft i_MH) hown hK hO k_h0 (kn := 225) (ci := 12) (fl := [(3, 172), (3, 181), (3, 226), (3, 291), (3, 299), (3, 308), (3, 317), (3, 326), (3, 334), (3, 342), (3, 350), (3, 359), (3, 368), (3, 369), (3, 370), (3, 371), (3, 372), (3, 373), (3, 374), (3, 375), (3, 376), (3, 377), (3, 378), (0, 0), (0, 0), (0, 0), (0, 0), (0, 0), (0, 0), (0, 0), (0, 0)]) rfl hP rfl 0 (by decide) (hts _ (wg_t kw_1432)) (fun _ h9 => h9) (cd := (3, 172)) rfl dMH_marked_151 (fun v27 hv27 => ?_)
      obtain ⟨r25, rfl, kr25⟩ := (show ∃ r : Nat, v27 = .ref r ∧ T r = some 172 from hv27)
      refine lv_aload_n hx hb dMH_marked_154 rfl (lv_at hl 4 rfl) ?_
      refine lv_iconst (v := nI 0) hx hb dMH_marked_155 (by decide) ?_
      refine lv_aload_n hx hb dMH_marked_156 rfl (lv_at hl 2 rfl) ?_
      refine nw_get (C := "LatticeKeysModel$Hands") (TT := T_MH) (N := 31) hx hb hts (wg_ft i_MH) hown hK hO k_h0 (kn := 225) (ci := 12) (fl := [(3, 172), (3, 181), (3, 226), (3, 291), (3, 299), (3, 308), (3, 317), (3, 326), (3, 334), (3, 342), (3, 350), (3, 359), (3, 368), (3, 369), (3, 370), (3, 371), (3, 372), (3, 373), (3, 374), (3, 375), (3, 376), (3, 377), (3, 378), (0, 0), (0, 0), (0, 0), (0, 0), (0, 0), (0, 0), (0, 0), (0, 0)]) rfl hP rfl 30 (by decide) (hts _ (wg_t kw_1462)) (fun _ h9 => h9) (cd := (0, 0)) rfl dMH_marked_157 (fun v28 hv28 => ?_)
      obtain rfl := (show v28 = .int (s24.1 225 30) from hv28)
      obtain ⟨z23, ez23, hz25, hz26⟩ := cl_of (b := 2147483648) hf54 (by omega) (by decide)
      replace hR := bnd_step hR ez23
      refine mi_as hz25 ?_
      subst hz26
      refine mp_v (cx := []) (wr := []) hP hD hS hA [] [] rfl rfl rfl (by decide) (va_runV (As := [.ref to, .int (nI 0), .int (nI 64)]) (rest := []) F (N_MS_take l g _ T s24 pl hO hU r25 to pt 64 0 64 x27 x28 kr25 k_to n_to hx_27 hx_28 (by omega) (by omega) (by omega) (by omega)) (cwV 3 hts (wg_app (wg_c kw_1722 (wg_c kw_1638 (wg_c kw_1639 (wg_c kw_10 wg_n)))) kw_1640) rfl rfl rfl (by decide +kernel) ⟨by decide, by decide⟩) (pn_W "LatticeKeysModel$Sponge" (en_ok g) (ci := 9) (kn := 172) (fl := [(3, 173), (3, 174), (3, 175), (3, 176), (3, 177), (0, 0), (0, 0), (0, 0)]) hK hO kr25 rfl hP hD hS hA hE [] rfl rfl rfl) rfl rfl hl.1 rfl (lv_room (Nat.le_of_ble_eq_true rfl)) dMH_marked_160 ⟨by omega, by omega⟩) (fun  u24 H locs hu24 hP hD hS => ?_)
      obtain ⟨s25, pl⟩ := u24
      obtain ⟨⟨eq24, hFc24, ⟨x30, hx_30, hb_30⟩, ⟨x31, hx_31, hb_31⟩, -⟩, hO⟩ := hu24
      have hO : okn g T s25 pl := hO
      have hP : va_P g.1 vcl ([] ++ pl) _ := hP
      have hD : va_D _ ([] ++ pl) := hD
      have hFc24 : frm (M_MS_take pt) s24 s25 := hFc24
      have hb_30 : x30 ≤ x28 := hb_30
      have hb_31 : x31 = x28 := hb_31
      replace hR := bnd_step hR eq24
      have hF := frm_tr hF hFc24 (fun k hk => by unfold M_MS_take at hk; unfold M_MH_marked_2; omega)
      have hf55 : s25.1 225 23 = nI 2 := fc_F hf47 hFc24 (by unfold M_MS_take; omega)
      have hf56 : s25.1 225 24 = nI 8 := fc_F hf48 hFc24 (by unfold M_MS_take; omega)
      have hf57 : s25.1 225 25 = nI 7 := fc_F hf49 hFc24 (by unfold M_MS_take; omega)
      have hf58 : s25.1 225 26 = nI 2 := fc_F hf50 hFc24 (by unfold M_MS_take; omega)
      have hf59 : s25.1 225 27 = nI 524288 := fc_F hf51 hFc24 (by unfold M_MS_take; omega)
      have hf60 : s25.1 225 28 = nI 261888 := fc_F hf52 hFc24 (by unfold M_MS_take; omega)
      have hf61 : s25.1 225 29 = nI 120 := fc_F hf53 hFc24 (by unfold M_MS_take; omega)
      have hf62 : s25.1 225 30 = nI 64 := fc_F hf54 hFc24 (by unfold M_MS_take; omega)
      refine W.widen (k := 0) (n := 0) (by omega) (by omega) ?_
      exact mp_vret hx hb hr hlk hP hD hS (s25, pl) ⟨⟨hR.symm, hF, trivial⟩, hO⟩ [] rfl rfl rfl (by omega) (by omega) dMH_marked_163
    | succ n21 ih21 =>
      intro i21 s23 ps21 pl ls H locs hm21 hi21 hF hf63 hf64 hf65 hf66 hf67 hf68 hf69 hf70 hf71 hf72 hR hl hO hP hD hS
      refine lv_iload hx hb dMH_marked_38 (lv_at hl 0 rfl) ?_
      refine lv_aload_n hx hb dMH_marked_40 rfl (lv_at hl 2 rfl) ?_
      refine nw_get (C := "LatticeKeysModel$Hands") (TT := T_MH) (N := 31) hx hb hts (wg_ft i_MH) hown hK hO k_h0 (kn := 225) (ci := 12) (fl := [(3, 172), (3, 181), (3, 226), (3, 291), (3, 299), (3, 308), (3, 317), (3, 326), (3, 334), (3, 342), (3, 350), (3, 359), (3, 368), (3, 369), (3, 370), (3, 371), (3, 372), (3, 373), (3, 374), (3, 375), (3, 376), (3, 377), (3, 378), (0, 0), (0, 0), (0, 0), (0, 0), (0, 0), (0, 0), (0, 0), (0, 0)]) rfl hP rfl 24 (by decide) (hts _ (wg_t kw_1456)) (fun _ h9 => h9) (cd := (0, 0)) rfl dMH_marked_41 (fun v29 hv29 => ?_)
      obtain rfl := (show v29 = .int (s23.1 225 24) from hv29)
      obtain ⟨z24, ez24, hz27, hz28⟩ := cl_of (b := 2147483648) hf64 (by omega) (by decide)
      replace hR := bnd_step hR ez24
      refine mi_as hz27 ?_
      subst hz28
      refine mi_ge (tgt := 143) hx hb dMH_marked_44 (by decide) (by omega) (by omega) (fun h23 => absurd h23 (by omega)) (fun h23 => ?_)
      refine lv_iconst (v := nI 0) hx hb dMH_marked_47 (by decide) ?_
      refine lv_istore (lv' := [(5, .int (nI 0)), (4, .int (nI i21)), (3, .int (nI 4)), (0, .ref h0), (1, .int hd), (2, .ref to)]) hx hb dMH_marked_48 hl (by decide) rfl (fun ls hl => ?_)
      have lp22 : ∀ (n22 : Nat) (i22 : Nat) (s26 : Sto) (ps22 : Nat) (pl : va_W) (ls : Array Slot) (H : Heap) (locs : List Loc), n22 + i22 = 256 → (ps22 < 136) → frm (M_MH_marked_2 pt) s s26 → s26.1 225 23 = nI 2 → s26.1 225 24 = nI 8 → s26.1 225 25 = nI 7 → s26.1 225 26 = nI 2 → s26.1 225 27 = nI 524288 → s26.1 225 28 = nI 261888 → s26.1 225 29 = nI 120 → s26.1 225 30 = nI 64 → s26.1 172 6 = nI ps22 → s26.1 172 5 = nI x25 → F_MH_marked_2 hd pt s = F_MH_marked_2_L1 hd i21 (F_MH_marked_2_L0 hd pt n21) n22 i22 s26 → lv_has ls 6 [(5, .int (nI i22)), (4, .int (nI i21)), (3, .int (nI 4)), (0, .ref h0), (1, .int hd), (2, .ref to)] → okn g T s26 pl → va_P g.1 vcl ([] ++ pl) H → va_D A ([] ++ pl) → va_S A s0.heap H locs → W p l e ({ frames := 4, cells := 0, slots := 0, locals := 90 } : Room) s0 m args below meth c H locs 0 0 (MQ below (va_Qv (fun (u : (Sto) × va_W) => (u.1 = F_MH_marked_2 hd pt s ∧ frm (M_MH_marked_2 pt) s u.1 ∧ True) ∧ okn g T u.1 u.2) (po g.1 vcl A (fun (u : (Sto) × va_W) => [] ++ u.2)) A) args s0 0 0 A) (F0 m 50 ls []) := by
        intro n22
        induction n22 with
        | zero =>
          intro i22 s26 ps22 pl ls H locs hm22 hi22 hF hf73 hf74 hf75 hf76 hf77 hf78 hf79 hf80 hf81 hf82 hR hl hO hP hD hS
          refine lv_iload hx hb dMH_marked_50 (lv_at hl 0 rfl) ?_
          refine lv_sipush (v := nI 256) hx hb dMH_marked_52 (by decide) ?_
          refine mi_ge (tgt := 121) hx hb dMH_marked_55 (by decide) (by omega) (by omega) (fun h24 => ?_) (fun h24 => absurd h24 (by omega))
          refine lv_aload_n hx hb dMH_marked_121 rfl (lv_at hl 3 rfl) ?_
          refine nw_get (C := "LatticeKeysModel$Hands") (TT := T_MH) (N := 31) hx hb hts (wg_ft i_MH) hown hK hO k_h0 (kn := 225) (ci := 12) (fl := [(3, 172), (3, 181), (3, 226), (3, 291), (3, 299), (3, 308), (3, 317), (3, 326), (3, 334), (3, 342), (3, 350), (3, 359), (3, 368), (3, 369), (3, 370), (3, 371), (3, 372), (3, 373), (3, 374), (3, 375), (3, 376), (3, 377), (3, 378), (0, 0), (0, 0), (0, 0), (0, 0), (0, 0), (0, 0), (0, 0), (0, 0)]) rfl hP rfl 0 (by decide) (hts _ (wg_t kw_1432)) (fun _ h9 => h9) (cd := (3, 172)) rfl dMH_marked_122 (fun v30 hv30 => ?_)
          obtain ⟨r26, rfl, kr26⟩ := (show ∃ r : Nat, v30 = .ref r ∧ T r = some 172 from hv30)
          refine lv_aload_n hx hb dMH_marked_125 rfl (lv_at hl 3 rfl) ?_
          refine nw_get (C := "LatticeKeysModel$Hands") (TT := T_MH) (N := 31) hx hb hts (wg_ft i_MH) hown hK hO k_h0 (kn := 225) (ci := 12) (fl := [(3, 172), (3, 181), (3, 226), (3, 291), (3, 299), (3, 308), (3, 317), (3, 326), (3, 334), (3, 342), (3, 350), (3, 359), (3, 368), (3, 369), (3, 370), (3, 371), (3, 372), (3, 373), (3, 374), (3, 375), (3, 376), (3, 377), (3, 378), (0, 0), (0, 0), (0, 0), (0, 0), (0, 0), (0, 0), (0, 0), (0, 0)]) rfl hP rfl 19 (by decide) (hts _ (wg_t kw_1451)) (fun _ h9 => h9) (cd := (3, 375)) rfl dMH_marked_126 (fun v31 hv31 => ?_)
          obtain ⟨r27, rfl, kr27⟩ := (show ∃ r : Nat, v31 = .ref r ∧ T r = some 375 from hv31)
          refine lv_iconst (v := nI 0) hx hb dMH_marked_129 (by decide) ?_
          refine lv_bipush (v := nI 32) hx hb dMH_marked_130 (by decide) ?_
          refine lv_iload_n hx hb dMH_marked_132 rfl (lv_at hl 2 rfl) ?_
          refine mi_imul hx hb dMH_marked_133 ?_
          refine mi_as (show nI (32 * 4) = nI 128 from rfl) ?_
          refine mp_v (cx := []) (wr := []) hP hD hS hA [] [] rfl rfl rfl (by decide) (va_runV (As := [.ref r27, .int (nI 0), .int (nI 128)]) (rest := []) F (N_MS_puts l g _ T s26 pl hO hU r26 r27 375 640 0 128 ps22 x25 kr26 kr27 rfl hf81 hf82 (by omega) (by omega) (by omega) (by omega)) (cwV 3 hts (wg_app (wg_c kw_1719 (wg_c kw_1612 (wg_c kw_1613 (wg_c kw_10 wg_n)))) kw_1614) rfl rfl rfl (by decide +kernel) ⟨by decide, by decide⟩) (pn_W "LatticeKeysModel$Sponge" (en_ok g) (ci := 9) (kn := 172) (fl := [(3, 173), (3, 174), (3, 175), (3, 176), (3, 177), (0, 0), (0, 0), (0, 0)]) hK hO kr26 rfl hP hD hS hA hE [] rfl rfl rfl) rfl rfl hl.1 rfl (lv_room (Nat.le_of_ble_eq_true rfl)) dMH_marked_134 ⟨by omega, by omega⟩) (fun  u25 H locs hu25 hP hD hS => ?_)
          obtain ⟨s27, pl⟩ := u25
          obtain ⟨⟨eq25, hFc25, ⟨x33, hx_33, hb_33⟩, ⟨x34, hx_34, hb_34⟩, -⟩, hO⟩ := hu25
          have hO : okn g T s27 pl := hO
          have hP : va_P g.1 vcl ([] ++ pl) _ := hP
          have hD : va_D _ ([] ++ pl) := hD
          have hFc25 : frm (M_MS_puts) s26 s27 := hFc25
          have hb_33 : x33 < x25 := hb_33
          have hb_34 : x34 = x25 := hb_34
          replace hR := bnd_step hR eq25
          have hF := frm_tr hF hFc25 (fun k hk => by unfold M_MS_puts at hk; unfold M_MH_marked_2; omega)
          have hf83 : s27.1 225 23 = nI 2 := fc_F hf73 hFc25 (by unfold M_MS_puts; omega)
          have hf84 : s27.1 225 24 = nI 8 := fc_F hf74 hFc25 (by unfold M_MS_puts; omega)
          have hf85 : s27.1 225 25 = nI 7 := fc_F hf75 hFc25 (by unfold M_MS_puts; omega)
          have hf86 : s27.1 225 26 = nI 2 := fc_F hf76 hFc25 (by unfold M_MS_puts; omega)
          have hf87 : s27.1 225 27 = nI 524288 := fc_F hf77 hFc25 (by unfold M_MS_puts; omega)
          have hf88 : s27.1 225 28 = nI 261888 := fc_F hf78 hFc25 (by unfold M_MS_puts; omega)
          have hf89 : s27.1 225 29 = nI 120 := fc_F hf79 hFc25 (by unfold M_MS_puts; omega)
          have hf90 : s27.1 225 30 = nI 64 := fc_F hf80 hFc25 (by unfold M_MS_puts; omega)
          refine W.widen (k := 0) (n := 0) (by omega) (by omega) ?_
          refine mi_iinc (k := 1) (x := i21) (d := 1) (y := i21 + 1) (lv' := [(4, .int (nI (i21 + 1))), (5, .int (nI i22)), (3, .int (nI 4)), (0, .ref h0), (1, .int hd), (2, .ref to)]) hx hb dMH_marked_137 hl rfl (by decide) rfl (by decide) rfl (fun ls hl => ?_)
          refine lv_goto (tgt := 38) hx hb dMH_marked_140 (by decide) ?_
          exact ih21 (i21 + 1) s27 x33 pl ls H locs (by omega) (by omega) hF hf83 hf84 hf85 hf86 hf87 hf88 hf89 hf90 hx_33 (by have h9 := hx_34; rw [show x34 = x25 by omega] at h9; exact h9) hR (lv_sub hl [0, 2, 3, 4, 5] rfl) hO hP hD hS
        | succ n22 ih22 =>
          intro i22 s26 ps22 pl ls H locs hm22 hi22 hF hf91 hf92 hf93 hf94 hf95 hf96 hf97 hf98 hf99 hf100 hR hl hO hP hD hS
          refine lv_iload hx hb dMH_marked_50 (lv_at hl 0 rfl) ?_
          refine lv_sipush (v := nI 256) hx hb dMH_marked_52 (by decide) ?_
          refine mi_ge (tgt := 121) hx hb dMH_marked_55 (by decide) (by omega) (by omega) (fun h25 => absurd h25 (by omega)) (fun h25 => ?_)
          refine lv_aload_n hx hb dMH_marked_58 rfl (lv_at hl 3 rfl) ?_
          refine nw_get (C := "LatticeKeysModel$Hands") (TT := T_MH) (N := 31) hx hb hts (wg_ft i_MH) hown hK hO k_h0 (kn := 225) (ci := 12) (fl := [(3, 172), (3, 181), (3, 226), (3, 291), (3, 299), (3, 308), (3, 317), (3, 326), (3, 334), (3, 342), (3, 350), (3, 359), (3, 368), (3, 369), (3, 370), (3, 371), (3, 372), (3, 373), (3, 374), (3, 375), (3, 376), (3, 377), (3, 378), (0, 0), (0, 0), (0, 0), (0, 0), (0, 0), (0, 0), (0, 0), (0, 0)]) rfl hP rfl 19 (by decide) (hts _ (wg_t kw_1451)) (fun _ h9 => h9) (cd := (3, 375)) rfl dMH_marked_59 (fun v32 hv32 => ?_)
          obtain ⟨r28, rfl, kr28⟩ := (show ∃ r : Nat, v32 = .ref r ∧ T r = some 375 from hv32)
          refine lv_iload_n hx hb dMH_marked_62 rfl (lv_at hl 2 rfl) ?_
          refine lv_iload hx hb dMH_marked_63 (lv_at hl 0 rfl) ?_
          refine mi_imul hx hb dMH_marked_65 ?_
          refine lv_iload_n hx hb dMH_marked_66 rfl (lv_at hl 2 rfl) ?_
          refine lv_iload_n hx hb dMH_marked_67 rfl (lv_at hl 4 rfl) ?_
          refine lv_if_eq (tgt := 98) hx hb dMH_marked_68 (by decide) (fun h26 => ?_) (fun h26 => ?_)
          · replace hR := hR.trans (if_pos h26)
            refine lv_aload_n hx hb dMH_marked_98 rfl (lv_at hl 3 rfl) ?_
            refine lv_aload_n hx hb dMH_marked_99 rfl (lv_at hl 3 rfl) ?_
            refine nw_get (C := "LatticeKeysModel$Hands") (TT := T_MH) (N := 31) hx hb hts (wg_ft i_MH) hown hK hO k_h0 (kn := 225) (ci := 12) (fl := [(3, 172), (3, 181), (3, 226), (3, 291), (3, 299), (3, 308), (3, 317), (3, 326), (3, 334), (3, 342), (3, 350), (3, 359), (3, 368), (3, 369), (3, 370), (3, 371), (3, 372), (3, 373), (3, 374), (3, 375), (3, 376), (3, 377), (3, 378), (0, 0), (0, 0), (0, 0), (0, 0), (0, 0), (0, 0), (0, 0), (0, 0)]) rfl hP rfl 10 (by decide) (hts _ (wg_t kw_1442)) (fun _ h9 => h9) (cd := (3, 350)) rfl dMH_marked_100 (fun v33 hv33 => ?_)
            obtain ⟨r29, rfl, kr29⟩ := (show ∃ r : Nat, v33 = .ref r ∧ T r = some 350 from hv33)
            refine lv_iload hx hb dMH_marked_103 (lv_at hl 1 rfl) ?_
            refine nw_aald3 hx hb hK hO kr29 (k := 350) (b := 351) rfl hP (by omega) (by omega) dMH_marked_105 (fun r30 kr30 => ?_)
            have hn21 : nsp (351 + i21) = (0, 256, []) := rows_ok 351 8 (by decide) _ (by omega)
            refine lv_iload hx hb dMH_marked_106 (lv_at hl 0 rfl) ?_
            refine nw_iald hx hb hK hO kr30 (k := (351 + i21)) hn21 hP (by omega) (by omega) dMH_marked_108 ?_
            refine mp_i (cx := []) (wr := []) hP hD hS hA [] [] rfl rfl rfl (by decide) (va_runV (As := [.int ((s26.1 ((351 + i21)) i22))]) (rest := [.int (nI 4), .int (nI (4 * i22)), .ref r28]) F (N_MH_high_2 l g _ T s26 pl hO hU h0 (s26.1 ((351 + i21)) i22) k_h0 hf91 hf92 hf93 hf94 hf95 hf96 hf97 hf98) (cwV 1 hts (wg_app (wg_c kw_1885 (wg_c kw_1887 (wg_c ks_75 (wg_c kw_13 wg_n)))) kw_1888) rfl rfl rfl (by decide +kernel) ⟨by decide, by decide⟩) (pn_W "LatticeKeysModel$Hands" (en_ok g) (ci := 12) (kn := 225) (fl := [(3, 172), (3, 181), (3, 226), (3, 291), (3, 299), (3, 308), (3, 317), (3, 326), (3, 334), (3, 342), (3, 350), (3, 359), (3, 368), (3, 369), (3, 370), (3, 371), (3, 372), (3, 373), (3, 374), (3, 375), (3, 376), (3, 377), (3, 378), (0, 0), (0, 0), (0, 0), (0, 0), (0, 0), (0, 0), (0, 0), (0, 0)]) hK hO k_h0 rfl hP hD hS hA hE [] rfl rfl rfl) rfl rfl hl.1 rfl (lv_room (Nat.le_of_ble_eq_true rfl)) dMH_marked_109 ⟨by omega, by omega⟩) (fun r31 u26 H locs hu26 hP hD hS => ?_)
            obtain ⟨q21, pl⟩ := u26
            obtain ⟨⟨eq26, rfl, hFc26, -⟩, hO⟩ := hu26
            have hO : okn g T q21.2 pl := hO
            have hP : va_P g.1 vcl ([] ++ pl) _ := hP
            have hD : va_D _ ([] ++ pl) := hD
            have hFc26 : frm (M_MH_high_2) s26 q21.2 := hFc26
            replace hR := bnd_step hR eq26
            have hF := frm_tr hF hFc26 (fun k hk => by unfold M_MH_high_2 at hk; unfold M_MH_marked_2; omega)
            have hf101 : q21.2.1 225 23 = nI 2 := fc_F hf91 hFc26 (by unfold M_MH_high_2; omega)
            have hf102 : q21.2.1 225 24 = nI 8 := fc_F hf92 hFc26 (by unfold M_MH_high_2; omega)
            have hf103 : q21.2.1 225 25 = nI 7 := fc_F hf93 hFc26 (by unfold M_MH_high_2; omega)
            have hf104 : q21.2.1 225 26 = nI 2 := fc_F hf94 hFc26 (by unfold M_MH_high_2; omega)
            have hf105 : q21.2.1 225 27 = nI 524288 := fc_F hf95 hFc26 (by unfold M_MH_high_2; omega)
            have hf106 : q21.2.1 225 28 = nI 261888 := fc_F hf96 hFc26 (by unfold M_MH_high_2; omega)
            have hf107 : q21.2.1 225 29 = nI 120 := fc_F hf97 hFc26 (by unfold M_MH_high_2; omega)
            have hf108 : q21.2.1 225 30 = nI 64 := fc_F hf98 hFc26 (by unfold M_MH_high_2; omega)
            have hf109 : q21.2.1 172 6 = nI ps22 := fc_F hf99 hFc26 (by unfold M_MH_high_2; omega)
            have hf110 : q21.2.1 172 5 = nI x25 := fc_F hf100 hFc26 (by unfold M_MH_high_2; omega)
            refine W.widen (k := 0) (n := 0) (by omega) (by omega) ?_
            refine mp_v (cx := []) (wr := []) hP hD hS hA [] [] rfl rfl rfl (by decide) (va_runSN (As := [.ref r28, .int (nI (4 * i22)), .int (nI 4), .int q21.1]) (rest := []) F (N_M_pack l g _ T q21.2 pl hO hU r28 375 640 (4 * i22) 4 (q21.1) kr28 rfl (by omega) (by omega)) ⟨va_cnB 4 hts (wg_in kw_1690) rfl rfl rfl (hE.2.2.2.2.2.2.2.2.2.1) (hts _ (wg_t kw_9)) (by decide +kernel) ⟨by decide, by decide⟩, hts _ (wg_t kw_1689), trivial⟩ (pp_S (en_ok g) hP hD hS hA hE [] rfl rfl) rfl rfl hl.1 rfl (lv_room (Nat.le_of_ble_eq_true rfl)) dMH_marked_112 ⟨by omega, by omega⟩) (fun  u27 H locs hu27 hP hD hS => ?_)
            obtain ⟨s28, pl⟩ := u27
            obtain ⟨⟨eq27, hFc27, -⟩, hO⟩ := hu27
            have hO : okn g T s28 pl := hO
            have hP : va_P g.1 vcl ([] ++ pl) _ := hP
            have hD : va_D _ ([] ++ pl) := hD
            have hFc27 : frm (M_M_pack 375) q21.2 s28 := hFc27
            replace hR := bnd_step hR eq27
            have hF := frm_tr hF hFc27 (fun k hk => by unfold M_M_pack at hk; unfold M_MH_marked_2; omega)
            have hf111 : s28.1 225 23 = nI 2 := fc_F hf101 hFc27 (by unfold M_M_pack; omega)
            have hf112 : s28.1 225 24 = nI 8 := fc_F hf102 hFc27 (by unfold M_M_pack; omega)
            have hf113 : s28.1 225 25 = nI 7 := fc_F hf103 hFc27 (by unfold M_M_pack; omega)
            have hf114 : s28.1 225 26 = nI 2 := fc_F hf104 hFc27 (by unfold M_M_pack; omega)
            have hf115 : s28.1 225 27 = nI 524288 := fc_F hf105 hFc27 (by unfold M_M_pack; omega)
            have hf116 : s28.1 225 28 = nI 261888 := fc_F hf106 hFc27 (by unfold M_M_pack; omega)
            have hf117 : s28.1 225 29 = nI 120 := fc_F hf107 hFc27 (by unfold M_M_pack; omega)
            have hf118 : s28.1 225 30 = nI 64 := fc_F hf108 hFc27 (by unfold M_M_pack; omega)
            have hf119 : s28.1 172 6 = nI ps22 := fc_F hf109 hFc27 (by unfold M_M_pack; omega)
            have hf120 : s28.1 172 5 = nI x25 := fc_F hf110 hFc27 (by unfold M_M_pack; omega)
            refine W.widen (k := 0) (n := 0) (by omega) (by omega) ?_
            refine mi_iinc (k := 0) (x := i22) (d := 1) (y := i22 + 1) (lv' := [(5, .int (nI (i22 + 1))), (4, .int (nI i21)), (3, .int (nI 4)), (0, .ref h0), (1, .int hd), (2, .ref to)]) hx hb dMH_marked_115 hl rfl (by decide) rfl (by decide) rfl (fun ls hl => ?_)
            refine lv_goto (tgt := 50) hx hb dMH_marked_118 (by decide) ?_
            exact ih22 (i22 + 1) s28 ps22 pl ls H locs (by omega) (by omega) hF hf111 hf112 hf113 hf114 hf115 hf116 hf117 hf118 hf119 hf120 hR (lv_sub hl [0, 1, 2, 3, 4, 5] rfl) hO hP hD hS
          · replace hR := hR.trans (if_neg h26)
            refine lv_aload_n hx hb dMH_marked_71 rfl (lv_at hl 3 rfl) ?_
            refine lv_aload_n hx hb dMH_marked_72 rfl (lv_at hl 3 rfl) ?_
            refine nw_get (C := "LatticeKeysModel$Hands") (TT := T_MH) (N := 31) hx hb hts (wg_ft i_MH) hown hK hO k_h0 (kn := 225) (ci := 12) (fl := [(3, 172), (3, 181), (3, 226), (3, 291), (3, 299), (3, 308), (3, 317), (3, 326), (3, 334), (3, 342), (3, 350), (3, 359), (3, 368), (3, 369), (3, 370), (3, 371), (3, 372), (3, 373), (3, 374), (3, 375), (3, 376), (3, 377), (3, 378), (0, 0), (0, 0), (0, 0), (0, 0), (0, 0), (0, 0), (0, 0), (0, 0)]) rfl hP rfl 11 (by decide) (hts _ (wg_t kw_1443)) (fun _ h9 => h9) (cd := (3, 359)) rfl dMH_marked_73 (fun v34 hv34 => ?_)
            obtain ⟨r32, rfl, kr31⟩ := (show ∃ r : Nat, v34 = .ref r ∧ T r = some 359 from hv34)
            refine lv_iload hx hb dMH_marked_76 (lv_at hl 1 rfl) ?_
            refine nw_aald3 hx hb hK hO kr31 (k := 359) (b := 360) rfl hP (by omega) (by omega) dMH_marked_78 (fun r33 kr32 => ?_)
            have hn22 : nsp (360 + i21) = (0, 256, []) := rows_ok 360 8 (by decide) _ (by omega)
            refine lv_iload hx hb dMH_marked_79 (lv_at hl 0 rfl) ?_
            refine nw_iald hx hb hK hO kr32 (k := (360 + i21)) hn22 hP (by omega) (by omega) dMH_marked_81 ?_
            refine lv_aload_n hx hb dMH_marked_82 rfl (lv_at hl 3 rfl) ?_
            refine nw_get (C := "LatticeKeysModel$Hands") (TT := T_MH) (N := 31) hx hb hts (wg_ft i_MH) hown hK hO k_h0 (kn := 225) (ci := 12) (fl := [(3, 172), (3, 181), (3, 226), (3, 291), (3, 299), (3, 308), (3, 317), (3, 326), (3, 334), (3, 342), (3, 350), (3, 359), (3, 368), (3, 369), (3, 370), (3, 371), (3, 372), (3, 373), (3, 374), (3, 375), (3, 376), (3, 377), (3, 378), (0, 0), (0, 0), (0, 0), (0, 0), (0, 0), (0, 0), (0, 0), (0, 0)]) rfl hP rfl 10 (by decide) (hts _ (wg_t kw_1442)) (fun _ h9 => h9) (cd := (3, 350)) rfl dMH_marked_83 (fun v35 hv35 => ?_)
            obtain ⟨r34, rfl, kr33⟩ := (show ∃ r : Nat, v35 = .ref r ∧ T r = some 350 from hv35)
            refine lv_iload hx hb dMH_marked_86 (lv_at hl 1 rfl) ?_
            refine nw_aald3 hx hb hK hO kr33 (k := 350) (b := 351) rfl hP (by omega) (by omega) dMH_marked_88 (fun r35 kr34 => ?_)
            have hn23 : nsp (351 + i21) = (0, 256, []) := rows_ok 351 8 (by decide) _ (by omega)
            refine lv_iload hx hb dMH_marked_89 (lv_at hl 0 rfl) ?_
            refine nw_iald hx hb hK hO kr34 (k := (351 + i21)) hn23 hP (by omega) (by omega) dMH_marked_91 ?_
            refine mp_i (cx := []) (wr := []) hP hD hS hA [] [] rfl rfl rfl (by decide) (va_runV (As := [.int ((s26.1 ((360 + i21)) i22)), .int ((s26.1 ((351 + i21)) i22))]) (rest := [.int (nI 4), .int (nI (4 * i22)), .ref r28]) F (N_MH_used_2 l g _ T s26 pl hO hU h0 (s26.1 ((360 + i21)) i22) (s26.1 ((351 + i21)) i22) k_h0 hf91 hf92 hf93 hf94 hf95 hf96 hf97 hf98) (cwV 2 hts (wg_app (wg_c kw_1880 (wg_c kw_1882 (wg_c ks_74 (wg_c kw_13 wg_n)))) kw_1883) rfl rfl rfl (by decide +kernel) ⟨by decide, by decide⟩) (pn_W "LatticeKeysModel$Hands" (en_ok g) (ci := 12) (kn := 225) (fl := [(3, 172), (3, 181), (3, 226), (3, 291), (3, 299), (3, 308), (3, 317), (3, 326), (3, 334), (3, 342), (3, 350), (3, 359), (3, 368), (3, 369), (3, 370), (3, 371), (3, 372), (3, 373), (3, 374), (3, 375), (3, 376), (3, 377), (3, 378), (0, 0), (0, 0), (0, 0), (0, 0), (0, 0), (0, 0), (0, 0), (0, 0)]) hK hO k_h0 rfl hP hD hS hA hE [] rfl rfl rfl) rfl rfl hl.1 rfl (lv_room (Nat.le_of_ble_eq_true rfl)) dMH_marked_92 ⟨by omega, by omega⟩) (fun r36 u28 H locs hu28 hP hD hS => ?_)
            obtain ⟨q22, pl⟩ := u28
            obtain ⟨⟨eq28, rfl, hFc28, -⟩, hO⟩ := hu28
            have hO : okn g T q22.2 pl := hO
            have hP : va_P g.1 vcl ([] ++ pl) _ := hP
            have hD : va_D _ ([] ++ pl) := hD
            have hFc28 : frm (M_MH_used_2) s26 q22.2 := hFc28
            replace hR := bnd_step hR eq28
            have hF := frm_tr hF hFc28 (fun k hk => by unfold M_MH_used_2 at hk; unfold M_MH_marked_2; omega)
            have hf121 : q22.2.1 225 23 = nI 2 := fc_F hf91 hFc28 (by unfold M_MH_used_2; omega)
            have hf122 : q22.2.1 225 24 = nI 8 := fc_F hf92 hFc28 (by unfold M_MH_used_2; omega)
            have hf123 : q22.2.1 225 25 = nI 7 := fc_F hf93 hFc28 (by unfold M_MH_used_2; omega)
            have hf124 : q22.2.1 225 26 = nI 2 := fc_F hf94 hFc28 (by unfold M_MH_used_2; omega)
            have hf125 : q22.2.1 225 27 = nI 524288 := fc_F hf95 hFc28 (by unfold M_MH_used_2; omega)
            have hf126 : q22.2.1 225 28 = nI 261888 := fc_F hf96 hFc28 (by unfold M_MH_used_2; omega)
            have hf127 : q22.2.1 225 29 = nI 120 := fc_F hf97 hFc28 (by unfold M_MH_used_2; omega)
            have hf128 : q22.2.1 225 30 = nI 64 := fc_F hf98 hFc28 (by unfold M_MH_used_2; omega)
            have hf129 : q22.2.1 172 6 = nI ps22 := fc_F hf99 hFc28 (by unfold M_MH_used_2; omega)
            have hf130 : q22.2.1 172 5 = nI x25 := fc_F hf100 hFc28 (by unfold M_MH_used_2; omega)
            refine W.widen (k := 0) (n := 0) (by omega) (by omega) ?_
            refine lv_goto (tgt := 112) hx hb dMH_marked_95 (by decide) ?_
            refine mp_v (cx := []) (wr := []) hP hD hS hA [] [] rfl rfl rfl (by decide) (va_runSN (As := [.ref r28, .int (nI (4 * i22)), .int (nI 4), .int q22.1]) (rest := []) F (N_M_pack l g _ T q22.2 pl hO hU r28 375 640 (4 * i22) 4 (q22.1) kr28 rfl (by omega) (by omega)) ⟨va_cnB 4 hts (wg_in kw_1690) rfl rfl rfl (hE.2.2.2.2.2.2.2.2.2.1) (hts _ (wg_t kw_9)) (by decide +kernel) ⟨by decide, by decide⟩, hts _ (wg_t kw_1689), trivial⟩ (pp_S (en_ok g) hP hD hS hA hE [] rfl rfl) rfl rfl hl.1 rfl (lv_room (Nat.le_of_ble_eq_true rfl)) dMH_marked_112 ⟨by omega, by omega⟩) (fun  u29 H locs hu29 hP hD hS => ?_)
            obtain ⟨s29, pl⟩ := u29
            obtain ⟨⟨eq29, hFc29, -⟩, hO⟩ := hu29
            have hO : okn g T s29 pl := hO
            have hP : va_P g.1 vcl ([] ++ pl) _ := hP
            have hD : va_D _ ([] ++ pl) := hD
            have hFc29 : frm (M_M_pack 375) q22.2 s29 := hFc29
            replace hR := bnd_step hR eq29
            have hF := frm_tr hF hFc29 (fun k hk => by unfold M_M_pack at hk; unfold M_MH_marked_2; omega)
            have hf131 : s29.1 225 23 = nI 2 := fc_F hf121 hFc29 (by unfold M_M_pack; omega)
            have hf132 : s29.1 225 24 = nI 8 := fc_F hf122 hFc29 (by unfold M_M_pack; omega)
            have hf133 : s29.1 225 25 = nI 7 := fc_F hf123 hFc29 (by unfold M_M_pack; omega)
            have hf134 : s29.1 225 26 = nI 2 := fc_F hf124 hFc29 (by unfold M_M_pack; omega)
            have hf135 : s29.1 225 27 = nI 524288 := fc_F hf125 hFc29 (by unfold M_M_pack; omega)
            have hf136 : s29.1 225 28 = nI 261888 := fc_F hf126 hFc29 (by unfold M_M_pack; omega)
            have hf137 : s29.1 225 29 = nI 120 := fc_F hf127 hFc29 (by unfold M_M_pack; omega)
            have hf138 : s29.1 225 30 = nI 64 := fc_F hf128 hFc29 (by unfold M_M_pack; omega)
            have hf139 : s29.1 172 6 = nI ps22 := fc_F hf129 hFc29 (by unfold M_M_pack; omega)
            have hf140 : s29.1 172 5 = nI x25 := fc_F hf130 hFc29 (by unfold M_M_pack; omega)
            refine W.widen (k := 0) (n := 0) (by omega) (by omega) ?_
            refine mi_iinc (k := 0) (x := i22) (d := 1) (y := i22 + 1) (lv' := [(5, .int (nI (i22 + 1))), (4, .int (nI i21)), (3, .int (nI 4)), (0, .ref h0), (1, .int hd), (2, .ref to)]) hx hb dMH_marked_115 hl rfl (by decide) rfl (by decide) rfl (fun ls hl => ?_)
            refine lv_goto (tgt := 50) hx hb dMH_marked_118 (by decide) ?_
            exact ih22 (i22 + 1) s29 ps22 pl ls H locs (by omega) (by omega) hF hf131 hf132 hf133 hf134 hf135 hf136 hf137 hf138 hf139 hf140 hR (lv_sub hl [0, 1, 2, 3, 4, 5] rfl) hO hP hD hS
      exact lp22 256 0 s23 ps21 pl ls _ _ (by omega) (by omega) hF hf63 hf64 hf65 hf66 hf67 hf68 hf69 hf70 hf71 hf72 hR (lv_sub hl [0, 1, 2, 3, 4, 5] rfl) hO hP hD hS
  exact lp21 8 0 s22 x24 pl ls _ _ (by omega) (by omega) hF hf29 hf30 hf31 hf32 hf33 hf34 hf35 hf36 hx_24 hx_25 hR (lv_sub hl [0, 1, 2, 3, 4] rfl) hO hP hD hS
def M_MH_fits_0 (k : Nat) : Prop := (335 ≤ k ∧ k < 342) ∨ (351 ≤ k ∧ k < 359) ∨ (360 ≤ k ∧ k < 368) ∨ k = 369 ∨ (0 : Nat) = 1
noncomputable def F_MH_fits_0_L5 (i21 : Nat) (kk : Nat → Sto → Int32 × Sto) : Nat → Nat → Sto → Int32 × Sto
  | 0, i26, s32 => kk (i21 + 1) s32
  | n26 + 1, i26, s32 => bnd (sI s32 ((335 + i21)) i26 (((s32.1 ((327 + i21)) i26) + (s32.1 369 i26)) - ((s32.1 ((327 + i21)) i26) + (s32.1 369 i26)) / (nI 8380417) * (nI 8380417))) fun s33 => bnd (F_MH_norm (s33.1 ((335 + i21)) i26) s33) fun q26 => bnd ((q26.2.1 225 27).toNatClampNeg) fun z35 => bnd ((q26.2.1 225 29).toNatClampNeg) fun z36 => if (q26.1) < (nI 130994) then F_MH_fits_0_L5 i21 kk n26 (i26 + 1) q26.2 else (nI 0, q26.2)
noncomputable def F_MH_fits_0_L4 (i22 : Nat) (kk : Nat → Sto → Int32 × Sto) : Nat → Nat → Sto → Int32 × Sto
  | 0, i25, s29 => kk (i22 + 1) s29
  | n25 + 1, i25, s29 => bnd (F_MH_minus (s29.1 ((351 + i22)) i25) (s29.1 369 i25) s29) fun q24 => bnd (sI q24.2 ((351 + i22)) i25 (q24.1)) fun s30 => bnd (F_MH_low_0 (s30.1 ((351 + i22)) i25) s30) fun q25 => bnd ((q25.2.1 225 28).toNatClampNeg) fun z32 => bnd ((q25.2.1 225 29).toNatClampNeg) fun z33 => if (if 0 ≤ (q25.1) then (q25.1) else 0 - (q25.1)) < (nI 95154) then F_MH_fits_0_L4 i22 kk n25 (i25 + 1) q25.2 else (nI 0, q25.2)
noncomputable def F_MH_fits_0_L3 (i23 : Nat) (kk : Nat → Int32 → Sto → Int32 × Sto) : Nat → Nat → Int32 → Sto → Int32 × Sto
  | 0, i24, z27, s25 => kk (i23 + 1) z27 s25
  | n24 + 1, i24, z27, s25 => bnd (F_MH_norm (s25.1 369 i24) s25) fun q21 => bnd ((q21.2.1 225 28).toNatClampNeg) fun z28 => if (q21.1) < (nI 95232) then bnd (F_MH_high_0 (((q21.2.1 ((351 + i23)) i24) + (q21.2.1 369 i24)) - ((q21.2.1 ((351 + i23)) i24) + (q21.2.1 369 i24)) / (nI 8380417) * (nI 8380417)) q21.2) fun q22 => bnd (F_MH_high_0 (q22.2.1 ((351 + i23)) i24) q22.2) fun q23 => if (q22.1) = (q23.1) then bnd (sI q23.2 ((360 + i23)) i24 (nI 0)) fun s27 => bnd ((z27 + (s27.1 ((360 + i23)) i24))) fun z30 => F_MH_fits_0_L3 i23 kk n24 (i24 + 1) z30 s27 else bnd (sI q23.2 ((360 + i23)) i24 (nI 1)) fun s26 => bnd ((z27 + (s26.1 ((360 + i23)) i24))) fun z29 => F_MH_fits_0_L3 i23 kk n24 (i24 + 1) z29 s26 else (nI 0, q21.2)
noncomputable def F_MH_fits_0_L2 : Nat → Nat → Int32 → Sto → Int32 × Sto
  | 0, i23, z23, s23 => bnd ((s23.1 225 24).toNatClampNeg) fun z24 => bnd ((s23.1 225 23).toNatClampNeg) fun z25 => if (nI 80) < z23 then (nI 0, s23) else (nI 1, s23)
  | n23 + 1, i23, z23, s23 => bnd ((s23.1 225 24).toNatClampNeg) fun z26 => bnd (F_MH_turned_0 (309 + i23) 369 s23) fun s24 => F_MH_fits_0_L3 i23 (F_MH_fits_0_L2  n23) 256 0 z23 s24
noncomputable def F_MH_fits_0_L1 : Nat → Nat → Sto → Int32 × Sto
  | 0, i22, s22 => bnd ((s22.1 225 24).toNatClampNeg) fun z22 => F_MH_fits_0_L2 4 0 (nI 0) s22
  | n22 + 1, i22, s22 => bnd ((s22.1 225 24).toNatClampNeg) fun z31 => bnd (F_MH_turned_0 (300 + i22) 369 s22) fun s28 => F_MH_fits_0_L4 i22 (F_MH_fits_0_L1  n22) 256 0 s28
noncomputable def F_MH_fits_0_L0 : Nat → Nat → Sto → Int32 × Sto
  | 0, i21, s21 => bnd ((s21.1 225 25).toNatClampNeg) fun z21 => F_MH_fits_0_L1 4 0 s21
  | n21 + 1, i21, s21 => bnd ((s21.1 225 25).toNatClampNeg) fun z34 => bnd (F_MH_turned_0 (292 + i21) 369 s21) fun s31 => F_MH_fits_0_L5 i21 (F_MH_fits_0_L0  n21) 256 0 s31
noncomputable def F_MH_fits_0 (s : Sto) : Int32 × Sto := F_MH_fits_0_L0 4 0 s
set_option maxHeartbeats 8000000 in
set_option maxRecDepth 100000 in
theorem N_MH_fits_0 (l : Launch) (g : Gd) (sz : Nat) (T : TyN) (s : Sto) (pl : va_W) (hO : okn g T s pl) (hU : inj T) (h0 : Nat) (k_h0 : T h0 = some 225) (e_c0 : s.1 225 23 = nI 0) (e_c1 : s.1 225 24 = nI 4) (e_c2 : s.1 225 25 = nI 4) (e_c3 : s.1 225 26 = nI 2) (e_c4 : s.1 225 27 = nI 131072) (e_c5 : s.1 225 28 = nI 95232) (e_c6 : s.1 225 29 = nI 78) (e_c7 : s.1 225 30 = nI 32)  : Met l y_MH_fits w_MH_fits ({ frames := 1, cells := 0, slots := 0, locals := 60 } : Room) (va_Pc [.ref h0] (pr (en g) g.1 vcl sz ([] ++ pl))) (va_Qi (fun (r : Int32) (u : (Int32 × Sto) × va_W) => (u.1 = F_MH_fits_0 s ∧ r = u.1.1 ∧ frm (M_MH_fits_0) s u.1.2 ∧ True) ∧ okn g T u.1.2 u.2) (po g.1 vcl (va_A ([] ++ pl) sz) (fun (u : (Int32 × Sto) × va_W) => [] ++ u.2)) (va_A ([] ++ pl) sz)) 0 0 (va_A ([] ++ pl) sz) := by
  refine mc_entry (cc := c_MH_fits) (maxL := 4) (ret := (some .boolean)) (by decide) rfl (Nat.le_of_ble_eq_true rfl) ?_
  intro p e s0 m args below meth c ls F hr hlk hnm hsz hP hD hE hA hl
  obtain ⟨hx, hb, hml, hown, hts⟩ := id F
  have hK := hE.1
  generalize va_A ([] ++ pl) sz = A at hD hE hA ⊢
  have hS : va_S A s0.heap s0.heap [] := va_S.rf
  have hl : lv_has ls 4 [(0, .ref h0)] := hl
  have hR : F_MH_fits_0 s = F_MH_fits_0 s := rfl
  have hF : frm (M_MH_fits_0) s s := frm_rf
  refine lv_iconst (v := nI 0) hx hb dMH_fits_0 (by decide) ?_
  refine lv_istore_n (lv' := [(1, .int (nI 0)), (0, .ref h0)]) hx hb dMH_fits_1 rfl hl (by decide) rfl (fun ls hl => ?_)
  have lp21 : ∀ (n21 : Nat) (i21 : Nat) (s21 : Sto) (pl : va_W) (ls : Array Slot) (H : Heap) (locs : List Loc), n21 + i21 = 4 → frm (M_MH_fits_0) s s21 → s21.1 225 23 = nI 0 → s21.1 225 24 = nI 4 → s21.1 225 25 = nI 4 → s21.1 225 26 = nI 2 → s21.1 225 27 = nI 131072 → s21.1 225 28 = nI 95232 → s21.1 225 29 = nI 78 → s21.1 225 30 = nI 32 → F_MH_fits_0 s = F_MH_fits_0_L0 n21 i21 s21 → lv_has ls 4 [(1, .int (nI i21)), (0, .ref h0)] → okn g T s21 pl → va_P g.1 vcl ([] ++ pl) H → va_D A ([] ++ pl) → va_S A s0.heap H locs → W p l e ({ frames := 1, cells := 0, slots := 0, locals := 60 } : Room) s0 m args below meth c H locs 0 0 (MQ below (va_Qi (fun (r : Int32) (u : (Int32 × Sto) × va_W) => (u.1 = F_MH_fits_0 s ∧ r = u.1.1 ∧ frm (M_MH_fits_0) s u.1.2 ∧ True) ∧ okn g T u.1.2 u.2) (po g.1 vcl A (fun (u : (Int32 × Sto) × va_W) => [] ++ u.2)) A) args s0 0 0 A) (F0 m 2 ls []) := by
    intro n21
    induction n21 with
    | zero =>
      intro i21 s21 pl ls H locs hm21 hF hf21 hf22 hf23 hf24 hf25 hf26 hf27 hf28 hR hl hO hP hD hS
      refine lv_iload_n hx hb dMH_fits_2 rfl (lv_at hl 0 rfl) ?_
      refine lv_aload_n hx hb dMH_fits_3 rfl (lv_at hl 1 rfl) ?_
      refine nw_get (C := "LatticeKeysModel$Hands") (TT := T_MH) (N := 31) hx hb hts (wg_ft i_MH) hown hK hO k_h0 (kn := 225) (ci := 12) (fl := [(3, 172), (3, 181), (3, 226), (3, 291), (3, 299), (3, 308), (3, 317), (3, 326), (3, 334), (3, 342), (3, 350), (3, 359), (3, 368), (3, 369), (3, 370), (3, 371), (3, 372), (3, 373), (3, 374), (3, 375), (3, 376), (3, 377), (3, 378), (0, 0), (0, 0), (0, 0), (0, 0), (0, 0), (0, 0), (0, 0), (0, 0)]) rfl hP rfl 25 (by decide) (hts _ (wg_t kw_1457)) (fun _ h9 => h9) (cd := (0, 0)) rfl dMH_fits_4 (fun v21 hv21 => ?_)
      obtain rfl := (show v21 = .int (s21.1 225 25) from hv21)
      obtain ⟨z21, ez21, hz21, hz22⟩ := cl_of (b := 2147483648) hf23 (by omega) (by decide)
      replace hR := bnd_step hR ez21
      refine mi_as hz21 ?_
      subst hz22
      refine mi_ge (tgt := 96) hx hb dMH_fits_7 (by decide) (by omega) (by omega) (fun h21 => ?_) (fun h21 => absurd h21 (by omega))
      refine lv_iconst (v := nI 0) hx hb dMH_fits_96 (by decide) ?_
      refine lv_istore_n (lv' := [(1, .int (nI 0)), (0, .ref h0)]) hx hb dMH_fits_97 rfl hl (by decide) rfl (fun ls hl => ?_)
      have lp22 : ∀ (n22 : Nat) (i22 : Nat) (s22 : Sto) (pl : va_W) (ls : Array Slot) (H : Heap) (locs : List Loc), n22 + i22 = 4 → frm (M_MH_fits_0) s s22 → s22.1 225 23 = nI 0 → s22.1 225 24 = nI 4 → s22.1 225 25 = nI 4 → s22.1 225 26 = nI 2 → s22.1 225 27 = nI 131072 → s22.1 225 28 = nI 95232 → s22.1 225 29 = nI 78 → s22.1 225 30 = nI 32 → F_MH_fits_0 s = F_MH_fits_0_L1 n22 i22 s22 → lv_has ls 4 [(1, .int (nI i22)), (0, .ref h0)] → okn g T s22 pl → va_P g.1 vcl ([] ++ pl) H → va_D A ([] ++ pl) → va_S A s0.heap H locs → W p l e ({ frames := 1, cells := 0, slots := 0, locals := 60 } : Room) s0 m args below meth c H locs 0 0 (MQ below (va_Qi (fun (r : Int32) (u : (Int32 × Sto) × va_W) => (u.1 = F_MH_fits_0 s ∧ r = u.1.1 ∧ frm (M_MH_fits_0) s u.1.2 ∧ True) ∧ okn g T u.1.2 u.2) (po g.1 vcl A (fun (u : (Int32 × Sto) × va_W) => [] ++ u.2)) A) args s0 0 0 A) (F0 m 98 ls []) := by
        intro n22
        induction n22 with
        | zero =>
          intro i22 s22 pl ls H locs hm22 hF hf29 hf30 hf31 hf32 hf33 hf34 hf35 hf36 hR hl hO hP hD hS
          refine lv_iload_n hx hb dMH_fits_98 rfl (lv_at hl 0 rfl) ?_
          refine lv_aload_n hx hb dMH_fits_99 rfl (lv_at hl 1 rfl) ?_
          refine nw_get (C := "LatticeKeysModel$Hands") (TT := T_MH) (N := 31) hx hb hts (wg_ft i_MH) hown hK hO k_h0 (kn := 225) (ci := 12) (fl := [(3, 172), (3, 181), (3, 226), (3, 291), (3, 299), (3, 308), (3, 317), (3, 326), (3, 334), (3, 342), (3, 350), (3, 359), (3, 368), (3, 369), (3, 370), (3, 371), (3, 372), (3, 373), (3, 374), (3, 375), (3, 376), (3, 377), (3, 378), (0, 0), (0, 0), (0, 0), (0, 0), (0, 0), (0, 0), (0, 0), (0, 0)]) rfl hP rfl 24 (by decide) (hts _ (wg_t kw_1456)) (fun _ h9 => h9) (cd := (0, 0)) rfl dMH_fits_100 (fun v22 hv22 => ?_)
          obtain rfl := (show v22 = .int (s22.1 225 24) from hv22)
          obtain ⟨z22, ez22, hz23, hz24⟩ := cl_of (b := 2147483648) hf30 (by omega) (by decide)
          replace hR := bnd_step hR ez22
          refine mi_as hz23 ?_
          subst hz24
          refine mi_ge (tgt := 195) hx hb dMH_fits_103 (by decide) (by omega) (by omega) (fun h22 => ?_) (fun h22 => absurd h22 (by omega))
          refine lv_iconst (v := nI 0) hx hb dMH_fits_195 (by decide) ?_
          refine lv_istore_n (lv' := [(1, .int (nI 0)), (0, .ref h0)]) hx hb dMH_fits_196 rfl hl (by decide) rfl (fun ls hl => ?_)
          refine lv_iconst (v := nI 0) hx hb dMH_fits_197 (by decide) ?_
          refine lv_istore_n (lv' := [(2, .int (nI 0)), (1, .int (nI 0)), (0, .ref h0)]) hx hb dMH_fits_198 rfl hl (by decide) rfl (fun ls hl => ?_)
          have lp23 : ∀ (n23 : Nat) (i23 : Nat) (z23 : Int32) (s23 : Sto) (pl : va_W) (ls : Array Slot) (H : Heap) (locs : List Loc), n23 + i23 = 4 → frm (M_MH_fits_0) s s23 → s23.1 225 23 = nI 0 → s23.1 225 24 = nI 4 → s23.1 225 25 = nI 4 → s23.1 225 26 = nI 2 → s23.1 225 27 = nI 131072 → s23.1 225 28 = nI 95232 → s23.1 225 29 = nI 78 → s23.1 225 30 = nI 32 → F_MH_fits_0 s = F_MH_fits_0_L2 n23 i23 z23 s23 → lv_has ls 4 [(2, .int (nI i23)), (1, .int z23), (0, .ref h0)] → okn g T s23 pl → va_P g.1 vcl ([] ++ pl) H → va_D A ([] ++ pl) → va_S A s0.heap H locs → W p l e ({ frames := 1, cells := 0, slots := 0, locals := 60 } : Room) s0 m args below meth c H locs 0 0 (MQ below (va_Qi (fun (r : Int32) (u : (Int32 × Sto) × va_W) => (u.1 = F_MH_fits_0 s ∧ r = u.1.1 ∧ frm (M_MH_fits_0) s u.1.2 ∧ True) ∧ okn g T u.1.2 u.2) (po g.1 vcl A (fun (u : (Int32 × Sto) × va_W) => [] ++ u.2)) A) args s0 0 0 A) (F0 m 199 ls []) := by
            intro n23
            induction n23 with
            | zero =>
              intro i23 z23 s23 pl ls H locs hm23 hF hf37 hf38 hf39 hf40 hf41 hf42 hf43 hf44 hR hl hO hP hD hS
              refine lv_iload_n hx hb dMH_fits_199 rfl (lv_at hl 0 rfl) ?_
              refine lv_aload_n hx hb dMH_fits_200 rfl (lv_at hl 2 rfl) ?_
              refine nw_get (C := "LatticeKeysModel$Hands") (TT := T_MH) (N := 31) hx hb hts (wg_ft i_MH) hown hK hO k_h0 (kn := 225) (ci := 12) (fl := [(3, 172), (3, 181), (3, 226), (3, 291), (3, 299), (3, 308), (3, 317), (3, 326), (3, 334), (3, 342), (3, 350), (3, 359), (3, 368), (3, 369), (3, 370), (3, 371), (3, 372), (3, 373), (3, 374), (3, 375), (3, 376), (3, 377), (3, 378), (0, 0), (0, 0), (0, 0), (0, 0), (0, 0), (0, 0), (0, 0), (0, 0)]) rfl hP rfl 24 (by decide) (hts _ (wg_t kw_1456)) (fun _ h9 => h9) (cd := (0, 0)) rfl dMH_fits_201 (fun v23 hv23 => ?_)
              obtain rfl := (show v23 = .int (s23.1 225 24) from hv23)
              obtain ⟨z24, ez23, hz25, hz26⟩ := cl_of (b := 2147483648) hf38 (by omega) (by decide)
              replace hR := bnd_step hR ez23
              refine mi_as hz25 ?_
              subst hz26
              refine mi_ge (tgt := 321) hx hb dMH_fits_204 (by decide) (by omega) (by omega) (fun h23 => ?_) (fun h23 => absurd h23 (by omega))
              refine lv_iload_n hx hb dMH_fits_321 rfl (lv_at hl 1 rfl) ?_
              refine va_gets hx hb (hE.2.1 27 _ rfl).1 hS hown (hts _ (wg_t kw_1912)) (fun _ h9 => h9) dMH_fits_322 ?_
              refine lv_aload_n hx hb dMH_fits_325 rfl (lv_at hl 2 rfl) ?_
              refine nw_get (C := "LatticeKeysModel$Hands") (TT := T_MH) (N := 31) hx hb hts (wg_ft i_MH) hown hK hO k_h0 (kn := 225) (ci := 12) (fl := [(3, 172), (3, 181), (3, 226), (3, 291), (3, 299), (3, 308), (3, 317), (3, 326), (3, 334), (3, 342), (3, 350), (3, 359), (3, 368), (3, 369), (3, 370), (3, 371), (3, 372), (3, 373), (3, 374), (3, 375), (3, 376), (3, 377), (3, 378), (0, 0), (0, 0), (0, 0), (0, 0), (0, 0), (0, 0), (0, 0), (0, 0)]) rfl hP rfl 23 (by decide) (hts _ (wg_t kw_1455)) (fun _ h9 => h9) (cd := (0, 0)) rfl dMH_fits_326 (fun v24 hv24 => ?_)
              obtain rfl := (show v24 = .int (s23.1 225 23) from hv24)
              obtain ⟨z25, ez24, hz27, hz28⟩ := cl_of (b := 2147483648) hf37 (by omega) (by decide)
              replace hR := bnd_step hR ez24
              refine mi_as hz27 ?_
              subst hz28
              refine va_ti (v := .int (nI 80)) hx hb (hE.2.1 27 _ rfl).2 hS (vp_in_nI (by decide) (by decide)) (by decide +kernel) dMH_fits_329 ?_
              refine lv_icmp_gt (tgt := 337) hx hb dMH_fits_330 (by decide) (fun h24 => ?_) (fun h24 => ?_)
              · replace hR := hR.trans (if_pos h24)
                refine lv_iconst (v := nI 0) hx hb dMH_fits_337 (by decide) ?_
                exact mp_zret hx hb hr hlk rfl hP hD hS ((nI 0, s23), pl) ⟨⟨hR.symm, rfl, hF, trivial⟩, hO⟩ [] rfl rfl rfl (by omega) (by omega) dMH_fits_338
              · replace hR := hR.trans (if_neg h24)
                refine lv_iconst (v := nI 1) hx hb dMH_fits_333 (by decide) ?_
                refine lv_goto (tgt := 338) hx hb dMH_fits_334 (by decide) ?_
                exact mp_zret hx hb hr hlk rfl hP hD hS ((nI 1, s23), pl) ⟨⟨hR.symm, rfl, hF, trivial⟩, hO⟩ [] rfl rfl rfl (by omega) (by omega) dMH_fits_338
            | succ n23 ih23 =>
              intro i23 z23 s23 pl ls H locs hm23 hF hf45 hf46 hf47 hf48 hf49 hf50 hf51 hf52 hR hl hO hP hD hS
              refine lv_iload_n hx hb dMH_fits_199 rfl (lv_at hl 0 rfl) ?_
              refine lv_aload_n hx hb dMH_fits_200 rfl (lv_at hl 2 rfl) ?_
              refine nw_get (C := "LatticeKeysModel$Hands") (TT := T_MH) (N := 31) hx hb hts (wg_ft i_MH) hown hK hO k_h0 (kn := 225) (ci := 12) (fl := [(3, 172), (3, 181), (3, 226), (3, 291), (3, 299), (3, 308), (3, 317), (3, 326), (3, 334), (3, 342), (3, 350), (3, 359), (3, 368), (3, 369), (3, 370), (3, 371), (3, 372), (3, 373), (3, 374), (3, 375), (3, 376), (3, 377), (3, 378), (0, 0), (0, 0), (0, 0), (0, 0), (0, 0), (0, 0), (0, 0), (0, 0)]) rfl hP rfl 24 (by decide) (hts _ (wg_t kw_1456)) (fun _ h9 => h9) (cd := (0, 0)) rfl dMH_fits_201 (fun v25 hv25 => ?_)
              obtain rfl := (show v25 = .int (s23.1 225 24) from hv25)
              obtain ⟨z26, ez25, hz29, hz30⟩ := cl_of (b := 2147483648) hf46 (by omega) (by decide)
              replace hR := bnd_step hR ez25
              refine mi_as hz29 ?_
              subst hz30
              refine mi_ge (tgt := 321) hx hb dMH_fits_204 (by decide) (by omega) (by omega) (fun h25 => absurd h25 (by omega)) (fun h25 => ?_)
              refine lv_aload_n hx hb dMH_fits_207 rfl (lv_at hl 2 rfl) ?_
              refine lv_aload_n hx hb dMH_fits_208 rfl (lv_at hl 2 rfl) ?_
              refine nw_get (C := "LatticeKeysModel$Hands") (TT := T_MH) (N := 31) hx hb hts (wg_ft i_MH) hown hK hO k_h0 (kn := 225) (ci := 12) (fl := [(3, 172), (3, 181), (3, 226), (3, 291), (3, 299), (3, 308), (3, 317), (3, 326), (3, 334), (3, 342), (3, 350), (3, 359), (3, 368), (3, 369), (3, 370), (3, 371), (3, 372), (3, 373), (3, 374), (3, 375), (3, 376), (3, 377), (3, 378), (0, 0), (0, 0), (0, 0), (0, 0), (0, 0), (0, 0), (0, 0), (0, 0)]) rfl hP rfl 5 (by decide) (hts _ (wg_t kw_1437)) (fun _ h9 => h9) (cd := (3, 308)) rfl dMH_fits_209 (fun v26 hv26 => ?_)
              obtain ⟨r21, rfl, kr21⟩ := (show ∃ r : Nat, v26 = .ref r ∧ T r = some 308 from hv26)
              refine lv_iload_n hx hb dMH_fits_212 rfl (lv_at hl 0 rfl) ?_
              refine nw_aald3 hx hb hK hO kr21 (k := 308) (b := 309) rfl hP (by omega) (by omega) dMH_fits_213 (fun r22 kr22 => ?_)
              have hn21 : nsp (309 + i23) = (0, 256, []) := rows_ok 309 8 (by decide) _ (by omega)
              refine lv_aload_n hx hb dMH_fits_214 rfl (lv_at hl 2 rfl) ?_
              refine nw_get (C := "LatticeKeysModel$Hands") (TT := T_MH) (N := 31) hx hb hts (wg_ft i_MH) hown hK hO k_h0 (kn := 225) (ci := 12) (fl := [(3, 172), (3, 181), (3, 226), (3, 291), (3, 299), (3, 308), (3, 317), (3, 326), (3, 334), (3, 342), (3, 350), (3, 359), (3, 368), (3, 369), (3, 370), (3, 371), (3, 372), (3, 373), (3, 374), (3, 375), (3, 376), (3, 377), (3, 378), (0, 0), (0, 0), (0, 0), (0, 0), (0, 0), (0, 0), (0, 0), (0, 0)]) rfl hP rfl 13 (by decide) (hts _ (wg_t kw_1445)) (fun _ h9 => h9) (cd := (3, 369)) rfl dMH_fits_215 (fun v27 hv27 => ?_)
              obtain ⟨r23, rfl, kr23⟩ := (show ∃ r : Nat, v27 = .ref r ∧ T r = some 369 from hv27)
              refine mp_v (cx := []) (wr := []) hP hD hS hA [] [] rfl rfl rfl (by decide) (va_runV (As := [.ref r22, .ref r23]) (rest := []) F (N_MH_turned_0 l g _ T s23 pl hO hU h0 r22 r23 (309 + i23) 369 k_h0 kr22 hn21 kr23 rfl hf45 hf46 hf47 hf48 hf49 hf50 hf51 hf52) (cwV 2 hts (wg_app (wg_c kw_1901 (wg_c kw_1903 (wg_c ks_79 (wg_c kw_13 wg_n)))) kw_1904) rfl rfl rfl (by decide +kernel) ⟨by decide, by decide⟩) (pn_W "LatticeKeysModel$Hands" (en_ok g) (ci := 12) (kn := 225) (fl := [(3, 172), (3, 181), (3, 226), (3, 291), (3, 299), (3, 308), (3, 317), (3, 326), (3, 334), (3, 342), (3, 350), (3, 359), (3, 368), (3, 369), (3, 370), (3, 371), (3, 372), (3, 373), (3, 374), (3, 375), (3, 376), (3, 377), (3, 378), (0, 0), (0, 0), (0, 0), (0, 0), (0, 0), (0, 0), (0, 0), (0, 0)]) hK hO k_h0 rfl hP hD hS hA hE [] rfl rfl rfl) rfl rfl hl.1 rfl (lv_room (Nat.le_of_ble_eq_true rfl)) dMH_fits_218 ⟨by omega, by omega⟩) (fun  u21 H locs hu21 hP hD hS => ?_)
              obtain ⟨s24, pl⟩ := u21
              obtain ⟨⟨eq21, hFc21, -⟩, hO⟩ := hu21
              have hO : okn g T s24 pl := hO
              have hP : va_P g.1 vcl ([] ++ pl) _ := hP
              have hD : va_D _ ([] ++ pl) := hD
              have hFc21 : frm (M_MH_turned_0 369) s23 s24 := hFc21
              replace hR := bnd_step hR eq21
              have hF := frm_tr hF hFc21 (fun k hk => by unfold M_MH_turned_0 at hk; unfold M_MH_fits_0; omega)
              have hf53 : s24.1 225 23 = nI 0 := fc_F hf45 hFc21 (by unfold M_MH_turned_0; omega)
              have hf54 : s24.1 225 24 = nI 4 := fc_F hf46 hFc21 (by unfold M_MH_turned_0; omega)
              have hf55 : s24.1 225 25 = nI 4 := fc_F hf47 hFc21 (by unfold M_MH_turned_0; omega)
              have hf56 : s24.1 225 26 = nI 2 := fc_F hf48 hFc21 (by unfold M_MH_turned_0; omega)
              have hf57 : s24.1 225 27 = nI 131072 := fc_F hf49 hFc21 (by unfold M_MH_turned_0; omega)
              have hf58 : s24.1 225 28 = nI 95232 := fc_F hf50 hFc21 (by unfold M_MH_turned_0; omega)
              have hf59 : s24.1 225 29 = nI 78 := fc_F hf51 hFc21 (by unfold M_MH_turned_0; omega)
              have hf60 : s24.1 225 30 = nI 32 := fc_F hf52 hFc21 (by unfold M_MH_turned_0; omega)
              refine W.widen (k := 0) (n := 0) (by omega) (by omega) ?_
              refine lv_iconst (v := nI 0) hx hb dMH_fits_221 (by decide) ?_
              refine lv_istore_n (lv' := [(3, .int (nI 0)), (2, .int (nI i23)), (1, .int z23), (0, .ref h0)]) hx hb dMH_fits_222 rfl hl (by decide) rfl (fun ls hl => ?_)
              have lp24 : ∀ (n24 : Nat) (i24 : Nat) (z27 : Int32) (s25 : Sto) (pl : va_W) (ls : Array Slot) (H : Heap) (locs : List Loc), n24 + i24 = 256 → frm (M_MH_fits_0) s s25 → s25.1 225 23 = nI 0 → s25.1 225 24 = nI 4 → s25.1 225 25 = nI 4 → s25.1 225 26 = nI 2 → s25.1 225 27 = nI 131072 → s25.1 225 28 = nI 95232 → s25.1 225 29 = nI 78 → s25.1 225 30 = nI 32 → F_MH_fits_0 s = F_MH_fits_0_L3 i23 (F_MH_fits_0_L2 n23) n24 i24 z27 s25 → lv_has ls 4 [(3, .int (nI i24)), (2, .int (nI i23)), (1, .int z27), (0, .ref h0)] → okn g T s25 pl → va_P g.1 vcl ([] ++ pl) H → va_D A ([] ++ pl) → va_S A s0.heap H locs → W p l e ({ frames := 1, cells := 0, slots := 0, locals := 60 } : Room) s0 m args below meth c H locs 0 0 (MQ below (va_Qi (fun (r : Int32) (u : (Int32 × Sto) × va_W) => (u.1 = F_MH_fits_0 s ∧ r = u.1.1 ∧ frm (M_MH_fits_0) s u.1.2 ∧ True) ∧ okn g T u.1.2 u.2) (po g.1 vcl A (fun (u : (Int32 × Sto) × va_W) => [] ++ u.2)) A) args s0 0 0 A) (F0 m 223 ls []) := by
                intro n24
                induction n24 with
                | zero =>
                  intro i24 z27 s25 pl ls H locs hm24 hF hf61 hf62 hf63 hf64 hf65 hf66 hf67 hf68 hR hl hO hP hD hS
                  refine lv_iload_n hx hb dMH_fits_223 rfl (lv_at hl 0 rfl) ?_
                  refine lv_sipush (v := nI 256) hx hb dMH_fits_224 (by decide) ?_
                  refine mi_ge (tgt := 315) hx hb dMH_fits_227 (by decide) (by omega) (by omega) (fun h26 => ?_) (fun h26 => absurd h26 (by omega))
                  refine mi_iinc (k := 1) (x := i23) (d := 1) (y := i23 + 1) (lv' := [(2, .int (nI (i23 + 1))), (3, .int (nI i24)), (1, .int z27), (0, .ref h0)]) hx hb dMH_fits_315 hl rfl (by decide) rfl (by decide) rfl (fun ls hl => ?_)
                  refine lv_goto (tgt := 199) hx hb dMH_fits_318 (by decide) ?_
                  exact ih23 (i23 + 1) z27 s25 pl ls H locs (by omega) hF hf61 hf62 hf63 hf64 hf65 hf66 hf67 hf68 hR (lv_sub hl [0, 2, 3] rfl) hO hP hD hS
                | succ n24 ih24 =>
                  intro i24 z27 s25 pl ls H locs hm24 hF hf69 hf70 hf71 hf72 hf73 hf74 hf75 hf76 hR hl hO hP hD hS
                  refine lv_iload_n hx hb dMH_fits_223 rfl (lv_at hl 0 rfl) ?_
                  refine lv_sipush (v := nI 256) hx hb dMH_fits_224 (by decide) ?_
                  refine mi_ge (tgt := 315) hx hb dMH_fits_227 (by decide) (by omega) (by omega) (fun h27 => absurd h27 (by omega)) (fun h27 => ?_)
                  refine lv_aload_n hx hb dMH_fits_230 rfl (lv_at hl 3 rfl) ?_
                  refine nw_get (C := "LatticeKeysModel$Hands") (TT := T_MH) (N := 31) hx hb hts (wg_ft i_MH) hown hK hO k_h0 (kn := 225) (ci := 12) (fl := [(3, 172), (3, 181), (3, 226), (3, 291), (3, 299), (3, 308), (3, 317), (3, 326), (3, 334), (3, 342), (3, 350), (3, 359), (3, 368), (3, 369), (3, 370), (3, 371), (3, 372), (3, 373), (3, 374), (3, 375), (3, 376), (3, 377), (3, 378), (0, 0), (0, 0), (0, 0), (0, 0), (0, 0), (0, 0), (0, 0), (0, 0)]) rfl hP rfl 13 (by decide) (hts _ (wg_t kw_1445)) (fun _ h9 => h9) (cd := (3, 369)) rfl dMH_fits_231 (fun v28 hv28 => ?_)
                  obtain ⟨r24, rfl, kr24⟩ := (show ∃ r : Nat, v28 = .ref r ∧ T r = some 369 from hv28)
                  refine lv_iload_n hx hb dMH_fits_234 rfl (lv_at hl 0 rfl) ?_
                  refine nw_iald hx hb hK hO kr24 (k := 369) rfl hP (by omega) (by omega) dMH_fits_235 ?_
                  refine mp_i (cx := []) (wr := []) hP hD hS hA [] [] rfl rfl rfl (by decide) (va_runS (As := [.int ((s25.1 369 i24))]) (rest := []) F (N_MH_norm l g _ T s25 pl hO hU (s25.1 369 i24)) (va_cwS 1 hts (wg_app (wg_c kw_1905 (wg_c kw_1906 (wg_c kw_13 wg_n))) kw_1907) rfl rfl rfl (by decide +kernel) ⟨by decide, by decide⟩) (pp_S (en_ok g) hP hD hS hA hE [] rfl rfl) rfl rfl hl.1 rfl (lv_room (Nat.le_of_ble_eq_true rfl)) dMH_fits_236 ⟨by omega, by omega⟩) (fun r25 u22 H locs hu22 hP hD hS => ?_)
                  obtain ⟨q21, pl⟩ := u22
                  obtain ⟨⟨eq22, rfl, hFc22, -⟩, hO⟩ := hu22
                  have hO : okn g T q21.2 pl := hO
                  have hP : va_P g.1 vcl ([] ++ pl) _ := hP
                  have hD : va_D _ ([] ++ pl) := hD
                  have hFc22 : frm (M_MH_norm) s25 q21.2 := hFc22
                  replace hR := bnd_step hR eq22
                  have hF := frm_tr hF hFc22 (fun k hk => by unfold M_MH_norm at hk; unfold M_MH_fits_0; omega)
                  have hf77 : q21.2.1 225 23 = nI 0 := fc_F hf69 hFc22 (by unfold M_MH_norm; omega)
                  have hf78 : q21.2.1 225 24 = nI 4 := fc_F hf70 hFc22 (by unfold M_MH_norm; omega)
                  have hf79 : q21.2.1 225 25 = nI 4 := fc_F hf71 hFc22 (by unfold M_MH_norm; omega)
                  have hf80 : q21.2.1 225 26 = nI 2 := fc_F hf72 hFc22 (by unfold M_MH_norm; omega)
                  have hf81 : q21.2.1 225 27 = nI 131072 := fc_F hf73 hFc22 (by unfold M_MH_norm; omega)
                  have hf82 : q21.2.1 225 28 = nI 95232 := fc_F hf74 hFc22 (by unfold M_MH_norm; omega)
                  have hf83 : q21.2.1 225 29 = nI 78 := fc_F hf75 hFc22 (by unfold M_MH_norm; omega)
                  have hf84 : q21.2.1 225 30 = nI 32 := fc_F hf76 hFc22 (by unfold M_MH_norm; omega)
                  refine W.widen (k := 0) (n := 0) (by omega) (by omega) ?_
                  refine lv_aload_n hx hb dMH_fits_239 rfl (lv_at hl 3 rfl) ?_
                  refine nw_get (C := "LatticeKeysModel$Hands") (TT := T_MH) (N := 31) hx hb hts (wg_ft i_MH) hown hK hO k_h0 (kn := 225) (ci := 12) (fl := [(3, 172), (3, 181), (3, 226), (3, 291), (3, 299), (3, 308), (3, 317), (3, 326), (3, 334), (3, 342), (3, 350), (3, 359), (3, 368), (3, 369), (3, 370), (3, 371), (3, 372), (3, 373), (3, 374), (3, 375), (3, 376), (3, 377), (3, 378), (0, 0), (0, 0), (0, 0), (0, 0), (0, 0), (0, 0), (0, 0), (0, 0)]) rfl hP rfl 28 (by decide) (hts _ (wg_t kw_1460)) (fun _ h9 => h9) (cd := (0, 0)) rfl dMH_fits_240 (fun v29 hv29 => ?_)
                  obtain rfl := (show v29 = .int (q21.2.1 225 28) from hv29)
                  obtain ⟨z28, ez26, hz31, hz32⟩ := cl_of (b := 2147483648) hf82 (by omega) (by decide)
                  replace hR := bnd_step hR ez26
                  refine mi_as hz31 ?_
                  subst hz32
                  refine lv_icmp_lt (tgt := 248) hx hb dMH_fits_243 (by decide) (fun h28 => ?_) (fun h28 => ?_)
                  · replace hR := hR.trans (if_pos h28)
                    refine lv_aload_n hx hb dMH_fits_248 rfl (lv_at hl 3 rfl) ?_
                    refine nw_get (C := "LatticeKeysModel$Hands") (TT := T_MH) (N := 31) hx hb hts (wg_ft i_MH) hown hK hO k_h0 (kn := 225) (ci := 12) (fl := [(3, 172), (3, 181), (3, 226), (3, 291), (3, 299), (3, 308), (3, 317), (3, 326), (3, 334), (3, 342), (3, 350), (3, 359), (3, 368), (3, 369), (3, 370), (3, 371), (3, 372), (3, 373), (3, 374), (3, 375), (3, 376), (3, 377), (3, 378), (0, 0), (0, 0), (0, 0), (0, 0), (0, 0), (0, 0), (0, 0), (0, 0)]) rfl hP rfl 11 (by decide) (hts _ (wg_t kw_1443)) (fun _ h9 => h9) (cd := (3, 359)) rfl dMH_fits_249 (fun v30 hv30 => ?_)
                    obtain ⟨r26, rfl, kr25⟩ := (show ∃ r : Nat, v30 = .ref r ∧ T r = some 359 from hv30)
                    refine lv_iload_n hx hb dMH_fits_252 rfl (lv_at hl 1 rfl) ?_
                    refine nw_aald3 hx hb hK hO kr25 (k := 359) (b := 360) rfl hP (by omega) (by omega) dMH_fits_253 (fun r27 kr26 => ?_)
                    have hn22 : nsp (360 + i23) = (0, 256, []) := rows_ok 360 8 (by decide) _ (by omega)
                    refine lv_iload_n hx hb dMH_fits_254 rfl (lv_at hl 0 rfl) ?_
                    refine lv_aload_n hx hb dMH_fits_255 rfl (lv_at hl 3 rfl) ?_
                    refine lv_aload_n hx hb dMH_fits_256 rfl (lv_at hl 3 rfl) ?_
                    refine nw_get (C := "LatticeKeysModel$Hands") (TT := T_MH) (N := 31) hx hb hts (wg_ft i_MH) hown hK hO k_h0 (kn := 225) (ci := 12) (fl := [(3, 172), (3, 181), (3, 226), (3, 291), (3, 299), (3, 308), (3, 317), (3, 326), (3, 334), (3, 342), (3, 350), (3, 359), (3, 368), (3, 369), (3, 370), (3, 371), (3, 372), (3, 373), (3, 374), (3, 375), (3, 376), (3, 377), (3, 378), (0, 0), (0, 0), (0, 0), (0, 0), (0, 0), (0, 0), (0, 0), (0, 0)]) rfl hP rfl 10 (by decide) (hts _ (wg_t kw_1442)) (fun _ h9 => h9) (cd := (3, 350)) rfl dMH_fits_257 (fun v31 hv31 => ?_)
                    obtain ⟨r28, rfl, kr27⟩ := (show ∃ r : Nat, v31 = .ref r ∧ T r = some 350 from hv31)
                    refine lv_iload_n hx hb dMH_fits_260 rfl (lv_at hl 1 rfl) ?_
                    refine nw_aald3 hx hb hK hO kr27 (k := 350) (b := 351) rfl hP (by omega) (by omega) dMH_fits_261 (fun r29 kr28 => ?_)
                    have hn23 : nsp (351 + i23) = (0, 256, []) := rows_ok 351 8 (by decide) _ (by omega)
                    refine lv_iload_n hx hb dMH_fits_262 rfl (lv_at hl 0 rfl) ?_
                    refine nw_iald hx hb hK hO kr28 (k := (351 + i23)) hn23 hP (by omega) (by omega) dMH_fits_263 ?_
                    refine lv_aload_n hx hb dMH_fits_264 rfl (lv_at hl 3 rfl) ?_
                    refine nw_get (C := "LatticeKeysModel$Hands") (TT := T_MH) (N := 31) hx hb hts (wg_ft i_MH) hown hK hO k_h0 (kn := 225) (ci := 12) (fl := [(3, 172), (3, 181), (3, 226), (3, 291), (3, 299), (3, 308), (3, 317), (3, 326), (3, 334), (3, 342), (3, 350), (3, 359), (3, 368), (3, 369), (3, 370), (3, 371), (3, 372), (3, 373), (3, 374), (3, 375), (3, 376), (3, 377), (3, 378), (0, 0), (0, 0), (0, 0), (0, 0), (0, 0), (0, 0), (0, 0), (0, 0)]) rfl hP rfl 13 (by decide) (hts _ (wg_t kw_1445)) (fun _ h9 => h9) (cd := (3, 369)) rfl dMH_fits_265 (fun v32 hv32 => ?_)
                    obtain ⟨r30, rfl, kr29⟩ := (show ∃ r : Nat, v32 = .ref r ∧ T r = some 369 from hv32)
                    refine lv_iload_n hx hb dMH_fits_268 rfl (lv_at hl 0 rfl) ?_
                    refine nw_iald hx hb hK hO kr29 (k := 369) rfl hP (by omega) (by omega) dMH_fits_269 ?_
                    refine lv_iadd hx hb dMH_fits_270 ?_
                    refine lv_ldc (v := 8380417) hx hb hown (hts _ (wg_t kw_1429)) dMH_fits_271 ?_
                    refine mi_as (show (8380417 : Int32) = nI 8380417 by decide) ?_
                    refine lv_irem hx hb dMH_fits_273 (nI_ne0 (by omega) (by omega)) ?_
                    refine mp_i (cx := []) (wr := []) hP hD hS hA [] [] rfl rfl rfl (by decide) (va_runV (As := [.int ((((q21.2.1 ((351 + i23)) i24) + (q21.2.1 369 i24)) - ((q21.2.1 ((351 + i23)) i24) + (q21.2.1 369 i24)) / (nI 8380417) * (nI 8380417)))]) (rest := [.int (nI i24), .ref r27]) F (N_MH_high_0 l g _ T q21.2 pl hO hU h0 (((q21.2.1 ((351 + i23)) i24) + (q21.2.1 369 i24)) - ((q21.2.1 ((351 + i23)) i24) + (q21.2.1 369 i24)) / (nI 8380417) * (nI 8380417)) k_h0 hf77 hf78 hf79 hf80 hf81 hf82 hf83 hf84) (cwV 1 hts (wg_app (wg_c kw_1885 (wg_c kw_1887 (wg_c ks_75 (wg_c kw_13 wg_n)))) kw_1888) rfl rfl rfl (by decide +kernel) ⟨by decide, by decide⟩) (pn_W "LatticeKeysModel$Hands" (en_ok g) (ci := 12) (kn := 225) (fl := [(3, 172), (3, 181), (3, 226), (3, 291), (3, 299), (3, 308), (3, 317), (3, 326), (3, 334), (3, 342), (3, 350), (3, 359), (3, 368), (3, 369), (3, 370), (3, 371), (3, 372), (3, 373), (3, 374), (3, 375), (3, 376), (3, 377), (3, 378), (0, 0), (0, 0), (0, 0), (0, 0), (0, 0), (0, 0), (0, 0), (0, 0)]) hK hO k_h0 rfl hP hD hS hA hE [] rfl rfl rfl) rfl rfl hl.1 rfl (lv_room (Nat.le_of_ble_eq_true rfl)) dMH_fits_274 ⟨by omega, by omega⟩) (fun r31 u23 H locs hu23 hP hD hS => ?_)
                    obtain ⟨q22, pl⟩ := u23
                    obtain ⟨⟨eq23, rfl, hFc23, -⟩, hO⟩ := hu23
                    have hO : okn g T q22.2 pl := hO
                    have hP : va_P g.1 vcl ([] ++ pl) _ := hP
                    have hD : va_D _ ([] ++ pl) := hD
                    have hFc23 : frm (M_MH_high_0) q21.2 q22.2 := hFc23
                    replace hR := bnd_step hR eq23
                    have hF := frm_tr hF hFc23 (fun k hk => by unfold M_MH_high_0 at hk; unfold M_MH_fits_0; omega)
                    have hf85 : q22.2.1 225 23 = nI 0 := fc_F hf77 hFc23 (by unfold M_MH_high_0; omega)
                    have hf86 : q22.2.1 225 24 = nI 4 := fc_F hf78 hFc23 (by unfold M_MH_high_0; omega)
                    have hf87 : q22.2.1 225 25 = nI 4 := fc_F hf79 hFc23 (by unfold M_MH_high_0; omega)
                    have hf88 : q22.2.1 225 26 = nI 2 := fc_F hf80 hFc23 (by unfold M_MH_high_0; omega)
                    have hf89 : q22.2.1 225 27 = nI 131072 := fc_F hf81 hFc23 (by unfold M_MH_high_0; omega)
                    have hf90 : q22.2.1 225 28 = nI 95232 := fc_F hf82 hFc23 (by unfold M_MH_high_0; omega)
                    have hf91 : q22.2.1 225 29 = nI 78 := fc_F hf83 hFc23 (by unfold M_MH_high_0; omega)
                    have hf92 : q22.2.1 225 30 = nI 32 := fc_F hf84 hFc23 (by unfold M_MH_high_0; omega)
                    refine W.widen (k := 0) (n := 0) (by omega) (by omega) ?_
                    refine lv_aload_n hx hb dMH_fits_277 rfl (lv_at hl 3 rfl) ?_
                    refine lv_aload_n hx hb dMH_fits_278 rfl (lv_at hl 3 rfl) ?_
                    refine nw_get (C := "LatticeKeysModel$Hands") (TT := T_MH) (N := 31) hx hb hts (wg_ft i_MH) hown hK hO k_h0 (kn := 225) (ci := 12) (fl := [(3, 172), (3, 181), (3, 226), (3, 291), (3, 299), (3, 308), (3, 317), (3, 326), (3, 334), (3, 342), (3, 350), (3, 359), (3, 368), (3, 369), (3, 370), (3, 371), (3, 372), (3, 373), (3, 374), (3, 375), (3, 376), (3, 377), (3, 378), (0, 0), (0, 0), (0, 0), (0, 0), (0, 0), (0, 0), (0, 0), (0, 0)]) rfl hP rfl 10 (by decide) (hts _ (wg_t kw_1442)) (fun _ h9 => h9) (cd := (3, 350)) rfl dMH_fits_279 (fun v33 hv33 => ?_)
                    obtain ⟨r32, rfl, kr30⟩ := (show ∃ r : Nat, v33 = .ref r ∧ T r = some 350 from hv33)
                    refine lv_iload_n hx hb dMH_fits_282 rfl (lv_at hl 1 rfl) ?_
                    refine nw_aald3 hx hb hK hO kr30 (k := 350) (b := 351) rfl hP (by omega) (by omega) dMH_fits_283 (fun r33 kr31 => ?_)
                    have hn24 : nsp (351 + i23) = (0, 256, []) := rows_ok 351 8 (by decide) _ (by omega)
                    refine lv_iload_n hx hb dMH_fits_284 rfl (lv_at hl 0 rfl) ?_
                    refine nw_iald hx hb hK hO kr31 (k := (351 + i23)) hn24 hP (by omega) (by omega) dMH_fits_285 ?_
                    refine mp_i (cx := []) (wr := []) hP hD hS hA [] [] rfl rfl rfl (by decide) (va_runV (As := [.int ((q22.2.1 ((351 + i23)) i24))]) (rest := [.int q22.1, .int (nI i24), .ref r27]) F (N_MH_high_0 l g _ T q22.2 pl hO hU h0 (q22.2.1 ((351 + i23)) i24) k_h0 hf85 hf86 hf87 hf88 hf89 hf90 hf91 hf92) (cwV 1 hts (wg_app (wg_c kw_1885 (wg_c kw_1887 (wg_c ks_75 (wg_c kw_13 wg_n)))) kw_1888) rfl rfl rfl (by decide +kernel) ⟨by decide, by decide⟩) (pn_W "LatticeKeysModel$Hands" (en_ok g) (ci := 12) (kn := 225) (fl := [(3, 172), (3, 181), (3, 226), (3, 291), (3, 299), (3, 308), (3, 317), (3, 326), (3, 334), (3, 342), (3, 350), (3, 359), (3, 368), (3, 369), (3, 370), (3, 371), (3, 372), (3, 373), (3, 374), (3, 375), (3, 376), (3, 377), (3, 378), (0, 0), (0, 0), (0, 0), (0, 0), (0, 0), (0, 0), (0, 0), (0, 0)]) hK hO k_h0 rfl hP hD hS hA hE [] rfl rfl rfl) rfl rfl hl.1 rfl (lv_room (Nat.le_of_ble_eq_true rfl)) dMH_fits_286 ⟨by omega, by omega⟩) (fun r34 u24 H locs hu24 hP hD hS => ?_)
                    obtain ⟨q23, pl⟩ := u24
                    obtain ⟨⟨eq24, rfl, hFc24, -⟩, hO⟩ := hu24
                    have hO : okn g T q23.2 pl := hO
                    have hP : va_P g.1 vcl ([] ++ pl) _ := hP
                    have hD : va_D _ ([] ++ pl) := hD
                    have hFc24 : frm (M_MH_high_0) q22.2 q23.2 := hFc24
                    replace hR := bnd_step hR eq24
                    have hF := frm_tr hF hFc24 (fun k hk => by unfold M_MH_high_0 at hk; unfold M_MH_fits_0; omega)
                    have hf93 : q23.2.1 225 23 = nI 0 := fc_F hf85 hFc24 (by unfold M_MH_high_0; omega)
                    have hf94 : q23.2.1 225 24 = nI 4 := fc_F hf86 hFc24 (by unfold M_MH_high_0; omega)
                    have hf95 : q23.2.1 225 25 = nI 4 := fc_F hf87 hFc24 (by unfold M_MH_high_0; omega)
                    have hf96 : q23.2.1 225 26 = nI 2 := fc_F hf88 hFc24 (by unfold M_MH_high_0; omega)
                    have hf97 : q23.2.1 225 27 = nI 131072 := fc_F hf89 hFc24 (by unfold M_MH_high_0; omega)
                    have hf98 : q23.2.1 225 28 = nI 95232 := fc_F hf90 hFc24 (by unfold M_MH_high_0; omega)
                    have hf99 : q23.2.1 225 29 = nI 78 := fc_F hf91 hFc24 (by unfold M_MH_high_0; omega)
                    have hf100 : q23.2.1 225 30 = nI 32 := fc_F hf92 hFc24 (by unfold M_MH_high_0; omega)
                    refine W.widen (k := 0) (n := 0) (by omega) (by omega) ?_
                    refine lv_icmp_ne (tgt := 296) hx hb dMH_fits_289 (by decide) (fun h29 => ?_) (fun h29 => ?_)
                    · replace hR := hR.trans (if_neg h29)
                      refine lv_iconst (v := nI 1) hx hb dMH_fits_296 (by decide) ?_
                      refine nw_iast hx hb hK hO hU kr26 (k := (360 + i23)) hn22 hP hD hS (by omega) (by omega) dMH_fits_297 (fun s26 pl H locs es21 hO hP hD hS => ?_)
                      replace hR := bnd_step hR es21
                      have hF := frm_sI hF es21 (by unfold M_MH_fits_0; omega)
                      have hf101 : s26.1 225 23 = nI 0 := fc_ne hf93 es21 (by omega)
                      have hf102 : s26.1 225 24 = nI 4 := fc_ne hf94 es21 (by omega)
                      have hf103 : s26.1 225 25 = nI 4 := fc_ne hf95 es21 (by omega)
                      have hf104 : s26.1 225 26 = nI 2 := fc_ne hf96 es21 (by omega)
                      have hf105 : s26.1 225 27 = nI 131072 := fc_ne hf97 es21 (by omega)
                      have hf106 : s26.1 225 28 = nI 95232 := fc_ne hf98 es21 (by omega)
                      have hf107 : s26.1 225 29 = nI 78 := fc_ne hf99 es21 (by omega)
                      have hf108 : s26.1 225 30 = nI 32 := fc_ne hf100 es21 (by omega)
                      refine lv_iload_n hx hb dMH_fits_298 rfl (lv_at hl 2 rfl) ?_
                      refine lv_aload_n hx hb dMH_fits_299 rfl (lv_at hl 3 rfl) ?_
                      refine nw_get (C := "LatticeKeysModel$Hands") (TT := T_MH) (N := 31) hx hb hts (wg_ft i_MH) hown hK hO k_h0 (kn := 225) (ci := 12) (fl := [(3, 172), (3, 181), (3, 226), (3, 291), (3, 299), (3, 308), (3, 317), (3, 326), (3, 334), (3, 342), (3, 350), (3, 359), (3, 368), (3, 369), (3, 370), (3, 371), (3, 372), (3, 373), (3, 374), (3, 375), (3, 376), (3, 377), (3, 378), (0, 0), (0, 0), (0, 0), (0, 0), (0, 0), (0, 0), (0, 0), (0, 0)]) rfl hP rfl 11 (by decide) (hts _ (wg_t kw_1443)) (fun _ h9 => h9) (cd := (3, 359)) rfl dMH_fits_300 (fun v34 hv34 => ?_)
                      obtain ⟨r35, rfl, kr32⟩ := (show ∃ r : Nat, v34 = .ref r ∧ T r = some 359 from hv34)
                      refine lv_iload_n hx hb dMH_fits_303 rfl (lv_at hl 1 rfl) ?_
                      refine nw_aald3 hx hb hK hO kr32 (k := 359) (b := 360) rfl hP (by omega) (by omega) dMH_fits_304 (fun r36 kr33 => ?_)
                      have hn25 : nsp (360 + i23) = (0, 256, []) := rows_ok 360 8 (by decide) _ (by omega)
                      refine lv_iload_n hx hb dMH_fits_305 rfl (lv_at hl 0 rfl) ?_
                      refine nw_iald hx hb hK hO kr33 (k := (360 + i23)) hn25 hP (by omega) (by omega) dMH_fits_306 ?_
                      refine lv_iadd hx hb dMH_fits_307 ?_
                      refine mi_eqv (fun z29 ez27 => ?_)
                      replace hR := bnd_step hR ez27
                      refine lv_istore_n (lv' := [(1, .int z29), (3, .int (nI i24)), (2, .int (nI i23)), (0, .ref h0)]) hx hb dMH_fits_308 rfl hl (by decide) rfl (fun ls hl => ?_)
                      refine mi_iinc (k := 1) (x := i24) (d := 1) (y := i24 + 1) (lv' := [(3, .int (nI (i24 + 1))), (1, .int z29), (2, .int (nI i23)), (0, .ref h0)]) hx hb dMH_fits_309 hl rfl (by decide) rfl (by decide) rfl (fun ls hl => ?_)
                      refine lv_goto (tgt := 223) hx hb dMH_fits_312 (by decide) ?_
                      exact ih24 (i24 + 1) z29 s26 pl ls H locs (by omega) hF hf101 hf102 hf103 hf104 hf105 hf106 hf107 hf108 hR (lv_sub hl [0, 2, 1, 3] rfl) hO hP hD hS
                    · replace hR := hR.trans (if_pos h29)
                      refine lv_iconst (v := nI 0) hx hb dMH_fits_292 (by decide) ?_
                      refine lv_goto (tgt := 297) hx hb dMH_fits_293 (by decide) ?_
                      refine nw_iast hx hb hK hO hU kr26 (k := (360 + i23)) hn22 hP hD hS (by omega) (by omega) dMH_fits_297 (fun s27 pl H locs es22 hO hP hD hS => ?_)
                      replace hR := bnd_step hR es22
                      have hF := frm_sI hF es22 (by unfold M_MH_fits_0; omega)
                      have hf109 : s27.1 225 23 = nI 0 := fc_ne hf93 es22 (by omega)
                      have hf110 : s27.1 225 24 = nI 4 := fc_ne hf94 es22 (by omega)
                      have hf111 : s27.1 225 25 = nI 4 := fc_ne hf95 es22 (by omega)
                      have hf112 : s27.1 225 26 = nI 2 := fc_ne hf96 es22 (by omega)
                      have hf113 : s27.1 225 27 = nI 131072 := fc_ne hf97 es22 (by omega)
                      have hf114 : s27.1 225 28 = nI 95232 := fc_ne hf98 es22 (by omega)
                      have hf115 : s27.1 225 29 = nI 78 := fc_ne hf99 es22 (by omega)
                      have hf116 : s27.1 225 30 = nI 32 := fc_ne hf100 es22 (by omega)
                      refine lv_iload_n hx hb dMH_fits_298 rfl (lv_at hl 2 rfl) ?_
                      refine lv_aload_n hx hb dMH_fits_299 rfl (lv_at hl 3 rfl) ?_
                      refine nw_get (C := "LatticeKeysModel$Hands") (TT := T_MH) (N := 31) hx hb hts (wg_ft i_MH) hown hK hO k_h0 (kn := 225) (ci := 12) (fl := [(3, 172), (3, 181), (3, 226), (3, 291), (3, 299), (3, 308), (3, 317), (3, 326), (3, 334), (3, 342), (3, 350), (3, 359), (3, 368), (3, 369), (3, 370), (3, 371), (3, 372), (3, 373), (3, 374), (3, 375), (3, 376), (3, 377), (3, 378), (0, 0), (0, 0), (0, 0), (0, 0), (0, 0), (0, 0), (0, 0), (0, 0)]) rfl hP rfl 11 (by decide) (hts _ (wg_t kw_1443)) (fun _ h9 => h9) (cd := (3, 359)) rfl dMH_fits_300 (fun v35 hv35 => ?_)
                      obtain ⟨r37, rfl, kr34⟩ := (show ∃ r : Nat, v35 = .ref r ∧ T r = some 359 from hv35)
                      refine lv_iload_n hx hb dMH_fits_303 rfl (lv_at hl 1 rfl) ?_
                      refine nw_aald3 hx hb hK hO kr34 (k := 359) (b := 360) rfl hP (by omega) (by omega) dMH_fits_304 (fun r38 kr35 => ?_)
                      have hn26 : nsp (360 + i23) = (0, 256, []) := rows_ok 360 8 (by decide) _ (by omega)
                      refine lv_iload_n hx hb dMH_fits_305 rfl (lv_at hl 0 rfl) ?_
                      refine nw_iald hx hb hK hO kr35 (k := (360 + i23)) hn26 hP (by omega) (by omega) dMH_fits_306 ?_
                      refine lv_iadd hx hb dMH_fits_307 ?_
                      refine mi_eqv (fun z30 ez28 => ?_)
                      replace hR := bnd_step hR ez28
                      refine lv_istore_n (lv' := [(1, .int z30), (3, .int (nI i24)), (2, .int (nI i23)), (0, .ref h0)]) hx hb dMH_fits_308 rfl hl (by decide) rfl (fun ls hl => ?_)
                      refine mi_iinc (k := 1) (x := i24) (d := 1) (y := i24 + 1) (lv' := [(3, .int (nI (i24 + 1))), (1, .int z30), (2, .int (nI i23)), (0, .ref h0)]) hx hb dMH_fits_309 hl rfl (by decide) rfl (by decide) rfl (fun ls hl => ?_)
                      refine lv_goto (tgt := 223) hx hb dMH_fits_312 (by decide) ?_
                      exact ih24 (i24 + 1) z30 s27 pl ls H locs (by omega) hF hf109 hf110 hf111 hf112 hf113 hf114 hf115 hf116 hR (lv_sub hl [0, 2, 1, 3] rfl) hO hP hD hS
                  · replace hR := hR.trans (if_neg h28)
                    refine lv_iconst (v := nI 0) hx hb dMH_fits_246 (by decide) ?_
                    exact mp_zret hx hb hr hlk rfl hP hD hS ((nI 0, q21.2), pl) ⟨⟨hR.symm, rfl, hF, trivial⟩, hO⟩ [] rfl rfl rfl (by omega) (by omega) dMH_fits_247
              exact lp24 256 0 z23 s24 pl ls _ _ (by omega) hF hf53 hf54 hf55 hf56 hf57 hf58 hf59 hf60 hR (lv_sub hl [0, 1, 2, 3] rfl) hO hP hD hS
          exact lp23 4 0 (nI 0) s22 pl ls _ _ (by omega) hF hf29 hf30 hf31 hf32 hf33 hf34 hf35 hf36 hR (lv_sub hl [0, 1, 2] rfl) hO hP hD hS
        | succ n22 ih22 =>
          intro i22 s22 pl ls H locs hm22 hF hf117 hf118 hf119 hf120 hf121 hf122 hf123 hf124 hR hl hO hP hD hS
          refine lv_iload_n hx hb dMH_fits_98 rfl (lv_at hl 0 rfl) ?_
          refine lv_aload_n hx hb dMH_fits_99 rfl (lv_at hl 1 rfl) ?_
          refine nw_get (C := "LatticeKeysModel$Hands") (TT := T_MH) (N := 31) hx hb hts (wg_ft i_MH) hown hK hO k_h0 (kn := 225) (ci := 12) (fl := [(3, 172), (3, 181), (3, 226), (3, 291), (3, 299), (3, 308), (3, 317), (3, 326), (3, 334), (3, 342), (3, 350), (3, 359), (3, 368), (3, 369), (3, 370), (3, 371), (3, 372), (3, 373), (3, 374), (3, 375), (3, 376), (3, 377), (3, 378), (0, 0), (0, 0), (0, 0), (0, 0), (0, 0), (0, 0), (0, 0), (0, 0)]) rfl hP rfl 24 (by decide) (hts _ (wg_t kw_1456)) (fun _ h9 => h9) (cd := (0, 0)) rfl dMH_fits_100 (fun v36 hv36 => ?_)
          obtain rfl := (show v36 = .int (s22.1 225 24) from hv36)
          obtain ⟨z31, ez29, hz33, hz34⟩ := cl_of (b := 2147483648) hf118 (by omega) (by decide)
          replace hR := bnd_step hR ez29
          refine mi_as hz33 ?_
          subst hz34
          refine mi_ge (tgt := 195) hx hb dMH_fits_103 (by decide) (by omega) (by omega) (fun h30 => absurd h30 (by omega)) (fun h30 => ?_)
          refine lv_aload_n hx hb dMH_fits_106 rfl (lv_at hl 1 rfl) ?_
          refine lv_aload_n hx hb dMH_fits_107 rfl (lv_at hl 1 rfl) ?_
          refine nw_get (C := "LatticeKeysModel$Hands") (TT := T_MH) (N := 31) hx hb hts (wg_ft i_MH) hown hK hO k_h0 (kn := 225) (ci := 12) (fl := [(3, 172), (3, 181), (3, 226), (3, 291), (3, 299), (3, 308), (3, 317), (3, 326), (3, 334), (3, 342), (3, 350), (3, 359), (3, 368), (3, 369), (3, 370), (3, 371), (3, 372), (3, 373), (3, 374), (3, 375), (3, 376), (3, 377), (3, 378), (0, 0), (0, 0), (0, 0), (0, 0), (0, 0), (0, 0), (0, 0), (0, 0)]) rfl hP rfl 4 (by decide) (hts _ (wg_t kw_1436)) (fun _ h9 => h9) (cd := (3, 299)) rfl dMH_fits_108 (fun v37 hv37 => ?_)
          obtain ⟨r39, rfl, kr36⟩ := (show ∃ r : Nat, v37 = .ref r ∧ T r = some 299 from hv37)
          refine lv_iload_n hx hb dMH_fits_111 rfl (lv_at hl 0 rfl) ?_
          refine nw_aald3 hx hb hK hO kr36 (k := 299) (b := 300) rfl hP (by omega) (by omega) dMH_fits_112 (fun r40 kr37 => ?_)
          have hn27 : nsp (300 + i22) = (0, 256, []) := rows_ok 300 8 (by decide) _ (by omega)
          refine lv_aload_n hx hb dMH_fits_113 rfl (lv_at hl 1 rfl) ?_
          refine nw_get (C := "LatticeKeysModel$Hands") (TT := T_MH) (N := 31) hx hb hts (wg_ft i_MH) hown hK hO k_h0 (kn := 225) (ci := 12) (fl := [(3, 172), (3, 181), (3, 226), (3, 291), (3, 299), (3, 308), (3, 317), (3, 326), (3, 334), (3, 342), (3, 350), (3, 359), (3, 368), (3, 369), (3, 370), (3, 371), (3, 372), (3, 373), (3, 374), (3, 375), (3, 376), (3, 377), (3, 378), (0, 0), (0, 0), (0, 0), (0, 0), (0, 0), (0, 0), (0, 0), (0, 0)]) rfl hP rfl 13 (by decide) (hts _ (wg_t kw_1445)) (fun _ h9 => h9) (cd := (3, 369)) rfl dMH_fits_114 (fun v38 hv38 => ?_)
          obtain ⟨r41, rfl, kr38⟩ := (show ∃ r : Nat, v38 = .ref r ∧ T r = some 369 from hv38)
          refine mp_v (cx := []) (wr := []) hP hD hS hA [] [] rfl rfl rfl (by decide) (va_runV (As := [.ref r40, .ref r41]) (rest := []) F (N_MH_turned_0 l g _ T s22 pl hO hU h0 r40 r41 (300 + i22) 369 k_h0 kr37 hn27 kr38 rfl hf117 hf118 hf119 hf120 hf121 hf122 hf123 hf124) (cwV 2 hts (wg_app (wg_c kw_1901 (wg_c kw_1903 (wg_c ks_79 (wg_c kw_13 wg_n)))) kw_1904) rfl rfl rfl (by decide +kernel) ⟨by decide, by decide⟩) (pn_W "LatticeKeysModel$Hands" (en_ok g) (ci := 12) (kn := 225) (fl := [(3, 172), (3, 181), (3, 226), (3, 291), (3, 299), (3, 308), (3, 317), (3, 326), (3, 334), (3, 342), (3, 350), (3, 359), (3, 368), (3, 369), (3, 370), (3, 371), (3, 372), (3, 373), (3, 374), (3, 375), (3, 376), (3, 377), (3, 378), (0, 0), (0, 0), (0, 0), (0, 0), (0, 0), (0, 0), (0, 0), (0, 0)]) hK hO k_h0 rfl hP hD hS hA hE [] rfl rfl rfl) rfl rfl hl.1 rfl (lv_room (Nat.le_of_ble_eq_true rfl)) dMH_fits_117 ⟨by omega, by omega⟩) (fun  u25 H locs hu25 hP hD hS => ?_)
          obtain ⟨s28, pl⟩ := u25
          obtain ⟨⟨eq25, hFc25, -⟩, hO⟩ := hu25
          have hO : okn g T s28 pl := hO
          have hP : va_P g.1 vcl ([] ++ pl) _ := hP
          have hD : va_D _ ([] ++ pl) := hD
          have hFc25 : frm (M_MH_turned_0 369) s22 s28 := hFc25
          replace hR := bnd_step hR eq25
          have hF := frm_tr hF hFc25 (fun k hk => by unfold M_MH_turned_0 at hk; unfold M_MH_fits_0; omega)
          have hf125 : s28.1 225 23 = nI 0 := fc_F hf117 hFc25 (by unfold M_MH_turned_0; omega)
          have hf126 : s28.1 225 24 = nI 4 := fc_F hf118 hFc25 (by unfold M_MH_turned_0; omega)
          have hf127 : s28.1 225 25 = nI 4 := fc_F hf119 hFc25 (by unfold M_MH_turned_0; omega)
          have hf128 : s28.1 225 26 = nI 2 := fc_F hf120 hFc25 (by unfold M_MH_turned_0; omega)
          have hf129 : s28.1 225 27 = nI 131072 := fc_F hf121 hFc25 (by unfold M_MH_turned_0; omega)
          have hf130 : s28.1 225 28 = nI 95232 := fc_F hf122 hFc25 (by unfold M_MH_turned_0; omega)
          have hf131 : s28.1 225 29 = nI 78 := fc_F hf123 hFc25 (by unfold M_MH_turned_0; omega)
          have hf132 : s28.1 225 30 = nI 32 := fc_F hf124 hFc25 (by unfold M_MH_turned_0; omega)
          refine W.widen (k := 0) (n := 0) (by omega) (by omega) ?_
          refine lv_iconst (v := nI 0) hx hb dMH_fits_120 (by decide) ?_
          refine lv_istore_n (lv' := [(2, .int (nI 0)), (1, .int (nI i22)), (0, .ref h0)]) hx hb dMH_fits_121 rfl hl (by decide) rfl (fun ls hl => ?_)
          have lp25 : ∀ (n25 : Nat) (i25 : Nat) (s29 : Sto) (pl : va_W) (ls : Array Slot) (H : Heap) (locs : List Loc), n25 + i25 = 256 → frm (M_MH_fits_0) s s29 → s29.1 225 23 = nI 0 → s29.1 225 24 = nI 4 → s29.1 225 25 = nI 4 → s29.1 225 26 = nI 2 → s29.1 225 27 = nI 131072 → s29.1 225 28 = nI 95232 → s29.1 225 29 = nI 78 → s29.1 225 30 = nI 32 → F_MH_fits_0 s = F_MH_fits_0_L4 i22 (F_MH_fits_0_L1 n22) n25 i25 s29 → lv_has ls 4 [(2, .int (nI i25)), (1, .int (nI i22)), (0, .ref h0)] → okn g T s29 pl → va_P g.1 vcl ([] ++ pl) H → va_D A ([] ++ pl) → va_S A s0.heap H locs → W p l e ({ frames := 1, cells := 0, slots := 0, locals := 60 } : Room) s0 m args below meth c H locs 0 0 (MQ below (va_Qi (fun (r : Int32) (u : (Int32 × Sto) × va_W) => (u.1 = F_MH_fits_0 s ∧ r = u.1.1 ∧ frm (M_MH_fits_0) s u.1.2 ∧ True) ∧ okn g T u.1.2 u.2) (po g.1 vcl A (fun (u : (Int32 × Sto) × va_W) => [] ++ u.2)) A) args s0 0 0 A) (F0 m 122 ls []) := by
            intro n25
            induction n25 with
            | zero =>
              intro i25 s29 pl ls H locs hm25 hF hf133 hf134 hf135 hf136 hf137 hf138 hf139 hf140 hR hl hO hP hD hS
              refine lv_iload_n hx hb dMH_fits_122 rfl (lv_at hl 0 rfl) ?_
              refine lv_sipush (v := nI 256) hx hb dMH_fits_123 (by decide) ?_
              refine mi_ge (tgt := 189) hx hb dMH_fits_126 (by decide) (by omega) (by omega) (fun h31 => ?_) (fun h31 => absurd h31 (by omega))
              refine mi_iinc (k := 1) (x := i22) (d := 1) (y := i22 + 1) (lv' := [(1, .int (nI (i22 + 1))), (2, .int (nI i25)), (0, .ref h0)]) hx hb dMH_fits_189 hl rfl (by decide) rfl (by decide) rfl (fun ls hl => ?_)
              refine lv_goto (tgt := 98) hx hb dMH_fits_192 (by decide) ?_
              exact ih22 (i22 + 1) s29 pl ls H locs (by omega) hF hf133 hf134 hf135 hf136 hf137 hf138 hf139 hf140 hR (lv_sub hl [0, 2] rfl) hO hP hD hS
            | succ n25 ih25 =>
              intro i25 s29 pl ls H locs hm25 hF hf141 hf142 hf143 hf144 hf145 hf146 hf147 hf148 hR hl hO hP hD hS
              refine lv_iload_n hx hb dMH_fits_122 rfl (lv_at hl 0 rfl) ?_
              refine lv_sipush (v := nI 256) hx hb dMH_fits_123 (by decide) ?_
              refine mi_ge (tgt := 189) hx hb dMH_fits_126 (by decide) (by omega) (by omega) (fun h32 => absurd h32 (by omega)) (fun h32 => ?_)
              refine lv_aload_n hx hb dMH_fits_129 rfl (lv_at hl 2 rfl) ?_
              refine nw_get (C := "LatticeKeysModel$Hands") (TT := T_MH) (N := 31) hx hb hts (wg_ft i_MH) hown hK hO k_h0 (kn := 225) (ci := 12) (fl := [(3, 172), (3, 181), (3, 226), (3, 291), (3, 299), (3, 308), (3, 317), (3, 326), (3, 334), (3, 342), (3, 350), (3, 359), (3, 368), (3, 369), (3, 370), (3, 371), (3, 372), (3, 373), (3, 374), (3, 375), (3, 376), (3, 377), (3, 378), (0, 0), (0, 0), (0, 0), (0, 0), (0, 0), (0, 0), (0, 0), (0, 0)]) rfl hP rfl 10 (by decide) (hts _ (wg_t kw_1442)) (fun _ h9 => h9) (cd := (3, 350)) rfl dMH_fits_130 (fun v39 hv39 => ?_)
              obtain ⟨r42, rfl, kr39⟩ := (show ∃ r : Nat, v39 = .ref r ∧ T r = some 350 from hv39)
              refine lv_iload_n hx hb dMH_fits_133 rfl (lv_at hl 1 rfl) ?_
              refine nw_aald3 hx hb hK hO kr39 (k := 350) (b := 351) rfl hP (by omega) (by omega) dMH_fits_134 (fun r43 kr40 => ?_)
              have hn28 : nsp (351 + i22) = (0, 256, []) := rows_ok 351 8 (by decide) _ (by omega)
              refine lv_iload_n hx hb dMH_fits_135 rfl (lv_at hl 0 rfl) ?_
              refine lv_aload_n hx hb dMH_fits_136 rfl (lv_at hl 2 rfl) ?_
              refine nw_get (C := "LatticeKeysModel$Hands") (TT := T_MH) (N := 31) hx hb hts (wg_ft i_MH) hown hK hO k_h0 (kn := 225) (ci := 12) (fl := [(3, 172), (3, 181), (3, 226), (3, 291), (3, 299), (3, 308), (3, 317), (3, 326), (3, 334), (3, 342), (3, 350), (3, 359), (3, 368), (3, 369), (3, 370), (3, 371), (3, 372), (3, 373), (3, 374), (3, 375), (3, 376), (3, 377), (3, 378), (0, 0), (0, 0), (0, 0), (0, 0), (0, 0), (0, 0), (0, 0), (0, 0)]) rfl hP rfl 10 (by decide) (hts _ (wg_t kw_1442)) (fun _ h9 => h9) (cd := (3, 350)) rfl dMH_fits_137 (fun v40 hv40 => ?_)
              obtain ⟨r44, rfl, kr41⟩ := (show ∃ r : Nat, v40 = .ref r ∧ T r = some 350 from hv40)
              refine lv_iload_n hx hb dMH_fits_140 rfl (lv_at hl 1 rfl) ?_
              refine nw_aald3 hx hb hK hO kr41 (k := 350) (b := 351) rfl hP (by omega) (by omega) dMH_fits_141 (fun r45 kr42 => ?_)
              have hn29 : nsp (351 + i22) = (0, 256, []) := rows_ok 351 8 (by decide) _ (by omega)
              refine lv_iload_n hx hb dMH_fits_142 rfl (lv_at hl 0 rfl) ?_
              refine nw_iald hx hb hK hO kr42 (k := (351 + i22)) hn29 hP (by omega) (by omega) dMH_fits_143 ?_
              refine lv_aload_n hx hb dMH_fits_144 rfl (lv_at hl 2 rfl) ?_
              refine nw_get (C := "LatticeKeysModel$Hands") (TT := T_MH) (N := 31) hx hb hts (wg_ft i_MH) hown hK hO k_h0 (kn := 225) (ci := 12) (fl := [(3, 172), (3, 181), (3, 226), (3, 291), (3, 299), (3, 308), (3, 317), (3, 326), (3, 334), (3, 342), (3, 350), (3, 359), (3, 368), (3, 369), (3, 370), (3, 371), (3, 372), (3, 373), (3, 374), (3, 375), (3, 376), (3, 377), (3, 378), (0, 0), (0, 0), (0, 0), (0, 0), (0, 0), (0, 0), (0, 0), (0, 0)]) rfl hP rfl 13 (by decide) (hts _ (wg_t kw_1445)) (fun _ h9 => h9) (cd := (3, 369)) rfl dMH_fits_145 (fun v41 hv41 => ?_)
              obtain ⟨r46, rfl, kr43⟩ := (show ∃ r : Nat, v41 = .ref r ∧ T r = some 369 from hv41)
              refine lv_iload_n hx hb dMH_fits_148 rfl (lv_at hl 0 rfl) ?_
              refine nw_iald hx hb hK hO kr43 (k := 369) rfl hP (by omega) (by omega) dMH_fits_149 ?_
              refine mp_i (cx := []) (wr := []) hP hD hS hA [] [] rfl rfl rfl (by decide) (va_runS (As := [.int ((s29.1 ((351 + i22)) i25)), .int ((s29.1 369 i25))]) (rest := [.int (nI i25), .ref r43]) F (N_MH_minus l g _ T s29 pl hO hU (s29.1 ((351 + i22)) i25) (s29.1 369 i25)) (va_cwS 2 hts (wg_app (wg_c kw_1865 (wg_c kw_1866 (wg_c kw_13 wg_n))) kw_1867) rfl rfl rfl (by decide +kernel) ⟨by decide, by decide⟩) (pp_S (en_ok g) hP hD hS hA hE [] rfl rfl) rfl rfl hl.1 rfl (lv_room (Nat.le_of_ble_eq_true rfl)) dMH_fits_150 ⟨by omega, by omega⟩) (fun r47 u26 H locs hu26 hP hD hS => ?_)
              obtain ⟨q24, pl⟩ := u26
              obtain ⟨⟨eq26, rfl, hFc26, -⟩, hO⟩ := hu26
              have hO : okn g T q24.2 pl := hO
              have hP : va_P g.1 vcl ([] ++ pl) _ := hP
              have hD : va_D _ ([] ++ pl) := hD
              have hFc26 : frm (M_MH_minus) s29 q24.2 := hFc26
              replace hR := bnd_step hR eq26
              have hF := frm_tr hF hFc26 (fun k hk => by unfold M_MH_minus at hk; unfold M_MH_fits_0; omega)
              have hf149 : q24.2.1 225 23 = nI 0 := fc_F hf141 hFc26 (by unfold M_MH_minus; omega)
              have hf150 : q24.2.1 225 24 = nI 4 := fc_F hf142 hFc26 (by unfold M_MH_minus; omega)
              have hf151 : q24.2.1 225 25 = nI 4 := fc_F hf143 hFc26 (by unfold M_MH_minus; omega)
              have hf152 : q24.2.1 225 26 = nI 2 := fc_F hf144 hFc26 (by unfold M_MH_minus; omega)
              have hf153 : q24.2.1 225 27 = nI 131072 := fc_F hf145 hFc26 (by unfold M_MH_minus; omega)
              have hf154 : q24.2.1 225 28 = nI 95232 := fc_F hf146 hFc26 (by unfold M_MH_minus; omega)
              have hf155 : q24.2.1 225 29 = nI 78 := fc_F hf147 hFc26 (by unfold M_MH_minus; omega)
              have hf156 : q24.2.1 225 30 = nI 32 := fc_F hf148 hFc26 (by unfold M_MH_minus; omega)
              refine W.widen (k := 0) (n := 0) (by omega) (by omega) ?_
              refine nw_iast hx hb hK hO hU kr40 (k := (351 + i22)) hn28 hP hD hS (by omega) (by omega) dMH_fits_153 (fun s30 pl H locs es23 hO hP hD hS => ?_)
              replace hR := bnd_step hR es23
              have hF := frm_sI hF es23 (by unfold M_MH_fits_0; omega)
              have hf157 : s30.1 225 23 = nI 0 := fc_ne hf149 es23 (by omega)
              have hf158 : s30.1 225 24 = nI 4 := fc_ne hf150 es23 (by omega)
              have hf159 : s30.1 225 25 = nI 4 := fc_ne hf151 es23 (by omega)
              have hf160 : s30.1 225 26 = nI 2 := fc_ne hf152 es23 (by omega)
              have hf161 : s30.1 225 27 = nI 131072 := fc_ne hf153 es23 (by omega)
              have hf162 : s30.1 225 28 = nI 95232 := fc_ne hf154 es23 (by omega)
              have hf163 : s30.1 225 29 = nI 78 := fc_ne hf155 es23 (by omega)
              have hf164 : s30.1 225 30 = nI 32 := fc_ne hf156 es23 (by omega)
              refine lv_aload_n hx hb dMH_fits_154 rfl (lv_at hl 2 rfl) ?_
              refine lv_aload_n hx hb dMH_fits_155 rfl (lv_at hl 2 rfl) ?_
              refine nw_get (C := "LatticeKeysModel$Hands") (TT := T_MH) (N := 31) hx hb hts (wg_ft i_MH) hown hK hO k_h0 (kn := 225) (ci := 12) (fl := [(3, 172), (3, 181), (3, 226), (3, 291), (3, 299), (3, 308), (3, 317), (3, 326), (3, 334), (3, 342), (3, 350), (3, 359), (3, 368), (3, 369), (3, 370), (3, 371), (3, 372), (3, 373), (3, 374), (3, 375), (3, 376), (3, 377), (3, 378), (0, 0), (0, 0), (0, 0), (0, 0), (0, 0), (0, 0), (0, 0), (0, 0)]) rfl hP rfl 10 (by decide) (hts _ (wg_t kw_1442)) (fun _ h9 => h9) (cd := (3, 350)) rfl dMH_fits_156 (fun v42 hv42 => ?_)
              obtain ⟨r48, rfl, kr44⟩ := (show ∃ r : Nat, v42 = .ref r ∧ T r = some 350 from hv42)
              refine lv_iload_n hx hb dMH_fits_159 rfl (lv_at hl 1 rfl) ?_
              refine nw_aald3 hx hb hK hO kr44 (k := 350) (b := 351) rfl hP (by omega) (by omega) dMH_fits_160 (fun r49 kr45 => ?_)
              have hn30 : nsp (351 + i22) = (0, 256, []) := rows_ok 351 8 (by decide) _ (by omega)
              refine lv_iload_n hx hb dMH_fits_161 rfl (lv_at hl 0 rfl) ?_
              refine nw_iald hx hb hK hO kr45 (k := (351 + i22)) hn30 hP (by omega) (by omega) dMH_fits_162 ?_
              refine mp_i (cx := []) (wr := []) hP hD hS hA [] [] rfl rfl rfl (by decide) (va_runV (As := [.int ((s30.1 ((351 + i22)) i25))]) (rest := []) F (N_MH_low_0 l g _ T s30 pl hO hU h0 (s30.1 ((351 + i22)) i25) k_h0 hf157 hf158 hf159 hf160 hf161 hf162 hf163 hf164) (cwV 1 hts (wg_app (wg_c kw_1889 (wg_c kw_1891 (wg_c ks_76 (wg_c kw_13 wg_n)))) kw_1892) rfl rfl rfl (by decide +kernel) ⟨by decide, by decide⟩) (pn_W "LatticeKeysModel$Hands" (en_ok g) (ci := 12) (kn := 225) (fl := [(3, 172), (3, 181), (3, 226), (3, 291), (3, 299), (3, 308), (3, 317), (3, 326), (3, 334), (3, 342), (3, 350), (3, 359), (3, 368), (3, 369), (3, 370), (3, 371), (3, 372), (3, 373), (3, 374), (3, 375), (3, 376), (3, 377), (3, 378), (0, 0), (0, 0), (0, 0), (0, 0), (0, 0), (0, 0), (0, 0), (0, 0)]) hK hO k_h0 rfl hP hD hS hA hE [] rfl rfl rfl) rfl rfl hl.1 rfl (lv_room (Nat.le_of_ble_eq_true rfl)) dMH_fits_163 ⟨by omega, by omega⟩) (fun r50 u27 H locs hu27 hP hD hS => ?_)
              obtain ⟨q25, pl⟩ := u27
              obtain ⟨⟨eq27, rfl, hFc27, -⟩, hO⟩ := hu27
              have hO : okn g T q25.2 pl := hO
              have hP : va_P g.1 vcl ([] ++ pl) _ := hP
              have hD : va_D _ ([] ++ pl) := hD
              have hFc27 : frm (M_MH_low_0) s30 q25.2 := hFc27
              replace hR := bnd_step hR eq27
              have hF := frm_tr hF hFc27 (fun k hk => by unfold M_MH_low_0 at hk; unfold M_MH_fits_0; omega)
              have hf165 : q25.2.1 225 23 = nI 0 := fc_F hf157 hFc27 (by unfold M_MH_low_0; omega)
              have hf166 : q25.2.1 225 24 = nI 4 := fc_F hf158 hFc27 (by unfold M_MH_low_0; omega)
              have hf167 : q25.2.1 225 25 = nI 4 := fc_F hf159 hFc27 (by unfold M_MH_low_0; omega)
              have hf168 : q25.2.1 225 26 = nI 2 := fc_F hf160 hFc27 (by unfold M_MH_low_0; omega)
              have hf169 : q25.2.1 225 27 = nI 131072 := fc_F hf161 hFc27 (by unfold M_MH_low_0; omega)
              have hf170 : q25.2.1 225 28 = nI 95232 := fc_F hf162 hFc27 (by unfold M_MH_low_0; omega)
              have hf171 : q25.2.1 225 29 = nI 78 := fc_F hf163 hFc27 (by unfold M_MH_low_0; omega)
              have hf172 : q25.2.1 225 30 = nI 32 := fc_F hf164 hFc27 (by unfold M_MH_low_0; omega)
              refine W.widen (k := 0) (n := 0) (by omega) (by omega) ?_
              refine va_mabs (own := "LatticeKeysModel$Hands") (index := 221) hx hb (hml.trans hl.1.symm) hown (hts _ (wg_t kw_1909)) (hts _ (wg_t kw_1910)) (hts _ (wg_t kw_31)) (hts _ (wg_t kw_1911)) (Nat.le_of_ble_eq_true rfl) (Nat.le_of_ble_eq_true rfl) (by omega) (by omega) dMH_fits_166 ?_
              refine lv_aload_n hx hb dMH_fits_169 rfl (lv_at hl 2 rfl) ?_
              refine nw_get (C := "LatticeKeysModel$Hands") (TT := T_MH) (N := 31) hx hb hts (wg_ft i_MH) hown hK hO k_h0 (kn := 225) (ci := 12) (fl := [(3, 172), (3, 181), (3, 226), (3, 291), (3, 299), (3, 308), (3, 317), (3, 326), (3, 334), (3, 342), (3, 350), (3, 359), (3, 368), (3, 369), (3, 370), (3, 371), (3, 372), (3, 373), (3, 374), (3, 375), (3, 376), (3, 377), (3, 378), (0, 0), (0, 0), (0, 0), (0, 0), (0, 0), (0, 0), (0, 0), (0, 0)]) rfl hP rfl 28 (by decide) (hts _ (wg_t kw_1460)) (fun _ h9 => h9) (cd := (0, 0)) rfl dMH_fits_170 (fun v43 hv43 => ?_)
              obtain rfl := (show v43 = .int (q25.2.1 225 28) from hv43)
              obtain ⟨z32, ez30, hz35, hz36⟩ := cl_of (b := 2147483648) hf170 (by omega) (by decide)
              replace hR := bnd_step hR ez30
              refine mi_as hz35 ?_
              subst hz36
              refine lv_aload_n hx hb dMH_fits_173 rfl (lv_at hl 2 rfl) ?_
              refine nw_get (C := "LatticeKeysModel$Hands") (TT := T_MH) (N := 31) hx hb hts (wg_ft i_MH) hown hK hO k_h0 (kn := 225) (ci := 12) (fl := [(3, 172), (3, 181), (3, 226), (3, 291), (3, 299), (3, 308), (3, 317), (3, 326), (3, 334), (3, 342), (3, 350), (3, 359), (3, 368), (3, 369), (3, 370), (3, 371), (3, 372), (3, 373), (3, 374), (3, 375), (3, 376), (3, 377), (3, 378), (0, 0), (0, 0), (0, 0), (0, 0), (0, 0), (0, 0), (0, 0), (0, 0)]) rfl hP rfl 29 (by decide) (hts _ (wg_t kw_1461)) (fun _ h9 => h9) (cd := (0, 0)) rfl dMH_fits_174 (fun v44 hv44 => ?_)
              obtain rfl := (show v44 = .int (q25.2.1 225 29) from hv44)
              obtain ⟨z33, ez31, hz37, hz38⟩ := cl_of (b := 2147483648) hf171 (by omega) (by decide)
              replace hR := bnd_step hR ez31
              refine mi_as hz37 ?_
              subst hz38
              refine mi_isub hx hb dMH_fits_177 (by omega) ?_
              refine mi_as (show nI (95232 - 78) = nI 95154 from rfl) ?_
              refine lv_icmp_lt (tgt := 183) hx hb dMH_fits_178 (by decide) (fun h33 => ?_) (fun h33 => ?_)
              · replace hR := hR.trans (if_pos h33)
                refine mi_iinc (k := 0) (x := i25) (d := 1) (y := i25 + 1) (lv' := [(2, .int (nI (i25 + 1))), (1, .int (nI i22)), (0, .ref h0)]) hx hb dMH_fits_183 hl rfl (by decide) rfl (by decide) rfl (fun ls hl => ?_)
                refine lv_goto (tgt := 122) hx hb dMH_fits_186 (by decide) ?_
                exact ih25 (i25 + 1) q25.2 pl ls H locs (by omega) hF hf165 hf166 hf167 hf168 hf169 hf170 hf171 hf172 hR (lv_sub hl [0, 1, 2] rfl) hO hP hD hS
              · replace hR := hR.trans (if_neg h33)
                refine lv_iconst (v := nI 0) hx hb dMH_fits_181 (by decide) ?_
                exact mp_zret hx hb hr hlk rfl hP hD hS ((nI 0, q25.2), pl) ⟨⟨hR.symm, rfl, hF, trivial⟩, hO⟩ [] rfl rfl rfl (by omega) (by omega) dMH_fits_182
          exact lp25 256 0 s28 pl ls _ _ (by omega) hF hf125 hf126 hf127 hf128 hf129 hf130 hf131 hf132 hR (lv_sub hl [0, 1, 2] rfl) hO hP hD hS
      exact lp22 4 0 s21 pl ls _ _ (by omega) hF hf21 hf22 hf23 hf24 hf25 hf26 hf27 hf28 hR (lv_sub hl [0, 1] rfl) hO hP hD hS
    | succ n21 ih21 =>
      intro i21 s21 pl ls H locs hm21 hF hf173 hf174 hf175 hf176 hf177 hf178 hf179 hf180 hR hl hO hP hD hS
      refine lv_iload_n hx hb dMH_fits_2 rfl (lv_at hl 0 rfl) ?_
      refine lv_aload_n hx hb dMH_fits_3 rfl (lv_at hl 1 rfl) ?_
      refine nw_get (C := "LatticeKeysModel$Hands") (TT := T_MH) (N := 31) hx hb hts (wg_ft i_MH) hown hK hO k_h0 (kn := 225) (ci := 12) (fl := [(3, 172), (3, 181), (3, 226), (3, 291), (3, 299), (3, 308), (3, 317), (3, 326), (3, 334), (3, 342), (3, 350), (3, 359), (3, 368), (3, 369), (3, 370), (3, 371), (3, 372), (3, 373), (3, 374), (3, 375), (3, 376), (3, 377), (3, 378), (0, 0), (0, 0), (0, 0), (0, 0), (0, 0), (0, 0), (0, 0), (0, 0)]) rfl hP rfl 25 (by decide) (hts _ (wg_t kw_1457)) (fun _ h9 => h9) (cd := (0, 0)) rfl dMH_fits_4 (fun v45 hv45 => ?_)
      obtain rfl := (show v45 = .int (s21.1 225 25) from hv45)
      obtain ⟨z34, ez32, hz39, hz40⟩ := cl_of (b := 2147483648) hf175 (by omega) (by decide)
      replace hR := bnd_step hR ez32
      refine mi_as hz39 ?_
      subst hz40
      refine mi_ge (tgt := 96) hx hb dMH_fits_7 (by decide) (by omega) (by omega) (fun h34 => absurd h34 (by omega)) (fun h34 => ?_)
      refine lv_aload_n hx hb dMH_fits_10 rfl (lv_at hl 1 rfl) ?_
      refine lv_aload_n hx hb dMH_fits_11 rfl (lv_at hl 1 rfl) ?_
      refine nw_get (C := "LatticeKeysModel$Hands") (TT := T_MH) (N := 31) hx hb hts (wg_ft i_MH) hown hK hO k_h0 (kn := 225) (ci := 12) (fl := [(3, 172), (3, 181), (3, 226), (3, 291), (3, 299), (3, 308), (3, 317), (3, 326), (3, 334), (3, 342), (3, 350), (3, 359), (3, 368), (3, 369), (3, 370), (3, 371), (3, 372), (3, 373), (3, 374), (3, 375), (3, 376), (3, 377), (3, 378), (0, 0), (0, 0), (0, 0), (0, 0), (0, 0), (0, 0), (0, 0), (0, 0)]) rfl hP rfl 3 (by decide) (hts _ (wg_t kw_1435)) (fun _ h9 => h9) (cd := (3, 291)) rfl dMH_fits_12 (fun v46 hv46 => ?_)
      obtain ⟨r51, rfl, kr46⟩ := (show ∃ r : Nat, v46 = .ref r ∧ T r = some 291 from hv46)
      refine lv_iload_n hx hb dMH_fits_15 rfl (lv_at hl 0 rfl) ?_
      refine nw_aald3 hx hb hK hO kr46 (k := 291) (b := 292) rfl hP (by omega) (by omega) dMH_fits_16 (fun r52 kr47 => ?_)
      have hn31 : nsp (292 + i21) = (0, 256, []) := rows_ok 292 7 (by decide) _ (by omega)
      refine lv_aload_n hx hb dMH_fits_17 rfl (lv_at hl 1 rfl) ?_
      refine nw_get (C := "LatticeKeysModel$Hands") (TT := T_MH) (N := 31) hx hb hts (wg_ft i_MH) hown hK hO k_h0 (kn := 225) (ci := 12) (fl := [(3, 172), (3, 181), (3, 226), (3, 291), (3, 299), (3, 308), (3, 317), (3, 326), (3, 334), (3, 342), (3, 350), (3, 359), (3, 368), (3, 369), (3, 370), (3, 371), (3, 372), (3, 373), (3, 374), (3, 375), (3, 376), (3, 377), (3, 378), (0, 0), (0, 0), (0, 0), (0, 0), (0, 0), (0, 0), (0, 0), (0, 0)]) rfl hP rfl 13 (by decide) (hts _ (wg_t kw_1445)) (fun _ h9 => h9) (cd := (3, 369)) rfl dMH_fits_18 (fun v47 hv47 => ?_)
      obtain ⟨r53, rfl, kr48⟩ := (show ∃ r : Nat, v47 = .ref r ∧ T r = some 369 from hv47)
      refine mp_v (cx := []) (wr := []) hP hD hS hA [] [] rfl rfl rfl (by decide) (va_runV (As := [.ref r52, .ref r53]) (rest := []) F (N_MH_turned_0 l g _ T s21 pl hO hU h0 r52 r53 (292 + i21) 369 k_h0 kr47 hn31 kr48 rfl hf173 hf174 hf175 hf176 hf177 hf178 hf179 hf180) (cwV 2 hts (wg_app (wg_c kw_1901 (wg_c kw_1903 (wg_c ks_79 (wg_c kw_13 wg_n)))) kw_1904) rfl rfl rfl (by decide +kernel) ⟨by decide, by decide⟩) (pn_W "LatticeKeysModel$Hands" (en_ok g) (ci := 12) (kn := 225) (fl := [(3, 172), (3, 181), (3, 226), (3, 291), (3, 299), (3, 308), (3, 317), (3, 326), (3, 334), (3, 342), (3, 350), (3, 359), (3, 368), (3, 369), (3, 370), (3, 371), (3, 372), (3, 373), (3, 374), (3, 375), (3, 376), (3, 377), (3, 378), (0, 0), (0, 0), (0, 0), (0, 0), (0, 0), (0, 0), (0, 0), (0, 0)]) hK hO k_h0 rfl hP hD hS hA hE [] rfl rfl rfl) rfl rfl hl.1 rfl (lv_room (Nat.le_of_ble_eq_true rfl)) dMH_fits_21 ⟨by omega, by omega⟩) (fun  u28 H locs hu28 hP hD hS => ?_)
      obtain ⟨s31, pl⟩ := u28
      obtain ⟨⟨eq28, hFc28, -⟩, hO⟩ := hu28
      have hO : okn g T s31 pl := hO
      have hP : va_P g.1 vcl ([] ++ pl) _ := hP
      have hD : va_D _ ([] ++ pl) := hD
      have hFc28 : frm (M_MH_turned_0 369) s21 s31 := hFc28
      replace hR := bnd_step hR eq28
      have hF := frm_tr hF hFc28 (fun k hk => by unfold M_MH_turned_0 at hk; unfold M_MH_fits_0; omega)
      have hf181 : s31.1 225 23 = nI 0 := fc_F hf173 hFc28 (by unfold M_MH_turned_0; omega)
      have hf182 : s31.1 225 24 = nI 4 := fc_F hf174 hFc28 (by unfold M_MH_turned_0; omega)
      have hf183 : s31.1 225 25 = nI 4 := fc_F hf175 hFc28 (by unfold M_MH_turned_0; omega)
      have hf184 : s31.1 225 26 = nI 2 := fc_F hf176 hFc28 (by unfold M_MH_turned_0; omega)
      have hf185 : s31.1 225 27 = nI 131072 := fc_F hf177 hFc28 (by unfold M_MH_turned_0; omega)
      have hf186 : s31.1 225 28 = nI 95232 := fc_F hf178 hFc28 (by unfold M_MH_turned_0; omega)
      have hf187 : s31.1 225 29 = nI 78 := fc_F hf179 hFc28 (by unfold M_MH_turned_0; omega)
      have hf188 : s31.1 225 30 = nI 32 := fc_F hf180 hFc28 (by unfold M_MH_turned_0; omega)
      refine W.widen (k := 0) (n := 0) (by omega) (by omega) ?_
      refine lv_iconst (v := nI 0) hx hb dMH_fits_24 (by decide) ?_
      refine lv_istore_n (lv' := [(2, .int (nI 0)), (1, .int (nI i21)), (0, .ref h0)]) hx hb dMH_fits_25 rfl hl (by decide) rfl (fun ls hl => ?_)
      have lp26 : ∀ (n26 : Nat) (i26 : Nat) (s32 : Sto) (pl : va_W) (ls : Array Slot) (H : Heap) (locs : List Loc), n26 + i26 = 256 → frm (M_MH_fits_0) s s32 → s32.1 225 23 = nI 0 → s32.1 225 24 = nI 4 → s32.1 225 25 = nI 4 → s32.1 225 26 = nI 2 → s32.1 225 27 = nI 131072 → s32.1 225 28 = nI 95232 → s32.1 225 29 = nI 78 → s32.1 225 30 = nI 32 → F_MH_fits_0 s = F_MH_fits_0_L5 i21 (F_MH_fits_0_L0 n21) n26 i26 s32 → lv_has ls 4 [(2, .int (nI i26)), (1, .int (nI i21)), (0, .ref h0)] → okn g T s32 pl → va_P g.1 vcl ([] ++ pl) H → va_D A ([] ++ pl) → va_S A s0.heap H locs → W p l e ({ frames := 1, cells := 0, slots := 0, locals := 60 } : Room) s0 m args below meth c H locs 0 0 (MQ below (va_Qi (fun (r : Int32) (u : (Int32 × Sto) × va_W) => (u.1 = F_MH_fits_0 s ∧ r = u.1.1 ∧ frm (M_MH_fits_0) s u.1.2 ∧ True) ∧ okn g T u.1.2 u.2) (po g.1 vcl A (fun (u : (Int32 × Sto) × va_W) => [] ++ u.2)) A) args s0 0 0 A) (F0 m 26 ls []) := by
        intro n26
        induction n26 with
        | zero =>
          intro i26 s32 pl ls H locs hm26 hF hf189 hf190 hf191 hf192 hf193 hf194 hf195 hf196 hR hl hO hP hD hS
          refine lv_iload_n hx hb dMH_fits_26 rfl (lv_at hl 0 rfl) ?_
          refine lv_sipush (v := nI 256) hx hb dMH_fits_27 (by decide) ?_
          refine mi_ge (tgt := 90) hx hb dMH_fits_30 (by decide) (by omega) (by omega) (fun h35 => ?_) (fun h35 => absurd h35 (by omega))
          refine mi_iinc (k := 1) (x := i21) (d := 1) (y := i21 + 1) (lv' := [(1, .int (nI (i21 + 1))), (2, .int (nI i26)), (0, .ref h0)]) hx hb dMH_fits_90 hl rfl (by decide) rfl (by decide) rfl (fun ls hl => ?_)
          refine lv_goto (tgt := 2) hx hb dMH_fits_93 (by decide) ?_
          exact ih21 (i21 + 1) s32 pl ls H locs (by omega) hF hf189 hf190 hf191 hf192 hf193 hf194 hf195 hf196 hR (lv_sub hl [0, 2] rfl) hO hP hD hS
        | succ n26 ih26 =>
          intro i26 s32 pl ls H locs hm26 hF hf197 hf198 hf199 hf200 hf201 hf202 hf203 hf204 hR hl hO hP hD hS
          refine lv_iload_n hx hb dMH_fits_26 rfl (lv_at hl 0 rfl) ?_
          refine lv_sipush (v := nI 256) hx hb dMH_fits_27 (by decide) ?_
          refine mi_ge (tgt := 90) hx hb dMH_fits_30 (by decide) (by omega) (by omega) (fun h36 => absurd h36 (by omega)) (fun h36 => ?_)
          refine lv_aload_n hx hb dMH_fits_33 rfl (lv_at hl 2 rfl) ?_
          refine nw_get (C := "LatticeKeysModel$Hands") (TT := T_MH) (N := 31) hx hb hts (wg_ft i_MH) hown hK hO k_h0 (kn := 225) (ci := 12) (fl := [(3, 172), (3, 181), (3, 226), (3, 291), (3, 299), (3, 308), (3, 317), (3, 326), (3, 334), (3, 342), (3, 350), (3, 359), (3, 368), (3, 369), (3, 370), (3, 371), (3, 372), (3, 373), (3, 374), (3, 375), (3, 376), (3, 377), (3, 378), (0, 0), (0, 0), (0, 0), (0, 0), (0, 0), (0, 0), (0, 0), (0, 0)]) rfl hP rfl 8 (by decide) (hts _ (wg_t kw_1440)) (fun _ h9 => h9) (cd := (3, 334)) rfl dMH_fits_34 (fun v48 hv48 => ?_)
          obtain ⟨r54, rfl, kr49⟩ := (show ∃ r : Nat, v48 = .ref r ∧ T r = some 334 from hv48)
          refine lv_iload_n hx hb dMH_fits_37 rfl (lv_at hl 1 rfl) ?_
          refine nw_aald3 hx hb hK hO kr49 (k := 334) (b := 335) rfl hP (by omega) (by omega) dMH_fits_38 (fun r55 kr50 => ?_)
          have hn32 : nsp (335 + i21) = (0, 256, []) := rows_ok 335 7 (by decide) _ (by omega)
          refine lv_iload_n hx hb dMH_fits_39 rfl (lv_at hl 0 rfl) ?_
          refine lv_aload_n hx hb dMH_fits_40 rfl (lv_at hl 2 rfl) ?_
          refine nw_get (C := "LatticeKeysModel$Hands") (TT := T_MH) (N := 31) hx hb hts (wg_ft i_MH) hown hK hO k_h0 (kn := 225) (ci := 12) (fl := [(3, 172), (3, 181), (3, 226), (3, 291), (3, 299), (3, 308), (3, 317), (3, 326), (3, 334), (3, 342), (3, 350), (3, 359), (3, 368), (3, 369), (3, 370), (3, 371), (3, 372), (3, 373), (3, 374), (3, 375), (3, 376), (3, 377), (3, 378), (0, 0), (0, 0), (0, 0), (0, 0), (0, 0), (0, 0), (0, 0), (0, 0)]) rfl hP rfl 7 (by decide) (hts _ (wg_t kw_1439)) (fun _ h9 => h9) (cd := (3, 326)) rfl dMH_fits_41 (fun v49 hv49 => ?_)
          obtain ⟨r56, rfl, kr51⟩ := (show ∃ r : Nat, v49 = .ref r ∧ T r = some 326 from hv49)
          refine lv_iload_n hx hb dMH_fits_44 rfl (lv_at hl 1 rfl) ?_
          refine nw_aald3 hx hb hK hO kr51 (k := 326) (b := 327) rfl hP (by omega) (by omega) dMH_fits_45 (fun r57 kr52 => ?_)
          have hn33 : nsp (327 + i21) = (0, 256, []) := rows_ok 327 7 (by decide) _ (by omega)
          refine lv_iload_n hx hb dMH_fits_46 rfl (lv_at hl 0 rfl) ?_
          refine nw_iald hx hb hK hO kr52 (k := (327 + i21)) hn33 hP (by omega) (by omega) dMH_fits_47 ?_
          refine lv_aload_n hx hb dMH_fits_48 rfl (lv_at hl 2 rfl) ?_
          refine nw_get (C := "LatticeKeysModel$Hands") (TT := T_MH) (N := 31) hx hb hts (wg_ft i_MH) hown hK hO k_h0 (kn := 225) (ci := 12) (fl := [(3, 172), (3, 181), (3, 226), (3, 291), (3, 299), (3, 308), (3, 317), (3, 326), (3, 334), (3, 342), (3, 350), (3, 359), (3, 368), (3, 369), (3, 370), (3, 371), (3, 372), (3, 373), (3, 374), (3, 375), (3, 376), (3, 377), (3, 378), (0, 0), (0, 0), (0, 0), (0, 0), (0, 0), (0, 0), (0, 0), (0, 0)]) rfl hP rfl 13 (by decide) (hts _ (wg_t kw_1445)) (fun _ h9 => h9) (cd := (3, 369)) rfl dMH_fits_49 (fun v50 hv50 => ?_)
          obtain ⟨r58, rfl, kr53⟩ := (show ∃ r : Nat, v50 = .ref r ∧ T r = some 369 from hv50)
          refine lv_iload_n hx hb dMH_fits_52 rfl (lv_at hl 0 rfl) ?_
          refine nw_iald hx hb hK hO kr53 (k := 369) rfl hP (by omega) (by omega) dMH_fits_53 ?_
          refine lv_iadd hx hb dMH_fits_54 ?_
          refine lv_ldc (v := 8380417) hx hb hown (hts _ (wg_t kw_1429)) dMH_fits_55 ?_
          refine mi_as (show (8380417 : Int32) = nI 8380417 by decide) ?_
          refine lv_irem hx hb dMH_fits_57 (nI_ne0 (by omega) (by omega)) ?_
          refine nw_iast hx hb hK hO hU kr50 (k := (335 + i21)) hn32 hP hD hS (by omega) (by omega) dMH_fits_58 (fun s33 pl H locs es24 hO hP hD hS => ?_)
          replace hR := bnd_step hR es24
          have hF := frm_sI hF es24 (by unfold M_MH_fits_0; omega)
          have hf205 : s33.1 225 23 = nI 0 := fc_ne hf197 es24 (by omega)
          have hf206 : s33.1 225 24 = nI 4 := fc_ne hf198 es24 (by omega)
          have hf207 : s33.1 225 25 = nI 4 := fc_ne hf199 es24 (by omega)
          have hf208 : s33.1 225 26 = nI 2 := fc_ne hf200 es24 (by omega)
          have hf209 : s33.1 225 27 = nI 131072 := fc_ne hf201 es24 (by omega)
          have hf210 : s33.1 225 28 = nI 95232 := fc_ne hf202 es24 (by omega)
          have hf211 : s33.1 225 29 = nI 78 := fc_ne hf203 es24 (by omega)
          have hf212 : s33.1 225 30 = nI 32 := fc_ne hf204 es24 (by omega)
          refine lv_aload_n hx hb dMH_fits_59 rfl (lv_at hl 2 rfl) ?_
          refine nw_get (C := "LatticeKeysModel$Hands") (TT := T_MH) (N := 31) hx hb hts (wg_ft i_MH) hown hK hO k_h0 (kn := 225) (ci := 12) (fl := [(3, 172), (3, 181), (3, 226), (3, 291), (3, 299), (3, 308), (3, 317), (3, 326), (3, 334), (3, 342), (3, 350), (3, 359), (3, 368), (3, 369), (3, 370), (3, 371), (3, 372), (3, 373), (3, 374), (3, 375), (3, 376), (3, 377), (3, 378), (0, 0), (0, 0), (0, 0), (0, 0), (0, 0), (0, 0), (0, 0), (0, 0)]) rfl hP rfl 8 (by decide) (hts _ (wg_t kw_1440)) (fun _ h9 => h9) (cd := (3, 334)) rfl dMH_fits_60 (fun v51 hv51 => ?_)
          obtain ⟨r59, rfl, kr54⟩ := (show ∃ r : Nat, v51 = .ref r ∧ T r = some 334 from hv51)
          refine lv_iload_n hx hb dMH_fits_63 rfl (lv_at hl 1 rfl) ?_
          refine nw_aald3 hx hb hK hO kr54 (k := 334) (b := 335) rfl hP (by omega) (by omega) dMH_fits_64 (fun r60 kr55 => ?_)
          have hn34 : nsp (335 + i21) = (0, 256, []) := rows_ok 335 7 (by decide) _ (by omega)
          refine lv_iload_n hx hb dMH_fits_65 rfl (lv_at hl 0 rfl) ?_
          refine nw_iald hx hb hK hO kr55 (k := (335 + i21)) hn34 hP (by omega) (by omega) dMH_fits_66 ?_
          refine mp_i (cx := []) (wr := []) hP hD hS hA [] [] rfl rfl rfl (by decide) (va_runS (As := [.int ((s33.1 ((335 + i21)) i26))]) (rest := []) F (N_MH_norm l g _ T s33 pl hO hU (s33.1 ((335 + i21)) i26)) (va_cwS 1 hts (wg_app (wg_c kw_1905 (wg_c kw_1906 (wg_c kw_13 wg_n))) kw_1907) rfl rfl rfl (by decide +kernel) ⟨by decide, by decide⟩) (pp_S (en_ok g) hP hD hS hA hE [] rfl rfl) rfl rfl hl.1 rfl (lv_room (Nat.le_of_ble_eq_true rfl)) dMH_fits_67 ⟨by omega, by omega⟩) (fun r61 u29 H locs hu29 hP hD hS => ?_)
          obtain ⟨q26, pl⟩ := u29
          obtain ⟨⟨eq29, rfl, hFc29, -⟩, hO⟩ := hu29
          have hO : okn g T q26.2 pl := hO
          have hP : va_P g.1 vcl ([] ++ pl) _ := hP
          have hD : va_D _ ([] ++ pl) := hD
          have hFc29 : frm (M_MH_norm) s33 q26.2 := hFc29
          replace hR := bnd_step hR eq29
          have hF := frm_tr hF hFc29 (fun k hk => by unfold M_MH_norm at hk; unfold M_MH_fits_0; omega)
          have hf213 : q26.2.1 225 23 = nI 0 := fc_F hf205 hFc29 (by unfold M_MH_norm; omega)
          have hf214 : q26.2.1 225 24 = nI 4 := fc_F hf206 hFc29 (by unfold M_MH_norm; omega)
          have hf215 : q26.2.1 225 25 = nI 4 := fc_F hf207 hFc29 (by unfold M_MH_norm; omega)
          have hf216 : q26.2.1 225 26 = nI 2 := fc_F hf208 hFc29 (by unfold M_MH_norm; omega)
          have hf217 : q26.2.1 225 27 = nI 131072 := fc_F hf209 hFc29 (by unfold M_MH_norm; omega)
          have hf218 : q26.2.1 225 28 = nI 95232 := fc_F hf210 hFc29 (by unfold M_MH_norm; omega)
          have hf219 : q26.2.1 225 29 = nI 78 := fc_F hf211 hFc29 (by unfold M_MH_norm; omega)
          have hf220 : q26.2.1 225 30 = nI 32 := fc_F hf212 hFc29 (by unfold M_MH_norm; omega)
          refine W.widen (k := 0) (n := 0) (by omega) (by omega) ?_
          refine lv_aload_n hx hb dMH_fits_70 rfl (lv_at hl 2 rfl) ?_
          refine nw_get (C := "LatticeKeysModel$Hands") (TT := T_MH) (N := 31) hx hb hts (wg_ft i_MH) hown hK hO k_h0 (kn := 225) (ci := 12) (fl := [(3, 172), (3, 181), (3, 226), (3, 291), (3, 299), (3, 308), (3, 317), (3, 326), (3, 334), (3, 342), (3, 350), (3, 359), (3, 368), (3, 369), (3, 370), (3, 371), (3, 372), (3, 373), (3, 374), (3, 375), (3, 376), (3, 377), (3, 378), (0, 0), (0, 0), (0, 0), (0, 0), (0, 0), (0, 0), (0, 0), (0, 0)]) rfl hP rfl 27 (by decide) (hts _ (wg_t kw_1459)) (fun _ h9 => h9) (cd := (0, 0)) rfl dMH_fits_71 (fun v52 hv52 => ?_)
          obtain rfl := (show v52 = .int (q26.2.1 225 27) from hv52)
          obtain ⟨z35, ez33, hz41, hz42⟩ := cl_of (b := 2147483648) hf217 (by omega) (by decide)
          replace hR := bnd_step hR ez33
          refine mi_as hz41 ?_
          subst hz42
          refine lv_aload_n hx hb dMH_fits_74 rfl (lv_at hl 2 rfl) ?_
          refine nw_get (C := "LatticeKeysModel$Hands") (TT := T_MH) (N := 31) hx hb hts (wg_ft i_MH) hown hK hO k_h0 (kn := 225) (ci := 12) (fl := [(3, 172), (3, 181), (3, 226), (3, 291), (3, 299), (3, 308), (3, 317), (3, 326), (3, 334), (3, 342), (3, 350), (3, 359), (3, 368), (3, 369), (3, 370), (3, 371), (3, 372), (3, 373), (3, 374), (3, 375), (3, 376), (3, 377), (3, 378), (0, 0), (0, 0), (0, 0), (0, 0), (0, 0), (0, 0), (0, 0), (0, 0)]) rfl hP rfl 29 (by decide) (hts _ (wg_t kw_1461)) (fun _ h9 => h9) (cd := (0, 0)) rfl dMH_fits_75 (fun v53 hv53 => ?_)
          obtain rfl := (show v53 = .int (q26.2.1 225 29) from hv53)
          obtain ⟨z36, ez34, hz43, hz44⟩ := cl_of (b := 2147483648) hf219 (by omega) (by decide)
          replace hR := bnd_step hR ez34
          refine mi_as hz43 ?_
          subst hz44
          refine mi_isub hx hb dMH_fits_78 (by omega) ?_
          refine mi_as (show nI (131072 - 78) = nI 130994 from rfl) ?_
          refine lv_icmp_lt (tgt := 84) hx hb dMH_fits_79 (by decide) (fun h37 => ?_) (fun h37 => ?_)
          · replace hR := hR.trans (if_pos h37)
            refine mi_iinc (k := 0) (x := i26) (d := 1) (y := i26 + 1) (lv' := [(2, .int (nI (i26 + 1))), (1, .int (nI i21)), (0, .ref h0)]) hx hb dMH_fits_84 hl rfl (by decide) rfl (by decide) rfl (fun ls hl => ?_)
            refine lv_goto (tgt := 26) hx hb dMH_fits_87 (by decide) ?_
            exact ih26 (i26 + 1) q26.2 pl ls H locs (by omega) hF hf213 hf214 hf215 hf216 hf217 hf218 hf219 hf220 hR (lv_sub hl [0, 1, 2] rfl) hO hP hD hS
          · replace hR := hR.trans (if_neg h37)
            refine lv_iconst (v := nI 0) hx hb dMH_fits_82 (by decide) ?_
            exact mp_zret hx hb hr hlk rfl hP hD hS ((nI 0, q26.2), pl) ⟨⟨hR.symm, rfl, hF, trivial⟩, hO⟩ [] rfl rfl rfl (by omega) (by omega) dMH_fits_83
      exact lp26 256 0 s31 pl ls _ _ (by omega) hF hf181 hf182 hf183 hf184 hf185 hf186 hf187 hf188 hR (lv_sub hl [0, 1, 2] rfl) hO hP hD hS
  exact lp21 4 0 s pl ls _ _ (by omega) hF e_c0 e_c1 e_c2 e_c3 e_c4 e_c5 e_c6 e_c7 hR (lv_sub hl [0, 1] rfl) hO hP hD hS
def M_MH_fits_1 (k : Nat) : Prop := (335 ≤ k ∧ k < 342) ∨ (351 ≤ k ∧ k < 359) ∨ (360 ≤ k ∧ k < 368) ∨ k = 369 ∨ (0 : Nat) = 1
noncomputable def F_MH_fits_1_L5 (i21 : Nat) (kk : Nat → Sto → Int32 × Sto) : Nat → Nat → Sto → Int32 × Sto
  | 0, i26, s32 => kk (i21 + 1) s32
  | n26 + 1, i26, s32 => bnd (sI s32 ((335 + i21)) i26 (((s32.1 ((327 + i21)) i26) + (s32.1 369 i26)) - ((s32.1 ((327 + i21)) i26) + (s32.1 369 i26)) / (nI 8380417) * (nI 8380417))) fun s33 => bnd (F_MH_norm (s33.1 ((335 + i21)) i26) s33) fun q26 => bnd ((q26.2.1 225 27).toNatClampNeg) fun z35 => bnd ((q26.2.1 225 29).toNatClampNeg) fun z36 => if (q26.1) < (nI 524092) then F_MH_fits_1_L5 i21 kk n26 (i26 + 1) q26.2 else (nI 0, q26.2)
noncomputable def F_MH_fits_1_L4 (i22 : Nat) (kk : Nat → Sto → Int32 × Sto) : Nat → Nat → Sto → Int32 × Sto
  | 0, i25, s29 => kk (i22 + 1) s29
  | n25 + 1, i25, s29 => bnd (F_MH_minus (s29.1 ((351 + i22)) i25) (s29.1 369 i25) s29) fun q24 => bnd (sI q24.2 ((351 + i22)) i25 (q24.1)) fun s30 => bnd (F_MH_low_1 (s30.1 ((351 + i22)) i25) s30) fun q25 => bnd ((q25.2.1 225 28).toNatClampNeg) fun z32 => bnd ((q25.2.1 225 29).toNatClampNeg) fun z33 => if (if 0 ≤ (q25.1) then (q25.1) else 0 - (q25.1)) < (nI 261692) then F_MH_fits_1_L4 i22 kk n25 (i25 + 1) q25.2 else (nI 0, q25.2)
noncomputable def F_MH_fits_1_L3 (i23 : Nat) (kk : Nat → Int32 → Sto → Int32 × Sto) : Nat → Nat → Int32 → Sto → Int32 × Sto
  | 0, i24, z27, s25 => kk (i23 + 1) z27 s25
  | n24 + 1, i24, z27, s25 => bnd (F_MH_norm (s25.1 369 i24) s25) fun q21 => bnd ((q21.2.1 225 28).toNatClampNeg) fun z28 => if (q21.1) < (nI 261888) then bnd (F_MH_high_1 (((q21.2.1 ((351 + i23)) i24) + (q21.2.1 369 i24)) - ((q21.2.1 ((351 + i23)) i24) + (q21.2.1 369 i24)) / (nI 8380417) * (nI 8380417)) q21.2) fun q22 => bnd (F_MH_high_1 (q22.2.1 ((351 + i23)) i24) q22.2) fun q23 => if (q22.1) = (q23.1) then bnd (sI q23.2 ((360 + i23)) i24 (nI 0)) fun s27 => bnd ((z27 + (s27.1 ((360 + i23)) i24))) fun z30 => F_MH_fits_1_L3 i23 kk n24 (i24 + 1) z30 s27 else bnd (sI q23.2 ((360 + i23)) i24 (nI 1)) fun s26 => bnd ((z27 + (s26.1 ((360 + i23)) i24))) fun z29 => F_MH_fits_1_L3 i23 kk n24 (i24 + 1) z29 s26 else (nI 0, q21.2)
noncomputable def F_MH_fits_1_L2 : Nat → Nat → Int32 → Sto → Int32 × Sto
  | 0, i23, z23, s23 => bnd ((s23.1 225 24).toNatClampNeg) fun z24 => bnd ((s23.1 225 23).toNatClampNeg) fun z25 => if (nI 55) < z23 then (nI 0, s23) else (nI 1, s23)
  | n23 + 1, i23, z23, s23 => bnd ((s23.1 225 24).toNatClampNeg) fun z26 => bnd (F_MH_turned_1 (309 + i23) 369 s23) fun s24 => F_MH_fits_1_L3 i23 (F_MH_fits_1_L2  n23) 256 0 z23 s24
noncomputable def F_MH_fits_1_L1 : Nat → Nat → Sto → Int32 × Sto
  | 0, i22, s22 => bnd ((s22.1 225 24).toNatClampNeg) fun z22 => F_MH_fits_1_L2 6 0 (nI 0) s22
  | n22 + 1, i22, s22 => bnd ((s22.1 225 24).toNatClampNeg) fun z31 => bnd (F_MH_turned_1 (300 + i22) 369 s22) fun s28 => F_MH_fits_1_L4 i22 (F_MH_fits_1_L1  n22) 256 0 s28
noncomputable def F_MH_fits_1_L0 : Nat → Nat → Sto → Int32 × Sto
  | 0, i21, s21 => bnd ((s21.1 225 25).toNatClampNeg) fun z21 => F_MH_fits_1_L1 6 0 s21
  | n21 + 1, i21, s21 => bnd ((s21.1 225 25).toNatClampNeg) fun z34 => bnd (F_MH_turned_1 (292 + i21) 369 s21) fun s31 => F_MH_fits_1_L5 i21 (F_MH_fits_1_L0  n21) 256 0 s31
noncomputable def F_MH_fits_1 (s : Sto) : Int32 × Sto := F_MH_fits_1_L0 5 0 s
set_option maxHeartbeats 8000000 in
set_option maxRecDepth 100000 in
theorem N_MH_fits_1 (l : Launch) (g : Gd) (sz : Nat) (T : TyN) (s : Sto) (pl : va_W) (hO : okn g T s pl) (hU : inj T) (h0 : Nat) (k_h0 : T h0 = some 225) (e_c0 : s.1 225 23 = nI 1) (e_c1 : s.1 225 24 = nI 6) (e_c2 : s.1 225 25 = nI 5) (e_c3 : s.1 225 26 = nI 4) (e_c4 : s.1 225 27 = nI 524288) (e_c5 : s.1 225 28 = nI 261888) (e_c6 : s.1 225 29 = nI 196) (e_c7 : s.1 225 30 = nI 48)  : Met l y_MH_fits w_MH_fits ({ frames := 1, cells := 0, slots := 0, locals := 60 } : Room) (va_Pc [.ref h0] (pr (en g) g.1 vcl sz ([] ++ pl))) (va_Qi (fun (r : Int32) (u : (Int32 × Sto) × va_W) => (u.1 = F_MH_fits_1 s ∧ r = u.1.1 ∧ frm (M_MH_fits_1) s u.1.2 ∧ True) ∧ okn g T u.1.2 u.2) (po g.1 vcl (va_A ([] ++ pl) sz) (fun (u : (Int32 × Sto) × va_W) => [] ++ u.2)) (va_A ([] ++ pl) sz)) 0 0 (va_A ([] ++ pl) sz) := by
  refine mc_entry (cc := c_MH_fits) (maxL := 4) (ret := (some .boolean)) (by decide) rfl (Nat.le_of_ble_eq_true rfl) ?_
  intro p e s0 m args below meth c ls F hr hlk hnm hsz hP hD hE hA hl
  obtain ⟨hx, hb, hml, hown, hts⟩ := id F
  have hK := hE.1
  generalize va_A ([] ++ pl) sz = A at hD hE hA ⊢
  have hS : va_S A s0.heap s0.heap [] := va_S.rf
  have hl : lv_has ls 4 [(0, .ref h0)] := hl
  have hR : F_MH_fits_1 s = F_MH_fits_1 s := rfl
  have hF : frm (M_MH_fits_1) s s := frm_rf
  refine lv_iconst (v := nI 0) hx hb dMH_fits_0 (by decide) ?_
  refine lv_istore_n (lv' := [(1, .int (nI 0)), (0, .ref h0)]) hx hb dMH_fits_1 rfl hl (by decide) rfl (fun ls hl => ?_)
  have lp21 : ∀ (n21 : Nat) (i21 : Nat) (s21 : Sto) (pl : va_W) (ls : Array Slot) (H : Heap) (locs : List Loc), n21 + i21 = 5 → frm (M_MH_fits_1) s s21 → s21.1 225 23 = nI 1 → s21.1 225 24 = nI 6 → s21.1 225 25 = nI 5 → s21.1 225 26 = nI 4 → s21.1 225 27 = nI 524288 → s21.1 225 28 = nI 261888 → s21.1 225 29 = nI 196 → s21.1 225 30 = nI 48 → F_MH_fits_1 s = F_MH_fits_1_L0 n21 i21 s21 → lv_has ls 4 [(1, .int (nI i21)), (0, .ref h0)] → okn g T s21 pl → va_P g.1 vcl ([] ++ pl) H → va_D A ([] ++ pl) → va_S A s0.heap H locs → W p l e ({ frames := 1, cells := 0, slots := 0, locals := 60 } : Room) s0 m args below meth c H locs 0 0 (MQ below (va_Qi (fun (r : Int32) (u : (Int32 × Sto) × va_W) => (u.1 = F_MH_fits_1 s ∧ r = u.1.1 ∧ frm (M_MH_fits_1) s u.1.2 ∧ True) ∧ okn g T u.1.2 u.2) (po g.1 vcl A (fun (u : (Int32 × Sto) × va_W) => [] ++ u.2)) A) args s0 0 0 A) (F0 m 2 ls []) := by
    intro n21
    induction n21 with
    | zero =>
      intro i21 s21 pl ls H locs hm21 hF hf21 hf22 hf23 hf24 hf25 hf26 hf27 hf28 hR hl hO hP hD hS
      refine lv_iload_n hx hb dMH_fits_2 rfl (lv_at hl 0 rfl) ?_
      refine lv_aload_n hx hb dMH_fits_3 rfl (lv_at hl 1 rfl) ?_
      refine nw_get (C := "LatticeKeysModel$Hands") (TT := T_MH) (N := 31) hx hb hts (wg_ft i_MH) hown hK hO k_h0 (kn := 225) (ci := 12) (fl := [(3, 172), (3, 181), (3, 226), (3, 291), (3, 299), (3, 308), (3, 317), (3, 326), (3, 334), (3, 342), (3, 350), (3, 359), (3, 368), (3, 369), (3, 370), (3, 371), (3, 372), (3, 373), (3, 374), (3, 375), (3, 376), (3, 377), (3, 378), (0, 0), (0, 0), (0, 0), (0, 0), (0, 0), (0, 0), (0, 0), (0, 0)]) rfl hP rfl 25 (by decide) (hts _ (wg_t kw_1457)) (fun _ h9 => h9) (cd := (0, 0)) rfl dMH_fits_4 (fun v21 hv21 => ?_)
      obtain rfl := (show v21 = .int (s21.1 225 25) from hv21)
      obtain ⟨z21, ez21, hz21, hz22⟩ := cl_of (b := 2147483648) hf23 (by omega) (by decide)
      replace hR := bnd_step hR ez21
      refine mi_as hz21 ?_
      subst hz22
      refine mi_ge (tgt := 96) hx hb dMH_fits_7 (by decide) (by omega) (by omega) (fun h21 => ?_) (fun h21 => absurd h21 (by omega))
      refine lv_iconst (v := nI 0) hx hb dMH_fits_96 (by decide) ?_
      refine lv_istore_n (lv' := [(1, .int (nI 0)), (0, .ref h0)]) hx hb dMH_fits_97 rfl hl (by decide) rfl (fun ls hl => ?_)
      have lp22 : ∀ (n22 : Nat) (i22 : Nat) (s22 : Sto) (pl : va_W) (ls : Array Slot) (H : Heap) (locs : List Loc), n22 + i22 = 6 → frm (M_MH_fits_1) s s22 → s22.1 225 23 = nI 1 → s22.1 225 24 = nI 6 → s22.1 225 25 = nI 5 → s22.1 225 26 = nI 4 → s22.1 225 27 = nI 524288 → s22.1 225 28 = nI 261888 → s22.1 225 29 = nI 196 → s22.1 225 30 = nI 48 → F_MH_fits_1 s = F_MH_fits_1_L1 n22 i22 s22 → lv_has ls 4 [(1, .int (nI i22)), (0, .ref h0)] → okn g T s22 pl → va_P g.1 vcl ([] ++ pl) H → va_D A ([] ++ pl) → va_S A s0.heap H locs → W p l e ({ frames := 1, cells := 0, slots := 0, locals := 60 } : Room) s0 m args below meth c H locs 0 0 (MQ below (va_Qi (fun (r : Int32) (u : (Int32 × Sto) × va_W) => (u.1 = F_MH_fits_1 s ∧ r = u.1.1 ∧ frm (M_MH_fits_1) s u.1.2 ∧ True) ∧ okn g T u.1.2 u.2) (po g.1 vcl A (fun (u : (Int32 × Sto) × va_W) => [] ++ u.2)) A) args s0 0 0 A) (F0 m 98 ls []) := by
        intro n22
        induction n22 with
        | zero =>
          intro i22 s22 pl ls H locs hm22 hF hf29 hf30 hf31 hf32 hf33 hf34 hf35 hf36 hR hl hO hP hD hS
          refine lv_iload_n hx hb dMH_fits_98 rfl (lv_at hl 0 rfl) ?_
          refine lv_aload_n hx hb dMH_fits_99 rfl (lv_at hl 1 rfl) ?_
          refine nw_get (C := "LatticeKeysModel$Hands") (TT := T_MH) (N := 31) hx hb hts (wg_ft i_MH) hown hK hO k_h0 (kn := 225) (ci := 12) (fl := [(3, 172), (3, 181), (3, 226), (3, 291), (3, 299), (3, 308), (3, 317), (3, 326), (3, 334), (3, 342), (3, 350), (3, 359), (3, 368), (3, 369), (3, 370), (3, 371), (3, 372), (3, 373), (3, 374), (3, 375), (3, 376), (3, 377), (3, 378), (0, 0), (0, 0), (0, 0), (0, 0), (0, 0), (0, 0), (0, 0), (0, 0)]) rfl hP rfl 24 (by decide) (hts _ (wg_t kw_1456)) (fun _ h9 => h9) (cd := (0, 0)) rfl dMH_fits_100 (fun v22 hv22 => ?_)
          obtain rfl := (show v22 = .int (s22.1 225 24) from hv22)
          obtain ⟨z22, ez22, hz23, hz24⟩ := cl_of (b := 2147483648) hf30 (by omega) (by decide)
          replace hR := bnd_step hR ez22
          refine mi_as hz23 ?_
          subst hz24
          refine mi_ge (tgt := 195) hx hb dMH_fits_103 (by decide) (by omega) (by omega) (fun h22 => ?_) (fun h22 => absurd h22 (by omega))
          refine lv_iconst (v := nI 0) hx hb dMH_fits_195 (by decide) ?_
          refine lv_istore_n (lv' := [(1, .int (nI 0)), (0, .ref h0)]) hx hb dMH_fits_196 rfl hl (by decide) rfl (fun ls hl => ?_)
          refine lv_iconst (v := nI 0) hx hb dMH_fits_197 (by decide) ?_
          refine lv_istore_n (lv' := [(2, .int (nI 0)), (1, .int (nI 0)), (0, .ref h0)]) hx hb dMH_fits_198 rfl hl (by decide) rfl (fun ls hl => ?_)
          have lp23 : ∀ (n23 : Nat) (i23 : Nat) (z23 : Int32) (s23 : Sto) (pl : va_W) (ls : Array Slot) (H : Heap) (locs : List Loc), n23 + i23 = 6 → frm (M_MH_fits_1) s s23 → s23.1 225 23 = nI 1 → s23.1 225 24 = nI 6 → s23.1 225 25 = nI 5 → s23.1 225 26 = nI 4 → s23.1 225 27 = nI 524288 → s23.1 225 28 = nI 261888 → s23.1 225 29 = nI 196 → s23.1 225 30 = nI 48 → F_MH_fits_1 s = F_MH_fits_1_L2 n23 i23 z23 s23 → lv_has ls 4 [(2, .int (nI i23)), (1, .int z23), (0, .ref h0)] → okn g T s23 pl → va_P g.1 vcl ([] ++ pl) H → va_D A ([] ++ pl) → va_S A s0.heap H locs → W p l e ({ frames := 1, cells := 0, slots := 0, locals := 60 } : Room) s0 m args below meth c H locs 0 0 (MQ below (va_Qi (fun (r : Int32) (u : (Int32 × Sto) × va_W) => (u.1 = F_MH_fits_1 s ∧ r = u.1.1 ∧ frm (M_MH_fits_1) s u.1.2 ∧ True) ∧ okn g T u.1.2 u.2) (po g.1 vcl A (fun (u : (Int32 × Sto) × va_W) => [] ++ u.2)) A) args s0 0 0 A) (F0 m 199 ls []) := by
            intro n23
            induction n23 with
            | zero =>
              intro i23 z23 s23 pl ls H locs hm23 hF hf37 hf38 hf39 hf40 hf41 hf42 hf43 hf44 hR hl hO hP hD hS
              refine lv_iload_n hx hb dMH_fits_199 rfl (lv_at hl 0 rfl) ?_
              refine lv_aload_n hx hb dMH_fits_200 rfl (lv_at hl 2 rfl) ?_
              refine nw_get (C := "LatticeKeysModel$Hands") (TT := T_MH) (N := 31) hx hb hts (wg_ft i_MH) hown hK hO k_h0 (kn := 225) (ci := 12) (fl := [(3, 172), (3, 181), (3, 226), (3, 291), (3, 299), (3, 308), (3, 317), (3, 326), (3, 334), (3, 342), (3, 350), (3, 359), (3, 368), (3, 369), (3, 370), (3, 371), (3, 372), (3, 373), (3, 374), (3, 375), (3, 376), (3, 377), (3, 378), (0, 0), (0, 0), (0, 0), (0, 0), (0, 0), (0, 0), (0, 0), (0, 0)]) rfl hP rfl 24 (by decide) (hts _ (wg_t kw_1456)) (fun _ h9 => h9) (cd := (0, 0)) rfl dMH_fits_201 (fun v23 hv23 => ?_)
              obtain rfl := (show v23 = .int (s23.1 225 24) from hv23)
              obtain ⟨z24, ez23, hz25, hz26⟩ := cl_of (b := 2147483648) hf38 (by omega) (by decide)
              replace hR := bnd_step hR ez23
              refine mi_as hz25 ?_
              subst hz26
              refine mi_ge (tgt := 321) hx hb dMH_fits_204 (by decide) (by omega) (by omega) (fun h23 => ?_) (fun h23 => absurd h23 (by omega))
              refine lv_iload_n hx hb dMH_fits_321 rfl (lv_at hl 1 rfl) ?_
              refine va_gets hx hb (hE.2.1 27 _ rfl).1 hS hown (hts _ (wg_t kw_1912)) (fun _ h9 => h9) dMH_fits_322 ?_
              refine lv_aload_n hx hb dMH_fits_325 rfl (lv_at hl 2 rfl) ?_
              refine nw_get (C := "LatticeKeysModel$Hands") (TT := T_MH) (N := 31) hx hb hts (wg_ft i_MH) hown hK hO k_h0 (kn := 225) (ci := 12) (fl := [(3, 172), (3, 181), (3, 226), (3, 291), (3, 299), (3, 308), (3, 317), (3, 326), (3, 334), (3, 342), (3, 350), (3, 359), (3, 368), (3, 369), (3, 370), (3, 371), (3, 372), (3, 373), (3, 374), (3, 375), (3, 376), (3, 377), (3, 378), (0, 0), (0, 0), (0, 0), (0, 0), (0, 0), (0, 0), (0, 0), (0, 0)]) rfl hP rfl 23 (by decide) (hts _ (wg_t kw_1455)) (fun _ h9 => h9) (cd := (0, 0)) rfl dMH_fits_326 (fun v24 hv24 => ?_)
              obtain rfl := (show v24 = .int (s23.1 225 23) from hv24)
              obtain ⟨z25, ez24, hz27, hz28⟩ := cl_of (b := 2147483648) hf37 (by omega) (by decide)
              replace hR := bnd_step hR ez24
              refine mi_as hz27 ?_
              subst hz28
              refine va_ti (v := .int (nI 55)) hx hb (hE.2.1 27 _ rfl).2 hS (vp_in_nI (by decide) (by decide)) (by decide +kernel) dMH_fits_329 ?_
              refine lv_icmp_gt (tgt := 337) hx hb dMH_fits_330 (by decide) (fun h24 => ?_) (fun h24 => ?_)
              · replace hR := hR.trans (if_pos h24)
                refine lv_iconst (v := nI 0) hx hb dMH_fits_337 (by decide) ?_
                exact mp_zret hx hb hr hlk rfl hP hD hS ((nI 0, s23), pl) ⟨⟨hR.symm, rfl, hF, trivial⟩, hO⟩ [] rfl rfl rfl (by omega) (by omega) dMH_fits_338
              · replace hR := hR.trans (if_neg h24)
                refine lv_iconst (v := nI 1) hx hb dMH_fits_333 (by decide) ?_
                refine lv_goto (tgt := 338) hx hb dMH_fits_334 (by decide) ?_
                exact mp_zret hx hb hr hlk rfl hP hD hS ((nI 1, s23), pl) ⟨⟨hR.symm, rfl, hF, trivial⟩, hO⟩ [] rfl rfl rfl (by omega) (by omega) dMH_fits_338
            | succ n23 ih23 =>
              intro i23 z23 s23 pl ls H locs hm23 hF hf45 hf46 hf47 hf48 hf49 hf50 hf51 hf52 hR hl hO hP hD hS
              refine lv_iload_n hx hb dMH_fits_199 rfl (lv_at hl 0 rfl) ?_
              refine lv_aload_n hx hb dMH_fits_200 rfl (lv_at hl 2 rfl) ?_
              refine nw_get (C := "LatticeKeysModel$Hands") (TT := T_MH) (N := 31) hx hb hts (wg_ft i_MH) hown hK hO k_h0 (kn := 225) (ci := 12) (fl := [(3, 172), (3, 181), (3, 226), (3, 291), (3, 299), (3, 308), (3, 317), (3, 326), (3, 334), (3, 342), (3, 350), (3, 359), (3, 368), (3, 369), (3, 370), (3, 371), (3, 372), (3, 373), (3, 374), (3, 375), (3, 376), (3, 377), (3, 378), (0, 0), (0, 0), (0, 0), (0, 0), (0, 0), (0, 0), (0, 0), (0, 0)]) rfl hP rfl 24 (by decide) (hts _ (wg_t kw_1456)) (fun _ h9 => h9) (cd := (0, 0)) rfl dMH_fits_201 (fun v25 hv25 => ?_)
              obtain rfl := (show v25 = .int (s23.1 225 24) from hv25)
              obtain ⟨z26, ez25, hz29, hz30⟩ := cl_of (b := 2147483648) hf46 (by omega) (by decide)
              replace hR := bnd_step hR ez25
              refine mi_as hz29 ?_
              subst hz30
              refine mi_ge (tgt := 321) hx hb dMH_fits_204 (by decide) (by omega) (by omega) (fun h25 => absurd h25 (by omega)) (fun h25 => ?_)
              refine lv_aload_n hx hb dMH_fits_207 rfl (lv_at hl 2 rfl) ?_
              refine lv_aload_n hx hb dMH_fits_208 rfl (lv_at hl 2 rfl) ?_
              refine nw_get (C := "LatticeKeysModel$Hands") (TT := T_MH) (N := 31) hx hb hts (wg_ft i_MH) hown hK hO k_h0 (kn := 225) (ci := 12) (fl := [(3, 172), (3, 181), (3, 226), (3, 291), (3, 299), (3, 308), (3, 317), (3, 326), (3, 334), (3, 342), (3, 350), (3, 359), (3, 368), (3, 369), (3, 370), (3, 371), (3, 372), (3, 373), (3, 374), (3, 375), (3, 376), (3, 377), (3, 378), (0, 0), (0, 0), (0, 0), (0, 0), (0, 0), (0, 0), (0, 0), (0, 0)]) rfl hP rfl 5 (by decide) (hts _ (wg_t kw_1437)) (fun _ h9 => h9) (cd := (3, 308)) rfl dMH_fits_209 (fun v26 hv26 => ?_)
              obtain ⟨r21, rfl, kr21⟩ := (show ∃ r : Nat, v26 = .ref r ∧ T r = some 308 from hv26)
              refine lv_iload_n hx hb dMH_fits_212 rfl (lv_at hl 0 rfl) ?_
              refine nw_aald3 hx hb hK hO kr21 (k := 308) (b := 309) rfl hP (by omega) (by omega) dMH_fits_213 (fun r22 kr22 => ?_)
              have hn21 : nsp (309 + i23) = (0, 256, []) := rows_ok 309 8 (by decide) _ (by omega)
              refine lv_aload_n hx hb dMH_fits_214 rfl (lv_at hl 2 rfl) ?_
              refine nw_get (C := "LatticeKeysModel$Hands") (TT := T_MH) (N := 31) hx hb hts (wg_ft i_MH) hown hK hO k_h0 (kn := 225) (ci := 12) (fl := [(3, 172), (3, 181), (3, 226), (3, 291), (3, 299), (3, 308), (3, 317), (3, 326), (3, 334), (3, 342), (3, 350), (3, 359), (3, 368), (3, 369), (3, 370), (3, 371), (3, 372), (3, 373), (3, 374), (3, 375), (3, 376), (3, 377), (3, 378), (0, 0), (0, 0), (0, 0), (0, 0), (0, 0), (0, 0), (0, 0), (0, 0)]) rfl hP rfl 13 (by decide) (hts _ (wg_t kw_1445)) (fun _ h9 => h9) (cd := (3, 369)) rfl dMH_fits_215 (fun v27 hv27 => ?_)
              obtain ⟨r23, rfl, kr23⟩ := (show ∃ r : Nat, v27 = .ref r ∧ T r = some 369 from hv27)
              refine mp_v (cx := []) (wr := []) hP hD hS hA [] [] rfl rfl rfl (by decide) (va_runV (As := [.ref r22, .ref r23]) (rest := []) F (N_MH_turned_1 l g _ T s23 pl hO hU h0 r22 r23 (309 + i23) 369 k_h0 kr22 hn21 kr23 rfl hf45 hf46 hf47 hf48 hf49 hf50 hf51 hf52) (cwV 2 hts (wg_app (wg_c kw_1901 (wg_c kw_1903 (wg_c ks_79 (wg_c kw_13 wg_n)))) kw_1904) rfl rfl rfl (by decide +kernel) ⟨by decide, by decide⟩) (pn_W "LatticeKeysModel$Hands" (en_ok g) (ci := 12) (kn := 225) (fl := [(3, 172), (3, 181), (3, 226), (3, 291), (3, 299), (3, 308), (3, 317), (3, 326), (3, 334), (3, 342), (3, 350), (3, 359), (3, 368), (3, 369), (3, 370), (3, 371), (3, 372), (3, 373), (3, 374), (3, 375), (3, 376), (3, 377), (3, 378), (0, 0), (0, 0), (0, 0), (0, 0), (0, 0), (0, 0), (0, 0), (0, 0)]) hK hO k_h0 rfl hP hD hS hA hE [] rfl rfl rfl) rfl rfl hl.1 rfl (lv_room (Nat.le_of_ble_eq_true rfl)) dMH_fits_218 ⟨by omega, by omega⟩) (fun  u21 H locs hu21 hP hD hS => ?_)
              obtain ⟨s24, pl⟩ := u21
              obtain ⟨⟨eq21, hFc21, -⟩, hO⟩ := hu21
              have hO : okn g T s24 pl := hO
              have hP : va_P g.1 vcl ([] ++ pl) _ := hP
              have hD : va_D _ ([] ++ pl) := hD
              have hFc21 : frm (M_MH_turned_1 369) s23 s24 := hFc21
              replace hR := bnd_step hR eq21
              have hF := frm_tr hF hFc21 (fun k hk => by unfold M_MH_turned_1 at hk; unfold M_MH_fits_1; omega)
              have hf53 : s24.1 225 23 = nI 1 := fc_F hf45 hFc21 (by unfold M_MH_turned_1; omega)
              have hf54 : s24.1 225 24 = nI 6 := fc_F hf46 hFc21 (by unfold M_MH_turned_1; omega)
              have hf55 : s24.1 225 25 = nI 5 := fc_F hf47 hFc21 (by unfold M_MH_turned_1; omega)
              have hf56 : s24.1 225 26 = nI 4 := fc_F hf48 hFc21 (by unfold M_MH_turned_1; omega)
              have hf57 : s24.1 225 27 = nI 524288 := fc_F hf49 hFc21 (by unfold M_MH_turned_1; omega)
              have hf58 : s24.1 225 28 = nI 261888 := fc_F hf50 hFc21 (by unfold M_MH_turned_1; omega)
              have hf59 : s24.1 225 29 = nI 196 := fc_F hf51 hFc21 (by unfold M_MH_turned_1; omega)
              have hf60 : s24.1 225 30 = nI 48 := fc_F hf52 hFc21 (by unfold M_MH_turned_1; omega)
              refine W.widen (k := 0) (n := 0) (by omega) (by omega) ?_
              refine lv_iconst (v := nI 0) hx hb dMH_fits_221 (by decide) ?_
              refine lv_istore_n (lv' := [(3, .int (nI 0)), (2, .int (nI i23)), (1, .int z23), (0, .ref h0)]) hx hb dMH_fits_222 rfl hl (by decide) rfl (fun ls hl => ?_)
              have lp24 : ∀ (n24 : Nat) (i24 : Nat) (z27 : Int32) (s25 : Sto) (pl : va_W) (ls : Array Slot) (H : Heap) (locs : List Loc), n24 + i24 = 256 → frm (M_MH_fits_1) s s25 → s25.1 225 23 = nI 1 → s25.1 225 24 = nI 6 → s25.1 225 25 = nI 5 → s25.1 225 26 = nI 4 → s25.1 225 27 = nI 524288 → s25.1 225 28 = nI 261888 → s25.1 225 29 = nI 196 → s25.1 225 30 = nI 48 → F_MH_fits_1 s = F_MH_fits_1_L3 i23 (F_MH_fits_1_L2 n23) n24 i24 z27 s25 → lv_has ls 4 [(3, .int (nI i24)), (2, .int (nI i23)), (1, .int z27), (0, .ref h0)] → okn g T s25 pl → va_P g.1 vcl ([] ++ pl) H → va_D A ([] ++ pl) → va_S A s0.heap H locs → W p l e ({ frames := 1, cells := 0, slots := 0, locals := 60 } : Room) s0 m args below meth c H locs 0 0 (MQ below (va_Qi (fun (r : Int32) (u : (Int32 × Sto) × va_W) => (u.1 = F_MH_fits_1 s ∧ r = u.1.1 ∧ frm (M_MH_fits_1) s u.1.2 ∧ True) ∧ okn g T u.1.2 u.2) (po g.1 vcl A (fun (u : (Int32 × Sto) × va_W) => [] ++ u.2)) A) args s0 0 0 A) (F0 m 223 ls []) := by
                intro n24
                induction n24 with
                | zero =>
                  intro i24 z27 s25 pl ls H locs hm24 hF hf61 hf62 hf63 hf64 hf65 hf66 hf67 hf68 hR hl hO hP hD hS
                  refine lv_iload_n hx hb dMH_fits_223 rfl (lv_at hl 0 rfl) ?_
                  refine lv_sipush (v := nI 256) hx hb dMH_fits_224 (by decide) ?_
                  refine mi_ge (tgt := 315) hx hb dMH_fits_227 (by decide) (by omega) (by omega) (fun h26 => ?_) (fun h26 => absurd h26 (by omega))
                  refine mi_iinc (k := 1) (x := i23) (d := 1) (y := i23 + 1) (lv' := [(2, .int (nI (i23 + 1))), (3, .int (nI i24)), (1, .int z27), (0, .ref h0)]) hx hb dMH_fits_315 hl rfl (by decide) rfl (by decide) rfl (fun ls hl => ?_)
                  refine lv_goto (tgt := 199) hx hb dMH_fits_318 (by decide) ?_
                  exact ih23 (i23 + 1) z27 s25 pl ls H locs (by omega) hF hf61 hf62 hf63 hf64 hf65 hf66 hf67 hf68 hR (lv_sub hl [0, 2, 3] rfl) hO hP hD hS
                | succ n24 ih24 =>
                  intro i24 z27 s25 pl ls H locs hm24 hF hf69 hf70 hf71 hf72 hf73 hf74 hf75 hf76 hR hl hO hP hD hS
                  refine lv_iload_n hx hb dMH_fits_223 rfl (lv_at hl 0 rfl) ?_
                  refine lv_sipush (v := nI 256) hx hb dMH_fits_224 (by decide) ?_
                  refine mi_ge (tgt := 315) hx hb dMH_fits_227 (by decide) (by omega) (by omega) (fun h27 => absurd h27 (by omega)) (fun h27 => ?_)
                  refine lv_aload_n hx hb dMH_fits_230 rfl (lv_at hl 3 rfl) ?_
                  refine nw_get (C := "LatticeKeysModel$Hands") (TT := T_MH) (N := 31) hx hb hts (wg_ft i_MH) hown hK hO k_h0 (kn := 225) (ci := 12) (fl := [(3, 172), (3, 181), (3, 226), (3, 291), (3, 299), (3, 308), (3, 317), (3, 326), (3, 334), (3, 342), (3, 350), (3, 359), (3, 368), (3, 369), (3, 370), (3, 371), (3, 372), (3, 373), (3, 374), (3, 375), (3, 376), (3, 377), (3, 378), (0, 0), (0, 0), (0, 0), (0, 0), (0, 0), (0, 0), (0, 0), (0, 0)]) rfl hP rfl 13 (by decide) (hts _ (wg_t kw_1445)) (fun _ h9 => h9) (cd := (3, 369)) rfl dMH_fits_231 (fun v28 hv28 => ?_)
                  obtain ⟨r24, rfl, kr24⟩ := (show ∃ r : Nat, v28 = .ref r ∧ T r = some 369 from hv28)
                  refine lv_iload_n hx hb dMH_fits_234 rfl (lv_at hl 0 rfl) ?_
                  refine nw_iald hx hb hK hO kr24 (k := 369) rfl hP (by omega) (by omega) dMH_fits_235 ?_
                  refine mp_i (cx := []) (wr := []) hP hD hS hA [] [] rfl rfl rfl (by decide) (va_runS (As := [.int ((s25.1 369 i24))]) (rest := []) F (N_MH_norm l g _ T s25 pl hO hU (s25.1 369 i24)) (va_cwS 1 hts (wg_app (wg_c kw_1905 (wg_c kw_1906 (wg_c kw_13 wg_n))) kw_1907) rfl rfl rfl (by decide +kernel) ⟨by decide, by decide⟩) (pp_S (en_ok g) hP hD hS hA hE [] rfl rfl) rfl rfl hl.1 rfl (lv_room (Nat.le_of_ble_eq_true rfl)) dMH_fits_236 ⟨by omega, by omega⟩) (fun r25 u22 H locs hu22 hP hD hS => ?_)
                  obtain ⟨q21, pl⟩ := u22
                  obtain ⟨⟨eq22, rfl, hFc22, -⟩, hO⟩ := hu22
                  have hO : okn g T q21.2 pl := hO
                  have hP : va_P g.1 vcl ([] ++ pl) _ := hP
                  have hD : va_D _ ([] ++ pl) := hD
                  have hFc22 : frm (M_MH_norm) s25 q21.2 := hFc22
                  replace hR := bnd_step hR eq22
                  have hF := frm_tr hF hFc22 (fun k hk => by unfold M_MH_norm at hk; unfold M_MH_fits_1; omega)
                  have hf77 : q21.2.1 225 23 = nI 1 := fc_F hf69 hFc22 (by unfold M_MH_norm; omega)
                  have hf78 : q21.2.1 225 24 = nI 6 := fc_F hf70 hFc22 (by unfold M_MH_norm; omega)
                  have hf79 : q21.2.1 225 25 = nI 5 := fc_F hf71 hFc22 (by unfold M_MH_norm; omega)
                  have hf80 : q21.2.1 225 26 = nI 4 := fc_F hf72 hFc22 (by unfold M_MH_norm; omega)
                  have hf81 : q21.2.1 225 27 = nI 524288 := fc_F hf73 hFc22 (by unfold M_MH_norm; omega)
                  have hf82 : q21.2.1 225 28 = nI 261888 := fc_F hf74 hFc22 (by unfold M_MH_norm; omega)
                  have hf83 : q21.2.1 225 29 = nI 196 := fc_F hf75 hFc22 (by unfold M_MH_norm; omega)
                  have hf84 : q21.2.1 225 30 = nI 48 := fc_F hf76 hFc22 (by unfold M_MH_norm; omega)
                  refine W.widen (k := 0) (n := 0) (by omega) (by omega) ?_
                  refine lv_aload_n hx hb dMH_fits_239 rfl (lv_at hl 3 rfl) ?_
                  refine nw_get (C := "LatticeKeysModel$Hands") (TT := T_MH) (N := 31) hx hb hts (wg_ft i_MH) hown hK hO k_h0 (kn := 225) (ci := 12) (fl := [(3, 172), (3, 181), (3, 226), (3, 291), (3, 299), (3, 308), (3, 317), (3, 326), (3, 334), (3, 342), (3, 350), (3, 359), (3, 368), (3, 369), (3, 370), (3, 371), (3, 372), (3, 373), (3, 374), (3, 375), (3, 376), (3, 377), (3, 378), (0, 0), (0, 0), (0, 0), (0, 0), (0, 0), (0, 0), (0, 0), (0, 0)]) rfl hP rfl 28 (by decide) (hts _ (wg_t kw_1460)) (fun _ h9 => h9) (cd := (0, 0)) rfl dMH_fits_240 (fun v29 hv29 => ?_)
                  obtain rfl := (show v29 = .int (q21.2.1 225 28) from hv29)
                  obtain ⟨z28, ez26, hz31, hz32⟩ := cl_of (b := 2147483648) hf82 (by omega) (by decide)
                  replace hR := bnd_step hR ez26
                  refine mi_as hz31 ?_
                  subst hz32
                  refine lv_icmp_lt (tgt := 248) hx hb dMH_fits_243 (by decide) (fun h28 => ?_) (fun h28 => ?_)
                  · replace hR := hR.trans (if_pos h28)
                    refine lv_aload_n hx hb dMH_fits_248 rfl (lv_at hl 3 rfl) ?_
                    refine nw_get (C := "LatticeKeysModel$Hands") (TT := T_MH) (N := 31) hx hb hts (wg_ft i_MH) hown hK hO k_h0 (kn := 225) (ci := 12) (fl := [(3, 172), (3, 181), (3, 226), (3, 291), (3, 299), (3, 308), (3, 317), (3, 326), (3, 334), (3, 342), (3, 350), (3, 359), (3, 368), (3, 369), (3, 370), (3, 371), (3, 372), (3, 373), (3, 374), (3, 375), (3, 376), (3, 377), (3, 378), (0, 0), (0, 0), (0, 0), (0, 0), (0, 0), (0, 0), (0, 0), (0, 0)]) rfl hP rfl 11 (by decide) (hts _ (wg_t kw_1443)) (fun _ h9 => h9) (cd := (3, 359)) rfl dMH_fits_249 (fun v30 hv30 => ?_)
                    obtain ⟨r26, rfl, kr25⟩ := (show ∃ r : Nat, v30 = .ref r ∧ T r = some 359 from hv30)
                    refine lv_iload_n hx hb dMH_fits_252 rfl (lv_at hl 1 rfl) ?_
                    refine nw_aald3 hx hb hK hO kr25 (k := 359) (b := 360) rfl hP (by omega) (by omega) dMH_fits_253 (fun r27 kr26 => ?_)
                    have hn22 : nsp (360 + i23) = (0, 256, []) := rows_ok 360 8 (by decide) _ (by omega)
                    refine lv_iload_n hx hb dMH_fits_254 rfl (lv_at hl 0 rfl) ?_
                    refine lv_aload_n hx hb dMH_fits_255 rfl (lv_at hl 3 rfl) ?_
                    refine lv_aload_n hx hb dMH_fits_256 rfl (lv_at hl 3 rfl) ?_
                    refine nw_get (C := "LatticeKeysModel$Hands") (TT := T_MH) (N := 31) hx hb hts (wg_ft i_MH) hown hK hO k_h0 (kn := 225) (ci := 12) (fl := [(3, 172), (3, 181), (3, 226), (3, 291), (3, 299), (3, 308), (3, 317), (3, 326), (3, 334), (3, 342), (3, 350), (3, 359), (3, 368), (3, 369), (3, 370), (3, 371), (3, 372), (3, 373), (3, 374), (3, 375), (3, 376), (3, 377), (3, 378), (0, 0), (0, 0), (0, 0), (0, 0), (0, 0), (0, 0), (0, 0), (0, 0)]) rfl hP rfl 10 (by decide) (hts _ (wg_t kw_1442)) (fun _ h9 => h9) (cd := (3, 350)) rfl dMH_fits_257 (fun v31 hv31 => ?_)
                    obtain ⟨r28, rfl, kr27⟩ := (show ∃ r : Nat, v31 = .ref r ∧ T r = some 350 from hv31)
                    refine lv_iload_n hx hb dMH_fits_260 rfl (lv_at hl 1 rfl) ?_
                    refine nw_aald3 hx hb hK hO kr27 (k := 350) (b := 351) rfl hP (by omega) (by omega) dMH_fits_261 (fun r29 kr28 => ?_)
                    have hn23 : nsp (351 + i23) = (0, 256, []) := rows_ok 351 8 (by decide) _ (by omega)
                    refine lv_iload_n hx hb dMH_fits_262 rfl (lv_at hl 0 rfl) ?_
                    refine nw_iald hx hb hK hO kr28 (k := (351 + i23)) hn23 hP (by omega) (by omega) dMH_fits_263 ?_
                    refine lv_aload_n hx hb dMH_fits_264 rfl (lv_at hl 3 rfl) ?_
                    refine nw_get (C := "LatticeKeysModel$Hands") (TT := T_MH) (N := 31) hx hb hts (wg_ft i_MH) hown hK hO k_h0 (kn := 225) (ci := 12) (fl := [(3, 172), (3, 181), (3, 226), (3, 291), (3, 299), (3, 308), (3, 317), (3, 326), (3, 334), (3, 342), (3, 350), (3, 359), (3, 368), (3, 369), (3, 370), (3, 371), (3, 372), (3, 373), (3, 374), (3, 375), (3, 376), (3, 377), (3, 378), (0, 0), (0, 0), (0, 0), (0, 0), (0, 0), (0, 0), (0, 0), (0, 0)]) rfl hP rfl 13 (by decide) (hts _ (wg_t kw_1445)) (fun _ h9 => h9) (cd := (3, 369)) rfl dMH_fits_265 (fun v32 hv32 => ?_)
                    obtain ⟨r30, rfl, kr29⟩ := (show ∃ r : Nat, v32 = .ref r ∧ T r = some 369 from hv32)
                    refine lv_iload_n hx hb dMH_fits_268 rfl (lv_at hl 0 rfl) ?_
                    refine nw_iald hx hb hK hO kr29 (k := 369) rfl hP (by omega) (by omega) dMH_fits_269 ?_
                    refine lv_iadd hx hb dMH_fits_270 ?_
                    refine lv_ldc (v := 8380417) hx hb hown (hts _ (wg_t kw_1429)) dMH_fits_271 ?_
                    refine mi_as (show (8380417 : Int32) = nI 8380417 by decide) ?_
                    refine lv_irem hx hb dMH_fits_273 (nI_ne0 (by omega) (by omega)) ?_
                    refine mp_i (cx := []) (wr := []) hP hD hS hA [] [] rfl rfl rfl (by decide) (va_runV (As := [.int ((((q21.2.1 ((351 + i23)) i24) + (q21.2.1 369 i24)) - ((q21.2.1 ((351 + i23)) i24) + (q21.2.1 369 i24)) / (nI 8380417) * (nI 8380417)))]) (rest := [.int (nI i24), .ref r27]) F (N_MH_high_1 l g _ T q21.2 pl hO hU h0 (((q21.2.1 ((351 + i23)) i24) + (q21.2.1 369 i24)) - ((q21.2.1 ((351 + i23)) i24) + (q21.2.1 369 i24)) / (nI 8380417) * (nI 8380417)) k_h0 hf77 hf78 hf79 hf80 hf81 hf82 hf83 hf84) (cwV 1 hts (wg_app (wg_c kw_1885 (wg_c kw_1887 (wg_c ks_75 (wg_c kw_13 wg_n)))) kw_1888) rfl rfl rfl (by decide +kernel) ⟨by decide, by decide⟩) (pn_W "LatticeKeysModel$Hands" (en_ok g) (ci := 12) (kn := 225) (fl := [(3, 172), (3, 181), (3, 226), (3, 291), (3, 299), (3, 308), (3, 317), (3, 326), (3, 334), (3, 342), (3, 350), (3, 359), (3, 368), (3, 369), (3, 370), (3, 371), (3, 372), (3, 373), (3, 374), (3, 375), (3, 376), (3, 377), (3, 378), (0, 0), (0, 0), (0, 0), (0, 0), (0, 0), (0, 0), (0, 0), (0, 0)]) hK hO k_h0 rfl hP hD hS hA hE [] rfl rfl rfl) rfl rfl hl.1 rfl (lv_room (Nat.le_of_ble_eq_true rfl)) dMH_fits_274 ⟨by omega, by omega⟩) (fun r31 u23 H locs hu23 hP hD hS => ?_)
                    obtain ⟨q22, pl⟩ := u23
                    obtain ⟨⟨eq23, rfl, hFc23, -⟩, hO⟩ := hu23
                    have hO : okn g T q22.2 pl := hO
                    have hP : va_P g.1 vcl ([] ++ pl) _ := hP
                    have hD : va_D _ ([] ++ pl) := hD
                    have hFc23 : frm (M_MH_high_1) q21.2 q22.2 := hFc23
                    replace hR := bnd_step hR eq23
                    have hF := frm_tr hF hFc23 (fun k hk => by unfold M_MH_high_1 at hk; unfold M_MH_fits_1; omega)
                    have hf85 : q22.2.1 225 23 = nI 1 := fc_F hf77 hFc23 (by unfold M_MH_high_1; omega)
                    have hf86 : q22.2.1 225 24 = nI 6 := fc_F hf78 hFc23 (by unfold M_MH_high_1; omega)
                    have hf87 : q22.2.1 225 25 = nI 5 := fc_F hf79 hFc23 (by unfold M_MH_high_1; omega)
                    have hf88 : q22.2.1 225 26 = nI 4 := fc_F hf80 hFc23 (by unfold M_MH_high_1; omega)
                    have hf89 : q22.2.1 225 27 = nI 524288 := fc_F hf81 hFc23 (by unfold M_MH_high_1; omega)
                    have hf90 : q22.2.1 225 28 = nI 261888 := fc_F hf82 hFc23 (by unfold M_MH_high_1; omega)
                    have hf91 : q22.2.1 225 29 = nI 196 := fc_F hf83 hFc23 (by unfold M_MH_high_1; omega)
                    have hf92 : q22.2.1 225 30 = nI 48 := fc_F hf84 hFc23 (by unfold M_MH_high_1; omega)
                    refine W.widen (k := 0) (n := 0) (by omega) (by omega) ?_
                    refine lv_aload_n hx hb dMH_fits_277 rfl (lv_at hl 3 rfl) ?_
                    refine lv_aload_n hx hb dMH_fits_278 rfl (lv_at hl 3 rfl) ?_
                    refine nw_get (C := "LatticeKeysModel$Hands") (TT := T_MH) (N := 31) hx hb hts (wg_ft i_MH) hown hK hO k_h0 (kn := 225) (ci := 12) (fl := [(3, 172), (3, 181), (3, 226), (3, 291), (3, 299), (3, 308), (3, 317), (3, 326), (3, 334), (3, 342), (3, 350), (3, 359), (3, 368), (3, 369), (3, 370), (3, 371), (3, 372), (3, 373), (3, 374), (3, 375), (3, 376), (3, 377), (3, 378), (0, 0), (0, 0), (0, 0), (0, 0), (0, 0), (0, 0), (0, 0), (0, 0)]) rfl hP rfl 10 (by decide) (hts _ (wg_t kw_1442)) (fun _ h9 => h9) (cd := (3, 350)) rfl dMH_fits_279 (fun v33 hv33 => ?_)
                    obtain ⟨r32, rfl, kr30⟩ := (show ∃ r : Nat, v33 = .ref r ∧ T r = some 350 from hv33)
                    refine lv_iload_n hx hb dMH_fits_282 rfl (lv_at hl 1 rfl) ?_
                    refine nw_aald3 hx hb hK hO kr30 (k := 350) (b := 351) rfl hP (by omega) (by omega) dMH_fits_283 (fun r33 kr31 => ?_)
                    have hn24 : nsp (351 + i23) = (0, 256, []) := rows_ok 351 8 (by decide) _ (by omega)
                    refine lv_iload_n hx hb dMH_fits_284 rfl (lv_at hl 0 rfl) ?_
                    refine nw_iald hx hb hK hO kr31 (k := (351 + i23)) hn24 hP (by omega) (by omega) dMH_fits_285 ?_
                    refine mp_i (cx := []) (wr := []) hP hD hS hA [] [] rfl rfl rfl (by decide) (va_runV (As := [.int ((q22.2.1 ((351 + i23)) i24))]) (rest := [.int q22.1, .int (nI i24), .ref r27]) F (N_MH_high_1 l g _ T q22.2 pl hO hU h0 (q22.2.1 ((351 + i23)) i24) k_h0 hf85 hf86 hf87 hf88 hf89 hf90 hf91 hf92) (cwV 1 hts (wg_app (wg_c kw_1885 (wg_c kw_1887 (wg_c ks_75 (wg_c kw_13 wg_n)))) kw_1888) rfl rfl rfl (by decide +kernel) ⟨by decide, by decide⟩) (pn_W "LatticeKeysModel$Hands" (en_ok g) (ci := 12) (kn := 225) (fl := [(3, 172), (3, 181), (3, 226), (3, 291), (3, 299), (3, 308), (3, 317), (3, 326), (3, 334), (3, 342), (3, 350), (3, 359), (3, 368), (3, 369), (3, 370), (3, 371), (3, 372), (3, 373), (3, 374), (3, 375), (3, 376), (3, 377), (3, 378), (0, 0), (0, 0), (0, 0), (0, 0), (0, 0), (0, 0), (0, 0), (0, 0)]) hK hO k_h0 rfl hP hD hS hA hE [] rfl rfl rfl) rfl rfl hl.1 rfl (lv_room (Nat.le_of_ble_eq_true rfl)) dMH_fits_286 ⟨by omega, by omega⟩) (fun r34 u24 H locs hu24 hP hD hS => ?_)
                    obtain ⟨q23, pl⟩ := u24
                    obtain ⟨⟨eq24, rfl, hFc24, -⟩, hO⟩ := hu24
                    have hO : okn g T q23.2 pl := hO
                    have hP : va_P g.1 vcl ([] ++ pl) _ := hP
                    have hD : va_D _ ([] ++ pl) := hD
                    have hFc24 : frm (M_MH_high_1) q22.2 q23.2 := hFc24
                    replace hR := bnd_step hR eq24
                    have hF := frm_tr hF hFc24 (fun k hk => by unfold M_MH_high_1 at hk; unfold M_MH_fits_1; omega)
                    have hf93 : q23.2.1 225 23 = nI 1 := fc_F hf85 hFc24 (by unfold M_MH_high_1; omega)
                    have hf94 : q23.2.1 225 24 = nI 6 := fc_F hf86 hFc24 (by unfold M_MH_high_1; omega)
                    have hf95 : q23.2.1 225 25 = nI 5 := fc_F hf87 hFc24 (by unfold M_MH_high_1; omega)
                    have hf96 : q23.2.1 225 26 = nI 4 := fc_F hf88 hFc24 (by unfold M_MH_high_1; omega)
                    have hf97 : q23.2.1 225 27 = nI 524288 := fc_F hf89 hFc24 (by unfold M_MH_high_1; omega)
                    have hf98 : q23.2.1 225 28 = nI 261888 := fc_F hf90 hFc24 (by unfold M_MH_high_1; omega)
                    have hf99 : q23.2.1 225 29 = nI 196 := fc_F hf91 hFc24 (by unfold M_MH_high_1; omega)
                    have hf100 : q23.2.1 225 30 = nI 48 := fc_F hf92 hFc24 (by unfold M_MH_high_1; omega)
                    refine W.widen (k := 0) (n := 0) (by omega) (by omega) ?_
                    refine lv_icmp_ne (tgt := 296) hx hb dMH_fits_289 (by decide) (fun h29 => ?_) (fun h29 => ?_)
                    · replace hR := hR.trans (if_neg h29)
                      refine lv_iconst (v := nI 1) hx hb dMH_fits_296 (by decide) ?_
                      refine nw_iast hx hb hK hO hU kr26 (k := (360 + i23)) hn22 hP hD hS (by omega) (by omega) dMH_fits_297 (fun s26 pl H locs es21 hO hP hD hS => ?_)
                      replace hR := bnd_step hR es21
                      have hF := frm_sI hF es21 (by unfold M_MH_fits_1; omega)
                      have hf101 : s26.1 225 23 = nI 1 := fc_ne hf93 es21 (by omega)
                      have hf102 : s26.1 225 24 = nI 6 := fc_ne hf94 es21 (by omega)
                      have hf103 : s26.1 225 25 = nI 5 := fc_ne hf95 es21 (by omega)
                      have hf104 : s26.1 225 26 = nI 4 := fc_ne hf96 es21 (by omega)
                      have hf105 : s26.1 225 27 = nI 524288 := fc_ne hf97 es21 (by omega)
                      have hf106 : s26.1 225 28 = nI 261888 := fc_ne hf98 es21 (by omega)
                      have hf107 : s26.1 225 29 = nI 196 := fc_ne hf99 es21 (by omega)
                      have hf108 : s26.1 225 30 = nI 48 := fc_ne hf100 es21 (by omega)
                      refine lv_iload_n hx hb dMH_fits_298 rfl (lv_at hl 2 rfl) ?_
                      refine lv_aload_n hx hb dMH_fits_299 rfl (lv_at hl 3 rfl) ?_
                      refine nw_get (C := "LatticeKeysModel$Hands") (TT := T_MH) (N := 31) hx hb hts (wg_ft i_MH) hown hK hO k_h0 (kn := 225) (ci := 12) (fl := [(3, 172), (3, 181), (3, 226), (3, 291), (3, 299), (3, 308), (3, 317), (3, 326), (3, 334), (3, 342), (3, 350), (3, 359), (3, 368), (3, 369), (3, 370), (3, 371), (3, 372), (3, 373), (3, 374), (3, 375), (3, 376), (3, 377), (3, 378), (0, 0), (0, 0), (0, 0), (0, 0), (0, 0), (0, 0), (0, 0), (0, 0)]) rfl hP rfl 11 (by decide) (hts _ (wg_t kw_1443)) (fun _ h9 => h9) (cd := (3, 359)) rfl dMH_fits_300 (fun v34 hv34 => ?_)
                      obtain ⟨r35, rfl, kr32⟩ := (show ∃ r : Nat, v34 = .ref r ∧ T r = some 359 from hv34)
                      refine lv_iload_n hx hb dMH_fits_303 rfl (lv_at hl 1 rfl) ?_
                      refine nw_aald3 hx hb hK hO kr32 (k := 359) (b := 360) rfl hP (by omega) (by omega) dMH_fits_304 (fun r36 kr33 => ?_)
                      have hn25 : nsp (360 + i23) = (0, 256, []) := rows_ok 360 8 (by decide) _ (by omega)
                      refine lv_iload_n hx hb dMH_fits_305 rfl (lv_at hl 0 rfl) ?_
                      refine nw_iald hx hb hK hO kr33 (k := (360 + i23)) hn25 hP (by omega) (by omega) dMH_fits_306 ?_
                      refine lv_iadd hx hb dMH_fits_307 ?_
                      refine mi_eqv (fun z29 ez27 => ?_)
                      replace hR := bnd_step hR ez27
                      refine lv_istore_n (lv' := [(1, .int z29), (3, .int (nI i24)), (2, .int (nI i23)), (0, .ref h0)]) hx hb dMH_fits_308 rfl hl (by decide) rfl (fun ls hl => ?_)
                      refine mi_iinc (k := 1) (x := i24) (d := 1) (y := i24 + 1) (lv' := [(3, .int (nI (i24 + 1))), (1, .int z29), (2, .int (nI i23)), (0, .ref h0)]) hx hb dMH_fits_309 hl rfl (by decide) rfl (by decide) rfl (fun ls hl => ?_)
                      refine lv_goto (tgt := 223) hx hb dMH_fits_312 (by decide) ?_
                      exact ih24 (i24 + 1) z29 s26 pl ls H locs (by omega) hF hf101 hf102 hf103 hf104 hf105 hf106 hf107 hf108 hR (lv_sub hl [0, 2, 1, 3] rfl) hO hP hD hS
                    · replace hR := hR.trans (if_pos h29)
                      refine lv_iconst (v := nI 0) hx hb dMH_fits_292 (by decide) ?_
                      refine lv_goto (tgt := 297) hx hb dMH_fits_293 (by decide) ?_
                      refine nw_iast hx hb hK hO hU kr26 (k := (360 + i23)) hn22 hP hD hS (by omega) (by omega) dMH_fits_297 (fun s27 pl H locs es22 hO hP hD hS => ?_)
                      replace hR := bnd_step hR es22
                      have hF := frm_sI hF es22 (by unfold M_MH_fits_1; omega)
                      have hf109 : s27.1 225 23 = nI 1 := fc_ne hf93 es22 (by omega)
                      have hf110 : s27.1 225 24 = nI 6 := fc_ne hf94 es22 (by omega)
                      have hf111 : s27.1 225 25 = nI 5 := fc_ne hf95 es22 (by omega)
                      have hf112 : s27.1 225 26 = nI 4 := fc_ne hf96 es22 (by omega)
                      have hf113 : s27.1 225 27 = nI 524288 := fc_ne hf97 es22 (by omega)
                      have hf114 : s27.1 225 28 = nI 261888 := fc_ne hf98 es22 (by omega)
                      have hf115 : s27.1 225 29 = nI 196 := fc_ne hf99 es22 (by omega)
                      have hf116 : s27.1 225 30 = nI 48 := fc_ne hf100 es22 (by omega)
                      refine lv_iload_n hx hb dMH_fits_298 rfl (lv_at hl 2 rfl) ?_
                      refine lv_aload_n hx hb dMH_fits_299 rfl (lv_at hl 3 rfl) ?_
                      refine nw_get (C := "LatticeKeysModel$Hands") (TT := T_MH) (N := 31) hx hb hts (wg_ft i_MH) hown hK hO k_h0 (kn := 225) (ci := 12) (fl := [(3, 172), (3, 181), (3, 226), (3, 291), (3, 299), (3, 308), (3, 317), (3, 326), (3, 334), (3, 342), (3, 350), (3, 359), (3, 368), (3, 369), (3, 370), (3, 371), (3, 372), (3, 373), (3, 374), (3, 375), (3, 376), (3, 377), (3, 378), (0, 0), (0, 0), (0, 0), (0, 0), (0, 0), (0, 0), (0, 0), (0, 0)]) rfl hP rfl 11 (by decide) (hts _ (wg_t kw_1443)) (fun _ h9 => h9) (cd := (3, 359)) rfl dMH_fits_300 (fun v35 hv35 => ?_)
                      obtain ⟨r37, rfl, kr34⟩ := (show ∃ r : Nat, v35 = .ref r ∧ T r = some 359 from hv35)
                      refine lv_iload_n hx hb dMH_fits_303 rfl (lv_at hl 1 rfl) ?_
                      refine nw_aald3 hx hb hK hO kr34 (k := 359) (b := 360) rfl hP (by omega) (by omega) dMH_fits_304 (fun r38 kr35 => ?_)
                      have hn26 : nsp (360 + i23) = (0, 256, []) := rows_ok 360 8 (by decide) _ (by omega)
                      refine lv_iload_n hx hb dMH_fits_305 rfl (lv_at hl 0 rfl) ?_
                      refine nw_iald hx hb hK hO kr35 (k := (360 + i23)) hn26 hP (by omega) (by omega) dMH_fits_306 ?_
                      refine lv_iadd hx hb dMH_fits_307 ?_
                      refine mi_eqv (fun z30 ez28 => ?_)
                      replace hR := bnd_step hR ez28
                      refine lv_istore_n (lv' := [(1, .int z30), (3, .int (nI i24)), (2, .int (nI i23)), (0, .ref h0)]) hx hb dMH_fits_308 rfl hl (by decide) rfl (fun ls hl => ?_)
                      refine mi_iinc (k := 1) (x := i24) (d := 1) (y := i24 + 1) (lv' := [(3, .int (nI (i24 + 1))), (1, .int z30), (2, .int (nI i23)), (0, .ref h0)]) hx hb dMH_fits_309 hl rfl (by decide) rfl (by decide) rfl (fun ls hl => ?_)
                      refine lv_goto (tgt := 223) hx hb dMH_fits_312 (by decide) ?_
                      exact ih24 (i24 + 1) z30 s27 pl ls H locs (by omega) hF hf109 hf110 hf111 hf112 hf113 hf114 hf115 hf116 hR (lv_sub hl [0, 2, 1, 3] rfl) hO hP hD hS
                  · replace hR := hR.trans (if_neg h28)
                    refine lv_iconst (v := nI 0) hx hb dMH_fits_246 (by decide) ?_
                    exact mp_zret hx hb hr hlk rfl hP hD hS ((nI 0, q21.2), pl) ⟨⟨hR.symm, rfl, hF, trivial⟩, hO⟩ [] rfl rfl rfl (by omega) (by omega) dMH_fits_247
              exact lp24 256 0 z23 s24 pl ls _ _ (by omega) hF hf53 hf54 hf55 hf56 hf57 hf58 hf59 hf60 hR (lv_sub hl [0, 1, 2, 3] rfl) hO hP hD hS
          exact lp23 6 0 (nI 0) s22 pl ls _ _ (by omega) hF hf29 hf30 hf31 hf32 hf33 hf34 hf35 hf36 hR (lv_sub hl [0, 1, 2] rfl) hO hP hD hS
        | succ n22 ih22 =>
          intro i22 s22 pl ls H locs hm22 hF hf117 hf118 hf119 hf120 hf121 hf122 hf123 hf124 hR hl hO hP hD hS
          refine lv_iload_n hx hb dMH_fits_98 rfl (lv_at hl 0 rfl) ?_
          refine lv_aload_n hx hb dMH_fits_99 rfl (lv_at hl 1 rfl) ?_
          refine nw_get (C := "LatticeKeysModel$Hands") (TT := T_MH) (N := 31) hx hb hts (wg_ft i_MH) hown hK hO k_h0 (kn := 225) (ci := 12) (fl := [(3, 172), (3, 181), (3, 226), (3, 291), (3, 299), (3, 308), (3, 317), (3, 326), (3, 334), (3, 342), (3, 350), (3, 359), (3, 368), (3, 369), (3, 370), (3, 371), (3, 372), (3, 373), (3, 374), (3, 375), (3, 376), (3, 377), (3, 378), (0, 0), (0, 0), (0, 0), (0, 0), (0, 0), (0, 0), (0, 0), (0, 0)]) rfl hP rfl 24 (by decide) (hts _ (wg_t kw_1456)) (fun _ h9 => h9) (cd := (0, 0)) rfl dMH_fits_100 (fun v36 hv36 => ?_)
          obtain rfl := (show v36 = .int (s22.1 225 24) from hv36)
          obtain ⟨z31, ez29, hz33, hz34⟩ := cl_of (b := 2147483648) hf118 (by omega) (by decide)
          replace hR := bnd_step hR ez29
          refine mi_as hz33 ?_
          subst hz34
          refine mi_ge (tgt := 195) hx hb dMH_fits_103 (by decide) (by omega) (by omega) (fun h30 => absurd h30 (by omega)) (fun h30 => ?_)
          refine lv_aload_n hx hb dMH_fits_106 rfl (lv_at hl 1 rfl) ?_
          refine lv_aload_n hx hb dMH_fits_107 rfl (lv_at hl 1 rfl) ?_
          refine nw_get (C := "LatticeKeysModel$Hands") (TT := T_MH) (N := 31) hx hb hts (wg_ft i_MH) hown hK hO k_h0 (kn := 225) (ci := 12) (fl := [(3, 172), (3, 181), (3, 226), (3, 291), (3, 299), (3, 308), (3, 317), (3, 326), (3, 334), (3, 342), (3, 350), (3, 359), (3, 368), (3, 369), (3, 370), (3, 371), (3, 372), (3, 373), (3, 374), (3, 375), (3, 376), (3, 377), (3, 378), (0, 0), (0, 0), (0, 0), (0, 0), (0, 0), (0, 0), (0, 0), (0, 0)]) rfl hP rfl 4 (by decide) (hts _ (wg_t kw_1436)) (fun _ h9 => h9) (cd := (3, 299)) rfl dMH_fits_108 (fun v37 hv37 => ?_)
          obtain ⟨r39, rfl, kr36⟩ := (show ∃ r : Nat, v37 = .ref r ∧ T r = some 299 from hv37)
          refine lv_iload_n hx hb dMH_fits_111 rfl (lv_at hl 0 rfl) ?_
          refine nw_aald3 hx hb hK hO kr36 (k := 299) (b := 300) rfl hP (by omega) (by omega) dMH_fits_112 (fun r40 kr37 => ?_)
          have hn27 : nsp (300 + i22) = (0, 256, []) := rows_ok 300 8 (by decide) _ (by omega)
          refine lv_aload_n hx hb dMH_fits_113 rfl (lv_at hl 1 rfl) ?_
          refine nw_get (C := "LatticeKeysModel$Hands") (TT := T_MH) (N := 31) hx hb hts (wg_ft i_MH) hown hK hO k_h0 (kn := 225) (ci := 12) (fl := [(3, 172), (3, 181), (3, 226), (3, 291), (3, 299), (3, 308), (3, 317), (3, 326), (3, 334), (3, 342), (3, 350), (3, 359), (3, 368), (3, 369), (3, 370), (3, 371), (3, 372), (3, 373), (3, 374), (3, 375), (3, 376), (3, 377), (3, 378), (0, 0), (0, 0), (0, 0), (0, 0), (0, 0), (0, 0), (0, 0), (0, 0)]) rfl hP rfl 13 (by decide) (hts _ (wg_t kw_1445)) (fun _ h9 => h9) (cd := (3, 369)) rfl dMH_fits_114 (fun v38 hv38 => ?_)
          obtain ⟨r41, rfl, kr38⟩ := (show ∃ r : Nat, v38 = .ref r ∧ T r = some 369 from hv38)
          refine mp_v (cx := []) (wr := []) hP hD hS hA [] [] rfl rfl rfl (by decide) (va_runV (As := [.ref r40, .ref r41]) (rest := []) F (N_MH_turned_1 l g _ T s22 pl hO hU h0 r40 r41 (300 + i22) 369 k_h0 kr37 hn27 kr38 rfl hf117 hf118 hf119 hf120 hf121 hf122 hf123 hf124) (cwV 2 hts (wg_app (wg_c kw_1901 (wg_c kw_1903 (wg_c ks_79 (wg_c kw_13 wg_n)))) kw_1904) rfl rfl rfl (by decide +kernel) ⟨by decide, by decide⟩) (pn_W "LatticeKeysModel$Hands" (en_ok g) (ci := 12) (kn := 225) (fl := [(3, 172), (3, 181), (3, 226), (3, 291), (3, 299), (3, 308), (3, 317), (3, 326), (3, 334), (3, 342), (3, 350), (3, 359), (3, 368), (3, 369), (3, 370), (3, 371), (3, 372), (3, 373), (3, 374), (3, 375), (3, 376), (3, 377), (3, 378), (0, 0), (0, 0), (0, 0), (0, 0), (0, 0), (0, 0), (0, 0), (0, 0)]) hK hO k_h0 rfl hP hD hS hA hE [] rfl rfl rfl) rfl rfl hl.1 rfl (lv_room (Nat.le_of_ble_eq_true rfl)) dMH_fits_117 ⟨by omega, by omega⟩) (fun  u25 H locs hu25 hP hD hS => ?_)
          obtain ⟨s28, pl⟩ := u25
          obtain ⟨⟨eq25, hFc25, -⟩, hO⟩ := hu25
          have hO : okn g T s28 pl := hO
          have hP : va_P g.1 vcl ([] ++ pl) _ := hP
          have hD : va_D _ ([] ++ pl) := hD
          have hFc25 : frm (M_MH_turned_1 369) s22 s28 := hFc25
          replace hR := bnd_step hR eq25
          have hF := frm_tr hF hFc25 (fun k hk => by unfold M_MH_turned_1 at hk; unfold M_MH_fits_1; omega)
          have hf125 : s28.1 225 23 = nI 1 := fc_F hf117 hFc25 (by unfold M_MH_turned_1; omega)
          have hf126 : s28.1 225 24 = nI 6 := fc_F hf118 hFc25 (by unfold M_MH_turned_1; omega)
          have hf127 : s28.1 225 25 = nI 5 := fc_F hf119 hFc25 (by unfold M_MH_turned_1; omega)
          have hf128 : s28.1 225 26 = nI 4 := fc_F hf120 hFc25 (by unfold M_MH_turned_1; omega)
          have hf129 : s28.1 225 27 = nI 524288 := fc_F hf121 hFc25 (by unfold M_MH_turned_1; omega)
          have hf130 : s28.1 225 28 = nI 261888 := fc_F hf122 hFc25 (by unfold M_MH_turned_1; omega)
          have hf131 : s28.1 225 29 = nI 196 := fc_F hf123 hFc25 (by unfold M_MH_turned_1; omega)
          have hf132 : s28.1 225 30 = nI 48 := fc_F hf124 hFc25 (by unfold M_MH_turned_1; omega)
          refine W.widen (k := 0) (n := 0) (by omega) (by omega) ?_
          refine lv_iconst (v := nI 0) hx hb dMH_fits_120 (by decide) ?_
          refine lv_istore_n (lv' := [(2, .int (nI 0)), (1, .int (nI i22)), (0, .ref h0)]) hx hb dMH_fits_121 rfl hl (by decide) rfl (fun ls hl => ?_)
          have lp25 : ∀ (n25 : Nat) (i25 : Nat) (s29 : Sto) (pl : va_W) (ls : Array Slot) (H : Heap) (locs : List Loc), n25 + i25 = 256 → frm (M_MH_fits_1) s s29 → s29.1 225 23 = nI 1 → s29.1 225 24 = nI 6 → s29.1 225 25 = nI 5 → s29.1 225 26 = nI 4 → s29.1 225 27 = nI 524288 → s29.1 225 28 = nI 261888 → s29.1 225 29 = nI 196 → s29.1 225 30 = nI 48 → F_MH_fits_1 s = F_MH_fits_1_L4 i22 (F_MH_fits_1_L1 n22) n25 i25 s29 → lv_has ls 4 [(2, .int (nI i25)), (1, .int (nI i22)), (0, .ref h0)] → okn g T s29 pl → va_P g.1 vcl ([] ++ pl) H → va_D A ([] ++ pl) → va_S A s0.heap H locs → W p l e ({ frames := 1, cells := 0, slots := 0, locals := 60 } : Room) s0 m args below meth c H locs 0 0 (MQ below (va_Qi (fun (r : Int32) (u : (Int32 × Sto) × va_W) => (u.1 = F_MH_fits_1 s ∧ r = u.1.1 ∧ frm (M_MH_fits_1) s u.1.2 ∧ True) ∧ okn g T u.1.2 u.2) (po g.1 vcl A (fun (u : (Int32 × Sto) × va_W) => [] ++ u.2)) A) args s0 0 0 A) (F0 m 122 ls []) := by
            intro n25
            induction n25 with
            | zero =>
              intro i25 s29 pl ls H locs hm25 hF hf133 hf134 hf135 hf136 hf137 hf138 hf139 hf140 hR hl hO hP hD hS
              refine lv_iload_n hx hb dMH_fits_122 rfl (lv_at hl 0 rfl) ?_
              refine lv_sipush (v := nI 256) hx hb dMH_fits_123 (by decide) ?_
              refine mi_ge (tgt := 189) hx hb dMH_fits_126 (by decide) (by omega) (by omega) (fun h31 => ?_) (fun h31 => absurd h31 (by omega))
              refine mi_iinc (k := 1) (x := i22) (d := 1) (y := i22 + 1) (lv' := [(1, .int (nI (i22 + 1))), (2, .int (nI i25)), (0, .ref h0)]) hx hb dMH_fits_189 hl rfl (by decide) rfl (by decide) rfl (fun ls hl => ?_)
              refine lv_goto (tgt := 98) hx hb dMH_fits_192 (by decide) ?_
              exact ih22 (i22 + 1) s29 pl ls H locs (by omega) hF hf133 hf134 hf135 hf136 hf137 hf138 hf139 hf140 hR (lv_sub hl [0, 2] rfl) hO hP hD hS
            | succ n25 ih25 =>
              intro i25 s29 pl ls H locs hm25 hF hf141 hf142 hf143 hf144 hf145 hf146 hf147 hf148 hR hl hO hP hD hS
              refine lv_iload_n hx hb dMH_fits_122 rfl (lv_at hl 0 rfl) ?_
              refine lv_sipush (v := nI 256) hx hb dMH_fits_123 (by decide) ?_
              refine mi_ge (tgt := 189) hx hb dMH_fits_126 (by decide) (by omega) (by omega) (fun h32 => absurd h32 (by omega)) (fun h32 => ?_)
              refine lv_aload_n hx hb dMH_fits_129 rfl (lv_at hl 2 rfl) ?_
              refine nw_get (C := "LatticeKeysModel$Hands") (TT := T_MH) (N := 31) hx hb hts (wg_ft i_MH) hown hK hO k_h0 (kn := 225) (ci := 12) (fl := [(3, 172), (3, 181), (3, 226), (3, 291), (3, 299), (3, 308), (3, 317), (3, 326), (3, 334), (3, 342), (3, 350), (3, 359), (3, 368), (3, 369), (3, 370), (3, 371), (3, 372), (3, 373), (3, 374), (3, 375), (3, 376), (3, 377), (3, 378), (0, 0), (0, 0), (0, 0), (0, 0), (0, 0), (0, 0), (0, 0), (0, 0)]) rfl hP rfl 10 (by decide) (hts _ (wg_t kw_1442)) (fun _ h9 => h9) (cd := (3, 350)) rfl dMH_fits_130 (fun v39 hv39 => ?_)
              obtain ⟨r42, rfl, kr39⟩ := (show ∃ r : Nat, v39 = .ref r ∧ T r = some 350 from hv39)
              refine lv_iload_n hx hb dMH_fits_133 rfl (lv_at hl 1 rfl) ?_
              refine nw_aald3 hx hb hK hO kr39 (k := 350) (b := 351) rfl hP (by omega) (by omega) dMH_fits_134 (fun r43 kr40 => ?_)
              have hn28 : nsp (351 + i22) = (0, 256, []) := rows_ok 351 8 (by decide) _ (by omega)
              refine lv_iload_n hx hb dMH_fits_135 rfl (lv_at hl 0 rfl) ?_
              refine lv_aload_n hx hb dMH_fits_136 rfl (lv_at hl 2 rfl) ?_
              refine nw_get (C := "LatticeKeysModel$Hands") (TT := T_MH) (N := 31) hx hb hts (wg_ft i_MH) hown hK hO k_h0 (kn := 225) (ci := 12) (fl := [(3, 172), (3, 181), (3, 226), (3, 291), (3, 299), (3, 308), (3, 317), (3, 326), (3, 334), (3, 342), (3, 350), (3, 359), (3, 368), (3, 369), (3, 370), (3, 371), (3, 372), (3, 373), (3, 374), (3, 375), (3, 376), (3, 377), (3, 378), (0, 0), (0, 0), (0, 0), (0, 0), (0, 0), (0, 0), (0, 0), (0, 0)]) rfl hP rfl 10 (by decide) (hts _ (wg_t kw_1442)) (fun _ h9 => h9) (cd := (3, 350)) rfl dMH_fits_137 (fun v40 hv40 => ?_)
              obtain ⟨r44, rfl, kr41⟩ := (show ∃ r : Nat, v40 = .ref r ∧ T r = some 350 from hv40)
              refine lv_iload_n hx hb dMH_fits_140 rfl (lv_at hl 1 rfl) ?_
              refine nw_aald3 hx hb hK hO kr41 (k := 350) (b := 351) rfl hP (by omega) (by omega) dMH_fits_141 (fun r45 kr42 => ?_)
              have hn29 : nsp (351 + i22) = (0, 256, []) := rows_ok 351 8 (by decide) _ (by omega)
              refine lv_iload_n hx hb dMH_fits_142 rfl (lv_at hl 0 rfl) ?_
              refine nw_iald hx hb hK hO kr42 (k := (351 + i22)) hn29 hP (by omega) (by omega) dMH_fits_143 ?_
              refine lv_aload_n hx hb dMH_fits_144 rfl (lv_at hl 2 rfl) ?_
              refine nw_get (C := "LatticeKeysModel$Hands") (TT := T_MH) (N := 31) hx hb hts (wg_ft i_MH) hown hK hO k_h0 (kn := 225) (ci := 12) (fl := [(3, 172), (3, 181), (3, 226), (3, 291), (3, 299), (3, 308), (3, 317), (3, 326), (3, 334), (3, 342), (3, 350), (3, 359), (3, 368), (3, 369), (3, 370), (3, 371), (3, 372), (3, 373), (3, 374), (3, 375), (3, 376), (3, 377), (3, 378), (0, 0), (0, 0), (0, 0), (0, 0), (0, 0), (0, 0), (0, 0), (0, 0)]) rfl hP rfl 13 (by decide) (hts _ (wg_t kw_1445)) (fun _ h9 => h9) (cd := (3, 369)) rfl dMH_fits_145 (fun v41 hv41 => ?_)
              obtain ⟨r46, rfl, kr43⟩ := (show ∃ r : Nat, v41 = .ref r ∧ T r = some 369 from hv41)
              refine lv_iload_n hx hb dMH_fits_148 rfl (lv_at hl 0 rfl) ?_
              refine nw_iald hx hb hK hO kr43 (k := 369) rfl hP (by omega) (by omega) dMH_fits_149 ?_
              refine mp_i (cx := []) (wr := []) hP hD hS hA [] [] rfl rfl rfl (by decide) (va_runS (As := [.int ((s29.1 ((351 + i22)) i25)), .int ((s29.1 369 i25))]) (rest := [.int (nI i25), .ref r43]) F (N_MH_minus l g _ T s29 pl hO hU (s29.1 ((351 + i22)) i25) (s29.1 369 i25)) (va_cwS 2 hts (wg_app (wg_c kw_1865 (wg_c kw_1866 (wg_c kw_13 wg_n))) kw_1867) rfl rfl rfl (by decide +kernel) ⟨by decide, by decide⟩) (pp_S (en_ok g) hP hD hS hA hE [] rfl rfl) rfl rfl hl.1 rfl (lv_room (Nat.le_of_ble_eq_true rfl)) dMH_fits_150 ⟨by omega, by omega⟩) (fun r47 u26 H locs hu26 hP hD hS => ?_)
              obtain ⟨q24, pl⟩ := u26
              obtain ⟨⟨eq26, rfl, hFc26, -⟩, hO⟩ := hu26
              have hO : okn g T q24.2 pl := hO
              have hP : va_P g.1 vcl ([] ++ pl) _ := hP
              have hD : va_D _ ([] ++ pl) := hD
              have hFc26 : frm (M_MH_minus) s29 q24.2 := hFc26
              replace hR := bnd_step hR eq26
              have hF := frm_tr hF hFc26 (fun k hk => by unfold M_MH_minus at hk; unfold M_MH_fits_1; omega)
              have hf149 : q24.2.1 225 23 = nI 1 := fc_F hf141 hFc26 (by unfold M_MH_minus; omega)
              have hf150 : q24.2.1 225 24 = nI 6 := fc_F hf142 hFc26 (by unfold M_MH_minus; omega)
              have hf151 : q24.2.1 225 25 = nI 5 := fc_F hf143 hFc26 (by unfold M_MH_minus; omega)
              have hf152 : q24.2.1 225 26 = nI 4 := fc_F hf144 hFc26 (by unfold M_MH_minus; omega)
              have hf153 : q24.2.1 225 27 = nI 524288 := fc_F hf145 hFc26 (by unfold M_MH_minus; omega)
              have hf154 : q24.2.1 225 28 = nI 261888 := fc_F hf146 hFc26 (by unfold M_MH_minus; omega)
              have hf155 : q24.2.1 225 29 = nI 196 := fc_F hf147 hFc26 (by unfold M_MH_minus; omega)
              have hf156 : q24.2.1 225 30 = nI 48 := fc_F hf148 hFc26 (by unfold M_MH_minus; omega)
              refine W.widen (k := 0) (n := 0) (by omega) (by omega) ?_
              refine nw_iast hx hb hK hO hU kr40 (k := (351 + i22)) hn28 hP hD hS (by omega) (by omega) dMH_fits_153 (fun s30 pl H locs es23 hO hP hD hS => ?_)
              replace hR := bnd_step hR es23
              have hF := frm_sI hF es23 (by unfold M_MH_fits_1; omega)
              have hf157 : s30.1 225 23 = nI 1 := fc_ne hf149 es23 (by omega)
              have hf158 : s30.1 225 24 = nI 6 := fc_ne hf150 es23 (by omega)
              have hf159 : s30.1 225 25 = nI 5 := fc_ne hf151 es23 (by omega)
              have hf160 : s30.1 225 26 = nI 4 := fc_ne hf152 es23 (by omega)
              have hf161 : s30.1 225 27 = nI 524288 := fc_ne hf153 es23 (by omega)
              have hf162 : s30.1 225 28 = nI 261888 := fc_ne hf154 es23 (by omega)
              have hf163 : s30.1 225 29 = nI 196 := fc_ne hf155 es23 (by omega)
              have hf164 : s30.1 225 30 = nI 48 := fc_ne hf156 es23 (by omega)
              refine lv_aload_n hx hb dMH_fits_154 rfl (lv_at hl 2 rfl) ?_
              refine lv_aload_n hx hb dMH_fits_155 rfl (lv_at hl 2 rfl) ?_
              refine nw_get (C := "LatticeKeysModel$Hands") (TT := T_MH) (N := 31) hx hb hts (wg_ft i_MH) hown hK hO k_h0 (kn := 225) (ci := 12) (fl := [(3, 172), (3, 181), (3, 226), (3, 291), (3, 299), (3, 308), (3, 317), (3, 326), (3, 334), (3, 342), (3, 350), (3, 359), (3, 368), (3, 369), (3, 370), (3, 371), (3, 372), (3, 373), (3, 374), (3, 375), (3, 376), (3, 377), (3, 378), (0, 0), (0, 0), (0, 0), (0, 0), (0, 0), (0, 0), (0, 0), (0, 0)]) rfl hP rfl 10 (by decide) (hts _ (wg_t kw_1442)) (fun _ h9 => h9) (cd := (3, 350)) rfl dMH_fits_156 (fun v42 hv42 => ?_)
              obtain ⟨r48, rfl, kr44⟩ := (show ∃ r : Nat, v42 = .ref r ∧ T r = some 350 from hv42)
              refine lv_iload_n hx hb dMH_fits_159 rfl (lv_at hl 1 rfl) ?_
              refine nw_aald3 hx hb hK hO kr44 (k := 350) (b := 351) rfl hP (by omega) (by omega) dMH_fits_160 (fun r49 kr45 => ?_)
              have hn30 : nsp (351 + i22) = (0, 256, []) := rows_ok 351 8 (by decide) _ (by omega)
              refine lv_iload_n hx hb dMH_fits_161 rfl (lv_at hl 0 rfl) ?_
              refine nw_iald hx hb hK hO kr45 (k := (351 + i22)) hn30 hP (by omega) (by omega) dMH_fits_162 ?_
              refine mp_i (cx := []) (wr := []) hP hD hS hA [] [] rfl rfl rfl (by decide) (va_runV (As := [.int ((s30.1 ((351 + i22)) i25))]) (rest := []) F (N_MH_low_1 l g _ T s30 pl hO hU h0 (s30.1 ((351 + i22)) i25) k_h0 hf157 hf158 hf159 hf160 hf161 hf162 hf163 hf164) (cwV 1 hts (wg_app (wg_c kw_1889 (wg_c kw_1891 (wg_c ks_76 (wg_c kw_13 wg_n)))) kw_1892) rfl rfl rfl (by decide +kernel) ⟨by decide, by decide⟩) (pn_W "LatticeKeysModel$Hands" (en_ok g) (ci := 12) (kn := 225) (fl := [(3, 172), (3, 181), (3, 226), (3, 291), (3, 299), (3, 308), (3, 317), (3, 326), (3, 334), (3, 342), (3, 350), (3, 359), (3, 368), (3, 369), (3, 370), (3, 371), (3, 372), (3, 373), (3, 374), (3, 375), (3, 376), (3, 377), (3, 378), (0, 0), (0, 0), (0, 0), (0, 0), (0, 0), (0, 0), (0, 0), (0, 0)]) hK hO k_h0 rfl hP hD hS hA hE [] rfl rfl rfl) rfl rfl hl.1 rfl (lv_room (Nat.le_of_ble_eq_true rfl)) dMH_fits_163 ⟨by omega, by omega⟩) (fun r50 u27 H locs hu27 hP hD hS => ?_)
              obtain ⟨q25, pl⟩ := u27
              obtain ⟨⟨eq27, rfl, hFc27, -⟩, hO⟩ := hu27
              have hO : okn g T q25.2 pl := hO
              have hP : va_P g.1 vcl ([] ++ pl) _ := hP
              have hD : va_D _ ([] ++ pl) := hD
              have hFc27 : frm (M_MH_low_1) s30 q25.2 := hFc27
              replace hR := bnd_step hR eq27
              have hF := frm_tr hF hFc27 (fun k hk => by unfold M_MH_low_1 at hk; unfold M_MH_fits_1; omega)
              have hf165 : q25.2.1 225 23 = nI 1 := fc_F hf157 hFc27 (by unfold M_MH_low_1; omega)
              have hf166 : q25.2.1 225 24 = nI 6 := fc_F hf158 hFc27 (by unfold M_MH_low_1; omega)
              have hf167 : q25.2.1 225 25 = nI 5 := fc_F hf159 hFc27 (by unfold M_MH_low_1; omega)
              have hf168 : q25.2.1 225 26 = nI 4 := fc_F hf160 hFc27 (by unfold M_MH_low_1; omega)
              have hf169 : q25.2.1 225 27 = nI 524288 := fc_F hf161 hFc27 (by unfold M_MH_low_1; omega)
              have hf170 : q25.2.1 225 28 = nI 261888 := fc_F hf162 hFc27 (by unfold M_MH_low_1; omega)
              have hf171 : q25.2.1 225 29 = nI 196 := fc_F hf163 hFc27 (by unfold M_MH_low_1; omega)
              have hf172 : q25.2.1 225 30 = nI 48 := fc_F hf164 hFc27 (by unfold M_MH_low_1; omega)
              refine W.widen (k := 0) (n := 0) (by omega) (by omega) ?_
              refine va_mabs (own := "LatticeKeysModel$Hands") (index := 221) hx hb (hml.trans hl.1.symm) hown (hts _ (wg_t kw_1909)) (hts _ (wg_t kw_1910)) (hts _ (wg_t kw_31)) (hts _ (wg_t kw_1911)) (Nat.le_of_ble_eq_true rfl) (Nat.le_of_ble_eq_true rfl) (by omega) (by omega) dMH_fits_166 ?_
              refine lv_aload_n hx hb dMH_fits_169 rfl (lv_at hl 2 rfl) ?_
              refine nw_get (C := "LatticeKeysModel$Hands") (TT := T_MH) (N := 31) hx hb hts (wg_ft i_MH) hown hK hO k_h0 (kn := 225) (ci := 12) (fl := [(3, 172), (3, 181), (3, 226), (3, 291), (3, 299), (3, 308), (3, 317), (3, 326), (3, 334), (3, 342), (3, 350), (3, 359), (3, 368), (3, 369), (3, 370), (3, 371), (3, 372), (3, 373), (3, 374), (3, 375), (3, 376), (3, 377), (3, 378), (0, 0), (0, 0), (0, 0), (0, 0), (0, 0), (0, 0), (0, 0), (0, 0)]) rfl hP rfl 28 (by decide) (hts _ (wg_t kw_1460)) (fun _ h9 => h9) (cd := (0, 0)) rfl dMH_fits_170 (fun v43 hv43 => ?_)
              obtain rfl := (show v43 = .int (q25.2.1 225 28) from hv43)
              obtain ⟨z32, ez30, hz35, hz36⟩ := cl_of (b := 2147483648) hf170 (by omega) (by decide)
              replace hR := bnd_step hR ez30
              refine mi_as hz35 ?_
              subst hz36
              refine lv_aload_n hx hb dMH_fits_173 rfl (lv_at hl 2 rfl) ?_
              refine nw_get (C := "LatticeKeysModel$Hands") (TT := T_MH) (N := 31) hx hb hts (wg_ft i_MH) hown hK hO k_h0 (kn := 225) (ci := 12) (fl := [(3, 172), (3, 181), (3, 226), (3, 291), (3, 299), (3, 308), (3, 317), (3, 326), (3, 334), (3, 342), (3, 350), (3, 359), (3, 368), (3, 369), (3, 370), (3, 371), (3, 372), (3, 373), (3, 374), (3, 375), (3, 376), (3, 377), (3, 378), (0, 0), (0, 0), (0, 0), (0, 0), (0, 0), (0, 0), (0, 0), (0, 0)]) rfl hP rfl 29 (by decide) (hts _ (wg_t kw_1461)) (fun _ h9 => h9) (cd := (0, 0)) rfl dMH_fits_174 (fun v44 hv44 => ?_)
              obtain rfl := (show v44 = .int (q25.2.1 225 29) from hv44)
              obtain ⟨z33, ez31, hz37, hz38⟩ := cl_of (b := 2147483648) hf171 (by omega) (by decide)
              replace hR := bnd_step hR ez31
              refine mi_as hz37 ?_
              subst hz38
              refine mi_isub hx hb dMH_fits_177 (by omega) ?_
              refine mi_as (show nI (261888 - 196) = nI 261692 from rfl) ?_
              refine lv_icmp_lt (tgt := 183) hx hb dMH_fits_178 (by decide) (fun h33 => ?_) (fun h33 => ?_)
              · replace hR := hR.trans (if_pos h33)
                refine mi_iinc (k := 0) (x := i25) (d := 1) (y := i25 + 1) (lv' := [(2, .int (nI (i25 + 1))), (1, .int (nI i22)), (0, .ref h0)]) hx hb dMH_fits_183 hl rfl (by decide) rfl (by decide) rfl (fun ls hl => ?_)
                refine lv_goto (tgt := 122) hx hb dMH_fits_186 (by decide) ?_
                exact ih25 (i25 + 1) q25.2 pl ls H locs (by omega) hF hf165 hf166 hf167 hf168 hf169 hf170 hf171 hf172 hR (lv_sub hl [0, 1, 2] rfl) hO hP hD hS
              · replace hR := hR.trans (if_neg h33)
                refine lv_iconst (v := nI 0) hx hb dMH_fits_181 (by decide) ?_
                exact mp_zret hx hb hr hlk rfl hP hD hS ((nI 0, q25.2), pl) ⟨⟨hR.symm, rfl, hF, trivial⟩, hO⟩ [] rfl rfl rfl (by omega) (by omega) dMH_fits_182
          exact lp25 256 0 s28 pl ls _ _ (by omega) hF hf125 hf126 hf127 hf128 hf129 hf130 hf131 hf132 hR (lv_sub hl [0, 1, 2] rfl) hO hP hD hS
      exact lp22 6 0 s21 pl ls _ _ (by omega) hF hf21 hf22 hf23 hf24 hf25 hf26 hf27 hf28 hR (lv_sub hl [0, 1] rfl) hO hP hD hS
    | succ n21 ih21 =>
      intro i21 s21 pl ls H locs hm21 hF hf173 hf174 hf175 hf176 hf177 hf178 hf179 hf180 hR hl hO hP hD hS
      refine lv_iload_n hx hb dMH_fits_2 rfl (lv_at hl 0 rfl) ?_
      refine lv_aload_n hx hb dMH_fits_3 rfl (lv_at hl 1 rfl) ?_
      refine nw_get (C := "LatticeKeysModel$Hands") (TT := T_MH) (N := 31) hx hb hts (wg_ft i_MH) hown hK hO k_h0 (kn := 225) (ci := 12) (fl := [(3, 172), (3, 181), (3, 226), (3, 291), (3, 299), (3, 308), (3, 317), (3, 326), (3, 334), (3, 342), (3, 350), (3, 359), (3, 368), (3, 369), (3, 370), (3, 371), (3, 372), (3, 373), (3, 374), (3, 375), (3, 376), (3, 377), (3, 378), (0, 0), (0, 0), (0, 0), (0, 0), (0, 0), (0, 0), (0, 0), (0, 0)]) rfl hP rfl 25 (by decide) (hts _ (wg_t kw_1457)) (fun _ h9 => h9) (cd := (0, 0)) rfl dMH_fits_4 (fun v45 hv45 => ?_)
      obtain rfl := (show v45 = .int (s21.1 225 25) from hv45)
      obtain ⟨z34, ez32, hz39, hz40⟩ := cl_of (b := 2147483648) hf175 (by omega) (by decide)
      replace hR := bnd_step hR ez32
      refine mi_as hz39 ?_
      subst hz40
      refine mi_ge (tgt := 96) hx hb dMH_fits_7 (by decide) (by omega) (by omega) (fun h34 => absurd h34 (by omega)) (fun h34 => ?_)
      refine lv_aload_n hx hb dMH_fits_10 rfl (lv_at hl 1 rfl) ?_
      refine lv_aload_n hx hb dMH_fits_11 rfl (lv_at hl 1 rfl) ?_
      refine nw_get (C := "LatticeKeysModel$Hands") (TT := T_MH) (N := 31) hx hb hts (wg_ft i_MH) hown hK hO k_h0 (kn := 225) (ci := 12) (fl := [(3, 172), (3, 181), (3, 226), (3, 291), (3, 299), (3, 308), (3, 317), (3, 326), (3, 334), (3, 342), (3, 350), (3, 359), (3, 368), (3, 369), (3, 370), (3, 371), (3, 372), (3, 373), (3, 374), (3, 375), (3, 376), (3, 377), (3, 378), (0, 0), (0, 0), (0, 0), (0, 0), (0, 0), (0, 0), (0, 0), (0, 0)]) rfl hP rfl 3 (by decide) (hts _ (wg_t kw_1435)) (fun _ h9 => h9) (cd := (3, 291)) rfl dMH_fits_12 (fun v46 hv46 => ?_)
      obtain ⟨r51, rfl, kr46⟩ := (show ∃ r : Nat, v46 = .ref r ∧ T r = some 291 from hv46)
      refine lv_iload_n hx hb dMH_fits_15 rfl (lv_at hl 0 rfl) ?_
      refine nw_aald3 hx hb hK hO kr46 (k := 291) (b := 292) rfl hP (by omega) (by omega) dMH_fits_16 (fun r52 kr47 => ?_)
      have hn31 : nsp (292 + i21) = (0, 256, []) := rows_ok 292 7 (by decide) _ (by omega)
      refine lv_aload_n hx hb dMH_fits_17 rfl (lv_at hl 1 rfl) ?_
      refine nw_get (C := "LatticeKeysModel$Hands") (TT := T_MH) (N := 31) hx hb hts (wg_ft i_MH) hown hK hO k_h0 (kn := 225) (ci := 12) (fl := [(3, 172), (3, 181), (3, 226), (3, 291), (3, 299), (3, 308), (3, 317), (3, 326), (3, 334), (3, 342), (3, 350), (3, 359), (3, 368), (3, 369), (3, 370), (3, 371), (3, 372), (3, 373), (3, 374), (3, 375), (3, 376), (3, 377), (3, 378), (0, 0), (0, 0), (0, 0), (0, 0), (0, 0), (0, 0), (0, 0), (0, 0)]) rfl hP rfl 13 (by decide) (hts _ (wg_t kw_1445)) (fun _ h9 => h9) (cd := (3, 369)) rfl dMH_fits_18 (fun v47 hv47 => ?_)
      obtain ⟨r53, rfl, kr48⟩ := (show ∃ r : Nat, v47 = .ref r ∧ T r = some 369 from hv47)
      refine mp_v (cx := []) (wr := []) hP hD hS hA [] [] rfl rfl rfl (by decide) (va_runV (As := [.ref r52, .ref r53]) (rest := []) F (N_MH_turned_1 l g _ T s21 pl hO hU h0 r52 r53 (292 + i21) 369 k_h0 kr47 hn31 kr48 rfl hf173 hf174 hf175 hf176 hf177 hf178 hf179 hf180) (cwV 2 hts (wg_app (wg_c kw_1901 (wg_c kw_1903 (wg_c ks_79 (wg_c kw_13 wg_n)))) kw_1904) rfl rfl rfl (by decide +kernel) ⟨by decide, by decide⟩) (pn_W "LatticeKeysModel$Hands" (en_ok g) (ci := 12) (kn := 225) (fl := [(3, 172), (3, 181), (3, 226), (3, 291), (3, 299), (3, 308), (3, 317), (3, 326), (3, 334), (3, 342), (3, 350), (3, 359), (3, 368), (3, 369), (3, 370), (3, 371), (3, 372), (3, 373), (3, 374), (3, 375), (3, 376), (3, 377), (3, 378), (0, 0), (0, 0), (0, 0), (0, 0), (0, 0), (0, 0), (0, 0), (0, 0)]) hK hO k_h0 rfl hP hD hS hA hE [] rfl rfl rfl) rfl rfl hl.1 rfl (lv_room (Nat.le_of_ble_eq_true rfl)) dMH_fits_21 ⟨by omega, by omega⟩) (fun  u28 H locs hu28 hP hD hS => ?_)
      obtain ⟨s31, pl⟩ := u28
      obtain ⟨⟨eq28, hFc28, -⟩, hO⟩ := hu28
      have hO : okn g T s31 pl := hO
      have hP : va_P g.1 vcl ([] ++ pl) _ := hP
      have hD : va_D _ ([] ++ pl) := hD
      have hFc28 : frm (M_MH_turned_1 369) s21 s31 := hFc28
      replace hR := bnd_step hR eq28
      have hF := frm_tr hF hFc28 (fun k hk => by unfold M_MH_turned_1 at hk; unfold M_MH_fits_1; omega)
      have hf181 : s31.1 225 23 = nI 1 := fc_F hf173 hFc28 (by unfold M_MH_turned_1; omega)
      have hf182 : s31.1 225 24 = nI 6 := fc_F hf174 hFc28 (by unfold M_MH_turned_1; omega)
      have hf183 : s31.1 225 25 = nI 5 := fc_F hf175 hFc28 (by unfold M_MH_turned_1; omega)
      have hf184 : s31.1 225 26 = nI 4 := fc_F hf176 hFc28 (by unfold M_MH_turned_1; omega)
      have hf185 : s31.1 225 27 = nI 524288 := fc_F hf177 hFc28 (by unfold M_MH_turned_1; omega)
      have hf186 : s31.1 225 28 = nI 261888 := fc_F hf178 hFc28 (by unfold M_MH_turned_1; omega)
      have hf187 : s31.1 225 29 = nI 196 := fc_F hf179 hFc28 (by unfold M_MH_turned_1; omega)
      have hf188 : s31.1 225 30 = nI 48 := fc_F hf180 hFc28 (by unfold M_MH_turned_1; omega)
      refine W.widen (k := 0) (n := 0) (by omega) (by omega) ?_
      refine lv_iconst (v := nI 0) hx hb dMH_fits_24 (by decide) ?_
      refine lv_istore_n (lv' := [(2, .int (nI 0)), (1, .int (nI i21)), (0, .ref h0)]) hx hb dMH_fits_25 rfl hl (by decide) rfl (fun ls hl => ?_)
      have lp26 : ∀ (n26 : Nat) (i26 : Nat) (s32 : Sto) (pl : va_W) (ls : Array Slot) (H : Heap) (locs : List Loc), n26 + i26 = 256 → frm (M_MH_fits_1) s s32 → s32.1 225 23 = nI 1 → s32.1 225 24 = nI 6 → s32.1 225 25 = nI 5 → s32.1 225 26 = nI 4 → s32.1 225 27 = nI 524288 → s32.1 225 28 = nI 261888 → s32.1 225 29 = nI 196 → s32.1 225 30 = nI 48 → F_MH_fits_1 s = F_MH_fits_1_L5 i21 (F_MH_fits_1_L0 n21) n26 i26 s32 → lv_has ls 4 [(2, .int (nI i26)), (1, .int (nI i21)), (0, .ref h0)] → okn g T s32 pl → va_P g.1 vcl ([] ++ pl) H → va_D A ([] ++ pl) → va_S A s0.heap H locs → W p l e ({ frames := 1, cells := 0, slots := 0, locals := 60 } : Room) s0 m args below meth c H locs 0 0 (MQ below (va_Qi (fun (r : Int32) (u : (Int32 × Sto) × va_W) => (u.1 = F_MH_fits_1 s ∧ r = u.1.1 ∧ frm (M_MH_fits_1) s u.1.2 ∧ True) ∧ okn g T u.1.2 u.2) (po g.1 vcl A (fun (u : (Int32 × Sto) × va_W) => [] ++ u.2)) A) args s0 0 0 A) (F0 m 26 ls []) := by
        intro n26
        induction n26 with
        | zero =>
          intro i26 s32 pl ls H locs hm26 hF hf189 hf190 hf191 hf192 hf193 hf194 hf195 hf196 hR hl hO hP hD hS
          refine lv_iload_n hx hb dMH_fits_26 rfl (lv_at hl 0 rfl) ?_
          refine lv_sipush (v := nI 256) hx hb dMH_fits_27 (by decide) ?_
          refine mi_ge (tgt := 90) hx hb dMH_fits_30 (by decide) (by omega) (by omega) (fun h35 => ?_) (fun h35 => absurd h35 (by omega))
          refine mi_iinc (k := 1) (x := i21) (d := 1) (y := i21 + 1) (lv' := [(1, .int (nI (i21 + 1))), (2, .int (nI i26)), (0, .ref h0)]) hx hb dMH_fits_90 hl rfl (by decide) rfl (by decide) rfl (fun ls hl => ?_)
          refine lv_goto (tgt := 2) hx hb dMH_fits_93 (by decide) ?_
          exact ih21 (i21 + 1) s32 pl ls H locs (by omega) hF hf189 hf190 hf191 hf192 hf193 hf194 hf195 hf196 hR (lv_sub hl [0, 2] rfl) hO hP hD hS
        | succ n26 ih26 =>
          intro i26 s32 pl ls H locs hm26 hF hf197 hf198 hf199 hf200 hf201 hf202 hf203 hf204 hR hl hO hP hD hS
          refine lv_iload_n hx hb dMH_fits_26 rfl (lv_at hl 0 rfl) ?_
          refine lv_sipush (v := nI 256) hx hb dMH_fits_27 (by decide) ?_
          refine mi_ge (tgt := 90) hx hb dMH_fits_30 (by decide) (by omega) (by omega) (fun h36 => absurd h36 (by omega)) (fun h36 => ?_)
          refine lv_aload_n hx hb dMH_fits_33 rfl (lv_at hl 2 rfl) ?_
          refine nw_get (C := "LatticeKeysModel$Hands") (TT := T_MH) (N := 31) hx hb hts (wg_ft i_MH) hown hK hO k_h0 (kn := 225) (ci := 12) (fl := [(3, 172), (3, 181), (3, 226), (3, 291), (3, 299), (3, 308), (3, 317), (3, 326), (3, 334), (3, 342), (3, 350), (3, 359), (3, 368), (3, 369), (3, 370), (3, 371), (3, 372), (3, 373), (3, 374), (3, 375), (3, 376), (3, 377), (3, 378), (0, 0), (0, 0), (0, 0), (0, 0), (0, 0), (0, 0), (0, 0), (0, 0)]) rfl hP rfl 8 (by decide) (hts _ (wg_t kw_1440)) (fun _ h9 => h9) (cd := (3, 334)) rfl dMH_fits_34 (fun v48 hv48 => ?_)
          obtain ⟨r54, rfl, kr49⟩ := (show ∃ r : Nat, v48 = .ref r ∧ T r = some 334 from hv48)
          refine lv_iload_n hx hb dMH_fits_37 rfl (lv_at hl 1 rfl) ?_
          refine nw_aald3 hx hb hK hO kr49 (k := 334) (b := 335) rfl hP (by omega) (by omega) dMH_fits_38 (fun r55 kr50 => ?_)
          have hn32 : nsp (335 + i21) = (0, 256, []) := rows_ok 335 7 (by decide) _ (by omega)
          refine lv_iload_n hx hb dMH_fits_39 rfl (lv_at hl 0 rfl) ?_
          refine lv_aload_n hx hb dMH_fits_40 rfl (lv_at hl 2 rfl) ?_
          refine nw_get (C := "LatticeKeysModel$Hands") (TT := T_MH) (N := 31) hx hb hts (wg_ft i_MH) hown hK hO k_h0 (kn := 225) (ci := 12) (fl := [(3, 172), (3, 181), (3, 226), (3, 291), (3, 299), (3, 308), (3, 317), (3, 326), (3, 334), (3, 342), (3, 350), (3, 359), (3, 368), (3, 369), (3, 370), (3, 371), (3, 372), (3, 373), (3, 374), (3, 375), (3, 376), (3, 377), (3, 378), (0, 0), (0, 0), (0, 0), (0, 0), (0, 0), (0, 0), (0, 0), (0, 0)]) rfl hP rfl 7 (by decide) (hts _ (wg_t kw_1439)) (fun _ h9 => h9) (cd := (3, 326)) rfl dMH_fits_41 (fun v49 hv49 => ?_)
          obtain ⟨r56, rfl, kr51⟩ := (show ∃ r : Nat, v49 = .ref r ∧ T r = some 326 from hv49)
          refine lv_iload_n hx hb dMH_fits_44 rfl (lv_at hl 1 rfl) ?_
          refine nw_aald3 hx hb hK hO kr51 (k := 326) (b := 327) rfl hP (by omega) (by omega) dMH_fits_45 (fun r57 kr52 => ?_)
          have hn33 : nsp (327 + i21) = (0, 256, []) := rows_ok 327 7 (by decide) _ (by omega)
          refine lv_iload_n hx hb dMH_fits_46 rfl (lv_at hl 0 rfl) ?_
          refine nw_iald hx hb hK hO kr52 (k := (327 + i21)) hn33 hP (by omega) (by omega) dMH_fits_47 ?_
          refine lv_aload_n hx hb dMH_fits_48 rfl (lv_at hl 2 rfl) ?_
          refine nw_get (C := "LatticeKeysModel$Hands") (TT := T_MH) (N := 31) hx hb hts (wg_ft i_MH) hown hK hO k_h0 (kn := 225) (ci := 12) (fl := [(3, 172), (3, 181), (3, 226), (3, 291), (3, 299), (3, 308), (3, 317), (3, 326), (3, 334), (3, 342), (3, 350), (3, 359), (3, 368), (3, 369), (3, 370), (3, 371), (3, 372), (3, 373), (3, 374), (3, 375), (3, 376), (3, 377), (3, 378), (0, 0), (0, 0), (0, 0), (0, 0), (0, 0), (0, 0), (0, 0), (0, 0)]) rfl hP rfl 13 (by decide) (hts _ (wg_t kw_1445)) (fun _ h9 => h9) (cd := (3, 369)) rfl dMH_fits_49 (fun v50 hv50 => ?_)
          obtain ⟨r58, rfl, kr53⟩ := (show ∃ r : Nat, v50 = .ref r ∧ T r = some 369 from hv50)
          refine lv_iload_n hx hb dMH_fits_52 rfl (lv_at hl 0 rfl) ?_
          refine nw_iald hx hb hK hO kr53 (k := 369) rfl hP (by omega) (by omega) dMH_fits_53 ?_
          refine lv_iadd hx hb dMH_fits_54 ?_
          refine lv_ldc (v := 8380417) hx hb hown (hts _ (wg_t kw_1429)) dMH_fits_55 ?_
          refine mi_as (show (8380417 : Int32) = nI 8380417 by decide) ?_
          refine lv_irem hx hb dMH_fits_57 (nI_ne0 (by omega) (by omega)) ?_
          refine nw_iast hx hb hK hO hU kr50 (k := (335 + i21)) hn32 hP hD hS (by omega) (by omega) dMH_fits_58 (fun s33 pl H locs es24 hO hP hD hS => ?_)
          replace hR := bnd_step hR es24
          have hF := frm_sI hF es24 (by unfold M_MH_fits_1; omega)
          have hf205 : s33.1 225 23 = nI 1 := fc_ne hf197 es24 (by omega)
          have hf206 : s33.1 225 24 = nI 6 := fc_ne hf198 es24 (by omega)
          have hf207 : s33.1 225 25 = nI 5 := fc_ne hf199 es24 (by omega)
          have hf208 : s33.1 225 26 = nI 4 := fc_ne hf200 es24 (by omega)
          have hf209 : s33.1 225 27 = nI 524288 := fc_ne hf201 es24 (by omega)
          have hf210 : s33.1 225 28 = nI 261888 := fc_ne hf202 es24 (by omega)
          have hf211 : s33.1 225 29 = nI 196 := fc_ne hf203 es24 (by omega)
          have hf212 : s33.1 225 30 = nI 48 := fc_ne hf204 es24 (by omega)
          refine lv_aload_n hx hb dMH_fits_59 rfl (lv_at hl 2 rfl) ?_
          refine nw_get (C := "LatticeKeysModel$Hands") (TT := T_MH) (N := 31) hx hb hts (wg_ft i_MH) hown hK hO k_h0 (kn := 225) (ci := 12) (fl := [(3, 172), (3, 181), (3, 226), (3, 291), (3, 299), (3, 308), (3, 317), (3, 326), (3, 334), (3, 342), (3, 350), (3, 359), (3, 368), (3, 369), (3, 370), (3, 371), (3, 372), (3, 373), (3, 374), (3, 375), (3, 376), (3, 377), (3, 378), (0, 0), (0, 0), (0, 0), (0, 0), (0, 0), (0, 0), (0, 0), (0, 0)]) rfl hP rfl 8 (by decide) (hts _ (wg_t kw_1440)) (fun _ h9 => h9) (cd := (3, 334)) rfl dMH_fits_60 (fun v51 hv51 => ?_)
          obtain ⟨r59, rfl, kr54⟩ := (show ∃ r : Nat, v51 = .ref r ∧ T r = some 334 from hv51)
          refine lv_iload_n hx hb dMH_fits_63 rfl (lv_at hl 1 rfl) ?_
          refine nw_aald3 hx hb hK hO kr54 (k := 334) (b := 335) rfl hP (by omega) (by omega) dMH_fits_64 (fun r60 kr55 => ?_)
          have hn34 : nsp (335 + i21) = (0, 256, []) := rows_ok 335 7 (by decide) _ (by omega)
          refine lv_iload_n hx hb dMH_fits_65 rfl (lv_at hl 0 rfl) ?_
          refine nw_iald hx hb hK hO kr55 (k := (335 + i21)) hn34 hP (by omega) (by omega) dMH_fits_66 ?_
          refine mp_i (cx := []) (wr := []) hP hD hS hA [] [] rfl rfl rfl (by decide) (va_runS (As := [.int ((s33.1 ((335 + i21)) i26))]) (rest := []) F (N_MH_norm l g _ T s33 pl hO hU (s33.1 ((335 + i21)) i26)) (va_cwS 1 hts (wg_app (wg_c kw_1905 (wg_c kw_1906 (wg_c kw_13 wg_n))) kw_1907) rfl rfl rfl (by decide +kernel) ⟨by decide, by decide⟩) (pp_S (en_ok g) hP hD hS hA hE [] rfl rfl) rfl rfl hl.1 rfl (lv_room (Nat.le_of_ble_eq_true rfl)) dMH_fits_67 ⟨by omega, by omega⟩) (fun r61 u29 H locs hu29 hP hD hS => ?_)
          obtain ⟨q26, pl⟩ := u29
          obtain ⟨⟨eq29, rfl, hFc29, -⟩, hO⟩ := hu29
          have hO : okn g T q26.2 pl := hO
          have hP : va_P g.1 vcl ([] ++ pl) _ := hP
          have hD : va_D _ ([] ++ pl) := hD
          have hFc29 : frm (M_MH_norm) s33 q26.2 := hFc29
          replace hR := bnd_step hR eq29
          have hF := frm_tr hF hFc29 (fun k hk => by unfold M_MH_norm at hk; unfold M_MH_fits_1; omega)
          have hf213 : q26.2.1 225 23 = nI 1 := fc_F hf205 hFc29 (by unfold M_MH_norm; omega)
          have hf214 : q26.2.1 225 24 = nI 6 := fc_F hf206 hFc29 (by unfold M_MH_norm; omega)
          have hf215 : q26.2.1 225 25 = nI 5 := fc_F hf207 hFc29 (by unfold M_MH_norm; omega)
          have hf216 : q26.2.1 225 26 = nI 4 := fc_F hf208 hFc29 (by unfold M_MH_norm; omega)
          have hf217 : q26.2.1 225 27 = nI 524288 := fc_F hf209 hFc29 (by unfold M_MH_norm; omega)
          have hf218 : q26.2.1 225 28 = nI 261888 := fc_F hf210 hFc29 (by unfold M_MH_norm; omega)
          have hf219 : q26.2.1 225 29 = nI 196 := fc_F hf211 hFc29 (by unfold M_MH_norm; omega)
          have hf220 : q26.2.1 225 30 = nI 48 := fc_F hf212 hFc29 (by unfold M_MH_norm; omega)
          refine W.widen (k := 0) (n := 0) (by omega) (by omega) ?_
          refine lv_aload_n hx hb dMH_fits_70 rfl (lv_at hl 2 rfl) ?_
          refine nw_get (C := "LatticeKeysModel$Hands") (TT := T_MH) (N := 31) hx hb hts (wg_ft i_MH) hown hK hO k_h0 (kn := 225) (ci := 12) (fl := [(3, 172), (3, 181), (3, 226), (3, 291), (3, 299), (3, 308), (3, 317), (3, 326), (3, 334), (3, 342), (3, 350), (3, 359), (3, 368), (3, 369), (3, 370), (3, 371), (3, 372), (3, 373), (3, 374), (3, 375), (3, 376), (3, 377), (3, 378), (0, 0), (0, 0), (0, 0), (0, 0), (0, 0), (0, 0), (0, 0), (0, 0)]) rfl hP rfl 27 (by decide) (hts _ (wg_t kw_1459)) (fun _ h9 => h9) (cd := (0, 0)) rfl dMH_fits_71 (fun v52 hv52 => ?_)
          obtain rfl := (show v52 = .int (q26.2.1 225 27) from hv52)
          obtain ⟨z35, ez33, hz41, hz42⟩ := cl_of (b := 2147483648) hf217 (by omega) (by decide)
          replace hR := bnd_step hR ez33
          refine mi_as hz41 ?_
          subst hz42
          refine lv_aload_n hx hb dMH_fits_74 rfl (lv_at hl 2 rfl) ?_
          refine nw_get (C := "LatticeKeysModel$Hands") (TT := T_MH) (N := 31) hx hb hts (wg_ft i_MH) hown hK hO k_h0 (kn := 225) (ci := 12) (fl := [(3, 172), (3, 181), (3, 226), (3, 291), (3, 299), (3, 308), (3, 317), (3, 326), (3, 334), (3, 342), (3, 350), (3, 359), (3, 368), (3, 369), (3, 370), (3, 371), (3, 372), (3, 373), (3, 374), (3, 375), (3, 376), (3, 377), (3, 378), (0, 0), (0, 0), (0, 0), (0, 0), (0, 0), (0, 0), (0, 0), (0, 0)]) rfl hP rfl 29 (by decide) (hts _ (wg_t kw_1461)) (fun _ h9 => h9) (cd := (0, 0)) rfl dMH_fits_75 (fun v53 hv53 => ?_)
          obtain rfl := (show v53 = .int (q26.2.1 225 29) from hv53)
          obtain ⟨z36, ez34, hz43, hz44⟩ := cl_of (b := 2147483648) hf219 (by omega) (by decide)
          replace hR := bnd_step hR ez34
          refine mi_as hz43 ?_
          subst hz44
          refine mi_isub hx hb dMH_fits_78 (by omega) ?_
          refine mi_as (show nI (524288 - 196) = nI 524092 from rfl) ?_
          refine lv_icmp_lt (tgt := 84) hx hb dMH_fits_79 (by decide) (fun h37 => ?_) (fun h37 => ?_)
          · replace hR := hR.trans (if_pos h37)
            refine mi_iinc (k := 0) (x := i26) (d := 1) (y := i26 + 1) (lv' := [(2, .int (nI (i26 + 1))), (1, .int (nI i21)), (0, .ref h0)]) hx hb dMH_fits_84 hl rfl (by decide) rfl (by decide) rfl (fun ls hl => ?_)
            refine lv_goto (tgt := 26) hx hb dMH_fits_87 (by decide) ?_
            exact ih26 (i26 + 1) q26.2 pl ls H locs (by omega) hF hf213 hf214 hf215 hf216 hf217 hf218 hf219 hf220 hR (lv_sub hl [0, 1, 2] rfl) hO hP hD hS
          · replace hR := hR.trans (if_neg h37)
            refine lv_iconst (v := nI 0) hx hb dMH_fits_82 (by decide) ?_
            exact mp_zret hx hb hr hlk rfl hP hD hS ((nI 0, q26.2), pl) ⟨⟨hR.symm, rfl, hF, trivial⟩, hO⟩ [] rfl rfl rfl (by omega) (by omega) dMH_fits_83
      exact lp26 256 0 s31 pl ls _ _ (by omega) hF hf181 hf182 hf183 hf184 hf185 hf186 hf187 hf188 hR (lv_sub hl [0, 1, 2] rfl) hO hP hD hS
  exact lp21 5 0 s pl ls _ _ (by omega) hF e_c0 e_c1 e_c2 e_c3 e_c4 e_c5 e_c6 e_c7 hR (lv_sub hl [0, 1] rfl) hO hP hD hS
def M_MH_fits_2 (k : Nat) : Prop := (335 ≤ k ∧ k < 342) ∨ (351 ≤ k ∧ k < 359) ∨ (360 ≤ k ∧ k < 368) ∨ k = 369 ∨ (0 : Nat) = 1
noncomputable def F_MH_fits_2_L5 (i21 : Nat) (kk : Nat → Sto → Int32 × Sto) : Nat → Nat → Sto → Int32 × Sto
  | 0, i26, s32 => kk (i21 + 1) s32
  | n26 + 1, i26, s32 => bnd (sI s32 ((335 + i21)) i26 (((s32.1 ((327 + i21)) i26) + (s32.1 369 i26)) - ((s32.1 ((327 + i21)) i26) + (s32.1 369 i26)) / (nI 8380417) * (nI 8380417))) fun s33 => bnd (F_MH_norm (s33.1 ((335 + i21)) i26) s33) fun q26 => bnd ((q26.2.1 225 27).toNatClampNeg) fun z35 => bnd ((q26.2.1 225 29).toNatClampNeg) fun z36 => if (q26.1) < (nI 524168) then F_MH_fits_2_L5 i21 kk n26 (i26 + 1) q26.2 else (nI 0, q26.2)
noncomputable def F_MH_fits_2_L4 (i22 : Nat) (kk : Nat → Sto → Int32 × Sto) : Nat → Nat → Sto → Int32 × Sto
  | 0, i25, s29 => kk (i22 + 1) s29
  | n25 + 1, i25, s29 => bnd (F_MH_minus (s29.1 ((351 + i22)) i25) (s29.1 369 i25) s29) fun q24 => bnd (sI q24.2 ((351 + i22)) i25 (q24.1)) fun s30 => bnd (F_MH_low_2 (s30.1 ((351 + i22)) i25) s30) fun q25 => bnd ((q25.2.1 225 28).toNatClampNeg) fun z32 => bnd ((q25.2.1 225 29).toNatClampNeg) fun z33 => if (if 0 ≤ (q25.1) then (q25.1) else 0 - (q25.1)) < (nI 261768) then F_MH_fits_2_L4 i22 kk n25 (i25 + 1) q25.2 else (nI 0, q25.2)
noncomputable def F_MH_fits_2_L3 (i23 : Nat) (kk : Nat → Int32 → Sto → Int32 × Sto) : Nat → Nat → Int32 → Sto → Int32 × Sto
  | 0, i24, z27, s25 => kk (i23 + 1) z27 s25
  | n24 + 1, i24, z27, s25 => bnd (F_MH_norm (s25.1 369 i24) s25) fun q21 => bnd ((q21.2.1 225 28).toNatClampNeg) fun z28 => if (q21.1) < (nI 261888) then bnd (F_MH_high_2 (((q21.2.1 ((351 + i23)) i24) + (q21.2.1 369 i24)) - ((q21.2.1 ((351 + i23)) i24) + (q21.2.1 369 i24)) / (nI 8380417) * (nI 8380417)) q21.2) fun q22 => bnd (F_MH_high_2 (q22.2.1 ((351 + i23)) i24) q22.2) fun q23 => if (q22.1) = (q23.1) then bnd (sI q23.2 ((360 + i23)) i24 (nI 0)) fun s27 => bnd ((z27 + (s27.1 ((360 + i23)) i24))) fun z30 => F_MH_fits_2_L3 i23 kk n24 (i24 + 1) z30 s27 else bnd (sI q23.2 ((360 + i23)) i24 (nI 1)) fun s26 => bnd ((z27 + (s26.1 ((360 + i23)) i24))) fun z29 => F_MH_fits_2_L3 i23 kk n24 (i24 + 1) z29 s26 else (nI 0, q21.2)
noncomputable def F_MH_fits_2_L2 : Nat → Nat → Int32 → Sto → Int32 × Sto
  | 0, i23, z23, s23 => bnd ((s23.1 225 24).toNatClampNeg) fun z24 => bnd ((s23.1 225 23).toNatClampNeg) fun z25 => if (nI 75) < z23 then (nI 0, s23) else (nI 1, s23)
  | n23 + 1, i23, z23, s23 => bnd ((s23.1 225 24).toNatClampNeg) fun z26 => bnd (F_MH_turned_2 (309 + i23) 369 s23) fun s24 => F_MH_fits_2_L3 i23 (F_MH_fits_2_L2  n23) 256 0 z23 s24
noncomputable def F_MH_fits_2_L1 : Nat → Nat → Sto → Int32 × Sto
  | 0, i22, s22 => bnd ((s22.1 225 24).toNatClampNeg) fun z22 => F_MH_fits_2_L2 8 0 (nI 0) s22
  | n22 + 1, i22, s22 => bnd ((s22.1 225 24).toNatClampNeg) fun z31 => bnd (F_MH_turned_2 (300 + i22) 369 s22) fun s28 => F_MH_fits_2_L4 i22 (F_MH_fits_2_L1  n22) 256 0 s28
noncomputable def F_MH_fits_2_L0 : Nat → Nat → Sto → Int32 × Sto
  | 0, i21, s21 => bnd ((s21.1 225 25).toNatClampNeg) fun z21 => F_MH_fits_2_L1 8 0 s21
  | n21 + 1, i21, s21 => bnd ((s21.1 225 25).toNatClampNeg) fun z34 => bnd (F_MH_turned_2 (292 + i21) 369 s21) fun s31 => F_MH_fits_2_L5 i21 (F_MH_fits_2_L0  n21) 256 0 s31
noncomputable def F_MH_fits_2 (s : Sto) : Int32 × Sto := F_MH_fits_2_L0 7 0 s
set_option maxHeartbeats 8000000 in
set_option maxRecDepth 100000 in
theorem N_MH_fits_2 (l : Launch) (g : Gd) (sz : Nat) (T : TyN) (s : Sto) (pl : va_W) (hO : okn g T s pl) (hU : inj T) (h0 : Nat) (k_h0 : T h0 = some 225) (e_c0 : s.1 225 23 = nI 2) (e_c1 : s.1 225 24 = nI 8) (e_c2 : s.1 225 25 = nI 7) (e_c3 : s.1 225 26 = nI 2) (e_c4 : s.1 225 27 = nI 524288) (e_c5 : s.1 225 28 = nI 261888) (e_c6 : s.1 225 29 = nI 120) (e_c7 : s.1 225 30 = nI 64)  : Met l y_MH_fits w_MH_fits ({ frames := 1, cells := 0, slots := 0, locals := 60 } : Room) (va_Pc [.ref h0] (pr (en g) g.1 vcl sz ([] ++ pl))) (va_Qi (fun (r : Int32) (u : (Int32 × Sto) × va_W) => (u.1 = F_MH_fits_2 s ∧ r = u.1.1 ∧ frm (M_MH_fits_2) s u.1.2 ∧ True) ∧ okn g T u.1.2 u.2) (po g.1 vcl (va_A ([] ++ pl) sz) (fun (u : (Int32 × Sto) × va_W) => [] ++ u.2)) (va_A ([] ++ pl) sz)) 0 0 (va_A ([] ++ pl) sz) := by
  refine mc_entry (cc := c_MH_fits) (maxL := 4) (ret := (some .boolean)) (by decide) rfl (Nat.le_of_ble_eq_true rfl) ?_
  intro p e s0 m args below meth c ls F hr hlk hnm hsz hP hD hE hA hl
  obtain ⟨hx, hb, hml, hown, hts⟩ := id F
  have hK := hE.1
  generalize va_A ([] ++ pl) sz = A at hD hE hA ⊢
  have hS : va_S A s0.heap s0.heap [] := va_S.rf
  have hl : lv_has ls 4 [(0, .ref h0)] := hl
  have hR : F_MH_fits_2 s = F_MH_fits_2 s := rfl
  have hF : frm (M_MH_fits_2) s s := frm_rf
  refine lv_iconst (v := nI 0) hx hb dMH_fits_0 (by decide) ?_
  refine lv_istore_n (lv' := [(1, .int (nI 0)), (0, .ref h0)]) hx hb dMH_fits_1 rfl hl (by decide) rfl (fun ls hl => ?_)
  have lp21 : ∀ (n21 : Nat) (i21 : Nat) (s21 : Sto) (pl : va_W) (ls : Array Slot) (H : Heap) (locs : List Loc), n21 + i21 = 7 → frm (M_MH_fits_2) s s21 → s21.1 225 23 = nI 2 → s21.1 225 24 = nI 8 → s21.1 225 25 = nI 7 → s21.1 225 26 = nI 2 → s21.1 225 27 = nI 524288 → s21.1 225 28 = nI 261888 → s21.1 225 29 = nI 120 → s21.1 225 30 = nI 64 → F_MH_fits_2 s = F_MH_fits_2_L0 n21 i21 s21 → lv_has ls 4 [(1, .int (nI i21)), (0, .ref h0)] → okn g T s21 pl → va_P g.1 vcl ([] ++ pl) H → va_D A ([] ++ pl) → va_S A s0.heap H locs → W p l e ({ frames := 1, cells := 0, slots := 0, locals := 60 } : Room) s0 m args below meth c H locs 0 0 (MQ below (va_Qi (fun (r : Int32) (u : (Int32 × Sto) × va_W) => (u.1 = F_MH_fits_2 s ∧ r = u.1.1 ∧ frm (M_MH_fits_2) s u.1.2 ∧ True) ∧ okn g T u.1.2 u.2) (po g.1 vcl A (fun (u : (Int32 × Sto) × va_W) => [] ++ u.2)) A) args s0 0 0 A) (F0 m 2 ls []) := by
    intro n21
    induction n21 with
    | zero =>
      intro i21 s21 pl ls H locs hm21 hF hf21 hf22 hf23 hf24 hf25 hf26 hf27 hf28 hR hl hO hP hD hS
      refine lv_iload_n hx hb dMH_fits_2 rfl (lv_at hl 0 rfl) ?_
      refine lv_aload_n hx hb dMH_fits_3 rfl (lv_at hl 1 rfl) ?_
      refine nw_get (C := "LatticeKeysModel$Hands") (TT := T_MH) (N := 31) hx hb hts (wg_ft i_MH) hown hK hO k_h0 (kn := 225) (ci := 12) (fl := [(3, 172), (3, 181), (3, 226), (3, 291), (3, 299), (3, 308), (3, 317), (3, 326), (3, 334), (3, 342), (3, 350), (3, 359), (3, 368), (3, 369), (3, 370), (3, 371), (3, 372), (3, 373), (3, 374), (3, 375), (3, 376), (3, 377), (3, 378), (0, 0), (0, 0), (0, 0), (0, 0), (0, 0), (0, 0), (0, 0), (0, 0)]) rfl hP rfl 25 (by decide) (hts _ (wg_t kw_1457)) (fun _ h9 => h9) (cd := (0, 0)) rfl dMH_fits_4 (fun v21 hv21 => ?_)
      obtain rfl := (show v21 = .int (s21.1 225 25) from hv21)
      obtain ⟨z21, ez21, hz21, hz22⟩ := cl_of (b := 2147483648) hf23 (by omega) (by decide)
      replace hR := bnd_step hR ez21
      refine mi_as hz21 ?_
      subst hz22
      refine mi_ge (tgt := 96) hx hb dMH_fits_7 (by decide) (by omega) (by omega) (fun h21 => ?_) (fun h21 => absurd h21 (by omega))
      refine lv_iconst (v := nI 0) hx hb dMH_fits_96 (by decide) ?_
      refine lv_istore_n (lv' := [(1, .int (nI 0)), (0, .ref h0)]) hx hb dMH_fits_97 rfl hl (by decide) rfl (fun ls hl => ?_)
      have lp22 : ∀ (n22 : Nat) (i22 : Nat) (s22 : Sto) (pl : va_W) (ls : Array Slot) (H : Heap) (locs : List Loc), n22 + i22 = 8 → frm (M_MH_fits_2) s s22 → s22.1 225 23 = nI 2 → s22.1 225 24 = nI 8 → s22.1 225 25 = nI 7 → s22.1 225 26 = nI 2 → s22.1 225 27 = nI 524288 → s22.1 225 28 = nI 261888 → s22.1 225 29 = nI 120 → s22.1 225 30 = nI 64 → F_MH_fits_2 s = F_MH_fits_2_L1 n22 i22 s22 → lv_has ls 4 [(1, .int (nI i22)), (0, .ref h0)] → okn g T s22 pl → va_P g.1 vcl ([] ++ pl) H → va_D A ([] ++ pl) → va_S A s0.heap H locs → W p l e ({ frames := 1, cells := 0, slots := 0, locals := 60 } : Room) s0 m args below meth c H locs 0 0 (MQ below (va_Qi (fun (r : Int32) (u : (Int32 × Sto) × va_W) => (u.1 = F_MH_fits_2 s ∧ r = u.1.1 ∧ frm (M_MH_fits_2) s u.1.2 ∧ True) ∧ okn g T u.1.2 u.2) (po g.1 vcl A (fun (u : (Int32 × Sto) × va_W) => [] ++ u.2)) A) args s0 0 0 A) (F0 m 98 ls []) := by
        intro n22
        induction n22 with
        | zero =>
          intro i22 s22 pl ls H locs hm22 hF hf29 hf30 hf31 hf32 hf33 hf34 hf35 hf36 hR hl hO hP hD hS
          refine lv_iload_n hx hb dMH_fits_98 rfl (lv_at hl 0 rfl) ?_
          refine lv_aload_n hx hb dMH_fits_99 rfl (lv_at hl 1 rfl) ?_
          refine nw_get (C := "LatticeKeysModel$Hands") (TT := T_MH) (N := 31) hx hb hts (wg_ft i_MH) hown hK hO k_h0 (kn := 225) (ci := 12) (fl := [(3, 172), (3, 181), (3, 226), (3, 291), (3, 299), (3, 308), (3, 317), (3, 326), (3, 334), (3, 342), (3, 350), (3, 359), (3, 368), (3, 369), (3, 370), (3, 371), (3, 372), (3, 373), (3, 374), (3, 375), (3, 376), (3, 377), (3, 378), (0, 0), (0, 0), (0, 0), (0, 0), (0, 0), (0, 0), (0, 0), (0, 0)]) rfl hP rfl 24 (by decide) (hts _ (wg_t kw_1456)) (fun _ h9 => h9) (cd := (0, 0)) rfl dMH_fits_100 (fun v22 hv22 => ?_)
          obtain rfl := (show v22 = .int (s22.1 225 24) from hv22)
          obtain ⟨z22, ez22, hz23, hz24⟩ := cl_of (b := 2147483648) hf30 (by omega) (by decide)
          replace hR := bnd_step hR ez22
          refine mi_as hz23 ?_
          subst hz24
          refine mi_ge (tgt := 195) hx hb dMH_fits_103 (by decide) (by omega) (by omega) (fun h22 => ?_) (fun h22 => absurd h22 (by omega))
          refine lv_iconst (v := nI 0) hx hb dMH_fits_195 (by decide) ?_
          refine lv_istore_n (lv' := [(1, .int (nI 0)), (0, .ref h0)]) hx hb dMH_fits_196 rfl hl (by decide) rfl (fun ls hl => ?_)
          refine lv_iconst (v := nI 0) hx hb dMH_fits_197 (by decide) ?_
          refine lv_istore_n (lv' := [(2, .int (nI 0)), (1, .int (nI 0)), (0, .ref h0)]) hx hb dMH_fits_198 rfl hl (by decide) rfl (fun ls hl => ?_)
          have lp23 : ∀ (n23 : Nat) (i23 : Nat) (z23 : Int32) (s23 : Sto) (pl : va_W) (ls : Array Slot) (H : Heap) (locs : List Loc), n23 + i23 = 8 → frm (M_MH_fits_2) s s23 → s23.1 225 23 = nI 2 → s23.1 225 24 = nI 8 → s23.1 225 25 = nI 7 → s23.1 225 26 = nI 2 → s23.1 225 27 = nI 524288 → s23.1 225 28 = nI 261888 → s23.1 225 29 = nI 120 → s23.1 225 30 = nI 64 → F_MH_fits_2 s = F_MH_fits_2_L2 n23 i23 z23 s23 → lv_has ls 4 [(2, .int (nI i23)), (1, .int z23), (0, .ref h0)] → okn g T s23 pl → va_P g.1 vcl ([] ++ pl) H → va_D A ([] ++ pl) → va_S A s0.heap H locs → W p l e ({ frames := 1, cells := 0, slots := 0, locals := 60 } : Room) s0 m args below meth c H locs 0 0 (MQ below (va_Qi (fun (r : Int32) (u : (Int32 × Sto) × va_W) => (u.1 = F_MH_fits_2 s ∧ r = u.1.1 ∧ frm (M_MH_fits_2) s u.1.2 ∧ True) ∧ okn g T u.1.2 u.2) (po g.1 vcl A (fun (u : (Int32 × Sto) × va_W) => [] ++ u.2)) A) args s0 0 0 A) (F0 m 199 ls []) := by
            intro n23
            induction n23 with
            | zero =>
              intro i23 z23 s23 pl ls H locs hm23 hF hf37 hf38 hf39 hf40 hf41 hf42 hf43 hf44 hR hl hO hP hD hS
              refine lv_iload_n hx hb dMH_fits_199 rfl (lv_at hl 0 rfl) ?_
              refine lv_aload_n hx hb dMH_fits_200 rfl (lv_at hl 2 rfl) ?_
              refine nw_get (C := "LatticeKeysModel$Hands") (TT := T_MH) (N := 31) hx hb hts (wg_ft i_MH) hown hK hO k_h0 (kn := 225) (ci := 12) (fl := [(3, 172), (3, 181), (3, 226), (3, 291), (3, 299), (3, 308), (3, 317), (3, 326), (3, 334), (3, 342), (3, 350), (3, 359), (3, 368), (3, 369), (3, 370), (3, 371), (3, 372), (3, 373), (3, 374), (3, 375), (3, 376), (3, 377), (3, 378), (0, 0), (0, 0), (0, 0), (0, 0), (0, 0), (0, 0), (0, 0), (0, 0)]) rfl hP rfl 24 (by decide) (hts _ (wg_t kw_1456)) (fun _ h9 => h9) (cd := (0, 0)) rfl dMH_fits_201 (fun v23 hv23 => ?_)
              obtain rfl := (show v23 = .int (s23.1 225 24) from hv23)
              obtain ⟨z24, ez23, hz25, hz26⟩ := cl_of (b := 2147483648) hf38 (by omega) (by decide)
              replace hR := bnd_step hR ez23
              refine mi_as hz25 ?_
              subst hz26
              refine mi_ge (tgt := 321) hx hb dMH_fits_204 (by decide) (by omega) (by omega) (fun h23 => ?_) (fun h23 => absurd h23 (by omega))
              refine lv_iload_n hx hb dMH_fits_321 rfl (lv_at hl 1 rfl) ?_
              refine va_gets hx hb (hE.2.1 27 _ rfl).1 hS hown (hts _ (wg_t kw_1912)) (fun _ h9 => h9) dMH_fits_322 ?_
              refine lv_aload_n hx hb dMH_fits_325 rfl (lv_at hl 2 rfl) ?_
              refine nw_get (C := "LatticeKeysModel$Hands") (TT := T_MH) (N := 31) hx hb hts (wg_ft i_MH) hown hK hO k_h0 (kn := 225) (ci := 12) (fl := [(3, 172), (3, 181), (3, 226), (3, 291), (3, 299), (3, 308), (3, 317), (3, 326), (3, 334), (3, 342), (3, 350), (3, 359), (3, 368), (3, 369), (3, 370), (3, 371), (3, 372), (3, 373), (3, 374), (3, 375), (3, 376), (3, 377), (3, 378), (0, 0), (0, 0), (0, 0), (0, 0), (0, 0), (0, 0), (0, 0), (0, 0)]) rfl hP rfl 23 (by decide) (hts _ (wg_t kw_1455)) (fun _ h9 => h9) (cd := (0, 0)) rfl dMH_fits_326 (fun v24 hv24 => ?_)
              obtain rfl := (show v24 = .int (s23.1 225 23) from hv24)
              obtain ⟨z25, ez24, hz27, hz28⟩ := cl_of (b := 2147483648) hf37 (by omega) (by decide)
              replace hR := bnd_step hR ez24
              refine mi_as hz27 ?_
              subst hz28
              refine va_ti (v := .int (nI 75)) hx hb (hE.2.1 27 _ rfl).2 hS (vp_in_nI (by decide) (by decide)) (by decide +kernel) dMH_fits_329 ?_
              refine lv_icmp_gt (tgt := 337) hx hb dMH_fits_330 (by decide) (fun h24 => ?_) (fun h24 => ?_)
              · replace hR := hR.trans (if_pos h24)
                refine lv_iconst (v := nI 0) hx hb dMH_fits_337 (by decide) ?_
                exact mp_zret hx hb hr hlk rfl hP hD hS ((nI 0, s23), pl) ⟨⟨hR.symm, rfl, hF, trivial⟩, hO⟩ [] rfl rfl rfl (by omega) (by omega) dMH_fits_338
              · replace hR := hR.trans (if_neg h24)
                refine lv_iconst (v := nI 1) hx hb dMH_fits_333 (by decide) ?_
                refine lv_goto (tgt := 338) hx hb dMH_fits_334 (by decide) ?_
                exact mp_zret hx hb hr hlk rfl hP hD hS ((nI 1, s23), pl) ⟨⟨hR.symm, rfl, hF, trivial⟩, hO⟩ [] rfl rfl rfl (by omega) (by omega) dMH_fits_338
            | succ n23 ih23 =>
              intro i23 z23 s23 pl ls H locs hm23 hF hf45 hf46 hf47 hf48 hf49 hf50 hf51 hf52 hR hl hO hP hD hS
              refine lv_iload_n hx hb dMH_fits_199 rfl (lv_at hl 0 rfl) ?_
              refine lv_aload_n hx hb dMH_fits_200 rfl (lv_at hl 2 rfl) ?_
              refine nw_get (C := "LatticeKeysModel$Hands") (TT := T_MH) (N := 31) hx hb hts (wg_ft i_MH) hown hK hO k_h0 (kn := 225) (ci := 12) (fl := [(3, 172), (3, 181), (3, 226), (3, 291), (3, 299), (3, 308), (3, 317), (3, 326), (3, 334), (3, 342), (3, 350), (3, 359), (3, 368), (3, 369), (3, 370), (3, 371), (3, 372), (3, 373), (3, 374), (3, 375), (3, 376), (3, 377), (3, 378), (0, 0), (0, 0), (0, 0), (0, 0), (0, 0), (0, 0), (0, 0), (0, 0)]) rfl hP rfl 24 (by decide) (hts _ (wg_t kw_1456)) (fun _ h9 => h9) (cd := (0, 0)) rfl dMH_fits_201 (fun v25 hv25 => ?_)
              obtain rfl := (show v25 = .int (s23.1 225 24) from hv25)
              obtain ⟨z26, ez25, hz29, hz30⟩ := cl_of (b := 2147483648) hf46 (by omega) (by decide)
              replace hR := bnd_step hR ez25
              refine mi_as hz29 ?_
              subst hz30
              refine mi_ge (tgt := 321) hx hb dMH_fits_204 (by decide) (by omega) (by omega) (fun h25 => absurd h25 (by omega)) (fun h25 => ?_)
              refine lv_aload_n hx hb dMH_fits_207 rfl (lv_at hl 2 rfl) ?_
              refine lv_aload_n hx hb dMH_fits_208 rfl (lv_at hl 2 rfl) ?_
              refine nw_get (C := "LatticeKeysModel$Hands") (TT := T_MH) (N := 31) hx hb hts (wg_ft i_MH) hown hK hO k_h0 (kn := 225) (ci := 12) (fl := [(3, 172), (3, 181), (3, 226), (3, 291), (3, 299), (3, 308), (3, 317), (3, 326), (3, 334), (3, 342), (3, 350), (3, 359), (3, 368), (3, 369), (3, 370), (3, 371), (3, 372), (3, 373), (3, 374), (3, 375), (3, 376), (3, 377), (3, 378), (0, 0), (0, 0), (0, 0), (0, 0), (0, 0), (0, 0), (0, 0), (0, 0)]) rfl hP rfl 5 (by decide) (hts _ (wg_t kw_1437)) (fun _ h9 => h9) (cd := (3, 308)) rfl dMH_fits_209 (fun v26 hv26 => ?_)
              obtain ⟨r21, rfl, kr21⟩ := (show ∃ r : Nat, v26 = .ref r ∧ T r = some 308 from hv26)
              refine lv_iload_n hx hb dMH_fits_212 rfl (lv_at hl 0 rfl) ?_
              refine nw_aald3 hx hb hK hO kr21 (k := 308) (b := 309) rfl hP (by omega) (by omega) dMH_fits_213 (fun r22 kr22 => ?_)
              have hn21 : nsp (309 + i23) = (0, 256, []) := rows_ok 309 8 (by decide) _ (by omega)
              refine lv_aload_n hx hb dMH_fits_214 rfl (lv_at hl 2 rfl) ?_
              refine nw_get (C := "LatticeKeysModel$Hands") (TT := T_MH) (N := 31) hx hb hts (wg_ft i_MH) hown hK hO k_h0 (kn := 225) (ci := 12) (fl := [(3, 172), (3, 181), (3, 226), (3, 291), (3, 299), (3, 308), (3, 317), (3, 326), (3, 334), (3, 342), (3, 350), (3, 359), (3, 368), (3, 369), (3, 370), (3, 371), (3, 372), (3, 373), (3, 374), (3, 375), (3, 376), (3, 377), (3, 378), (0, 0), (0, 0), (0, 0), (0, 0), (0, 0), (0, 0), (0, 0), (0, 0)]) rfl hP rfl 13 (by decide) (hts _ (wg_t kw_1445)) (fun _ h9 => h9) (cd := (3, 369)) rfl dMH_fits_215 (fun v27 hv27 => ?_)
              obtain ⟨r23, rfl, kr23⟩ := (show ∃ r : Nat, v27 = .ref r ∧ T r = some 369 from hv27)
              refine mp_v (cx := []) (wr := []) hP hD hS hA [] [] rfl rfl rfl (by decide) (va_runV (As := [.ref r22, .ref r23]) (rest := []) F (N_MH_turned_2 l g _ T s23 pl hO hU h0 r22 r23 (309 + i23) 369 k_h0 kr22 hn21 kr23 rfl hf45 hf46 hf47 hf48 hf49 hf50 hf51 hf52) (cwV 2 hts (wg_app (wg_c kw_1901 (wg_c kw_1903 (wg_c ks_79 (wg_c kw_13 wg_n)))) kw_1904) rfl rfl rfl (by decide +kernel) ⟨by decide, by decide⟩) (pn_W "LatticeKeysModel$Hands" (en_ok g) (ci := 12) (kn := 225) (fl := [(3, 172), (3, 181), (3, 226), (3, 291), (3, 299), (3, 308), (3, 317), (3, 326), (3, 334), (3, 342), (3, 350), (3, 359), (3, 368), (3, 369), (3, 370), (3, 371), (3, 372), (3, 373), (3, 374), (3, 375), (3, 376), (3, 377), (3, 378), (0, 0), (0, 0), (0, 0), (0, 0), (0, 0), (0, 0), (0, 0), (0, 0)]) hK hO k_h0 rfl hP hD hS hA hE [] rfl rfl rfl) rfl rfl hl.1 rfl (lv_room (Nat.le_of_ble_eq_true rfl)) dMH_fits_218 ⟨by omega, by omega⟩) (fun  u21 H locs hu21 hP hD hS => ?_)
              obtain ⟨s24, pl⟩ := u21
              obtain ⟨⟨eq21, hFc21, -⟩, hO⟩ := hu21
              have hO : okn g T s24 pl := hO
              have hP : va_P g.1 vcl ([] ++ pl) _ := hP
              have hD : va_D _ ([] ++ pl) := hD
              have hFc21 : frm (M_MH_turned_2 369) s23 s24 := hFc21
              replace hR := bnd_step hR eq21
              have hF := frm_tr hF hFc21 (fun k hk => by unfold M_MH_turned_2 at hk; unfold M_MH_fits_2; omega)
              have hf53 : s24.1 225 23 = nI 2 := fc_F hf45 hFc21 (by unfold M_MH_turned_2; omega)
              have hf54 : s24.1 225 24 = nI 8 := fc_F hf46 hFc21 (by unfold M_MH_turned_2; omega)
              have hf55 : s24.1 225 25 = nI 7 := fc_F hf47 hFc21 (by unfold M_MH_turned_2; omega)
              have hf56 : s24.1 225 26 = nI 2 := fc_F hf48 hFc21 (by unfold M_MH_turned_2; omega)
              have hf57 : s24.1 225 27 = nI 524288 := fc_F hf49 hFc21 (by unfold M_MH_turned_2; omega)
              have hf58 : s24.1 225 28 = nI 261888 := fc_F hf50 hFc21 (by unfold M_MH_turned_2; omega)
              have hf59 : s24.1 225 29 = nI 120 := fc_F hf51 hFc21 (by unfold M_MH_turned_2; omega)
              have hf60 : s24.1 225 30 = nI 64 := fc_F hf52 hFc21 (by unfold M_MH_turned_2; omega)
              refine W.widen (k := 0) (n := 0) (by omega) (by omega) ?_
              refine lv_iconst (v := nI 0) hx hb dMH_fits_221 (by decide) ?_
              refine lv_istore_n (lv' := [(3, .int (nI 0)), (2, .int (nI i23)), (1, .int z23), (0, .ref h0)]) hx hb dMH_fits_222 rfl hl (by decide) rfl (fun ls hl => ?_)
              have lp24 : ∀ (n24 : Nat) (i24 : Nat) (z27 : Int32) (s25 : Sto) (pl : va_W) (ls : Array Slot) (H : Heap) (locs : List Loc), n24 + i24 = 256 → frm (M_MH_fits_2) s s25 → s25.1 225 23 = nI 2 → s25.1 225 24 = nI 8 → s25.1 225 25 = nI 7 → s25.1 225 26 = nI 2 → s25.1 225 27 = nI 524288 → s25.1 225 28 = nI 261888 → s25.1 225 29 = nI 120 → s25.1 225 30 = nI 64 → F_MH_fits_2 s = F_MH_fits_2_L3 i23 (F_MH_fits_2_L2 n23) n24 i24 z27 s25 → lv_has ls 4 [(3, .int (nI i24)), (2, .int (nI i23)), (1, .int z27), (0, .ref h0)] → okn g T s25 pl → va_P g.1 vcl ([] ++ pl) H → va_D A ([] ++ pl) → va_S A s0.heap H locs → W p l e ({ frames := 1, cells := 0, slots := 0, locals := 60 } : Room) s0 m args below meth c H locs 0 0 (MQ below (va_Qi (fun (r : Int32) (u : (Int32 × Sto) × va_W) => (u.1 = F_MH_fits_2 s ∧ r = u.1.1 ∧ frm (M_MH_fits_2) s u.1.2 ∧ True) ∧ okn g T u.1.2 u.2) (po g.1 vcl A (fun (u : (Int32 × Sto) × va_W) => [] ++ u.2)) A) args s0 0 0 A) (F0 m 223 ls []) := by
                intro n24
                induction n24 with
                | zero =>
                  intro i24 z27 s25 pl ls H locs hm24 hF hf61 hf62 hf63 hf64 hf65 hf66 hf67 hf68 hR hl hO hP hD hS
                  refine lv_iload_n hx hb dMH_fits_223 rfl (lv_at hl 0 rfl) ?_
                  refine lv_sipush (v := nI 256) hx hb dMH_fits_224 (by decide) ?_
                  refine mi_ge (tgt := 315) hx hb dMH_fits_227 (by decide) (by omega) (by omega) (fun h26 => ?_) (fun h26 => absurd h26 (by omega))
                  refine mi_iinc (k := 1) (x := i23) (d := 1) (y := i23 + 1) (lv' := [(2, .int (nI (i23 + 1))), (3, .int (nI i24)), (1, .int z27), (0, .ref h0)]) hx hb dMH_fits_315 hl rfl (by decide) rfl (by decide) rfl (fun ls hl => ?_)
                  refine lv_goto (tgt := 199) hx hb dMH_fits_318 (by decide) ?_
                  exact ih23 (i23 + 1) z27 s25 pl ls H locs (by omega) hF hf61 hf62 hf63 hf64 hf65 hf66 hf67 hf68 hR (lv_sub hl [0, 2, 3] rfl) hO hP hD hS
                | succ n24 ih24 =>
                  intro i24 z27 s25 pl ls H locs hm24 hF hf69 hf70 hf71 hf72 hf73 hf74 hf75 hf76 hR hl hO hP hD hS
                  refine lv_iload_n hx hb dMH_fits_223 rfl (lv_at hl 0 rfl) ?_
                  refine lv_sipush (v := nI 256) hx hb dMH_fits_224 (by decide) ?_
                  refine mi_ge (tgt := 315) hx hb dMH_fits_227 (by decide) (by omega) (by omega) (fun h27 => absurd h27 (by omega)) (fun h27 => ?_)
                  refine lv_aload_n hx hb dMH_fits_230 rfl (lv_at hl 3 rfl) ?_
                  refine nw_get (C := "LatticeKeysModel$Hands") (TT := T_MH) (N := 31) hx hb hts (wg_ft i_MH) hown hK hO k_h0 (kn := 225) (ci := 12) (fl := [(3, 172), (3, 181), (3, 226), (3, 291), (3, 299), (3, 308), (3, 317), (3, 326), (3, 334), (3, 342), (3, 350), (3, 359), (3, 368), (3, 369), (3, 370), (3, 371), (3, 372), (3, 373), (3, 374), (3, 375), (3, 376), (3, 377), (3, 378), (0, 0), (0, 0), (0, 0), (0, 0), (0, 0), (0, 0), (0, 0), (0, 0)]) rfl hP rfl 13 (by decide) (hts _ (wg_t kw_1445)) (fun _ h9 => h9) (cd := (3, 369)) rfl dMH_fits_231 (fun v28 hv28 => ?_)
                  obtain ⟨r24, rfl, kr24⟩ := (show ∃ r : Nat, v28 = .ref r ∧ T r = some 369 from hv28)
                  refine lv_iload_n hx hb dMH_fits_234 rfl (lv_at hl 0 rfl) ?_
                  refine nw_iald hx hb hK hO kr24 (k := 369) rfl hP (by omega) (by omega) dMH_fits_235 ?_
                  refine mp_i (cx := []) (wr := []) hP hD hS hA [] [] rfl rfl rfl (by decide) (va_runS (As := [.int ((s25.1 369 i24))]) (rest := []) F (N_MH_norm l g _ T s25 pl hO hU (s25.1 369 i24)) (va_cwS 1 hts (wg_app (wg_c kw_1905 (wg_c kw_1906 (wg_c kw_13 wg_n))) kw_1907) rfl rfl rfl (by decide +kernel) ⟨by decide, by decide⟩) (pp_S (en_ok g) hP hD hS hA hE [] rfl rfl) rfl rfl hl.1 rfl (lv_room (Nat.le_of_ble_eq_true rfl)) dMH_fits_236 ⟨by omega, by omega⟩) (fun r25 u22 H locs hu22 hP hD hS => ?_)
                  obtain ⟨q21, pl⟩ := u22
                  obtain ⟨⟨eq22, rfl, hFc22, -⟩, hO⟩ := hu22
                  have hO : okn g T q21.2 pl := hO
                  have hP : va_P g.1 vcl ([] ++ pl) _ := hP
                  have hD : va_D _ ([] ++ pl) := hD
                  have hFc22 : frm (M_MH_norm) s25 q21.2 := hFc22
                  replace hR := bnd_step hR eq22
                  have hF := frm_tr hF hFc22 (fun k hk => by unfold M_MH_norm at hk; unfold M_MH_fits_2; omega)
                  have hf77 : q21.2.1 225 23 = nI 2 := fc_F hf69 hFc22 (by unfold M_MH_norm; omega)
                  have hf78 : q21.2.1 225 24 = nI 8 := fc_F hf70 hFc22 (by unfold M_MH_norm; omega)
                  have hf79 : q21.2.1 225 25 = nI 7 := fc_F hf71 hFc22 (by unfold M_MH_norm; omega)
                  have hf80 : q21.2.1 225 26 = nI 2 := fc_F hf72 hFc22 (by unfold M_MH_norm; omega)
                  have hf81 : q21.2.1 225 27 = nI 524288 := fc_F hf73 hFc22 (by unfold M_MH_norm; omega)
                  have hf82 : q21.2.1 225 28 = nI 261888 := fc_F hf74 hFc22 (by unfold M_MH_norm; omega)
                  have hf83 : q21.2.1 225 29 = nI 120 := fc_F hf75 hFc22 (by unfold M_MH_norm; omega)
                  have hf84 : q21.2.1 225 30 = nI 64 := fc_F hf76 hFc22 (by unfold M_MH_norm; omega)
                  refine W.widen (k := 0) (n := 0) (by omega) (by omega) ?_
                  refine lv_aload_n hx hb dMH_fits_239 rfl (lv_at hl 3 rfl) ?_
                  refine nw_get (C := "LatticeKeysModel$Hands") (TT := T_MH) (N := 31) hx hb hts (wg_ft i_MH) hown hK hO k_h0 (kn := 225) (ci := 12) (fl := [(3, 172), (3, 181), (3, 226), (3, 291), (3, 299), (3, 308), (3, 317), (3, 326), (3, 334), (3, 342), (3, 350), (3, 359), (3, 368), (3, 369), (3, 370), (3, 371), (3, 372), (3, 373), (3, 374), (3, 375), (3, 376), (3, 377), (3, 378), (0, 0), (0, 0), (0, 0), (0, 0), (0, 0), (0, 0), (0, 0), (0, 0)]) rfl hP rfl 28 (by decide) (hts _ (wg_t kw_1460)) (fun _ h9 => h9) (cd := (0, 0)) rfl dMH_fits_240 (fun v29 hv29 => ?_)
                  obtain rfl := (show v29 = .int (q21.2.1 225 28) from hv29)
                  obtain ⟨z28, ez26, hz31, hz32⟩ := cl_of (b := 2147483648) hf82 (by omega) (by decide)
                  replace hR := bnd_step hR ez26
                  refine mi_as hz31 ?_
                  subst hz32
                  refine lv_icmp_lt (tgt := 248) hx hb dMH_fits_243 (by decide) (fun h28 => ?_) (fun h28 => ?_)
                  · replace hR := hR.trans (if_pos h28)
                    refine lv_aload_n hx hb dMH_fits_248 rfl (lv_at hl 3 rfl) ?_
                    refine nw_get (C := "LatticeKeysModel$Hands") (TT := T_MH) (N := 31) hx hb hts (wg_ft i_MH) hown hK hO k_h0 (kn := 225) (ci := 12) (fl := [(3, 172), (3, 181), (3, 226), (3, 291), (3, 299), (3, 308), (3, 317), (3, 326), (3, 334), (3, 342), (3, 350), (3, 359), (3, 368), (3, 369), (3, 370), (3, 371), (3, 372), (3, 373), (3, 374), (3, 375), (3, 376), (3, 377), (3, 378), (0, 0), (0, 0), (0, 0), (0, 0), (0, 0), (0, 0), (0, 0), (0, 0)]) rfl hP rfl 11 (by decide) (hts _ (wg_t kw_1443)) (fun _ h9 => h9) (cd := (3, 359)) rfl dMH_fits_249 (fun v30 hv30 => ?_)
                    obtain ⟨r26, rfl, kr25⟩ := (show ∃ r : Nat, v30 = .ref r ∧ T r = some 359 from hv30)
                    refine lv_iload_n hx hb dMH_fits_252 rfl (lv_at hl 1 rfl) ?_
                    refine nw_aald3 hx hb hK hO kr25 (k := 359) (b := 360) rfl hP (by omega) (by omega) dMH_fits_253 (fun r27 kr26 => ?_)
                    have hn22 : nsp (360 + i23) = (0, 256, []) := rows_ok 360 8 (by decide) _ (by omega)
                    refine lv_iload_n hx hb dMH_fits_254 rfl (lv_at hl 0 rfl) ?_
                    refine lv_aload_n hx hb dMH_fits_255 rfl (lv_at hl 3 rfl) ?_
                    refine lv_aload_n hx hb dMH_fits_256 rfl (lv_at hl 3 rfl) ?_
                    refine nw_get (C := "LatticeKeysModel$Hands") (TT := T_MH) (N := 31) hx hb hts (wg_ft i_MH) hown hK hO k_h0 (kn := 225) (ci := 12) (fl := [(3, 172), (3, 181), (3, 226), (3, 291), (3, 299), (3, 308), (3, 317), (3, 326), (3, 334), (3, 342), (3, 350), (3, 359), (3, 368), (3, 369), (3, 370), (3, 371), (3, 372), (3, 373), (3, 374), (3, 375), (3, 376), (3, 377), (3, 378), (0, 0), (0, 0), (0, 0), (0, 0), (0, 0), (0, 0), (0, 0), (0, 0)]) rfl hP rfl 10 (by decide) (hts _ (wg_t kw_1442)) (fun _ h9 => h9) (cd := (3, 350)) rfl dMH_fits_257 (fun v31 hv31 => ?_)
                    obtain ⟨r28, rfl, kr27⟩ := (show ∃ r : Nat, v31 = .ref r ∧ T r = some 350 from hv31)
                    refine lv_iload_n hx hb dMH_fits_260 rfl (lv_at hl 1 rfl) ?_
                    refine nw_aald3 hx hb hK hO kr27 (k := 350) (b := 351) rfl hP (by omega) (by omega) dMH_fits_261 (fun r29 kr28 => ?_)
                    have hn23 : nsp (351 + i23) = (0, 256, []) := rows_ok 351 8 (by decide) _ (by omega)
                    refine lv_iload_n hx hb dMH_fits_262 rfl (lv_at hl 0 rfl) ?_
                    refine nw_iald hx hb hK hO kr28 (k := (351 + i23)) hn23 hP (by omega) (by omega) dMH_fits_263 ?_
                    refine lv_aload_n hx hb dMH_fits_264 rfl (lv_at hl 3 rfl) ?_
                    refine nw_get (C := "LatticeKeysModel$Hands") (TT := T_MH) (N := 31) hx hb hts (wg_ft i_MH) hown hK hO k_h0 (kn := 225) (ci := 12) (fl := [(3, 172), (3, 181), (3, 226), (3, 291), (3, 299), (3, 308), (3, 317), (3, 326), (3, 334), (3, 342), (3, 350), (3, 359), (3, 368), (3, 369), (3, 370), (3, 371), (3, 372), (3, 373), (3, 374), (3, 375), (3, 376), (3, 377), (3, 378), (0, 0), (0, 0), (0, 0), (0, 0), (0, 0), (0, 0), (0, 0), (0, 0)]) rfl hP rfl 13 (by decide) (hts _ (wg_t kw_1445)) (fun _ h9 => h9) (cd := (3, 369)) rfl dMH_fits_265 (fun v32 hv32 => ?_)
                    obtain ⟨r30, rfl, kr29⟩ := (show ∃ r : Nat, v32 = .ref r ∧ T r = some 369 from hv32)
                    refine lv_iload_n hx hb dMH_fits_268 rfl (lv_at hl 0 rfl) ?_
                    refine nw_iald hx hb hK hO kr29 (k := 369) rfl hP (by omega) (by omega) dMH_fits_269 ?_
                    refine lv_iadd hx hb dMH_fits_270 ?_
                    refine lv_ldc (v := 8380417) hx hb hown (hts _ (wg_t kw_1429)) dMH_fits_271 ?_
                    refine mi_as (show (8380417 : Int32) = nI 8380417 by decide) ?_
                    refine lv_irem hx hb dMH_fits_273 (nI_ne0 (by omega) (by omega)) ?_
                    refine mp_i (cx := []) (wr := []) hP hD hS hA [] [] rfl rfl rfl (by decide) (va_runV (As := [.int ((((q21.2.1 ((351 + i23)) i24) + (q21.2.1 369 i24)) - ((q21.2.1 ((351 + i23)) i24) + (q21.2.1 369 i24)) / (nI 8380417) * (nI 8380417)))]) (rest := [.int (nI i24), .ref r27]) F (N_MH_high_2 l g _ T q21.2 pl hO hU h0 (((q21.2.1 ((351 + i23)) i24) + (q21.2.1 369 i24)) - ((q21.2.1 ((351 + i23)) i24) + (q21.2.1 369 i24)) / (nI 8380417) * (nI 8380417)) k_h0 hf77 hf78 hf79 hf80 hf81 hf82 hf83 hf84) (cwV 1 hts (wg_app (wg_c kw_1885 (wg_c kw_1887 (wg_c ks_75 (wg_c kw_13 wg_n)))) kw_1888) rfl rfl rfl (by decide +kernel) ⟨by decide, by decide⟩) (pn_W "LatticeKeysModel$Hands" (en_ok g) (ci := 12) (kn := 225) (fl := [(3, 172), (3, 181), (3, 226), (3, 291), (3, 299), (3, 308), (3, 317), (3, 326), (3, 334), (3, 342), (3, 350), (3, 359), (3, 368), (3, 369), (3, 370), (3, 371), (3, 372), (3, 373), (3, 374), (3, 375), (3, 376), (3, 377), (3, 378), (0, 0), (0, 0), (0, 0), (0, 0), (0, 0), (0, 0), (0, 0), (0, 0)]) hK hO k_h0 rfl hP hD hS hA hE [] rfl rfl rfl) rfl rfl hl.1 rfl (lv_room (Nat.le_of_ble_eq_true rfl)) dMH_fits_274 ⟨by omega, by omega⟩) (fun r31 u23 H locs hu23 hP hD hS => ?_)
                    obtain ⟨q22, pl⟩ := u23
                    obtain ⟨⟨eq23, rfl, hFc23, -⟩, hO⟩ := hu23
                    have hO : okn g T q22.2 pl := hO
                    have hP : va_P g.1 vcl ([] ++ pl) _ := hP
                    have hD : va_D _ ([] ++ pl) := hD
                    have hFc23 : frm (M_MH_high_2) q21.2 q22.2 := hFc23
                    replace hR := bnd_step hR eq23
                    have hF := frm_tr hF hFc23 (fun k hk => by unfold M_MH_high_2 at hk; unfold M_MH_fits_2; omega)
                    have hf85 : q22.2.1 225 23 = nI 2 := fc_F hf77 hFc23 (by unfold M_MH_high_2; omega)
                    have hf86 : q22.2.1 225 24 = nI 8 := fc_F hf78 hFc23 (by unfold M_MH_high_2; omega)
                    have hf87 : q22.2.1 225 25 = nI 7 := fc_F hf79 hFc23 (by unfold M_MH_high_2; omega)
                    have hf88 : q22.2.1 225 26 = nI 2 := fc_F hf80 hFc23 (by unfold M_MH_high_2; omega)
                    have hf89 : q22.2.1 225 27 = nI 524288 := fc_F hf81 hFc23 (by unfold M_MH_high_2; omega)
                    have hf90 : q22.2.1 225 28 = nI 261888 := fc_F hf82 hFc23 (by unfold M_MH_high_2; omega)
                    have hf91 : q22.2.1 225 29 = nI 120 := fc_F hf83 hFc23 (by unfold M_MH_high_2; omega)
                    have hf92 : q22.2.1 225 30 = nI 64 := fc_F hf84 hFc23 (by unfold M_MH_high_2; omega)
                    refine W.widen (k := 0) (n := 0) (by omega) (by omega) ?_
                    refine lv_aload_n hx hb dMH_fits_277 rfl (lv_at hl 3 rfl) ?_
                    refine lv_aload_n hx hb dMH_fits_278 rfl (lv_at hl 3 rfl) ?_
                    refine nw_get (C := "LatticeKeysModel$Hands") (TT := T_MH) (N := 31) hx hb hts (wg_ft i_MH) hown hK hO k_h0 (kn := 225) (ci := 12) (fl := [(3, 172), (3, 181), (3, 226), (3, 291), (3, 299), (3, 308), (3, 317), (3, 326), (3, 334), (3, 342), (3, 350), (3, 359), (3, 368), (3, 369), (3, 370), (3, 371), (3, 372), (3, 373), (3, 374), (3, 375), (3, 376), (3, 377), (3, 378), (0, 0), (0, 0), (0, 0), (0, 0), (0, 0), (0, 0), (0, 0), (0, 0)]) rfl hP rfl 10 (by decide) (hts _ (wg_t kw_1442)) (fun _ h9 => h9) (cd := (3, 350)) rfl dMH_fits_279 (fun v33 hv33 => ?_)
                    obtain ⟨r32, rfl, kr30⟩ := (show ∃ r : Nat, v33 = .ref r ∧ T r = some 350 from hv33)
                    refine lv_iload_n hx hb dMH_fits_282 rfl (lv_at hl 1 rfl) ?_
                    refine nw_aald3 hx hb hK hO kr30 (k := 350) (b := 351) rfl hP (by omega) (by omega) dMH_fits_283 (fun r33 kr31 => ?_)
                    have hn24 : nsp (351 + i23) = (0, 256, []) := rows_ok 351 8 (by decide) _ (by omega)
                    refine lv_iload_n hx hb dMH_fits_284 rfl (lv_at hl 0 rfl) ?_
                    refine nw_iald hx hb hK hO kr31 (k := (351 + i23)) hn24 hP (by omega) (by omega) dMH_fits_285 ?_
                    refine mp_i (cx := []) (wr := []) hP hD hS hA [] [] rfl rfl rfl (by decide) (va_runV (As := [.int ((q22.2.1 ((351 + i23)) i24))]) (rest := [.int q22.1, .int (nI i24), .ref r27]) F (N_MH_high_2 l g _ T q22.2 pl hO hU h0 (q22.2.1 ((351 + i23)) i24) k_h0 hf85 hf86 hf87 hf88 hf89 hf90 hf91 hf92) (cwV 1 hts (wg_app (wg_c kw_1885 (wg_c kw_1887 (wg_c ks_75 (wg_c kw_13 wg_n)))) kw_1888) rfl rfl rfl (by decide +kernel) ⟨by decide, by decide⟩) (pn_W "LatticeKeysModel$Hands" (en_ok g) (ci := 12) (kn := 225) (fl := [(3, 172), (3, 181), (3, 226), (3, 291), (3, 299), (3, 308), (3, 317), (3, 326), (3, 334), (3, 342), (3, 350), (3, 359), (3, 368), (3, 369), (3, 370), (3, 371), (3, 372), (3, 373), (3, 374), (3, 375), (3, 376), (3, 377), (3, 378), (0, 0), (0, 0), (0, 0), (0, 0), (0, 0), (0, 0), (0, 0), (0, 0)]) hK hO k_h0 rfl hP hD hS hA hE [] rfl rfl rfl) rfl rfl hl.1 rfl (lv_room (Nat.le_of_ble_eq_true rfl)) dMH_fits_286 ⟨by omega, by omega⟩) (fun r34 u24 H locs hu24 hP hD hS => ?_)
                    obtain ⟨q23, pl⟩ := u24
                    obtain ⟨⟨eq24, rfl, hFc24, -⟩, hO⟩ := hu24
                    have hO : okn g T q23.2 pl := hO
                    have hP : va_P g.1 vcl ([] ++ pl) _ := hP
                    have hD : va_D _ ([] ++ pl) := hD
                    have hFc24 : frm (M_MH_high_2) q22.2 q23.2 := hFc24
                    replace hR := bnd_step hR eq24
                    have hF := frm_tr hF hFc24 (fun k hk => by unfold M_MH_high_2 at hk; unfold M_MH_fits_2; omega)
                    have hf93 : q23.2.1 225 23 = nI 2 := fc_F hf85 hFc24 (by unfold M_MH_high_2; omega)
                    have hf94 : q23.2.1 225 24 = nI 8 := fc_F hf86 hFc24 (by unfold M_MH_high_2; omega)
                    have hf95 : q23.2.1 225 25 = nI 7 := fc_F hf87 hFc24 (by unfold M_MH_high_2; omega)
                    have hf96 : q23.2.1 225 26 = nI 2 := fc_F hf88 hFc24 (by unfold M_MH_high_2; omega)
                    have hf97 : q23.2.1 225 27 = nI 524288 := fc_F hf89 hFc24 (by unfold M_MH_high_2; omega)
                    have hf98 : q23.2.1 225 28 = nI 261888 := fc_F hf90 hFc24 (by unfold M_MH_high_2; omega)
                    have hf99 : q23.2.1 225 29 = nI 120 := fc_F hf91 hFc24 (by unfold M_MH_high_2; omega)
                    have hf100 : q23.2.1 225 30 = nI 64 := fc_F hf92 hFc24 (by unfold M_MH_high_2; omega)
                    refine W.widen (k := 0) (n := 0) (by omega) (by omega) ?_
                    refine lv_icmp_ne (tgt := 296) hx hb dMH_fits_289 (by decide) (fun h29 => ?_) (fun h29 => ?_)
                    · replace hR := hR.trans (if_neg h29)
                      refine lv_iconst (v := nI 1) hx hb dMH_fits_296 (by decide) ?_
                      refine nw_iast hx hb hK hO hU kr26 (k := (360 + i23)) hn22 hP hD hS (by omega) (by omega) dMH_fits_297 (fun s26 pl H locs es21 hO hP hD hS => ?_)
                      replace hR := bnd_step hR es21
                      have hF := frm_sI hF es21 (by unfold M_MH_fits_2; omega)
                      have hf101 : s26.1 225 23 = nI 2 := fc_ne hf93 es21 (by omega)
                      have hf102 : s26.1 225 24 = nI 8 := fc_ne hf94 es21 (by omega)
                      have hf103 : s26.1 225 25 = nI 7 := fc_ne hf95 es21 (by omega)
                      have hf104 : s26.1 225 26 = nI 2 := fc_ne hf96 es21 (by omega)
                      have hf105 : s26.1 225 27 = nI 524288 := fc_ne hf97 es21 (by omega)
                      have hf106 : s26.1 225 28 = nI 261888 := fc_ne hf98 es21 (by omega)
                      have hf107 : s26.1 225 29 = nI 120 := fc_ne hf99 es21 (by omega)
                      have hf108 : s26.1 225 30 = nI 64 := fc_ne hf100 es21 (by omega)
                      refine lv_iload_n hx hb dMH_fits_298 rfl (lv_at hl 2 rfl) ?_
                      refine lv_aload_n hx hb dMH_fits_299 rfl (lv_at hl 3 rfl) ?_
                      refine nw_get (C := "LatticeKeysModel$Hands") (TT := T_MH) (N := 31) hx hb hts (wg_ft i_MH) hown hK hO k_h0 (kn := 225) (ci := 12) (fl := [(3, 172), (3, 181), (3, 226), (3, 291), (3, 299), (3, 308), (3, 317), (3, 326), (3, 334), (3, 342), (3, 350), (3, 359), (3, 368), (3, 369), (3, 370), (3, 371), (3, 372), (3, 373), (3, 374), (3, 375), (3, 376), (3, 377), (3, 378), (0, 0), (0, 0), (0, 0), (0, 0), (0, 0), (0, 0), (0, 0), (0, 0)]) rfl hP rfl 11 (by decide) (hts _ (wg_t kw_1443)) (fun _ h9 => h9) (cd := (3, 359)) rfl dMH_fits_300 (fun v34 hv34 => ?_)
                      obtain ⟨r35, rfl, kr32⟩ := (show ∃ r : Nat, v34 = .ref r ∧ T r = some 359 from hv34)
                      refine lv_iload_n hx hb dMH_fits_303 rfl (lv_at hl 1 rfl) ?_
                      refine nw_aald3 hx hb hK hO kr32 (k := 359) (b := 360) rfl hP (by omega) (by omega) dMH_fits_304 (fun r36 kr33 => ?_)
                      have hn25 : nsp (360 + i23) = (0, 256, []) := rows_ok 360 8 (by decide) _ (by omega)
                      refine lv_iload_n hx hb dMH_fits_305 rfl (lv_at hl 0 rfl) ?_
                      refine nw_iald hx hb hK hO kr33 (k := (360 + i23)) hn25 hP (by omega) (by omega) dMH_fits_306 ?_
                      refine lv_iadd hx hb dMH_fits_307 ?_
                      refine mi_eqv (fun z29 ez27 => ?_)
                      replace hR := bnd_step hR ez27
                      refine lv_istore_n (lv' := [(1, .int z29), (3, .int (nI i24)), (2, .int (nI i23)), (0, .ref h0)]) hx hb dMH_fits_308 rfl hl (by decide) rfl (fun ls hl => ?_)
                      refine mi_iinc (k := 1) (x := i24) (d := 1) (y := i24 + 1) (lv' := [(3, .int (nI (i24 + 1))), (1, .int z29), (2, .int (nI i23)), (0, .ref h0)]) hx hb dMH_fits_309 hl rfl (by decide) rfl (by decide) rfl (fun ls hl => ?_)
                      refine lv_goto (tgt := 223) hx hb dMH_fits_312 (by decide) ?_
                      exact ih24 (i24 + 1) z29 s26 pl ls H locs (by omega) hF hf101 hf102 hf103 hf104 hf105 hf106 hf107 hf108 hR (lv_sub hl [0, 2, 1, 3] rfl) hO hP hD hS
                    · replace hR := hR.trans (if_pos h29)
                      refine lv_iconst (v := nI 0) hx hb dMH_fits_292 (by decide) ?_
                      refine lv_goto (tgt := 297) hx hb dMH_fits_293 (by decide) ?_
                      refine nw_iast hx hb hK hO hU kr26 (k := (360 + i23)) hn22 hP hD hS (by omega) (by omega) dMH_fits_297 (fun s27 pl H locs es22 hO hP hD hS => ?_)
                      replace hR := bnd_step hR es22
                      have hF := frm_sI hF es22 (by unfold M_MH_fits_2; omega)
                      have hf109 : s27.1 225 23 = nI 2 := fc_ne hf93 es22 (by omega)
                      have hf110 : s27.1 225 24 = nI 8 := fc_ne hf94 es22 (by omega)
                      have hf111 : s27.1 225 25 = nI 7 := fc_ne hf95 es22 (by omega)
                      have hf112 : s27.1 225 26 = nI 2 := fc_ne hf96 es22 (by omega)
                      have hf113 : s27.1 225 27 = nI 524288 := fc_ne hf97 es22 (by omega)
                      have hf114 : s27.1 225 28 = nI 261888 := fc_ne hf98 es22 (by omega)
                      have hf115 : s27.1 225 29 = nI 120 := fc_ne hf99 es22 (by omega)
                      have hf116 : s27.1 225 30 = nI 64 := fc_ne hf100 es22 (by omega)
                      refine lv_iload_n hx hb dMH_fits_298 rfl (lv_at hl 2 rfl) ?_
                      refine lv_aload_n hx hb dMH_fits_299 rfl (lv_at hl 3 rfl) ?_
                      refine nw_get (C := "LatticeKeysModel$Hands") (TT := T_MH) (N := 31) hx hb hts (wg_ft i_MH) hown hK hO k_h0 (kn := 225) (ci := 12) (fl := [(3, 172), (3, 181), (3, 226), (3, 291), (3, 299), (3, 308), (3, 317), (3, 326), (3, 334), (3, 342), (3, 350), (3, 359), (3, 368), (3, 369), (3, 370), (3, 371), (3, 372), (3, 373), (3, 374), (3, 375), (3, 376), (3, 377), (3, 378), (0, 0), (0, 0), (0, 0), (0, 0), (0, 0), (0, 0), (0, 0), (0, 0)]) rfl hP rfl 11 (by decide) (hts _ (wg_t kw_1443)) (fun _ h9 => h9) (cd := (3, 359)) rfl dMH_fits_300 (fun v35 hv35 => ?_)
                      obtain ⟨r37, rfl, kr34⟩ := (show ∃ r : Nat, v35 = .ref r ∧ T r = some 359 from hv35)
                      refine lv_iload_n hx hb dMH_fits_303 rfl (lv_at hl 1 rfl) ?_
                      refine nw_aald3 hx hb hK hO kr34 (k := 359) (b := 360) rfl hP (by omega) (by omega) dMH_fits_304 (fun r38 kr35 => ?_)
                      have hn26 : nsp (360 + i23) = (0, 256, []) := rows_ok 360 8 (by decide) _ (by omega)
                      refine lv_iload_n hx hb dMH_fits_305 rfl (lv_at hl 0 rfl) ?_
                      refine nw_iald hx hb hK hO kr35 (k := (360 + i23)) hn26 hP (by omega) (by omega) dMH_fits_306 ?_
                      refine lv_iadd hx hb dMH_fits_307 ?_
                      refine mi_eqv (fun z30 ez28 => ?_)
                      replace hR := bnd_step hR ez28
                      refine lv_istore_n (lv' := [(1, .int z30), (3, .int (nI i24)), (2, .int (nI i23)), (0, .ref h0)]) hx hb dMH_fits_308 rfl hl (by decide) rfl (fun ls hl => ?_)
                      refine mi_iinc (k := 1) (x := i24) (d := 1) (y := i24 + 1) (lv' := [(3, .int (nI (i24 + 1))), (1, .int z30), (2, .int (nI i23)), (0, .ref h0)]) hx hb dMH_fits_309 hl rfl (by decide) rfl (by decide) rfl (fun ls hl => ?_)
                      refine lv_goto (tgt := 223) hx hb dMH_fits_312 (by decide) ?_
                      exact ih24 (i24 + 1) z30 s27 pl ls H locs (by omega) hF hf109 hf110 hf111 hf112 hf113 hf114 hf115 hf116 hR (lv_sub hl [0, 2, 1, 3] rfl) hO hP hD hS
                  · replace hR := hR.trans (if_neg h28)
                    refine lv_iconst (v := nI 0) hx hb dMH_fits_246 (by decide) ?_
                    exact mp_zret hx hb hr hlk rfl hP hD hS ((nI 0, q21.2), pl) ⟨⟨hR.symm, rfl, hF, trivial⟩, hO⟩ [] rfl rfl rfl (by omega) (by omega) dMH_fits_247
              exact lp24 256 0 z23 s24 pl ls _ _ (by omega) hF hf53 hf54 hf55 hf56 hf57 hf58 hf59 hf60 hR (lv_sub hl [0, 1, 2, 3] rfl) hO hP hD hS
          exact lp23 8 0 (nI 0) s22 pl ls _ _ (by omega) hF hf29 hf30 hf31 hf32 hf33 hf34 hf35 hf36 hR (lv_sub hl [0, 1, 2] rfl) hO hP hD hS
        | succ n22 ih22 =>
          intro i22 s22 pl ls H locs hm22 hF hf117 hf118 hf119 hf120 hf121 hf122 hf123 hf124 hR hl hO hP hD hS
          refine lv_iload_n hx hb dMH_fits_98 rfl (lv_at hl 0 rfl) ?_
          refine lv_aload_n hx hb dMH_fits_99 rfl (lv_at hl 1 rfl) ?_
          refine nw_get (C := "LatticeKeysModel$Hands") (TT := T_MH) (N := 31) hx hb hts (wg_ft i_MH) hown hK hO k_h0 (kn := 225) (ci := 12) (fl := [(3, 172), (3, 181), (3, 226), (3, 291), (3, 299), (3, 308), (3, 317), (3, 326), (3, 334), (3, 342), (3, 350), (3, 359), (3, 368), (3, 369), (3, 370), (3, 371), (3, 372), (3, 373), (3, 374), (3, 375), (3, 376), (3, 377), (3, 378), (0, 0), (0, 0), (0, 0), (0, 0), (0, 0), (0, 0), (0, 0), (0, 0)]) rfl hP rfl 24 (by decide) (hts _ (wg_t kw_1456)) (fun _ h9 => h9) (cd := (0, 0)) rfl dMH_fits_100 (fun v36 hv36 => ?_)
          obtain rfl := (show v36 = .int (s22.1 225 24) from hv36)
          obtain ⟨z31, ez29, hz33, hz34⟩ := cl_of (b := 2147483648) hf118 (by omega) (by decide)
          replace hR := bnd_step hR ez29
          refine mi_as hz33 ?_
          subst hz34
          refine mi_ge (tgt := 195) hx hb dMH_fits_103 (by decide) (by omega) (by omega) (fun h30 => absurd h30 (by omega)) (fun h30 => ?_)
          refine lv_aload_n hx hb dMH_fits_106 rfl (lv_at hl 1 rfl) ?_
          refine lv_aload_n hx hb dMH_fits_107 rfl (lv_at hl 1 rfl) ?_
          refine nw_get (C := "LatticeKeysModel$Hands") (TT := T_MH) (N := 31) hx hb hts (wg_ft i_MH) hown hK hO k_h0 (kn := 225) (ci := 12) (fl := [(3, 172), (3, 181), (3, 226), (3, 291), (3, 299), (3, 308), (3, 317), (3, 326), (3, 334), (3, 342), (3, 350), (3, 359), (3, 368), (3, 369), (3, 370), (3, 371), (3, 372), (3, 373), (3, 374), (3, 375), (3, 376), (3, 377), (3, 378), (0, 0), (0, 0), (0, 0), (0, 0), (0, 0), (0, 0), (0, 0), (0, 0)]) rfl hP rfl 4 (by decide) (hts _ (wg_t kw_1436)) (fun _ h9 => h9) (cd := (3, 299)) rfl dMH_fits_108 (fun v37 hv37 => ?_)
          obtain ⟨r39, rfl, kr36⟩ := (show ∃ r : Nat, v37 = .ref r ∧ T r = some 299 from hv37)
          refine lv_iload_n hx hb dMH_fits_111 rfl (lv_at hl 0 rfl) ?_
          refine nw_aald3 hx hb hK hO kr36 (k := 299) (b := 300) rfl hP (by omega) (by omega) dMH_fits_112 (fun r40 kr37 => ?_)
          have hn27 : nsp (300 + i22) = (0, 256, []) := rows_ok 300 8 (by decide) _ (by omega)
          refine lv_aload_n hx hb dMH_fits_113 rfl (lv_at hl 1 rfl) ?_
          refine nw_get (C := "LatticeKeysModel$Hands") (TT := T_MH) (N := 31) hx hb hts (wg_ft i_MH) hown hK hO k_h0 (kn := 225) (ci := 12) (fl := [(3, 172), (3, 181), (3, 226), (3, 291), (3, 299), (3, 308), (3, 317), (3, 326), (3, 334), (3, 342), (3, 350), (3, 359), (3, 368), (3, 369), (3, 370), (3, 371), (3, 372), (3, 373), (3, 374), (3, 375), (3, 376), (3, 377), (3, 378), (0, 0), (0, 0), (0, 0), (0, 0), (0, 0), (0, 0), (0, 0), (0, 0)]) rfl hP rfl 13 (by decide) (hts _ (wg_t kw_1445)) (fun _ h9 => h9) (cd := (3, 369)) rfl dMH_fits_114 (fun v38 hv38 => ?_)
          obtain ⟨r41, rfl, kr38⟩ := (show ∃ r : Nat, v38 = .ref r ∧ T r = some 369 from hv38)
          refine mp_v (cx := []) (wr := []) hP hD hS hA [] [] rfl rfl rfl (by decide) (va_runV (As := [.ref r40, .ref r41]) (rest := []) F (N_MH_turned_2 l g _ T s22 pl hO hU h0 r40 r41 (300 + i22) 369 k_h0 kr37 hn27 kr38 rfl hf117 hf118 hf119 hf120 hf121 hf122 hf123 hf124) (cwV 2 hts (wg_app (wg_c kw_1901 (wg_c kw_1903 (wg_c ks_79 (wg_c kw_13 wg_n)))) kw_1904) rfl rfl rfl (by decide +kernel) ⟨by decide, by decide⟩) (pn_W "LatticeKeysModel$Hands" (en_ok g) (ci := 12) (kn := 225) (fl := [(3, 172), (3, 181), (3, 226), (3, 291), (3, 299), (3, 308), (3, 317), (3, 326), (3, 334), (3, 342), (3, 350), (3, 359), (3, 368), (3, 369), (3, 370), (3, 371), (3, 372), (3, 373), (3, 374), (3, 375), (3, 376), (3, 377), (3, 378), (0, 0), (0, 0), (0, 0), (0, 0), (0, 0), (0, 0), (0, 0), (0, 0)]) hK hO k_h0 rfl hP hD hS hA hE [] rfl rfl rfl) rfl rfl hl.1 rfl (lv_room (Nat.le_of_ble_eq_true rfl)) dMH_fits_117 ⟨by omega, by omega⟩) (fun  u25 H locs hu25 hP hD hS => ?_)
          obtain ⟨s28, pl⟩ := u25
          obtain ⟨⟨eq25, hFc25, -⟩, hO⟩ := hu25
          have hO : okn g T s28 pl := hO
          have hP : va_P g.1 vcl ([] ++ pl) _ := hP
          have hD : va_D _ ([] ++ pl) := hD
          have hFc25 : frm (M_MH_turned_2 369) s22 s28 := hFc25
          replace hR := bnd_step hR eq25
          have hF := frm_tr hF hFc25 (fun k hk => by unfold M_MH_turned_2 at hk; unfold M_MH_fits_2; omega)
          have hf125 : s28.1 225 23 = nI 2 := fc_F hf117 hFc25 (by unfold M_MH_turned_2; omega)
          have hf126 : s28.1 225 24 = nI 8 := fc_F hf118 hFc25 (by unfold M_MH_turned_2; omega)
          have hf127 : s28.1 225 25 = nI 7 := fc_F hf119 hFc25 (by unfold M_MH_turned_2; omega)
          have hf128 : s28.1 225 26 = nI 2 := fc_F hf120 hFc25 (by unfold M_MH_turned_2; omega)
          have hf129 : s28.1 225 27 = nI 524288 := fc_F hf121 hFc25 (by unfold M_MH_turned_2; omega)
          have hf130 : s28.1 225 28 = nI 261888 := fc_F hf122 hFc25 (by unfold M_MH_turned_2; omega)
          have hf131 : s28.1 225 29 = nI 120 := fc_F hf123 hFc25 (by unfold M_MH_turned_2; omega)
          have hf132 : s28.1 225 30 = nI 64 := fc_F hf124 hFc25 (by unfold M_MH_turned_2; omega)
          refine W.widen (k := 0) (n := 0) (by omega) (by omega) ?_
          refine lv_iconst (v := nI 0) hx hb dMH_fits_120 (by decide) ?_
          refine lv_istore_n (lv' := [(2, .int (nI 0)), (1, .int (nI i22)), (0, .ref h0)]) hx hb dMH_fits_121 rfl hl (by decide) rfl (fun ls hl => ?_)
          have lp25 : ∀ (n25 : Nat) (i25 : Nat) (s29 : Sto) (pl : va_W) (ls : Array Slot) (H : Heap) (locs : List Loc), n25 + i25 = 256 → frm (M_MH_fits_2) s s29 → s29.1 225 23 = nI 2 → s29.1 225 24 = nI 8 → s29.1 225 25 = nI 7 → s29.1 225 26 = nI 2 → s29.1 225 27 = nI 524288 → s29.1 225 28 = nI 261888 → s29.1 225 29 = nI 120 → s29.1 225 30 = nI 64 → F_MH_fits_2 s = F_MH_fits_2_L4 i22 (F_MH_fits_2_L1 n22) n25 i25 s29 → lv_has ls 4 [(2, .int (nI i25)), (1, .int (nI i22)), (0, .ref h0)] → okn g T s29 pl → va_P g.1 vcl ([] ++ pl) H → va_D A ([] ++ pl) → va_S A s0.heap H locs → W p l e ({ frames := 1, cells := 0, slots := 0, locals := 60 } : Room) s0 m args below meth c H locs 0 0 (MQ below (va_Qi (fun (r : Int32) (u : (Int32 × Sto) × va_W) => (u.1 = F_MH_fits_2 s ∧ r = u.1.1 ∧ frm (M_MH_fits_2) s u.1.2 ∧ True) ∧ okn g T u.1.2 u.2) (po g.1 vcl A (fun (u : (Int32 × Sto) × va_W) => [] ++ u.2)) A) args s0 0 0 A) (F0 m 122 ls []) := by
            intro n25
            induction n25 with
            | zero =>
              intro i25 s29 pl ls H locs hm25 hF hf133 hf134 hf135 hf136 hf137 hf138 hf139 hf140 hR hl hO hP hD hS
              refine lv_iload_n hx hb dMH_fits_122 rfl (lv_at hl 0 rfl) ?_
              refine lv_sipush (v := nI 256) hx hb dMH_fits_123 (by decide) ?_
              refine mi_ge (tgt := 189) hx hb dMH_fits_126 (by decide) (by omega) (by omega) (fun h31 => ?_) (fun h31 => absurd h31 (by omega))
              refine mi_iinc (k := 1) (x := i22) (d := 1) (y := i22 + 1) (lv' := [(1, .int (nI (i22 + 1))), (2, .int (nI i25)), (0, .ref h0)]) hx hb dMH_fits_189 hl rfl (by decide) rfl (by decide) rfl (fun ls hl => ?_)
              refine lv_goto (tgt := 98) hx hb dMH_fits_192 (by decide) ?_
              exact ih22 (i22 + 1) s29 pl ls H locs (by omega) hF hf133 hf134 hf135 hf136 hf137 hf138 hf139 hf140 hR (lv_sub hl [0, 2] rfl) hO hP hD hS
            | succ n25 ih25 =>
              intro i25 s29 pl ls H locs hm25 hF hf141 hf142 hf143 hf144 hf145 hf146 hf147 hf148 hR hl hO hP hD hS
              refine lv_iload_n hx hb dMH_fits_122 rfl (lv_at hl 0 rfl) ?_
              refine lv_sipush (v := nI 256) hx hb dMH_fits_123 (by decide) ?_
              refine mi_ge (tgt := 189) hx hb dMH_fits_126 (by decide) (by omega) (by omega) (fun h32 => absurd h32 (by omega)) (fun h32 => ?_)
              refine lv_aload_n hx hb dMH_fits_129 rfl (lv_at hl 2 rfl) ?_
              refine nw_get (C := "LatticeKeysModel$Hands") (TT := T_MH) (N := 31) hx hb hts (wg_ft i_MH) hown hK hO k_h0 (kn := 225) (ci := 12) (fl := [(3, 172), (3, 181), (3, 226), (3, 291), (3, 299), (3, 308), (3, 317), (3, 326), (3, 334), (3, 342), (3, 350), (3, 359), (3, 368), (3, 369), (3, 370), (3, 371), (3, 372), (3, 373), (3, 374), (3, 375), (3, 376), (3, 377), (3, 378), (0, 0), (0, 0), (0, 0), (0, 0), (0, 0), (0, 0), (0, 0), (0, 0)]) rfl hP rfl 10 (by decide) (hts _ (wg_t kw_1442)) (fun _ h9 => h9) (cd := (3, 350)) rfl dMH_fits_130 (fun v39 hv39 => ?_)
              obtain ⟨r42, rfl, kr39⟩ := (show ∃ r : Nat, v39 = .ref r ∧ T r = some 350 from hv39)
              refine lv_iload_n hx hb dMH_fits_133 rfl (lv_at hl 1 rfl) ?_
              refine nw_aald3 hx hb hK hO kr39 (k := 350) (b := 351) rfl hP (by omega) (by omega) dMH_fits_134 (fun r43 kr40 => ?_)
              have hn28 : nsp (351 + i22) = (0, 256, []) := rows_ok 351 8 (by decide) _ (by omega)
              refine lv_iload_n hx hb dMH_fits_135 rfl (lv_at hl 0 rfl) ?_
              refine lv_aload_n hx hb dMH_fits_136 rfl (lv_at hl 2 rfl) ?_
              refine nw_get (C := "LatticeKeysModel$Hands") (TT := T_MH) (N := 31) hx hb hts (wg_ft i_MH) hown hK hO k_h0 (kn := 225) (ci := 12) (fl := [(3, 172), (3, 181), (3, 226), (3, 291), (3, 299), (3, 308), (3, 317), (3, 326), (3, 334), (3, 342), (3, 350), (3, 359), (3, 368), (3, 369), (3, 370), (3, 371), (3, 372), (3, 373), (3, 374), (3, 375), (3, 376), (3, 377), (3, 378), (0, 0), (0, 0), (0, 0), (0, 0), (0, 0), (0, 0), (0, 0), (0, 0)]) rfl hP rfl 10 (by decide) (hts _ (wg_t kw_1442)) (fun _ h9 => h9) (cd := (3, 350)) rfl dMH_fits_137 (fun v40 hv40 => ?_)
              obtain ⟨r44, rfl, kr41⟩ := (show ∃ r : Nat, v40 = .ref r ∧ T r = some 350 from hv40)
              refine lv_iload_n hx hb dMH_fits_140 rfl (lv_at hl 1 rfl) ?_
              refine nw_aald3 hx hb hK hO kr41 (k := 350) (b := 351) rfl hP (by omega) (by omega) dMH_fits_141 (fun r45 kr42 => ?_)
              have hn29 : nsp (351 + i22) = (0, 256, []) := rows_ok 351 8 (by decide) _ (by omega)
              refine lv_iload_n hx hb dMH_fits_142 rfl (lv_at hl 0 rfl) ?_
              refine nw_iald hx hb hK hO kr42 (k := (351 + i22)) hn29 hP (by omega) (by omega) dMH_fits_143 ?_
              refine lv_aload_n hx hb dMH_fits_144 rfl (lv_at hl 2 rfl) ?_
              refine nw_get (C := "LatticeKeysModel$Hands") (TT := T_MH) (N := 31) hx hb hts (wg_ft i_MH) hown hK hO k_h0 (kn := 225) (ci := 12) (fl := [(3, 172), (3, 181), (3, 226), (3, 291), (3, 299), (3, 308), (3, 317), (3, 326), (3, 334), (3, 342), (3, 350), (3, 359), (3, 368), (3, 369), (3, 370), (3, 371), (3, 372), (3, 373), (3, 374), (3, 375), (3, 376), (3, 377), (3, 378), (0, 0), (0, 0), (0, 0), (0, 0), (0, 0), (0, 0), (0, 0), (0, 0)]) rfl hP rfl 13 (by decide) (hts _ (wg_t kw_1445)) (fun _ h9 => h9) (cd := (3, 369)) rfl dMH_fits_145 (fun v41 hv41 => ?_)
              obtain ⟨r46, rfl, kr43⟩ := (show ∃ r : Nat, v41 = .ref r ∧ T r = some 369 from hv41)
              refine lv_iload_n hx hb dMH_fits_148 rfl (lv_at hl 0 rfl) ?_
              refine nw_iald hx hb hK hO kr43 (k := 369) rfl hP (by omega) (by omega) dMH_fits_149 ?_
              refine mp_i (cx := []) (wr := []) hP hD hS hA [] [] rfl rfl rfl (by decide) (va_runS (As := [.int ((s29.1 ((351 + i22)) i25)), .int ((s29.1 369 i25))]) (rest := [.int (nI i25), .ref r43]) F (N_MH_minus l g _ T s29 pl hO hU (s29.1 ((351 + i22)) i25) (s29.1 369 i25)) (va_cwS 2 hts (wg_app (wg_c kw_1865 (wg_c kw_1866 (wg_c kw_13 wg_n))) kw_1867) rfl rfl rfl (by decide +kernel) ⟨by decide, by decide⟩) (pp_S (en_ok g) hP hD hS hA hE [] rfl rfl) rfl rfl hl.1 rfl (lv_room (Nat.le_of_ble_eq_true rfl)) dMH_fits_150 ⟨by omega, by omega⟩) (fun r47 u26 H locs hu26 hP hD hS => ?_)
              obtain ⟨q24, pl⟩ := u26
              obtain ⟨⟨eq26, rfl, hFc26, -⟩, hO⟩ := hu26
              have hO : okn g T q24.2 pl := hO
              have hP : va_P g.1 vcl ([] ++ pl) _ := hP
              have hD : va_D _ ([] ++ pl) := hD
              have hFc26 : frm (M_MH_minus) s29 q24.2 := hFc26
              replace hR := bnd_step hR eq26
              have hF := frm_tr hF hFc26 (fun k hk => by unfold M_MH_minus at hk; unfold M_MH_fits_2; omega)
              have hf149 : q24.2.1 225 23 = nI 2 := fc_F hf141 hFc26 (by unfold M_MH_minus; omega)
              have hf150 : q24.2.1 225 24 = nI 8 := fc_F hf142 hFc26 (by unfold M_MH_minus; omega)
              have hf151 : q24.2.1 225 25 = nI 7 := fc_F hf143 hFc26 (by unfold M_MH_minus; omega)
              have hf152 : q24.2.1 225 26 = nI 2 := fc_F hf144 hFc26 (by unfold M_MH_minus; omega)
              have hf153 : q24.2.1 225 27 = nI 524288 := fc_F hf145 hFc26 (by unfold M_MH_minus; omega)
              have hf154 : q24.2.1 225 28 = nI 261888 := fc_F hf146 hFc26 (by unfold M_MH_minus; omega)
              have hf155 : q24.2.1 225 29 = nI 120 := fc_F hf147 hFc26 (by unfold M_MH_minus; omega)
              have hf156 : q24.2.1 225 30 = nI 64 := fc_F hf148 hFc26 (by unfold M_MH_minus; omega)
              refine W.widen (k := 0) (n := 0) (by omega) (by omega) ?_
              refine nw_iast hx hb hK hO hU kr40 (k := (351 + i22)) hn28 hP hD hS (by omega) (by omega) dMH_fits_153 (fun s30 pl H locs es23 hO hP hD hS => ?_)
              replace hR := bnd_step hR es23
              have hF := frm_sI hF es23 (by unfold M_MH_fits_2; omega)
              have hf157 : s30.1 225 23 = nI 2 := fc_ne hf149 es23 (by omega)
              have hf158 : s30.1 225 24 = nI 8 := fc_ne hf150 es23 (by omega)
              have hf159 : s30.1 225 25 = nI 7 := fc_ne hf151 es23 (by omega)
              have hf160 : s30.1 225 26 = nI 2 := fc_ne hf152 es23 (by omega)
              have hf161 : s30.1 225 27 = nI 524288 := fc_ne hf153 es23 (by omega)
              have hf162 : s30.1 225 28 = nI 261888 := fc_ne hf154 es23 (by omega)
              have hf163 : s30.1 225 29 = nI 120 := fc_ne hf155 es23 (by omega)
              have hf164 : s30.1 225 30 = nI 64 := fc_ne hf156 es23 (by omega)
              refine lv_aload_n hx hb dMH_fits_154 rfl (lv_at hl 2 rfl) ?_
              refine lv_aload_n hx hb dMH_fits_155 rfl (lv_at hl 2 rfl) ?_
              refine nw_get (C := "LatticeKeysModel$Hands") (TT := T_MH) (N := 31) hx hb hts (wg_ft i_MH) hown hK hO k_h0 (kn := 225) (ci := 12) (fl := [(3, 172), (3, 181), (3, 226), (3, 291), (3, 299), (3, 308), (3, 317), (3, 326), (3, 334), (3, 342), (3, 350), (3, 359), (3, 368), (3, 369), (3, 370), (3, 371), (3, 372), (3, 373), (3, 374), (3, 375), (3, 376), (3, 377), (3, 378), (0, 0), (0, 0), (0, 0), (0, 0), (0, 0), (0, 0), (0, 0), (0, 0)]) rfl hP rfl 10 (by decide) (hts _ (wg_t kw_1442)) (fun _ h9 => h9) (cd := (3, 350)) rfl dMH_fits_156 (fun v42 hv42 => ?_)
              obtain ⟨r48, rfl, kr44⟩ := (show ∃ r : Nat, v42 = .ref r ∧ T r = some 350 from hv42)
              refine lv_iload_n hx hb dMH_fits_159 rfl (lv_at hl 1 rfl) ?_
              refine nw_aald3 hx hb hK hO kr44 (k := 350) (b := 351) rfl hP (by omega) (by omega) dMH_fits_160 (fun r49 kr45 => ?_)
              have hn30 : nsp (351 + i22) = (0, 256, []) := rows_ok 351 8 (by decide) _ (by omega)
              refine lv_iload_n hx hb dMH_fits_161 rfl (lv_at hl 0 rfl) ?_
              refine nw_iald hx hb hK hO kr45 (k := (351 + i22)) hn30 hP (by omega) (by omega) dMH_fits_162 ?_
              refine mp_i (cx := []) (wr := []) hP hD hS hA [] [] rfl rfl rfl (by decide) (va_runV (As := [.int ((s30.1 ((351 + i22)) i25))]) (rest := []) F (N_MH_low_2 l g _ T s30 pl hO hU h0 (s30.1 ((351 + i22)) i25) k_h0 hf157 hf158 hf159 hf160 hf161 hf162 hf163 hf164) (cwV 1 hts (wg_app (wg_c kw_1889 (wg_c kw_1891 (wg_c ks_76 (wg_c kw_13 wg_n)))) kw_1892) rfl rfl rfl (by decide +kernel) ⟨by decide, by decide⟩) (pn_W "LatticeKeysModel$Hands" (en_ok g) (ci := 12) (kn := 225) (fl := [(3, 172), (3, 181), (3, 226), (3, 291), (3, 299), (3, 308), (3, 317), (3, 326), (3, 334), (3, 342), (3, 350), (3, 359), (3, 368), (3, 369), (3, 370), (3, 371), (3, 372), (3, 373), (3, 374), (3, 375), (3, 376), (3, 377), (3, 378), (0, 0), (0, 0), (0, 0), (0, 0), (0, 0), (0, 0), (0, 0), (0, 0)]) hK hO k_h0 rfl hP hD hS hA hE [] rfl rfl rfl) rfl rfl hl.1 rfl (lv_room (Nat.le_of_ble_eq_true rfl)) dMH_fits_163 ⟨by omega, by omega⟩) (fun r50 u27 H locs hu27 hP hD hS => ?_)
              obtain ⟨q25, pl⟩ := u27
              obtain ⟨⟨eq27, rfl, hFc27, -⟩, hO⟩ := hu27
              have hO : okn g T q25.2 pl := hO
              have hP : va_P g.1 vcl ([] ++ pl) _ := hP
              have hD : va_D _ ([] ++ pl) := hD
              have hFc27 : frm (M_MH_low_2) s30 q25.2 := hFc27
              replace hR := bnd_step hR eq27
              have hF := frm_tr hF hFc27 (fun k hk => by unfold M_MH_low_2 at hk; unfold M_MH_fits_2; omega)
              have hf165 : q25.2.1 225 23 = nI 2 := fc_F hf157 hFc27 (by unfold M_MH_low_2; omega)
              have hf166 : q25.2.1 225 24 = nI 8 := fc_F hf158 hFc27 (by unfold M_MH_low_2; omega)
              have hf167 : q25.2.1 225 25 = nI 7 := fc_F hf159 hFc27 (by unfold M_MH_low_2; omega)
              have hf168 : q25.2.1 225 26 = nI 2 := fc_F hf160 hFc27 (by unfold M_MH_low_2; omega)
              have hf169 : q25.2.1 225 27 = nI 524288 := fc_F hf161 hFc27 (by unfold M_MH_low_2; omega)
              have hf170 : q25.2.1 225 28 = nI 261888 := fc_F hf162 hFc27 (by unfold M_MH_low_2; omega)
              have hf171 : q25.2.1 225 29 = nI 120 := fc_F hf163 hFc27 (by unfold M_MH_low_2; omega)
              have hf172 : q25.2.1 225 30 = nI 64 := fc_F hf164 hFc27 (by unfold M_MH_low_2; omega)
              refine W.widen (k := 0) (n := 0) (by omega) (by omega) ?_
              refine va_mabs (own := "LatticeKeysModel$Hands") (index := 221) hx hb (hml.trans hl.1.symm) hown (hts _ (wg_t kw_1909)) (hts _ (wg_t kw_1910)) (hts _ (wg_t kw_31)) (hts _ (wg_t kw_1911)) (Nat.le_of_ble_eq_true rfl) (Nat.le_of_ble_eq_true rfl) (by omega) (by omega) dMH_fits_166 ?_
              refine lv_aload_n hx hb dMH_fits_169 rfl (lv_at hl 2 rfl) ?_
              refine nw_get (C := "LatticeKeysModel$Hands") (TT := T_MH) (N := 31) hx hb hts (wg_ft i_MH) hown hK hO k_h0 (kn := 225) (ci := 12) (fl := [(3, 172), (3, 181), (3, 226), (3, 291), (3, 299), (3, 308), (3, 317), (3, 326), (3, 334), (3, 342), (3, 350), (3, 359), (3, 368), (3, 369), (3, 370), (3, 371), (3, 372), (3, 373), (3, 374), (3, 375), (3, 376), (3, 377), (3, 378), (0, 0), (0, 0), (0, 0), (0, 0), (0, 0), (0, 0), (0, 0), (0, 0)]) rfl hP rfl 28 (by decide) (hts _ (wg_t kw_1460)) (fun _ h9 => h9) (cd := (0, 0)) rfl dMH_fits_170 (fun v43 hv43 => ?_)
              obtain rfl := (show v43 = .int (q25.2.1 225 28) from hv43)
              obtain ⟨z32, ez30, hz35, hz36⟩ := cl_of (b := 2147483648) hf170 (by omega) (by decide)
              replace hR := bnd_step hR ez30
              refine mi_as hz35 ?_
              subst hz36
              refine lv_aload_n hx hb dMH_fits_173 rfl (lv_at hl 2 rfl) ?_
              refine nw_get (C := "LatticeKeysModel$Hands") (TT := T_MH) (N := 31) hx hb hts (wg_ft i_MH) hown hK hO k_h0 (kn := 225) (ci := 12) (fl := [(3, 172), (3, 181), (3, 226), (3, 291), (3, 299), (3, 308), (3, 317), (3, 326), (3, 334), (3, 342), (3, 350), (3, 359), (3, 368), (3, 369), (3, 370), (3, 371), (3, 372), (3, 373), (3, 374), (3, 375), (3, 376), (3, 377), (3, 378), (0, 0), (0, 0), (0, 0), (0, 0), (0, 0), (0, 0), (0, 0), (0, 0)]) rfl hP rfl 29 (by decide) (hts _ (wg_t kw_1461)) (fun _ h9 => h9) (cd := (0, 0)) rfl dMH_fits_174 (fun v44 hv44 => ?_)
              obtain rfl := (show v44 = .int (q25.2.1 225 29) from hv44)
              obtain ⟨z33, ez31, hz37, hz38⟩ := cl_of (b := 2147483648) hf171 (by omega) (by decide)
              replace hR := bnd_step hR ez31
              refine mi_as hz37 ?_
              subst hz38
              refine mi_isub hx hb dMH_fits_177 (by omega) ?_
              refine mi_as (show nI (261888 - 120) = nI 261768 from rfl) ?_
              refine lv_icmp_lt (tgt := 183) hx hb dMH_fits_178 (by decide) (fun h33 => ?_) (fun h33 => ?_)
              · replace hR := hR.trans (if_pos h33)
                refine mi_iinc (k := 0) (x := i25) (d := 1) (y := i25 + 1) (lv' := [(2, .int (nI (i25 + 1))), (1, .int (nI i22)), (0, .ref h0)]) hx hb dMH_fits_183 hl rfl (by decide) rfl (by decide) rfl (fun ls hl => ?_)
                refine lv_goto (tgt := 122) hx hb dMH_fits_186 (by decide) ?_
                exact ih25 (i25 + 1) q25.2 pl ls H locs (by omega) hF hf165 hf166 hf167 hf168 hf169 hf170 hf171 hf172 hR (lv_sub hl [0, 1, 2] rfl) hO hP hD hS
              · replace hR := hR.trans (if_neg h33)
                refine lv_iconst (v := nI 0) hx hb dMH_fits_181 (by decide) ?_
                exact mp_zret hx hb hr hlk rfl hP hD hS ((nI 0, q25.2), pl) ⟨⟨hR.symm, rfl, hF, trivial⟩, hO⟩ [] rfl rfl rfl (by omega) (by omega) dMH_fits_182
          exact lp25 256 0 s28 pl ls _ _ (by omega) hF hf125 hf126 hf127 hf128 hf129 hf130 hf131 hf132 hR (lv_sub hl [0, 1, 2] rfl) hO hP hD hS
      exact lp22 8 0 s21 pl ls _ _ (by omega) hF hf21 hf22 hf23 hf24 hf25 hf26 hf27 hf28 hR (lv_sub hl [0, 1] rfl) hO hP hD hS
    | succ n21 ih21 =>
      intro i21 s21 pl ls H locs hm21 hF hf173 hf174 hf175 hf176 hf177 hf178 hf179 hf180 hR hl hO hP hD hS
      refine lv_iload_n hx hb dMH_fits_2 rfl (lv_at hl 0 rfl) ?_
      refine lv_aload_n hx hb dMH_fits_3 rfl (lv_at hl 1 rfl) ?_
      refine nw_get (C := "LatticeKeysModel$Hands") (TT := T_MH) (N := 31) hx hb hts (wg_ft i_MH) hown hK hO k_h0 (kn := 225) (ci := 12) (fl := [(3, 172), (3, 181), (3, 226), (3, 291), (3, 299), (3, 308), (3, 317), (3, 326), (3, 334), (3, 342), (3, 350), (3, 359), (3, 368), (3, 369), (3, 370), (3, 371), (3, 372), (3, 373), (3, 374), (3, 375), (3, 376), (3, 377), (3, 378), (0, 0), (0, 0), (0, 0), (0, 0), (0, 0), (0, 0), (0, 0), (0, 0)]) rfl hP rfl 25 (by decide) (hts _ (wg_t kw_1457)) (fun _ h9 => h9) (cd := (0, 0)) rfl dMH_fits_4 (fun v45 hv45 => ?_)
      obtain rfl := (show v45 = .int (s21.1 225 25) from hv45)
      obtain ⟨z34, ez32, hz39, hz40⟩ := cl_of (b := 2147483648) hf175 (by omega) (by decide)
      replace hR := bnd_step hR ez32
      refine mi_as hz39 ?_
      subst hz40
      refine mi_ge (tgt := 96) hx hb dMH_fits_7 (by decide) (by omega) (by omega) (fun h34 => absurd h34 (by omega)) (fun h34 => ?_)
      refine lv_aload_n hx hb dMH_fits_10 rfl (lv_at hl 1 rfl) ?_
      refine lv_aload_n hx hb dMH_fits_11 rfl (lv_at hl 1 rfl) ?_
      refine nw_get (C := "LatticeKeysModel$Hands") (TT := T_MH) (N := 31) hx hb hts (wg_ft i_MH) hown hK hO k_h0 (kn := 225) (ci := 12) (fl := [(3, 172), (3, 181), (3, 226), (3, 291), (3, 299), (3, 308), (3, 317), (3, 326), (3, 334), (3, 342), (3, 350), (3, 359), (3, 368), (3, 369), (3, 370), (3, 371), (3, 372), (3, 373), (3, 374), (3, 375), (3, 376), (3, 377), (3, 378), (0, 0), (0, 0), (0, 0), (0, 0), (0, 0), (0, 0), (0, 0), (0, 0)]) rfl hP rfl 3 (by decide) (hts _ (wg_t kw_1435)) (fun _ h9 => h9) (cd := (3, 291)) rfl dMH_fits_12 (fun v46 hv46 => ?_)
      obtain ⟨r51, rfl, kr46⟩ := (show ∃ r : Nat, v46 = .ref r ∧ T r = some 291 from hv46)
      refine lv_iload_n hx hb dMH_fits_15 rfl (lv_at hl 0 rfl) ?_
      refine nw_aald3 hx hb hK hO kr46 (k := 291) (b := 292) rfl hP (by omega) (by omega) dMH_fits_16 (fun r52 kr47 => ?_)
      have hn31 : nsp (292 + i21) = (0, 256, []) := rows_ok 292 7 (by decide) _ (by omega)
      refine lv_aload_n hx hb dMH_fits_17 rfl (lv_at hl 1 rfl) ?_
      refine nw_get (C := "LatticeKeysModel$Hands") (TT := T_MH) (N := 31) hx hb hts (wg_ft i_MH) hown hK hO k_h0 (kn := 225) (ci := 12) (fl := [(3, 172), (3, 181), (3, 226), (3, 291), (3, 299), (3, 308), (3, 317), (3, 326), (3, 334), (3, 342), (3, 350), (3, 359), (3, 368), (3, 369), (3, 370), (3, 371), (3, 372), (3, 373), (3, 374), (3, 375), (3, 376), (3, 377), (3, 378), (0, 0), (0, 0), (0, 0), (0, 0), (0, 0), (0, 0), (0, 0), (0, 0)]) rfl hP rfl 13 (by decide) (hts _ (wg_t kw_1445)) (fun _ h9 => h9) (cd := (3, 369)) rfl dMH_fits_18 (fun v47 hv47 => ?_)
      obtain ⟨r53, rfl, kr48⟩ := (show ∃ r : Nat, v47 = .ref r ∧ T r = some 369 from hv47)
      refine mp_v (cx := []) (wr := []) hP hD hS hA [] [] rfl rfl rfl (by decide) (va_runV (As := [.ref r52, .ref r53]) (rest := []) F (N_MH_turned_2 l g _ T s21 pl hO hU h0 r52 r53 (292 + i21) 369 k_h0 kr47 hn31 kr48 rfl hf173 hf174 hf175 hf176 hf177 hf178 hf179 hf180) (cwV 2 hts (wg_app (wg_c kw_1901 (wg_c kw_1903 (wg_c ks_79 (wg_c kw_13 wg_n)))) kw_1904) rfl rfl rfl (by decide +kernel) ⟨by decide, by decide⟩) (pn_W "LatticeKeysModel$Hands" (en_ok g) (ci := 12) (kn := 225) (fl := [(3, 172), (3, 181), (3, 226), (3, 291), (3, 299), (3, 308), (3, 317), (3, 326), (3, 334), (3, 342), (3, 350), (3, 359), (3, 368), (3, 369), (3, 370), (3, 371), (3, 372), (3, 373), (3, 374), (3, 375), (3, 376), (3, 377), (3, 378), (0, 0), (0, 0), (0, 0), (0, 0), (0, 0), (0, 0), (0, 0), (0, 0)]) hK hO k_h0 rfl hP hD hS hA hE [] rfl rfl rfl) rfl rfl hl.1 rfl (lv_room (Nat.le_of_ble_eq_true rfl)) dMH_fits_21 ⟨by omega, by omega⟩) (fun  u28 H locs hu28 hP hD hS => ?_)
      obtain ⟨s31, pl⟩ := u28
      obtain ⟨⟨eq28, hFc28, -⟩, hO⟩ := hu28
      have hO : okn g T s31 pl := hO
      have hP : va_P g.1 vcl ([] ++ pl) _ := hP
      have hD : va_D _ ([] ++ pl) := hD
      have hFc28 : frm (M_MH_turned_2 369) s21 s31 := hFc28
      replace hR := bnd_step hR eq28
      have hF := frm_tr hF hFc28 (fun k hk => by unfold M_MH_turned_2 at hk; unfold M_MH_fits_2; omega)
      have hf181 : s31.1 225 23 = nI 2 := fc_F hf173 hFc28 (by unfold M_MH_turned_2; omega)
      have hf182 : s31.1 225 24 = nI 8 := fc_F hf174 hFc28 (by unfold M_MH_turned_2; omega)
      have hf183 : s31.1 225 25 = nI 7 := fc_F hf175 hFc28 (by unfold M_MH_turned_2; omega)
      have hf184 : s31.1 225 26 = nI 2 := fc_F hf176 hFc28 (by unfold M_MH_turned_2; omega)
      have hf185 : s31.1 225 27 = nI 524288 := fc_F hf177 hFc28 (by unfold M_MH_turned_2; omega)
      have hf186 : s31.1 225 28 = nI 261888 := fc_F hf178 hFc28 (by unfold M_MH_turned_2; omega)
      have hf187 : s31.1 225 29 = nI 120 := fc_F hf179 hFc28 (by unfold M_MH_turned_2; omega)
      have hf188 : s31.1 225 30 = nI 64 := fc_F hf180 hFc28 (by unfold M_MH_turned_2; omega)
      refine W.widen (k := 0) (n := 0) (by omega) (by omega) ?_
      refine lv_iconst (v := nI 0) hx hb dMH_fits_24 (by decide) ?_
      refine lv_istore_n (lv' := [(2, .int (nI 0)), (1, .int (nI i21)), (0, .ref h0)]) hx hb dMH_fits_25 rfl hl (by decide) rfl (fun ls hl => ?_)
      have lp26 : ∀ (n26 : Nat) (i26 : Nat) (s32 : Sto) (pl : va_W) (ls : Array Slot) (H : Heap) (locs : List Loc), n26 + i26 = 256 → frm (M_MH_fits_2) s s32 → s32.1 225 23 = nI 2 → s32.1 225 24 = nI 8 → s32.1 225 25 = nI 7 → s32.1 225 26 = nI 2 → s32.1 225 27 = nI 524288 → s32.1 225 28 = nI 261888 → s32.1 225 29 = nI 120 → s32.1 225 30 = nI 64 → F_MH_fits_2 s = F_MH_fits_2_L5 i21 (F_MH_fits_2_L0 n21) n26 i26 s32 → lv_has ls 4 [(2, .int (nI i26)), (1, .int (nI i21)), (0, .ref h0)] → okn g T s32 pl → va_P g.1 vcl ([] ++ pl) H → va_D A ([] ++ pl) → va_S A s0.heap H locs → W p l e ({ frames := 1, cells := 0, slots := 0, locals := 60 } : Room) s0 m args below meth c H locs 0 0 (MQ below (va_Qi (fun (r : Int32) (u : (Int32 × Sto) × va_W) => (u.1 = F_MH_fits_2 s ∧ r = u.1.1 ∧ frm (M_MH_fits_2) s u.1.2 ∧ True) ∧ okn g T u.1.2 u.2) (po g.1 vcl A (fun (u : (Int32 × Sto) × va_W) => [] ++ u.2)) A) args s0 0 0 A) (F0 m 26 ls []) := by
        intro n26
        induction n26 with
        | zero =>
          intro i26 s32 pl ls H locs hm26 hF hf189 hf190 hf191 hf192 hf193 hf194 hf195 hf196 hR hl hO hP hD hS
          refine lv_iload_n hx hb dMH_fits_26 rfl (lv_at hl 0 rfl) ?_
          refine lv_sipush (v := nI 256) hx hb dMH_fits_27 (by decide) ?_
          refine mi_ge (tgt := 90) hx hb dMH_fits_30 (by decide) (by omega) (by omega) (fun h35 => ?_) (fun h35 => absurd h35 (by omega))
          refine mi_iinc (k := 1) (x := i21) (d := 1) (y := i21 + 1) (lv' := [(1, .int (nI (i21 + 1))), (2, .int (nI i26)), (0, .ref h0)]) hx hb dMH_fits_90 hl rfl (by decide) rfl (by decide) rfl (fun ls hl => ?_)
          refine lv_goto (tgt := 2) hx hb dMH_fits_93 (by decide) ?_
          exact ih21 (i21 + 1) s32 pl ls H locs (by omega) hF hf189 hf190 hf191 hf192 hf193 hf194 hf195 hf196 hR (lv_sub hl [0, 2] rfl) hO hP hD hS
        | succ n26 ih26 =>
          intro i26 s32 pl ls H locs hm26 hF hf197 hf198 hf199 hf200 hf201 hf202 hf203 hf204 hR hl hO hP hD hS
          refine lv_iload_n hx hb dMH_fits_26 rfl (lv_at hl 0 rfl) ?_
          refine lv_sipush (v := nI 256) hx hb dMH_fits_27 (by decide) ?_
          refine mi_ge (tgt := 90) hx hb dMH_fits_30 (by decide) (by omega) (by omega) (fun h36 => absurd h36 (by omega)) (fun h36 => ?_)
          refine lv_aload_n hx hb dMH_fits_33 rfl (lv_at hl 2 rfl) ?_
          refine nw_get (C := "LatticeKeysModel$Hands") (TT := T_MH) (N := 31) hx hb hts (wg_ft i_MH) hown hK hO k_h0 (kn := 225) (ci := 12) (fl := [(3, 172), (3, 181), (3, 226), (3, 291), (3, 299), (3, 308), (3, 317), (3, 326), (3, 334), (3, 342), (3, 350), (3, 359), (3, 368), (3, 369), (3, 370), (3, 371), (3, 372), (3, 373), (3, 374), (3, 375), (3, 376), (3, 377), (3, 378), (0, 0), (0, 0), (0, 0), (0, 0), (0, 0), (0, 0), (0, 0), (0, 0)]) rfl hP rfl 8 (by decide) (hts _ (wg_t kw_1440)) (fun _ h9 => h9) (cd := (3, 334)) rfl dMH_fits_34 (fun v48 hv48 => ?_)
          obtain ⟨r54, rfl, kr49⟩ := (show ∃ r : Nat, v48 = .ref r ∧ T r = some 334 from hv48)
          refine lv_iload_n hx hb dMH_fits_37 rfl (lv_at hl 1 rfl) ?_
          refine nw_aald3 hx hb hK hO kr49 (k := 334) (b := 335) rfl hP (by omega) (by omega) dMH_fits_38 (fun r55 kr50 => ?_)
          have hn32 : nsp (335 + i21) = (0, 256, []) := rows_ok 335 7 (by decide) _ (by omega)
          refine lv_iload_n hx hb dMH_fits_39 rfl (lv_at hl 0 rfl) ?_
          refine lv_aload_n hx hb dMH_fits_40 rfl (lv_at hl 2 rfl) ?_
          refine nw_get (C := "LatticeKeysModel$Hands") (TT := T_MH) (N := 31) hx hb hts (wg_ft i_MH) hown hK hO k_h0 (kn := 225) (ci := 12) (fl := [(3, 172), (3, 181), (3, 226), (3, 291), (3, 299), (3, 308), (3, 317), (3, 326), (3, 334), (3, 342), (3, 350), (3, 359), (3, 368), (3, 369), (3, 370), (3, 371), (3, 372), (3, 373), (3, 374), (3, 375), (3, 376), (3, 377), (3, 378), (0, 0), (0, 0), (0, 0), (0, 0), (0, 0), (0, 0), (0, 0), (0, 0)]) rfl hP rfl 7 (by decide) (hts _ (wg_t kw_1439)) (fun _ h9 => h9) (cd := (3, 326)) rfl dMH_fits_41 (fun v49 hv49 => ?_)
          obtain ⟨r56, rfl, kr51⟩ := (show ∃ r : Nat, v49 = .ref r ∧ T r = some 326 from hv49)
          refine lv_iload_n hx hb dMH_fits_44 rfl (lv_at hl 1 rfl) ?_
          refine nw_aald3 hx hb hK hO kr51 (k := 326) (b := 327) rfl hP (by omega) (by omega) dMH_fits_45 (fun r57 kr52 => ?_)
          have hn33 : nsp (327 + i21) = (0, 256, []) := rows_ok 327 7 (by decide) _ (by omega)
          refine lv_iload_n hx hb dMH_fits_46 rfl (lv_at hl 0 rfl) ?_
          refine nw_iald hx hb hK hO kr52 (k := (327 + i21)) hn33 hP (by omega) (by omega) dMH_fits_47 ?_
          refine lv_aload_n hx hb dMH_fits_48 rfl (lv_at hl 2 rfl) ?_
          refine nw_get (C := "LatticeKeysModel$Hands") (TT := T_MH) (N := 31) hx hb hts (wg_ft i_MH) hown hK hO k_h0 (kn := 225) (ci := 12) (fl := [(3, 172), (3, 181), (3, 226), (3, 291), (3, 299), (3, 308), (3, 317), (3, 326), (3, 334), (3, 342), (3, 350), (3, 359), (3, 368), (3, 369), (3, 370), (3, 371), (3, 372), (3, 373), (3, 374), (3, 375), (3, 376), (3, 377), (3, 378), (0, 0), (0, 0), (0, 0), (0, 0), (0, 0), (0, 0), (0, 0), (0, 0)]) rfl hP rfl 13 (by decide) (hts _ (wg_t kw_1445)) (fun _ h9 => h9) (cd := (3, 369)) rfl dMH_fits_49 (fun v50 hv50 => ?_)
          obtain ⟨r58, rfl, kr53⟩ := (show ∃ r : Nat, v50 = .ref r ∧ T r = some 369 from hv50)
          refine lv_iload_n hx hb dMH_fits_52 rfl (lv_at hl 0 rfl) ?_
          refine nw_iald hx hb hK hO kr53 (k := 369) rfl hP (by omega) (by omega) dMH_fits_53 ?_
          refine lv_iadd hx hb dMH_fits_54 ?_
          refine lv_ldc (v := 8380417) hx hb hown (hts _ (wg_t kw_1429)) dMH_fits_55 ?_
          refine mi_as (show (8380417 : Int32) = nI 8380417 by decide) ?_
          refine lv_irem hx hb dMH_fits_57 (nI_ne0 (by omega) (by omega)) ?_
          refine nw_iast hx hb hK hO hU kr50 (k := (335 + i21)) hn32 hP hD hS (by omega) (by omega) dMH_fits_58 (fun s33 pl H locs es24 hO hP hD hS => ?_)
          replace hR := bnd_step hR es24
          have hF := frm_sI hF es24 (by unfold M_MH_fits_2; omega)
          have hf205 : s33.1 225 23 = nI 2 := fc_ne hf197 es24 (by omega)
          have hf206 : s33.1 225 24 = nI 8 := fc_ne hf198 es24 (by omega)
          have hf207 : s33.1 225 25 = nI 7 := fc_ne hf199 es24 (by omega)
          have hf208 : s33.1 225 26 = nI 2 := fc_ne hf200 es24 (by omega)
          have hf209 : s33.1 225 27 = nI 524288 := fc_ne hf201 es24 (by omega)
          have hf210 : s33.1 225 28 = nI 261888 := fc_ne hf202 es24 (by omega)
          have hf211 : s33.1 225 29 = nI 120 := fc_ne hf203 es24 (by omega)
          have hf212 : s33.1 225 30 = nI 64 := fc_ne hf204 es24 (by omega)
          refine lv_aload_n hx hb dMH_fits_59 rfl (lv_at hl 2 rfl) ?_
          refine nw_get (C := "LatticeKeysModel$Hands") (TT := T_MH) (N := 31) hx hb hts (wg_ft i_MH) hown hK hO k_h0 (kn := 225) (ci := 12) (fl := [(3, 172), (3, 181), (3, 226), (3, 291), (3, 299), (3, 308), (3, 317), (3, 326), (3, 334), (3, 342), (3, 350), (3, 359), (3, 368), (3, 369), (3, 370), (3, 371), (3, 372), (3, 373), (3, 374), (3, 375), (3, 376), (3, 377), (3, 378), (0, 0), (0, 0), (0, 0), (0, 0), (0, 0), (0, 0), (0, 0), (0, 0)]) rfl hP rfl 8 (by decide) (hts _ (wg_t kw_1440)) (fun _ h9 => h9) (cd := (3, 334)) rfl dMH_fits_60 (fun v51 hv51 => ?_)
          obtain ⟨r59, rfl, kr54⟩ := (show ∃ r : Nat, v51 = .ref r ∧ T r = some 334 from hv51)
          refine lv_iload_n hx hb dMH_fits_63 rfl (lv_at hl 1 rfl) ?_
          refine nw_aald3 hx hb hK hO kr54 (k := 334) (b := 335) rfl hP (by omega) (by omega) dMH_fits_64 (fun r60 kr55 => ?_)
          have hn34 : nsp (335 + i21) = (0, 256, []) := rows_ok 335 7 (by decide) _ (by omega)
          refine lv_iload_n hx hb dMH_fits_65 rfl (lv_at hl 0 rfl) ?_
          refine nw_iald hx hb hK hO kr55 (k := (335 + i21)) hn34 hP (by omega) (by omega) dMH_fits_66 ?_
          refine mp_i (cx := []) (wr := []) hP hD hS hA [] [] rfl rfl rfl (by decide) (va_runS (As := [.int ((s33.1 ((335 + i21)) i26))]) (rest := []) F (N_MH_norm l g _ T s33 pl hO hU (s33.1 ((335 + i21)) i26)) (va_cwS 1 hts (wg_app (wg_c kw_1905 (wg_c kw_1906 (wg_c kw_13 wg_n))) kw_1907) rfl rfl rfl (by decide +kernel) ⟨by decide, by decide⟩) (pp_S (en_ok g) hP hD hS hA hE [] rfl rfl) rfl rfl hl.1 rfl (lv_room (Nat.le_of_ble_eq_true rfl)) dMH_fits_67 ⟨by omega, by omega⟩) (fun r61 u29 H locs hu29 hP hD hS => ?_)
          obtain ⟨q26, pl⟩ := u29
          obtain ⟨⟨eq29, rfl, hFc29, -⟩, hO⟩ := hu29
          have hO : okn g T q26.2 pl := hO
          have hP : va_P g.1 vcl ([] ++ pl) _ := hP
          have hD : va_D _ ([] ++ pl) := hD
          have hFc29 : frm (M_MH_norm) s33 q26.2 := hFc29
          replace hR := bnd_step hR eq29
          have hF := frm_tr hF hFc29 (fun k hk => by unfold M_MH_norm at hk; unfold M_MH_fits_2; omega)
          have hf213 : q26.2.1 225 23 = nI 2 := fc_F hf205 hFc29 (by unfold M_MH_norm; omega)
          have hf214 : q26.2.1 225 24 = nI 8 := fc_F hf206 hFc29 (by unfold M_MH_norm; omega)
          have hf215 : q26.2.1 225 25 = nI 7 := fc_F hf207 hFc29 (by unfold M_MH_norm; omega)
          have hf216 : q26.2.1 225 26 = nI 2 := fc_F hf208 hFc29 (by unfold M_MH_norm; omega)
          have hf217 : q26.2.1 225 27 = nI 524288 := fc_F hf209 hFc29 (by unfold M_MH_norm; omega)
          have hf218 : q26.2.1 225 28 = nI 261888 := fc_F hf210 hFc29 (by unfold M_MH_norm; omega)
          have hf219 : q26.2.1 225 29 = nI 120 := fc_F hf211 hFc29 (by unfold M_MH_norm; omega)
          have hf220 : q26.2.1 225 30 = nI 64 := fc_F hf212 hFc29 (by unfold M_MH_norm; omega)
          refine W.widen (k := 0) (n := 0) (by omega) (by omega) ?_
          refine lv_aload_n hx hb dMH_fits_70 rfl (lv_at hl 2 rfl) ?_
          refine nw_get (C := "LatticeKeysModel$Hands") (TT := T_MH) (N := 31) hx hb hts (wg_ft i_MH) hown hK hO k_h0 (kn := 225) (ci := 12) (fl := [(3, 172), (3, 181), (3, 226), (3, 291), (3, 299), (3, 308), (3, 317), (3, 326), (3, 334), (3, 342), (3, 350), (3, 359), (3, 368), (3, 369), (3, 370), (3, 371), (3, 372), (3, 373), (3, 374), (3, 375), (3, 376), (3, 377), (3, 378), (0, 0), (0, 0), (0, 0), (0, 0), (0, 0), (0, 0), (0, 0), (0, 0)]) rfl hP rfl 27 (by decide) (hts _ (wg_t kw_1459)) (fun _ h9 => h9) (cd := (0, 0)) rfl dMH_fits_71 (fun v52 hv52 => ?_)
          obtain rfl := (show v52 = .int (q26.2.1 225 27) from hv52)
          obtain ⟨z35, ez33, hz41, hz42⟩ := cl_of (b := 2147483648) hf217 (by omega) (by decide)
          replace hR := bnd_step hR ez33
          refine mi_as hz41 ?_
          subst hz42
          refine lv_aload_n hx hb dMH_fits_74 rfl (lv_at hl 2 rfl) ?_
          refine nw_get (C := "LatticeKeysModel$Hands") (TT := T_MH) (N := 31) hx hb hts (wg_ft i_MH) hown hK hO k_h0 (kn := 225) (ci := 12) (fl := [(3, 172), (3, 181), (3, 226), (3, 291), (3, 299), (3, 308), (3, 317), (3, 326), (3, 334), (3, 342), (3, 350), (3, 359), (3, 368), (3, 369), (3, 370), (3, 371), (3, 372), (3, 373), (3, 374), (3, 375), (3, 376), (3, 377), (3, 378), (0, 0), (0, 0), (0, 0), (0, 0), (0, 0), (0, 0), (0, 0), (0, 0)]) rfl hP rfl 29 (by decide) (hts _ (wg_t kw_1461)) (fun _ h9 => h9) (cd := (0, 0)) rfl dMH_fits_75 (fun v53 hv53 => ?_)
          obtain rfl := (show v53 = .int (q26.2.1 225 29) from hv53)
          obtain ⟨z36, ez34, hz43, hz44⟩ := cl_of (b := 2147483648) hf219 (by omega) (by decide)
          replace hR := bnd_step hR ez34
          refine mi_as hz43 ?_
          subst hz44
          refine mi_isub hx hb dMH_fits_78 (by omega) ?_
          refine mi_as (show nI (524288 - 120) = nI 524168 from rfl) ?_
          refine lv_icmp_lt (tgt := 84) hx hb dMH_fits_79 (by decide) (fun h37 => ?_) (fun h37 => ?_)
          · replace hR := hR.trans (if_pos h37)
            refine mi_iinc (k := 0) (x := i26) (d := 1) (y := i26 + 1) (lv' := [(2, .int (nI (i26 + 1))), (1, .int (nI i21)), (0, .ref h0)]) hx hb dMH_fits_84 hl rfl (by decide) rfl (by decide) rfl (fun ls hl => ?_)
            refine lv_goto (tgt := 26) hx hb dMH_fits_87 (by decide) ?_
            exact ih26 (i26 + 1) q26.2 pl ls H locs (by omega) hF hf213 hf214 hf215 hf216 hf217 hf218 hf219 hf220 hR (lv_sub hl [0, 1, 2] rfl) hO hP hD hS
          · replace hR := hR.trans (if_neg h37)
            refine lv_iconst (v := nI 0) hx hb dMH_fits_82 (by decide) ?_
            exact mp_zret hx hb hr hlk rfl hP hD hS ((nI 0, q26.2), pl) ⟨⟨hR.symm, rfl, hF, trivial⟩, hO⟩ [] rfl rfl rfl (by omega) (by omega) dMH_fits_83
      exact lp26 256 0 s31 pl ls _ _ (by omega) hF hf181 hf182 hf183 hf184 hf185 hf186 hf187 hf188 hR (lv_sub hl [0, 1, 2] rfl) hO hP hD hS
  exact lp21 7 0 s pl ls _ _ (by omega) hF e_c0 e_c1 e_c2 e_c3 e_c4 e_c5 e_c6 e_c7 hR (lv_sub hl [0, 1] rfl) hO hP hD hS
