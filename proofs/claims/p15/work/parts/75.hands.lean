abbrev c_MH_readHidden : ByteArray := prog_13_method_15_code
abbrev y_MH_readHidden : MethodName := ⟨"LatticeKeysModel$Hands", "readHidden", "([B)V"⟩
abbrev w_MH_readHidden : List Cond := Cond.code y_MH_readHidden c_MH_readHidden 7 none :: WG
theorem dMH_readHidden_0 : decode c_MH_readHidden 0 = .ok (.aload_n 0, 1) := by decide +kernel
theorem dMH_readHidden_1 : decode c_MH_readHidden 1 = .ok (.getfield 113, 3) := by decide +kernel
theorem dMH_readHidden_4 : decode c_MH_readHidden 4 = .ok (.iconst 2, 1) := by decide +kernel
theorem dMH_readHidden_5 : decode c_MH_readHidden 5 = .ok (.if_icmp .ne 7, 3) := by decide +kernel
theorem dMH_readHidden_8 : decode c_MH_readHidden 8 = .ok (.iconst 3, 1) := by decide +kernel
theorem dMH_readHidden_9 : decode c_MH_readHidden 9 = .ok (.goto 4, 3) := by decide +kernel
theorem dMH_readHidden_12 : decode c_MH_readHidden 12 = .ok (.iconst 4, 1) := by decide +kernel
theorem dMH_readHidden_13 : decode c_MH_readHidden 13 = .ok (.istore_n 2, 1) := by decide +kernel
theorem dMH_readHidden_14 : decode c_MH_readHidden 14 = .ok (.sipush 1024, 3) := by decide +kernel
theorem dMH_readHidden_17 : decode c_MH_readHidden 17 = .ok (.istore_n 3, 1) := by decide +kernel
theorem dMH_readHidden_18 : decode c_MH_readHidden 18 = .ok (.iconst 0, 1) := by decide +kernel
theorem dMH_readHidden_19 : decode c_MH_readHidden 19 = .ok (.istore 4, 2) := by decide +kernel
theorem dMH_readHidden_21 : decode c_MH_readHidden 21 = .ok (.iload 4, 2) := by decide +kernel
theorem dMH_readHidden_23 : decode c_MH_readHidden 23 = .ok (.aload_n 0, 1) := by decide +kernel
theorem dMH_readHidden_24 : decode c_MH_readHidden 24 = .ok (.getfield 107, 3) := by decide +kernel
theorem dMH_readHidden_27 : decode c_MH_readHidden 27 = .ok (.aload_n 0, 1) := by decide +kernel
theorem dMH_readHidden_28 : decode c_MH_readHidden 28 = .ok (.getfield 110, 3) := by decide +kernel
theorem dMH_readHidden_31 : decode c_MH_readHidden 31 = .ok (.iadd, 1) := by decide +kernel
theorem dMH_readHidden_32 : decode c_MH_readHidden 32 = .ok (.if_icmp .ge 86, 3) := by decide +kernel
theorem dMH_readHidden_35 : decode c_MH_readHidden 35 = .ok (.iconst 0, 1) := by decide +kernel
theorem dMH_readHidden_36 : decode c_MH_readHidden 36 = .ok (.istore 5, 2) := by decide +kernel
theorem dMH_readHidden_38 : decode c_MH_readHidden 38 = .ok (.iload 5, 2) := by decide +kernel
theorem dMH_readHidden_40 : decode c_MH_readHidden 40 = .ok (.sipush 256, 3) := by decide +kernel
theorem dMH_readHidden_43 : decode c_MH_readHidden 43 = .ok (.if_icmp .ge 69, 3) := by decide +kernel
theorem dMH_readHidden_46 : decode c_MH_readHidden 46 = .ok (.aload_n 0, 1) := by decide +kernel
theorem dMH_readHidden_47 : decode c_MH_readHidden 47 = .ok (.getfield 113, 3) := by decide +kernel
theorem dMH_readHidden_50 : decode c_MH_readHidden 50 = .ok (.aload_n 1, 1) := by decide +kernel
theorem dMH_readHidden_51 : decode c_MH_readHidden 51 = .ok (.iload_n 3, 1) := by decide +kernel
theorem dMH_readHidden_52 : decode c_MH_readHidden 52 = .ok (.iload_n 2, 1) := by decide +kernel
theorem dMH_readHidden_53 : decode c_MH_readHidden 53 = .ok (.invokestatic 197, 3) := by decide +kernel
theorem dMH_readHidden_56 : decode c_MH_readHidden 56 = .ok (.invokestatic 201, 3) := by decide +kernel
theorem dMH_readHidden_59 : decode c_MH_readHidden 59 = .ok (.istore 6, 2) := by decide +kernel
theorem dMH_readHidden_61 : decode c_MH_readHidden 61 = .ok (.iload 4, 2) := by decide +kernel
theorem dMH_readHidden_63 : decode c_MH_readHidden 63 = .ok (.aload_n 0, 1) := by decide +kernel
theorem dMH_readHidden_64 : decode c_MH_readHidden 64 = .ok (.getfield 110, 3) := by decide +kernel
theorem dMH_readHidden_67 : decode c_MH_readHidden 67 = .ok (.if_icmp .ge 18, 3) := by decide +kernel
theorem dMH_readHidden_70 : decode c_MH_readHidden 70 = .ok (.aload_n 0, 1) := by decide +kernel
theorem dMH_readHidden_71 : decode c_MH_readHidden 71 = .ok (.getfield 24, 3) := by decide +kernel
theorem dMH_readHidden_74 : decode c_MH_readHidden 74 = .ok (.iload 4, 2) := by decide +kernel
theorem dMH_readHidden_76 : decode c_MH_readHidden 76 = .ok (.aaload, 1) := by decide +kernel
theorem dMH_readHidden_77 : decode c_MH_readHidden 77 = .ok (.iload 5, 2) := by decide +kernel
theorem dMH_readHidden_79 : decode c_MH_readHidden 79 = .ok (.iload 6, 2) := by decide +kernel
theorem dMH_readHidden_81 : decode c_MH_readHidden 81 = .ok (.iastore, 1) := by decide +kernel
theorem dMH_readHidden_82 : decode c_MH_readHidden 82 = .ok (.goto 20, 3) := by decide +kernel
theorem dMH_readHidden_85 : decode c_MH_readHidden 85 = .ok (.aload_n 0, 1) := by decide +kernel
theorem dMH_readHidden_86 : decode c_MH_readHidden 86 = .ok (.getfield 27, 3) := by decide +kernel
theorem dMH_readHidden_89 : decode c_MH_readHidden 89 = .ok (.iload 4, 2) := by decide +kernel
theorem dMH_readHidden_91 : decode c_MH_readHidden 91 = .ok (.aload_n 0, 1) := by decide +kernel
theorem dMH_readHidden_92 : decode c_MH_readHidden 92 = .ok (.getfield 110, 3) := by decide +kernel
theorem dMH_readHidden_95 : decode c_MH_readHidden 95 = .ok (.isub, 1) := by decide +kernel
theorem dMH_readHidden_96 : decode c_MH_readHidden 96 = .ok (.aaload, 1) := by decide +kernel
theorem dMH_readHidden_97 : decode c_MH_readHidden 97 = .ok (.iload 5, 2) := by decide +kernel
theorem dMH_readHidden_99 : decode c_MH_readHidden 99 = .ok (.iload 6, 2) := by decide +kernel
theorem dMH_readHidden_101 : decode c_MH_readHidden 101 = .ok (.iastore, 1) := by decide +kernel
theorem dMH_readHidden_102 : decode c_MH_readHidden 102 = .ok (.iload_n 3, 1) := by decide +kernel
theorem dMH_readHidden_103 : decode c_MH_readHidden 103 = .ok (.iload_n 2, 1) := by decide +kernel
theorem dMH_readHidden_104 : decode c_MH_readHidden 104 = .ok (.iadd, 1) := by decide +kernel
theorem dMH_readHidden_105 : decode c_MH_readHidden 105 = .ok (.istore_n 3, 1) := by decide +kernel
theorem dMH_readHidden_106 : decode c_MH_readHidden 106 = .ok (.iinc 5 1, 3) := by decide +kernel
theorem dMH_readHidden_109 : decode c_MH_readHidden 109 = .ok (.goto (-71), 3) := by decide +kernel
theorem dMH_readHidden_112 : decode c_MH_readHidden 112 = .ok (.iinc 4 1, 3) := by decide +kernel
theorem dMH_readHidden_115 : decode c_MH_readHidden 115 = .ok (.goto (-94), 3) := by decide +kernel
theorem dMH_readHidden_118 : decode c_MH_readHidden 118 = .ok (.iconst 0, 1) := by decide +kernel
theorem dMH_readHidden_119 : decode c_MH_readHidden 119 = .ok (.istore 4, 2) := by decide +kernel
theorem dMH_readHidden_121 : decode c_MH_readHidden 121 = .ok (.iload 4, 2) := by decide +kernel
theorem dMH_readHidden_123 : decode c_MH_readHidden 123 = .ok (.aload_n 0, 1) := by decide +kernel
theorem dMH_readHidden_124 : decode c_MH_readHidden 124 = .ok (.getfield 107, 3) := by decide +kernel
theorem dMH_readHidden_127 : decode c_MH_readHidden 127 = .ok (.if_icmp .ge 52, 3) := by decide +kernel
theorem dMH_readHidden_130 : decode c_MH_readHidden 130 = .ok (.iconst 0, 1) := by decide +kernel
theorem dMH_readHidden_131 : decode c_MH_readHidden 131 = .ok (.istore 5, 2) := by decide +kernel
theorem dMH_readHidden_133 : decode c_MH_readHidden 133 = .ok (.iload 5, 2) := by decide +kernel
theorem dMH_readHidden_135 : decode c_MH_readHidden 135 = .ok (.sipush 256, 3) := by decide +kernel
theorem dMH_readHidden_138 : decode c_MH_readHidden 138 = .ok (.if_icmp .ge 35, 3) := by decide +kernel
theorem dMH_readHidden_141 : decode c_MH_readHidden 141 = .ok (.aload_n 0, 1) := by decide +kernel
theorem dMH_readHidden_142 : decode c_MH_readHidden 142 = .ok (.getfield 30, 3) := by decide +kernel
theorem dMH_readHidden_145 : decode c_MH_readHidden 145 = .ok (.iload 4, 2) := by decide +kernel
theorem dMH_readHidden_147 : decode c_MH_readHidden 147 = .ok (.aaload, 1) := by decide +kernel
theorem dMH_readHidden_148 : decode c_MH_readHidden 148 = .ok (.iload 5, 2) := by decide +kernel
theorem dMH_readHidden_150 : decode c_MH_readHidden 150 = .ok (.sipush 4096, 3) := by decide +kernel
theorem dMH_readHidden_153 : decode c_MH_readHidden 153 = .ok (.aload_n 1, 1) := by decide +kernel
theorem dMH_readHidden_154 : decode c_MH_readHidden 154 = .ok (.iload_n 3, 1) := by decide +kernel
theorem dMH_readHidden_155 : decode c_MH_readHidden 155 = .ok (.bipush 13, 2) := by decide +kernel
theorem dMH_readHidden_157 : decode c_MH_readHidden 157 = .ok (.invokestatic 197, 3) := by decide +kernel
theorem dMH_readHidden_160 : decode c_MH_readHidden 160 = .ok (.invokestatic 201, 3) := by decide +kernel
theorem dMH_readHidden_163 : decode c_MH_readHidden 163 = .ok (.iastore, 1) := by decide +kernel
theorem dMH_readHidden_164 : decode c_MH_readHidden 164 = .ok (.iinc 3 13, 3) := by decide +kernel
theorem dMH_readHidden_167 : decode c_MH_readHidden 167 = .ok (.iinc 5 1, 3) := by decide +kernel
theorem dMH_readHidden_170 : decode c_MH_readHidden 170 = .ok (.goto (-37), 3) := by decide +kernel
theorem dMH_readHidden_173 : decode c_MH_readHidden 173 = .ok (.iinc 4 1, 3) := by decide +kernel
theorem dMH_readHidden_176 : decode c_MH_readHidden 176 = .ok (.goto (-55), 3) := by decide +kernel
theorem dMH_readHidden_179 : decode c_MH_readHidden 179 = .ok (.return_, 1) := by decide +kernel
abbrev c_MH_message : ByteArray := prog_13_method_16_code
abbrev y_MH_message : MethodName := ⟨"LatticeKeysModel$Hands", "message", "([BI[BIII)V"⟩
abbrev w_MH_message : List Cond := Cond.code y_MH_message c_MH_message 7 none :: WG
theorem dMH_message_0 : decode c_MH_message 0 = .ok (.aload_n 0, 1) := by decide +kernel
theorem dMH_message_1 : decode c_MH_message 1 = .ok (.getfield 87, 3) := by decide +kernel
theorem dMH_message_4 : decode c_MH_message 4 = .ok (.invokevirtual 156, 3) := by decide +kernel
theorem dMH_message_7 : decode c_MH_message 7 = .ok (.aload_n 0, 1) := by decide +kernel
theorem dMH_message_8 : decode c_MH_message 8 = .ok (.getfield 87, 3) := by decide +kernel
theorem dMH_message_11 : decode c_MH_message 11 = .ok (.aload_n 1, 1) := by decide +kernel
theorem dMH_message_12 : decode c_MH_message 12 = .ok (.iload_n 2, 1) := by decide +kernel
theorem dMH_message_13 : decode c_MH_message 13 = .ok (.bipush 64, 2) := by decide +kernel
theorem dMH_message_15 : decode c_MH_message 15 = .ok (.invokevirtual 142, 3) := by decide +kernel
theorem dMH_message_18 : decode c_MH_message 18 = .ok (.aload_n 0, 1) := by decide +kernel
theorem dMH_message_19 : decode c_MH_message 19 = .ok (.getfield 87, 3) := by decide +kernel
theorem dMH_message_22 : decode c_MH_message 22 = .ok (.iconst 0, 1) := by decide +kernel
theorem dMH_message_23 : decode c_MH_message 23 = .ok (.invokevirtual 146, 3) := by decide +kernel
theorem dMH_message_26 : decode c_MH_message 26 = .ok (.aload_n 0, 1) := by decide +kernel
theorem dMH_message_27 : decode c_MH_message 27 = .ok (.getfield 87, 3) := by decide +kernel
theorem dMH_message_30 : decode c_MH_message 30 = .ok (.iload 5, 2) := by decide +kernel
theorem dMH_message_32 : decode c_MH_message 32 = .ok (.invokevirtual 146, 3) := by decide +kernel
theorem dMH_message_35 : decode c_MH_message 35 = .ok (.aload_n 0, 1) := by decide +kernel
theorem dMH_message_36 : decode c_MH_message 36 = .ok (.getfield 87, 3) := by decide +kernel
theorem dMH_message_39 : decode c_MH_message 39 = .ok (.aload_n 3, 1) := by decide +kernel
theorem dMH_message_40 : decode c_MH_message 40 = .ok (.iload 4, 2) := by decide +kernel
theorem dMH_message_42 : decode c_MH_message 42 = .ok (.iload 6, 2) := by decide +kernel
theorem dMH_message_44 : decode c_MH_message 44 = .ok (.iload 4, 2) := by decide +kernel
theorem dMH_message_46 : decode c_MH_message 46 = .ok (.isub, 1) := by decide +kernel
theorem dMH_message_47 : decode c_MH_message 47 = .ok (.invokevirtual 142, 3) := by decide +kernel
theorem dMH_message_50 : decode c_MH_message 50 = .ok (.aload_n 0, 1) := by decide +kernel
theorem dMH_message_51 : decode c_MH_message 51 = .ok (.getfield 87, 3) := by decide +kernel
theorem dMH_message_54 : decode c_MH_message 54 = .ok (.invokevirtual 149, 3) := by decide +kernel
theorem dMH_message_57 : decode c_MH_message 57 = .ok (.aload_n 0, 1) := by decide +kernel
theorem dMH_message_58 : decode c_MH_message 58 = .ok (.getfield 87, 3) := by decide +kernel
theorem dMH_message_61 : decode c_MH_message 61 = .ok (.aload_n 0, 1) := by decide +kernel
theorem dMH_message_62 : decode c_MH_message 62 = .ok (.getfield 69, 3) := by decide +kernel
theorem dMH_message_65 : decode c_MH_message 65 = .ok (.iconst 0, 1) := by decide +kernel
theorem dMH_message_66 : decode c_MH_message 66 = .ok (.bipush 64, 2) := by decide +kernel
theorem dMH_message_68 : decode c_MH_message 68 = .ok (.invokevirtual 169, 3) := by decide +kernel
theorem dMH_message_71 : decode c_MH_message 71 = .ok (.return_, 1) := by decide +kernel
abbrev c_MH_mask : ByteArray := prog_13_method_17_code
abbrev y_MH_mask : MethodName := ⟨"LatticeKeysModel$Hands", "mask", "(I)V"⟩
abbrev w_MH_mask : List Cond := Cond.code y_MH_mask c_MH_mask 5 none :: WG
theorem dMH_mask_0 : decode c_MH_mask 0 = .ok (.aload_n 0, 1) := by decide +kernel
theorem dMH_mask_1 : decode c_MH_mask 1 = .ok (.getfield 103, 3) := by decide +kernel
theorem dMH_mask_4 : decode c_MH_mask 4 = .ok (.ifCond .ne 8, 3) := by decide +kernel
theorem dMH_mask_7 : decode c_MH_mask 7 = .ok (.bipush 18, 2) := by decide +kernel
theorem dMH_mask_9 : decode c_MH_mask 9 = .ok (.goto 5, 3) := by decide +kernel
theorem dMH_mask_12 : decode c_MH_mask 12 = .ok (.bipush 20, 2) := by decide +kernel
theorem dMH_mask_14 : decode c_MH_mask 14 = .ok (.istore_n 2, 1) := by decide +kernel
theorem dMH_mask_15 : decode c_MH_mask 15 = .ok (.iconst 0, 1) := by decide +kernel
theorem dMH_mask_16 : decode c_MH_mask 16 = .ok (.istore_n 3, 1) := by decide +kernel
theorem dMH_mask_17 : decode c_MH_mask 17 = .ok (.iload_n 3, 1) := by decide +kernel
theorem dMH_mask_18 : decode c_MH_mask 18 = .ok (.aload_n 0, 1) := by decide +kernel
theorem dMH_mask_19 : decode c_MH_mask 19 = .ok (.getfield 110, 3) := by decide +kernel
theorem dMH_mask_22 : decode c_MH_mask 22 = .ok (.if_icmp .ge 121, 3) := by decide +kernel
theorem dMH_mask_25 : decode c_MH_mask 25 = .ok (.aload_n 0, 1) := by decide +kernel
theorem dMH_mask_26 : decode c_MH_mask 26 = .ok (.getfield 87, 3) := by decide +kernel
theorem dMH_mask_29 : decode c_MH_mask 29 = .ok (.invokevirtual 156, 3) := by decide +kernel
theorem dMH_mask_32 : decode c_MH_mask 32 = .ok (.aload_n 0, 1) := by decide +kernel
theorem dMH_mask_33 : decode c_MH_mask 33 = .ok (.getfield 87, 3) := by decide +kernel
theorem dMH_mask_36 : decode c_MH_mask 36 = .ok (.aload_n 0, 1) := by decide +kernel
theorem dMH_mask_37 : decode c_MH_mask 37 = .ok (.getfield 72, 3) := by decide +kernel
theorem dMH_mask_40 : decode c_MH_mask 40 = .ok (.iconst 0, 1) := by decide +kernel
theorem dMH_mask_41 : decode c_MH_mask 41 = .ok (.bipush 64, 2) := by decide +kernel
theorem dMH_mask_43 : decode c_MH_mask 43 = .ok (.invokevirtual 142, 3) := by decide +kernel
theorem dMH_mask_46 : decode c_MH_mask 46 = .ok (.aload_n 0, 1) := by decide +kernel
theorem dMH_mask_47 : decode c_MH_mask 47 = .ok (.getfield 87, 3) := by decide +kernel
theorem dMH_mask_50 : decode c_MH_mask 50 = .ok (.iload_n 1, 1) := by decide +kernel
theorem dMH_mask_51 : decode c_MH_mask 51 = .ok (.iload_n 3, 1) := by decide +kernel
theorem dMH_mask_52 : decode c_MH_mask 52 = .ok (.iadd, 1) := by decide +kernel
theorem dMH_mask_53 : decode c_MH_mask 53 = .ok (.invokevirtual 146, 3) := by decide +kernel
theorem dMH_mask_56 : decode c_MH_mask 56 = .ok (.aload_n 0, 1) := by decide +kernel
theorem dMH_mask_57 : decode c_MH_mask 57 = .ok (.getfield 87, 3) := by decide +kernel
theorem dMH_mask_60 : decode c_MH_mask 60 = .ok (.iload_n 1, 1) := by decide +kernel
theorem dMH_mask_61 : decode c_MH_mask 61 = .ok (.iload_n 3, 1) := by decide +kernel
theorem dMH_mask_62 : decode c_MH_mask 62 = .ok (.iadd, 1) := by decide +kernel
theorem dMH_mask_63 : decode c_MH_mask 63 = .ok (.bipush 8, 2) := by decide +kernel
theorem dMH_mask_65 : decode c_MH_mask 65 = .ok (.ishr, 1) := by decide +kernel
theorem dMH_mask_66 : decode c_MH_mask 66 = .ok (.invokevirtual 146, 3) := by decide +kernel
theorem dMH_mask_69 : decode c_MH_mask 69 = .ok (.aload_n 0, 1) := by decide +kernel
theorem dMH_mask_70 : decode c_MH_mask 70 = .ok (.getfield 87, 3) := by decide +kernel
theorem dMH_mask_73 : decode c_MH_mask 73 = .ok (.invokevirtual 149, 3) := by decide +kernel
theorem dMH_mask_76 : decode c_MH_mask 76 = .ok (.aload_n 0, 1) := by decide +kernel
theorem dMH_mask_77 : decode c_MH_mask 77 = .ok (.getfield 87, 3) := by decide +kernel
theorem dMH_mask_80 : decode c_MH_mask 80 = .ok (.aload_n 0, 1) := by decide +kernel
theorem dMH_mask_81 : decode c_MH_mask 81 = .ok (.getfield 75, 3) := by decide +kernel
theorem dMH_mask_84 : decode c_MH_mask 84 = .ok (.iconst 0, 1) := by decide +kernel
theorem dMH_mask_85 : decode c_MH_mask 85 = .ok (.bipush 32, 2) := by decide +kernel
theorem dMH_mask_87 : decode c_MH_mask 87 = .ok (.iload_n 2, 1) := by decide +kernel
theorem dMH_mask_88 : decode c_MH_mask 88 = .ok (.imul, 1) := by decide +kernel
theorem dMH_mask_89 : decode c_MH_mask 89 = .ok (.invokevirtual 169, 3) := by decide +kernel
theorem dMH_mask_92 : decode c_MH_mask 92 = .ok (.iconst 0, 1) := by decide +kernel
theorem dMH_mask_93 : decode c_MH_mask 93 = .ok (.istore 4, 2) := by decide +kernel
theorem dMH_mask_95 : decode c_MH_mask 95 = .ok (.iload 4, 2) := by decide +kernel
theorem dMH_mask_97 : decode c_MH_mask 97 = .ok (.sipush 256, 3) := by decide +kernel
theorem dMH_mask_100 : decode c_MH_mask 100 = .ok (.if_icmp .ge 37, 3) := by decide +kernel
theorem dMH_mask_103 : decode c_MH_mask 103 = .ok (.aload_n 0, 1) := by decide +kernel
theorem dMH_mask_104 : decode c_MH_mask 104 = .ok (.getfield 36, 3) := by decide +kernel
theorem dMH_mask_107 : decode c_MH_mask 107 = .ok (.iload_n 3, 1) := by decide +kernel
theorem dMH_mask_108 : decode c_MH_mask 108 = .ok (.aaload, 1) := by decide +kernel
theorem dMH_mask_109 : decode c_MH_mask 109 = .ok (.iload 4, 2) := by decide +kernel
theorem dMH_mask_111 : decode c_MH_mask 111 = .ok (.aload_n 0, 1) := by decide +kernel
theorem dMH_mask_112 : decode c_MH_mask 112 = .ok (.getfield 118, 3) := by decide +kernel
theorem dMH_mask_115 : decode c_MH_mask 115 = .ok (.aload_n 0, 1) := by decide +kernel
theorem dMH_mask_116 : decode c_MH_mask 116 = .ok (.getfield 75, 3) := by decide +kernel
theorem dMH_mask_119 : decode c_MH_mask 119 = .ok (.iload_n 2, 1) := by decide +kernel
theorem dMH_mask_120 : decode c_MH_mask 120 = .ok (.iload 4, 2) := by decide +kernel
theorem dMH_mask_122 : decode c_MH_mask 122 = .ok (.imul, 1) := by decide +kernel
theorem dMH_mask_123 : decode c_MH_mask 123 = .ok (.iload_n 2, 1) := by decide +kernel
theorem dMH_mask_124 : decode c_MH_mask 124 = .ok (.invokestatic 197, 3) := by decide +kernel
theorem dMH_mask_127 : decode c_MH_mask 127 = .ok (.invokestatic 201, 3) := by decide +kernel
theorem dMH_mask_130 : decode c_MH_mask 130 = .ok (.iastore, 1) := by decide +kernel
theorem dMH_mask_131 : decode c_MH_mask 131 = .ok (.iinc 4 1, 3) := by decide +kernel
theorem dMH_mask_134 : decode c_MH_mask 134 = .ok (.goto (-39), 3) := by decide +kernel
theorem dMH_mask_137 : decode c_MH_mask 137 = .ok (.iinc 3 1, 3) := by decide +kernel
theorem dMH_mask_140 : decode c_MH_mask 140 = .ok (.goto (-123), 3) := by decide +kernel
theorem dMH_mask_143 : decode c_MH_mask 143 = .ok (.return_, 1) := by decide +kernel
abbrev c_MH_marked : ByteArray := prog_13_method_18_code
abbrev y_MH_marked : MethodName := ⟨"LatticeKeysModel$Hands", "marked", "(Z[B)V"⟩
abbrev w_MH_marked : List Cond := Cond.code y_MH_marked c_MH_marked 6 none :: WG
theorem dMH_marked_0 : decode c_MH_marked 0 = .ok (.aload_n 0, 1) := by decide +kernel
theorem dMH_marked_1 : decode c_MH_marked 1 = .ok (.getfield 103, 3) := by decide +kernel
theorem dMH_marked_4 : decode c_MH_marked 4 = .ok (.ifCond .ne 8, 3) := by decide +kernel
theorem dMH_marked_7 : decode c_MH_marked 7 = .ok (.bipush 6, 2) := by decide +kernel
theorem dMH_marked_9 : decode c_MH_marked 9 = .ok (.goto 4, 3) := by decide +kernel
theorem dMH_marked_12 : decode c_MH_marked 12 = .ok (.iconst 4, 1) := by decide +kernel
theorem dMH_marked_13 : decode c_MH_marked 13 = .ok (.istore_n 3, 1) := by decide +kernel
theorem dMH_marked_14 : decode c_MH_marked 14 = .ok (.aload_n 0, 1) := by decide +kernel
theorem dMH_marked_15 : decode c_MH_marked 15 = .ok (.getfield 87, 3) := by decide +kernel
theorem dMH_marked_18 : decode c_MH_marked 18 = .ok (.invokevirtual 156, 3) := by decide +kernel
theorem dMH_marked_21 : decode c_MH_marked 21 = .ok (.aload_n 0, 1) := by decide +kernel
theorem dMH_marked_22 : decode c_MH_marked 22 = .ok (.getfield 87, 3) := by decide +kernel
theorem dMH_marked_25 : decode c_MH_marked 25 = .ok (.aload_n 0, 1) := by decide +kernel
theorem dMH_marked_26 : decode c_MH_marked 26 = .ok (.getfield 69, 3) := by decide +kernel
theorem dMH_marked_29 : decode c_MH_marked 29 = .ok (.iconst 0, 1) := by decide +kernel
theorem dMH_marked_30 : decode c_MH_marked 30 = .ok (.bipush 64, 2) := by decide +kernel
theorem dMH_marked_32 : decode c_MH_marked 32 = .ok (.invokevirtual 142, 3) := by decide +kernel
theorem dMH_marked_35 : decode c_MH_marked 35 = .ok (.iconst 0, 1) := by decide +kernel
theorem dMH_marked_36 : decode c_MH_marked 36 = .ok (.istore 4, 2) := by decide +kernel
theorem dMH_marked_38 : decode c_MH_marked 38 = .ok (.iload 4, 2) := by decide +kernel
theorem dMH_marked_40 : decode c_MH_marked 40 = .ok (.aload_n 0, 1) := by decide +kernel
theorem dMH_marked_41 : decode c_MH_marked 41 = .ok (.getfield 107, 3) := by decide +kernel
theorem dMH_marked_44 : decode c_MH_marked 44 = .ok (.if_icmp .ge 99, 3) := by decide +kernel
theorem dMH_marked_47 : decode c_MH_marked 47 = .ok (.iconst 0, 1) := by decide +kernel
theorem dMH_marked_48 : decode c_MH_marked 48 = .ok (.istore 5, 2) := by decide +kernel
theorem dMH_marked_50 : decode c_MH_marked 50 = .ok (.iload 5, 2) := by decide +kernel
theorem dMH_marked_52 : decode c_MH_marked 52 = .ok (.sipush 256, 3) := by decide +kernel
theorem dMH_marked_55 : decode c_MH_marked 55 = .ok (.if_icmp .ge 66, 3) := by decide +kernel
theorem dMH_marked_58 : decode c_MH_marked 58 = .ok (.aload_n 0, 1) := by decide +kernel
theorem dMH_marked_59 : decode c_MH_marked 59 = .ok (.getfield 75, 3) := by decide +kernel
theorem dMH_marked_62 : decode c_MH_marked 62 = .ok (.iload_n 3, 1) := by decide +kernel
theorem dMH_marked_63 : decode c_MH_marked 63 = .ok (.iload 5, 2) := by decide +kernel
theorem dMH_marked_65 : decode c_MH_marked 65 = .ok (.imul, 1) := by decide +kernel
theorem dMH_marked_66 : decode c_MH_marked 66 = .ok (.iload_n 3, 1) := by decide +kernel
theorem dMH_marked_67 : decode c_MH_marked 67 = .ok (.iload_n 1, 1) := by decide +kernel
theorem dMH_marked_68 : decode c_MH_marked 68 = .ok (.ifCond .eq 30, 3) := by decide +kernel
theorem dMH_marked_71 : decode c_MH_marked 71 = .ok (.aload_n 0, 1) := by decide +kernel
theorem dMH_marked_72 : decode c_MH_marked 72 = .ok (.aload_n 0, 1) := by decide +kernel
theorem dMH_marked_73 : decode c_MH_marked 73 = .ok (.getfield 48, 3) := by decide +kernel
theorem dMH_marked_76 : decode c_MH_marked 76 = .ok (.iload 4, 2) := by decide +kernel
theorem dMH_marked_78 : decode c_MH_marked 78 = .ok (.aaload, 1) := by decide +kernel
theorem dMH_marked_79 : decode c_MH_marked 79 = .ok (.iload 5, 2) := by decide +kernel
theorem dMH_marked_81 : decode c_MH_marked 81 = .ok (.iaload, 1) := by decide +kernel
theorem dMH_marked_82 : decode c_MH_marked 82 = .ok (.aload_n 0, 1) := by decide +kernel
theorem dMH_marked_83 : decode c_MH_marked 83 = .ok (.getfield 45, 3) := by decide +kernel
theorem dMH_marked_86 : decode c_MH_marked 86 = .ok (.iload 4, 2) := by decide +kernel
theorem dMH_marked_88 : decode c_MH_marked 88 = .ok (.aaload, 1) := by decide +kernel
theorem dMH_marked_89 : decode c_MH_marked 89 = .ok (.iload 5, 2) := by decide +kernel
theorem dMH_marked_91 : decode c_MH_marked 91 = .ok (.iaload, 1) := by decide +kernel
theorem dMH_marked_92 : decode c_MH_marked 92 = .ok (.invokevirtual 205, 3) := by decide +kernel
theorem dMH_marked_95 : decode c_MH_marked 95 = .ok (.goto 17, 3) := by decide +kernel
theorem dMH_marked_98 : decode c_MH_marked 98 = .ok (.aload_n 0, 1) := by decide +kernel
theorem dMH_marked_99 : decode c_MH_marked 99 = .ok (.aload_n 0, 1) := by decide +kernel
theorem dMH_marked_100 : decode c_MH_marked 100 = .ok (.getfield 45, 3) := by decide +kernel
theorem dMH_marked_103 : decode c_MH_marked 103 = .ok (.iload 4, 2) := by decide +kernel
theorem dMH_marked_105 : decode c_MH_marked 105 = .ok (.aaload, 1) := by decide +kernel
theorem dMH_marked_106 : decode c_MH_marked 106 = .ok (.iload 5, 2) := by decide +kernel
theorem dMH_marked_108 : decode c_MH_marked 108 = .ok (.iaload, 1) := by decide +kernel
theorem dMH_marked_109 : decode c_MH_marked 109 = .ok (.invokevirtual 208, 3) := by decide +kernel
theorem dMH_marked_112 : decode c_MH_marked 112 = .ok (.invokestatic 187, 3) := by decide +kernel
theorem dMH_marked_115 : decode c_MH_marked 115 = .ok (.iinc 5 1, 3) := by decide +kernel
theorem dMH_marked_118 : decode c_MH_marked 118 = .ok (.goto (-68), 3) := by decide +kernel
theorem dMH_marked_121 : decode c_MH_marked 121 = .ok (.aload_n 0, 1) := by decide +kernel
theorem dMH_marked_122 : decode c_MH_marked 122 = .ok (.getfield 87, 3) := by decide +kernel
theorem dMH_marked_125 : decode c_MH_marked 125 = .ok (.aload_n 0, 1) := by decide +kernel
theorem dMH_marked_126 : decode c_MH_marked 126 = .ok (.getfield 75, 3) := by decide +kernel
theorem dMH_marked_129 : decode c_MH_marked 129 = .ok (.iconst 0, 1) := by decide +kernel
theorem dMH_marked_130 : decode c_MH_marked 130 = .ok (.bipush 32, 2) := by decide +kernel
theorem dMH_marked_132 : decode c_MH_marked 132 = .ok (.iload_n 3, 1) := by decide +kernel
theorem dMH_marked_133 : decode c_MH_marked 133 = .ok (.imul, 1) := by decide +kernel
theorem dMH_marked_134 : decode c_MH_marked 134 = .ok (.invokevirtual 142, 3) := by decide +kernel
theorem dMH_marked_137 : decode c_MH_marked 137 = .ok (.iinc 4 1, 3) := by decide +kernel
theorem dMH_marked_140 : decode c_MH_marked 140 = .ok (.goto (-102), 3) := by decide +kernel
theorem dMH_marked_143 : decode c_MH_marked 143 = .ok (.aload_n 0, 1) := by decide +kernel
theorem dMH_marked_144 : decode c_MH_marked 144 = .ok (.getfield 87, 3) := by decide +kernel
theorem dMH_marked_147 : decode c_MH_marked 147 = .ok (.invokevirtual 149, 3) := by decide +kernel
theorem dMH_marked_150 : decode c_MH_marked 150 = .ok (.aload_n 0, 1) := by decide +kernel
theorem dMH_marked_151 : decode c_MH_marked 151 = .ok (.getfield 87, 3) := by decide +kernel
theorem dMH_marked_154 : decode c_MH_marked 154 = .ok (.aload_n 2, 1) := by decide +kernel
theorem dMH_marked_155 : decode c_MH_marked 155 = .ok (.iconst 0, 1) := by decide +kernel
theorem dMH_marked_156 : decode c_MH_marked 156 = .ok (.aload_n 0, 1) := by decide +kernel
theorem dMH_marked_157 : decode c_MH_marked 157 = .ok (.getfield 132, 3) := by decide +kernel
theorem dMH_marked_160 : decode c_MH_marked 160 = .ok (.invokevirtual 169, 3) := by decide +kernel
theorem dMH_marked_163 : decode c_MH_marked 163 = .ok (.return_, 1) := by decide +kernel
abbrev c_MH_fits : ByteArray := prog_13_method_21_code
abbrev y_MH_fits : MethodName := ⟨"LatticeKeysModel$Hands", "fits", "()Z"⟩
abbrev w_MH_fits : List Cond := Cond.code y_MH_fits c_MH_fits 4 (some .boolean) :: WG
theorem dMH_fits_0 : decode c_MH_fits 0 = .ok (.iconst 0, 1) := by decide +kernel
theorem dMH_fits_1 : decode c_MH_fits 1 = .ok (.istore_n 1, 1) := by decide +kernel
theorem dMH_fits_2 : decode c_MH_fits 2 = .ok (.iload_n 1, 1) := by decide +kernel
theorem dMH_fits_3 : decode c_MH_fits 3 = .ok (.aload_n 0, 1) := by decide +kernel
theorem dMH_fits_4 : decode c_MH_fits 4 = .ok (.getfield 110, 3) := by decide +kernel
theorem dMH_fits_7 : decode c_MH_fits 7 = .ok (.if_icmp .ge 89, 3) := by decide +kernel
theorem dMH_fits_10 : decode c_MH_fits 10 = .ok (.aload_n 0, 1) := by decide +kernel
theorem dMH_fits_11 : decode c_MH_fits 11 = .ok (.aload_n 0, 1) := by decide +kernel
theorem dMH_fits_12 : decode c_MH_fits 12 = .ok (.getfield 24, 3) := by decide +kernel
theorem dMH_fits_15 : decode c_MH_fits 15 = .ok (.iload_n 1, 1) := by decide +kernel
theorem dMH_fits_16 : decode c_MH_fits 16 = .ok (.aaload, 1) := by decide +kernel
theorem dMH_fits_17 : decode c_MH_fits 17 = .ok (.aload_n 0, 1) := by decide +kernel
theorem dMH_fits_18 : decode c_MH_fits 18 = .ok (.getfield 55, 3) := by decide +kernel
theorem dMH_fits_21 : decode c_MH_fits 21 = .ok (.invokevirtual 214, 3) := by decide +kernel
theorem dMH_fits_24 : decode c_MH_fits 24 = .ok (.iconst 0, 1) := by decide +kernel
theorem dMH_fits_25 : decode c_MH_fits 25 = .ok (.istore_n 2, 1) := by decide +kernel
theorem dMH_fits_26 : decode c_MH_fits 26 = .ok (.iload_n 2, 1) := by decide +kernel
theorem dMH_fits_27 : decode c_MH_fits 27 = .ok (.sipush 256, 3) := by decide +kernel
theorem dMH_fits_30 : decode c_MH_fits 30 = .ok (.if_icmp .ge 60, 3) := by decide +kernel
theorem dMH_fits_33 : decode c_MH_fits 33 = .ok (.aload_n 0, 1) := by decide +kernel
theorem dMH_fits_34 : decode c_MH_fits 34 = .ok (.getfield 39, 3) := by decide +kernel
theorem dMH_fits_37 : decode c_MH_fits 37 = .ok (.iload_n 1, 1) := by decide +kernel
theorem dMH_fits_38 : decode c_MH_fits 38 = .ok (.aaload, 1) := by decide +kernel
theorem dMH_fits_39 : decode c_MH_fits 39 = .ok (.iload_n 2, 1) := by decide +kernel
theorem dMH_fits_40 : decode c_MH_fits 40 = .ok (.aload_n 0, 1) := by decide +kernel
theorem dMH_fits_41 : decode c_MH_fits 41 = .ok (.getfield 36, 3) := by decide +kernel
theorem dMH_fits_44 : decode c_MH_fits 44 = .ok (.iload_n 1, 1) := by decide +kernel
theorem dMH_fits_45 : decode c_MH_fits 45 = .ok (.aaload, 1) := by decide +kernel
theorem dMH_fits_46 : decode c_MH_fits 46 = .ok (.iload_n 2, 1) := by decide +kernel
theorem dMH_fits_47 : decode c_MH_fits 47 = .ok (.iaload, 1) := by decide +kernel
theorem dMH_fits_48 : decode c_MH_fits 48 = .ok (.aload_n 0, 1) := by decide +kernel
theorem dMH_fits_49 : decode c_MH_fits 49 = .ok (.getfield 55, 3) := by decide +kernel
theorem dMH_fits_52 : decode c_MH_fits 52 = .ok (.iload_n 2, 1) := by decide +kernel
theorem dMH_fits_53 : decode c_MH_fits 53 = .ok (.iaload, 1) := by decide +kernel
theorem dMH_fits_54 : decode c_MH_fits 54 = .ok (.iadd, 1) := by decide +kernel
theorem dMH_fits_55 : decode c_MH_fits 55 = .ok (.ldc 11, 2) := by decide +kernel
theorem dMH_fits_57 : decode c_MH_fits 57 = .ok (.irem, 1) := by decide +kernel
theorem dMH_fits_58 : decode c_MH_fits 58 = .ok (.iastore, 1) := by decide +kernel
theorem dMH_fits_59 : decode c_MH_fits 59 = .ok (.aload_n 0, 1) := by decide +kernel
theorem dMH_fits_60 : decode c_MH_fits 60 = .ok (.getfield 39, 3) := by decide +kernel
theorem dMH_fits_63 : decode c_MH_fits 63 = .ok (.iload_n 1, 1) := by decide +kernel
theorem dMH_fits_64 : decode c_MH_fits 64 = .ok (.aaload, 1) := by decide +kernel
theorem dMH_fits_65 : decode c_MH_fits 65 = .ok (.iload_n 2, 1) := by decide +kernel
theorem dMH_fits_66 : decode c_MH_fits 66 = .ok (.iaload, 1) := by decide +kernel
theorem dMH_fits_67 : decode c_MH_fits 67 = .ok (.invokestatic 218, 3) := by decide +kernel
theorem dMH_fits_70 : decode c_MH_fits 70 = .ok (.aload_n 0, 1) := by decide +kernel
theorem dMH_fits_71 : decode c_MH_fits 71 = .ok (.getfield 118, 3) := by decide +kernel
theorem dMH_fits_74 : decode c_MH_fits 74 = .ok (.aload_n 0, 1) := by decide +kernel
theorem dMH_fits_75 : decode c_MH_fits 75 = .ok (.getfield 129, 3) := by decide +kernel
theorem dMH_fits_78 : decode c_MH_fits 78 = .ok (.isub, 1) := by decide +kernel
theorem dMH_fits_79 : decode c_MH_fits 79 = .ok (.if_icmp .lt 5, 3) := by decide +kernel
theorem dMH_fits_82 : decode c_MH_fits 82 = .ok (.iconst 0, 1) := by decide +kernel
theorem dMH_fits_83 : decode c_MH_fits 83 = .ok (.ireturn, 1) := by decide +kernel
theorem dMH_fits_84 : decode c_MH_fits 84 = .ok (.iinc 2 1, 3) := by decide +kernel
theorem dMH_fits_87 : decode c_MH_fits 87 = .ok (.goto (-61), 3) := by decide +kernel
theorem dMH_fits_90 : decode c_MH_fits 90 = .ok (.iinc 1 1, 3) := by decide +kernel
theorem dMH_fits_93 : decode c_MH_fits 93 = .ok (.goto (-91), 3) := by decide +kernel
theorem dMH_fits_96 : decode c_MH_fits 96 = .ok (.iconst 0, 1) := by decide +kernel
theorem dMH_fits_97 : decode c_MH_fits 97 = .ok (.istore_n 1, 1) := by decide +kernel
theorem dMH_fits_98 : decode c_MH_fits 98 = .ok (.iload_n 1, 1) := by decide +kernel
theorem dMH_fits_99 : decode c_MH_fits 99 = .ok (.aload_n 0, 1) := by decide +kernel
theorem dMH_fits_100 : decode c_MH_fits 100 = .ok (.getfield 107, 3) := by decide +kernel
theorem dMH_fits_103 : decode c_MH_fits 103 = .ok (.if_icmp .ge 92, 3) := by decide +kernel
theorem dMH_fits_106 : decode c_MH_fits 106 = .ok (.aload_n 0, 1) := by decide +kernel
theorem dMH_fits_107 : decode c_MH_fits 107 = .ok (.aload_n 0, 1) := by decide +kernel
theorem dMH_fits_108 : decode c_MH_fits 108 = .ok (.getfield 27, 3) := by decide +kernel
theorem dMH_fits_111 : decode c_MH_fits 111 = .ok (.iload_n 1, 1) := by decide +kernel
theorem dMH_fits_112 : decode c_MH_fits 112 = .ok (.aaload, 1) := by decide +kernel
theorem dMH_fits_113 : decode c_MH_fits 113 = .ok (.aload_n 0, 1) := by decide +kernel
theorem dMH_fits_114 : decode c_MH_fits 114 = .ok (.getfield 55, 3) := by decide +kernel
theorem dMH_fits_117 : decode c_MH_fits 117 = .ok (.invokevirtual 214, 3) := by decide +kernel
theorem dMH_fits_120 : decode c_MH_fits 120 = .ok (.iconst 0, 1) := by decide +kernel
theorem dMH_fits_121 : decode c_MH_fits 121 = .ok (.istore_n 2, 1) := by decide +kernel
theorem dMH_fits_122 : decode c_MH_fits 122 = .ok (.iload_n 2, 1) := by decide +kernel
theorem dMH_fits_123 : decode c_MH_fits 123 = .ok (.sipush 256, 3) := by decide +kernel
theorem dMH_fits_126 : decode c_MH_fits 126 = .ok (.if_icmp .ge 63, 3) := by decide +kernel
theorem dMH_fits_129 : decode c_MH_fits 129 = .ok (.aload_n 0, 1) := by decide +kernel
theorem dMH_fits_130 : decode c_MH_fits 130 = .ok (.getfield 45, 3) := by decide +kernel
theorem dMH_fits_133 : decode c_MH_fits 133 = .ok (.iload_n 1, 1) := by decide +kernel
theorem dMH_fits_134 : decode c_MH_fits 134 = .ok (.aaload, 1) := by decide +kernel
theorem dMH_fits_135 : decode c_MH_fits 135 = .ok (.iload_n 2, 1) := by decide +kernel
theorem dMH_fits_136 : decode c_MH_fits 136 = .ok (.aload_n 0, 1) := by decide +kernel
theorem dMH_fits_137 : decode c_MH_fits 137 = .ok (.getfield 45, 3) := by decide +kernel
theorem dMH_fits_140 : decode c_MH_fits 140 = .ok (.iload_n 1, 1) := by decide +kernel
theorem dMH_fits_141 : decode c_MH_fits 141 = .ok (.aaload, 1) := by decide +kernel
theorem dMH_fits_142 : decode c_MH_fits 142 = .ok (.iload_n 2, 1) := by decide +kernel
theorem dMH_fits_143 : decode c_MH_fits 143 = .ok (.iaload, 1) := by decide +kernel
theorem dMH_fits_144 : decode c_MH_fits 144 = .ok (.aload_n 0, 1) := by decide +kernel
theorem dMH_fits_145 : decode c_MH_fits 145 = .ok (.getfield 55, 3) := by decide +kernel
theorem dMH_fits_148 : decode c_MH_fits 148 = .ok (.iload_n 2, 1) := by decide +kernel
theorem dMH_fits_149 : decode c_MH_fits 149 = .ok (.iaload, 1) := by decide +kernel
theorem dMH_fits_150 : decode c_MH_fits 150 = .ok (.invokestatic 201, 3) := by decide +kernel
theorem dMH_fits_153 : decode c_MH_fits 153 = .ok (.iastore, 1) := by decide +kernel
theorem dMH_fits_154 : decode c_MH_fits 154 = .ok (.aload_n 0, 1) := by decide +kernel
theorem dMH_fits_155 : decode c_MH_fits 155 = .ok (.aload_n 0, 1) := by decide +kernel
theorem dMH_fits_156 : decode c_MH_fits 156 = .ok (.getfield 45, 3) := by decide +kernel
theorem dMH_fits_159 : decode c_MH_fits 159 = .ok (.iload_n 1, 1) := by decide +kernel
theorem dMH_fits_160 : decode c_MH_fits 160 = .ok (.aaload, 1) := by decide +kernel
theorem dMH_fits_161 : decode c_MH_fits 161 = .ok (.iload_n 2, 1) := by decide +kernel
theorem dMH_fits_162 : decode c_MH_fits 162 = .ok (.iaload, 1) := by decide +kernel
theorem dMH_fits_163 : decode c_MH_fits 163 = .ok (.invokevirtual 211, 3) := by decide +kernel
theorem dMH_fits_166 : decode c_MH_fits 166 = .ok (.invokestatic 221, 3) := by decide +kernel
theorem dMH_fits_169 : decode c_MH_fits 169 = .ok (.aload_n 0, 1) := by decide +kernel
theorem dMH_fits_170 : decode c_MH_fits 170 = .ok (.getfield 123, 3) := by decide +kernel
theorem dMH_fits_173 : decode c_MH_fits 173 = .ok (.aload_n 0, 1) := by decide +kernel
theorem dMH_fits_174 : decode c_MH_fits 174 = .ok (.getfield 129, 3) := by decide +kernel
theorem dMH_fits_177 : decode c_MH_fits 177 = .ok (.isub, 1) := by decide +kernel
theorem dMH_fits_178 : decode c_MH_fits 178 = .ok (.if_icmp .lt 5, 3) := by decide +kernel
theorem dMH_fits_181 : decode c_MH_fits 181 = .ok (.iconst 0, 1) := by decide +kernel
theorem dMH_fits_182 : decode c_MH_fits 182 = .ok (.ireturn, 1) := by decide +kernel
theorem dMH_fits_183 : decode c_MH_fits 183 = .ok (.iinc 2 1, 3) := by decide +kernel
theorem dMH_fits_186 : decode c_MH_fits 186 = .ok (.goto (-64), 3) := by decide +kernel
theorem dMH_fits_189 : decode c_MH_fits 189 = .ok (.iinc 1 1, 3) := by decide +kernel
theorem dMH_fits_192 : decode c_MH_fits 192 = .ok (.goto (-94), 3) := by decide +kernel
theorem dMH_fits_195 : decode c_MH_fits 195 = .ok (.iconst 0, 1) := by decide +kernel
theorem dMH_fits_196 : decode c_MH_fits 196 = .ok (.istore_n 1, 1) := by decide +kernel
theorem dMH_fits_197 : decode c_MH_fits 197 = .ok (.iconst 0, 1) := by decide +kernel
theorem dMH_fits_198 : decode c_MH_fits 198 = .ok (.istore_n 2, 1) := by decide +kernel
theorem dMH_fits_199 : decode c_MH_fits 199 = .ok (.iload_n 2, 1) := by decide +kernel
theorem dMH_fits_200 : decode c_MH_fits 200 = .ok (.aload_n 0, 1) := by decide +kernel
theorem dMH_fits_201 : decode c_MH_fits 201 = .ok (.getfield 107, 3) := by decide +kernel
theorem dMH_fits_204 : decode c_MH_fits 204 = .ok (.if_icmp .ge 117, 3) := by decide +kernel
theorem dMH_fits_207 : decode c_MH_fits 207 = .ok (.aload_n 0, 1) := by decide +kernel
theorem dMH_fits_208 : decode c_MH_fits 208 = .ok (.aload_n 0, 1) := by decide +kernel
theorem dMH_fits_209 : decode c_MH_fits 209 = .ok (.getfield 30, 3) := by decide +kernel
theorem dMH_fits_212 : decode c_MH_fits 212 = .ok (.iload_n 2, 1) := by decide +kernel
theorem dMH_fits_213 : decode c_MH_fits 213 = .ok (.aaload, 1) := by decide +kernel
theorem dMH_fits_214 : decode c_MH_fits 214 = .ok (.aload_n 0, 1) := by decide +kernel
theorem dMH_fits_215 : decode c_MH_fits 215 = .ok (.getfield 55, 3) := by decide +kernel
theorem dMH_fits_218 : decode c_MH_fits 218 = .ok (.invokevirtual 214, 3) := by decide +kernel
theorem dMH_fits_221 : decode c_MH_fits 221 = .ok (.iconst 0, 1) := by decide +kernel
theorem dMH_fits_222 : decode c_MH_fits 222 = .ok (.istore_n 3, 1) := by decide +kernel
theorem dMH_fits_223 : decode c_MH_fits 223 = .ok (.iload_n 3, 1) := by decide +kernel
theorem dMH_fits_224 : decode c_MH_fits 224 = .ok (.sipush 256, 3) := by decide +kernel
theorem dMH_fits_227 : decode c_MH_fits 227 = .ok (.if_icmp .ge 88, 3) := by decide +kernel
theorem dMH_fits_230 : decode c_MH_fits 230 = .ok (.aload_n 0, 1) := by decide +kernel
theorem dMH_fits_231 : decode c_MH_fits 231 = .ok (.getfield 55, 3) := by decide +kernel
theorem dMH_fits_234 : decode c_MH_fits 234 = .ok (.iload_n 3, 1) := by decide +kernel
theorem dMH_fits_235 : decode c_MH_fits 235 = .ok (.iaload, 1) := by decide +kernel
theorem dMH_fits_236 : decode c_MH_fits 236 = .ok (.invokestatic 218, 3) := by decide +kernel
theorem dMH_fits_239 : decode c_MH_fits 239 = .ok (.aload_n 0, 1) := by decide +kernel
theorem dMH_fits_240 : decode c_MH_fits 240 = .ok (.getfield 123, 3) := by decide +kernel
theorem dMH_fits_243 : decode c_MH_fits 243 = .ok (.if_icmp .lt 5, 3) := by decide +kernel
theorem dMH_fits_246 : decode c_MH_fits 246 = .ok (.iconst 0, 1) := by decide +kernel
theorem dMH_fits_247 : decode c_MH_fits 247 = .ok (.ireturn, 1) := by decide +kernel
theorem dMH_fits_248 : decode c_MH_fits 248 = .ok (.aload_n 0, 1) := by decide +kernel
theorem dMH_fits_249 : decode c_MH_fits 249 = .ok (.getfield 48, 3) := by decide +kernel
theorem dMH_fits_252 : decode c_MH_fits 252 = .ok (.iload_n 2, 1) := by decide +kernel
theorem dMH_fits_253 : decode c_MH_fits 253 = .ok (.aaload, 1) := by decide +kernel
theorem dMH_fits_254 : decode c_MH_fits 254 = .ok (.iload_n 3, 1) := by decide +kernel
theorem dMH_fits_255 : decode c_MH_fits 255 = .ok (.aload_n 0, 1) := by decide +kernel
theorem dMH_fits_256 : decode c_MH_fits 256 = .ok (.aload_n 0, 1) := by decide +kernel
theorem dMH_fits_257 : decode c_MH_fits 257 = .ok (.getfield 45, 3) := by decide +kernel
theorem dMH_fits_260 : decode c_MH_fits 260 = .ok (.iload_n 2, 1) := by decide +kernel
theorem dMH_fits_261 : decode c_MH_fits 261 = .ok (.aaload, 1) := by decide +kernel
theorem dMH_fits_262 : decode c_MH_fits 262 = .ok (.iload_n 3, 1) := by decide +kernel
theorem dMH_fits_263 : decode c_MH_fits 263 = .ok (.iaload, 1) := by decide +kernel
theorem dMH_fits_264 : decode c_MH_fits 264 = .ok (.aload_n 0, 1) := by decide +kernel
theorem dMH_fits_265 : decode c_MH_fits 265 = .ok (.getfield 55, 3) := by decide +kernel
theorem dMH_fits_268 : decode c_MH_fits 268 = .ok (.iload_n 3, 1) := by decide +kernel
theorem dMH_fits_269 : decode c_MH_fits 269 = .ok (.iaload, 1) := by decide +kernel
theorem dMH_fits_270 : decode c_MH_fits 270 = .ok (.iadd, 1) := by decide +kernel
theorem dMH_fits_271 : decode c_MH_fits 271 = .ok (.ldc 11, 2) := by decide +kernel
theorem dMH_fits_273 : decode c_MH_fits 273 = .ok (.irem, 1) := by decide +kernel
theorem dMH_fits_274 : decode c_MH_fits 274 = .ok (.invokevirtual 208, 3) := by decide +kernel
theorem dMH_fits_277 : decode c_MH_fits 277 = .ok (.aload_n 0, 1) := by decide +kernel
theorem dMH_fits_278 : decode c_MH_fits 278 = .ok (.aload_n 0, 1) := by decide +kernel
theorem dMH_fits_279 : decode c_MH_fits 279 = .ok (.getfield 45, 3) := by decide +kernel
theorem dMH_fits_282 : decode c_MH_fits 282 = .ok (.iload_n 2, 1) := by decide +kernel
theorem dMH_fits_283 : decode c_MH_fits 283 = .ok (.aaload, 1) := by decide +kernel
theorem dMH_fits_284 : decode c_MH_fits 284 = .ok (.iload_n 3, 1) := by decide +kernel
theorem dMH_fits_285 : decode c_MH_fits 285 = .ok (.iaload, 1) := by decide +kernel
theorem dMH_fits_286 : decode c_MH_fits 286 = .ok (.invokevirtual 208, 3) := by decide +kernel
theorem dMH_fits_289 : decode c_MH_fits 289 = .ok (.if_icmp .ne 7, 3) := by decide +kernel
theorem dMH_fits_292 : decode c_MH_fits 292 = .ok (.iconst 0, 1) := by decide +kernel
theorem dMH_fits_293 : decode c_MH_fits 293 = .ok (.goto 4, 3) := by decide +kernel
theorem dMH_fits_296 : decode c_MH_fits 296 = .ok (.iconst 1, 1) := by decide +kernel
theorem dMH_fits_297 : decode c_MH_fits 297 = .ok (.iastore, 1) := by decide +kernel
theorem dMH_fits_298 : decode c_MH_fits 298 = .ok (.iload_n 1, 1) := by decide +kernel
theorem dMH_fits_299 : decode c_MH_fits 299 = .ok (.aload_n 0, 1) := by decide +kernel
theorem dMH_fits_300 : decode c_MH_fits 300 = .ok (.getfield 48, 3) := by decide +kernel
theorem dMH_fits_303 : decode c_MH_fits 303 = .ok (.iload_n 2, 1) := by decide +kernel
theorem dMH_fits_304 : decode c_MH_fits 304 = .ok (.aaload, 1) := by decide +kernel
theorem dMH_fits_305 : decode c_MH_fits 305 = .ok (.iload_n 3, 1) := by decide +kernel
theorem dMH_fits_306 : decode c_MH_fits 306 = .ok (.iaload, 1) := by decide +kernel
theorem dMH_fits_307 : decode c_MH_fits 307 = .ok (.iadd, 1) := by decide +kernel
theorem dMH_fits_308 : decode c_MH_fits 308 = .ok (.istore_n 1, 1) := by decide +kernel
theorem dMH_fits_309 : decode c_MH_fits 309 = .ok (.iinc 3 1, 3) := by decide +kernel
theorem dMH_fits_312 : decode c_MH_fits 312 = .ok (.goto (-89), 3) := by decide +kernel
theorem dMH_fits_315 : decode c_MH_fits 315 = .ok (.iinc 2 1, 3) := by decide +kernel
theorem dMH_fits_318 : decode c_MH_fits 318 = .ok (.goto (-119), 3) := by decide +kernel
theorem dMH_fits_321 : decode c_MH_fits 321 = .ok (.iload_n 1, 1) := by decide +kernel
theorem dMH_fits_322 : decode c_MH_fits 322 = .ok (.getstatic 100, 3) := by decide +kernel
theorem dMH_fits_325 : decode c_MH_fits 325 = .ok (.aload_n 0, 1) := by decide +kernel
theorem dMH_fits_326 : decode c_MH_fits 326 = .ok (.getfield 103, 3) := by decide +kernel
theorem dMH_fits_329 : decode c_MH_fits 329 = .ok (.iaload, 1) := by decide +kernel
theorem dMH_fits_330 : decode c_MH_fits 330 = .ok (.if_icmp .gt 7, 3) := by decide +kernel
theorem dMH_fits_333 : decode c_MH_fits 333 = .ok (.iconst 1, 1) := by decide +kernel
theorem dMH_fits_334 : decode c_MH_fits 334 = .ok (.goto 4, 3) := by decide +kernel
theorem dMH_fits_337 : decode c_MH_fits 337 = .ok (.iconst 0, 1) := by decide +kernel
theorem dMH_fits_338 : decode c_MH_fits 338 = .ok (.ireturn, 1) := by decide +kernel
abbrev c_MH_written : ByteArray := prog_13_method_23_code
abbrev y_MH_written : MethodName := ⟨"LatticeKeysModel$Hands", "written", "([B)V"⟩
abbrev w_MH_written : List Cond := Cond.code y_MH_written c_MH_written 8 none :: WG
theorem dMH_written_0 : decode c_MH_written 0 = .ok (.iconst 0, 1) := by decide +kernel
theorem dMH_written_1 : decode c_MH_written 1 = .ok (.istore_n 2, 1) := by decide +kernel
theorem dMH_written_2 : decode c_MH_written 2 = .ok (.iload_n 2, 1) := by decide +kernel
theorem dMH_written_3 : decode c_MH_written 3 = .ok (.aload_n 0, 1) := by decide +kernel
theorem dMH_written_4 : decode c_MH_written 4 = .ok (.getfield 132, 3) := by decide +kernel
theorem dMH_written_7 : decode c_MH_written 7 = .ok (.if_icmp .ge 18, 3) := by decide +kernel
theorem dMH_written_10 : decode c_MH_written 10 = .ok (.aload_n 1, 1) := by decide +kernel
theorem dMH_written_11 : decode c_MH_written 11 = .ok (.iload_n 2, 1) := by decide +kernel
theorem dMH_written_12 : decode c_MH_written 12 = .ok (.aload_n 0, 1) := by decide +kernel
theorem dMH_written_13 : decode c_MH_written 13 = .ok (.getfield 78, 3) := by decide +kernel
theorem dMH_written_16 : decode c_MH_written 16 = .ok (.iload_n 2, 1) := by decide +kernel
theorem dMH_written_17 : decode c_MH_written 17 = .ok (.baload, 1) := by decide +kernel
theorem dMH_written_18 : decode c_MH_written 18 = .ok (.bastore, 1) := by decide +kernel
theorem dMH_written_19 : decode c_MH_written 19 = .ok (.iinc 2 1, 3) := by decide +kernel
theorem dMH_written_22 : decode c_MH_written 22 = .ok (.goto (-20), 3) := by decide +kernel
theorem dMH_written_25 : decode c_MH_written 25 = .ok (.aload_n 0, 1) := by decide +kernel
theorem dMH_written_26 : decode c_MH_written 26 = .ok (.getfield 103, 3) := by decide +kernel
theorem dMH_written_29 : decode c_MH_written 29 = .ok (.ifCond .ne 8, 3) := by decide +kernel
theorem dMH_written_32 : decode c_MH_written 32 = .ok (.bipush 18, 2) := by decide +kernel
theorem dMH_written_34 : decode c_MH_written 34 = .ok (.goto 5, 3) := by decide +kernel
theorem dMH_written_37 : decode c_MH_written 37 = .ok (.bipush 20, 2) := by decide +kernel
theorem dMH_written_39 : decode c_MH_written 39 = .ok (.istore_n 2, 1) := by decide +kernel
theorem dMH_written_40 : decode c_MH_written 40 = .ok (.bipush 8, 2) := by decide +kernel
theorem dMH_written_42 : decode c_MH_written 42 = .ok (.aload_n 0, 1) := by decide +kernel
theorem dMH_written_43 : decode c_MH_written 43 = .ok (.getfield 132, 3) := by decide +kernel
theorem dMH_written_46 : decode c_MH_written 46 = .ok (.imul, 1) := by decide +kernel
theorem dMH_written_47 : decode c_MH_written 47 = .ok (.istore_n 3, 1) := by decide +kernel
theorem dMH_written_48 : decode c_MH_written 48 = .ok (.iconst 0, 1) := by decide +kernel
theorem dMH_written_49 : decode c_MH_written 49 = .ok (.istore 4, 2) := by decide +kernel
theorem dMH_written_51 : decode c_MH_written 51 = .ok (.iload 4, 2) := by decide +kernel
theorem dMH_written_53 : decode c_MH_written 53 = .ok (.aload_n 0, 1) := by decide +kernel
theorem dMH_written_54 : decode c_MH_written 54 = .ok (.getfield 110, 3) := by decide +kernel
theorem dMH_written_57 : decode c_MH_written 57 = .ok (.if_icmp .ge 53, 3) := by decide +kernel
theorem dMH_written_60 : decode c_MH_written 60 = .ok (.iconst 0, 1) := by decide +kernel
theorem dMH_written_61 : decode c_MH_written 61 = .ok (.istore 5, 2) := by decide +kernel
theorem dMH_written_63 : decode c_MH_written 63 = .ok (.iload 5, 2) := by decide +kernel
theorem dMH_written_65 : decode c_MH_written 65 = .ok (.sipush 256, 3) := by decide +kernel
theorem dMH_written_68 : decode c_MH_written 68 = .ok (.if_icmp .ge 36, 3) := by decide +kernel
theorem dMH_written_71 : decode c_MH_written 71 = .ok (.aload_n 1, 1) := by decide +kernel
theorem dMH_written_72 : decode c_MH_written 72 = .ok (.iload_n 3, 1) := by decide +kernel
theorem dMH_written_73 : decode c_MH_written 73 = .ok (.iload_n 2, 1) := by decide +kernel
theorem dMH_written_74 : decode c_MH_written 74 = .ok (.aload_n 0, 1) := by decide +kernel
theorem dMH_written_75 : decode c_MH_written 75 = .ok (.getfield 118, 3) := by decide +kernel
theorem dMH_written_78 : decode c_MH_written 78 = .ok (.aload_n 0, 1) := by decide +kernel
theorem dMH_written_79 : decode c_MH_written 79 = .ok (.getfield 39, 3) := by decide +kernel
theorem dMH_written_82 : decode c_MH_written 82 = .ok (.iload 4, 2) := by decide +kernel
theorem dMH_written_84 : decode c_MH_written 84 = .ok (.aaload, 1) := by decide +kernel
theorem dMH_written_85 : decode c_MH_written 85 = .ok (.iload 5, 2) := by decide +kernel
theorem dMH_written_87 : decode c_MH_written 87 = .ok (.iaload, 1) := by decide +kernel
theorem dMH_written_88 : decode c_MH_written 88 = .ok (.invokestatic 201, 3) := by decide +kernel
theorem dMH_written_91 : decode c_MH_written 91 = .ok (.invokestatic 187, 3) := by decide +kernel
theorem dMH_written_94 : decode c_MH_written 94 = .ok (.iload_n 3, 1) := by decide +kernel
theorem dMH_written_95 : decode c_MH_written 95 = .ok (.iload_n 2, 1) := by decide +kernel
theorem dMH_written_96 : decode c_MH_written 96 = .ok (.iadd, 1) := by decide +kernel
theorem dMH_written_97 : decode c_MH_written 97 = .ok (.istore_n 3, 1) := by decide +kernel
theorem dMH_written_98 : decode c_MH_written 98 = .ok (.iinc 5 1, 3) := by decide +kernel
theorem dMH_written_101 : decode c_MH_written 101 = .ok (.goto (-38), 3) := by decide +kernel
theorem dMH_written_104 : decode c_MH_written 104 = .ok (.iinc 4 1, 3) := by decide +kernel
theorem dMH_written_107 : decode c_MH_written 107 = .ok (.goto (-56), 3) := by decide +kernel
theorem dMH_written_110 : decode c_MH_written 110 = .ok (.iload_n 3, 1) := by decide +kernel
theorem dMH_written_111 : decode c_MH_written 111 = .ok (.bipush 8, 2) := by decide +kernel
theorem dMH_written_113 : decode c_MH_written 113 = .ok (.idiv, 1) := by decide +kernel
theorem dMH_written_114 : decode c_MH_written 114 = .ok (.istore 4, 2) := by decide +kernel
theorem dMH_written_116 : decode c_MH_written 116 = .ok (.iconst 0, 1) := by decide +kernel
theorem dMH_written_117 : decode c_MH_written 117 = .ok (.istore 5, 2) := by decide +kernel
theorem dMH_written_119 : decode c_MH_written 119 = .ok (.iconst 0, 1) := by decide +kernel
theorem dMH_written_120 : decode c_MH_written 120 = .ok (.istore 6, 2) := by decide +kernel
theorem dMH_written_122 : decode c_MH_written 122 = .ok (.iload 6, 2) := by decide +kernel
theorem dMH_written_124 : decode c_MH_written 124 = .ok (.getstatic 100, 3) := by decide +kernel
theorem dMH_written_127 : decode c_MH_written 127 = .ok (.aload_n 0, 1) := by decide +kernel
theorem dMH_written_128 : decode c_MH_written 128 = .ok (.getfield 103, 3) := by decide +kernel
theorem dMH_written_131 : decode c_MH_written 131 = .ok (.iaload, 1) := by decide +kernel
theorem dMH_written_132 : decode c_MH_written 132 = .ok (.aload_n 0, 1) := by decide +kernel
theorem dMH_written_133 : decode c_MH_written 133 = .ok (.getfield 107, 3) := by decide +kernel
theorem dMH_written_136 : decode c_MH_written 136 = .ok (.iadd, 1) := by decide +kernel
theorem dMH_written_137 : decode c_MH_written 137 = .ok (.if_icmp .ge 17, 3) := by decide +kernel
theorem dMH_written_140 : decode c_MH_written 140 = .ok (.aload_n 1, 1) := by decide +kernel
theorem dMH_written_141 : decode c_MH_written 141 = .ok (.iload 4, 2) := by decide +kernel
theorem dMH_written_143 : decode c_MH_written 143 = .ok (.iload 6, 2) := by decide +kernel
theorem dMH_written_145 : decode c_MH_written 145 = .ok (.iadd, 1) := by decide +kernel
theorem dMH_written_146 : decode c_MH_written 146 = .ok (.iconst 0, 1) := by decide +kernel
theorem dMH_written_147 : decode c_MH_written 147 = .ok (.bastore, 1) := by decide +kernel
theorem dMH_written_148 : decode c_MH_written 148 = .ok (.iinc 6 1, 3) := by decide +kernel
theorem dMH_written_151 : decode c_MH_written 151 = .ok (.goto (-29), 3) := by decide +kernel
theorem dMH_written_154 : decode c_MH_written 154 = .ok (.iconst 0, 1) := by decide +kernel
theorem dMH_written_155 : decode c_MH_written 155 = .ok (.istore 6, 2) := by decide +kernel
theorem dMH_written_157 : decode c_MH_written 157 = .ok (.iload 6, 2) := by decide +kernel
theorem dMH_written_159 : decode c_MH_written 159 = .ok (.aload_n 0, 1) := by decide +kernel
theorem dMH_written_160 : decode c_MH_written 160 = .ok (.getfield 107, 3) := by decide +kernel
theorem dMH_written_163 : decode c_MH_written 163 = .ok (.if_icmp .ge 74, 3) := by decide +kernel
theorem dMH_written_166 : decode c_MH_written 166 = .ok (.iconst 0, 1) := by decide +kernel
theorem dMH_written_167 : decode c_MH_written 167 = .ok (.istore 7, 2) := by decide +kernel
theorem dMH_written_169 : decode c_MH_written 169 = .ok (.iload 7, 2) := by decide +kernel
theorem dMH_written_171 : decode c_MH_written 171 = .ok (.sipush 256, 3) := by decide +kernel
theorem dMH_written_174 : decode c_MH_written 174 = .ok (.if_icmp .ge 38, 3) := by decide +kernel
theorem dMH_written_177 : decode c_MH_written 177 = .ok (.aload_n 0, 1) := by decide +kernel
theorem dMH_written_178 : decode c_MH_written 178 = .ok (.getfield 48, 3) := by decide +kernel
theorem dMH_written_181 : decode c_MH_written 181 = .ok (.iload 6, 2) := by decide +kernel
theorem dMH_written_183 : decode c_MH_written 183 = .ok (.aaload, 1) := by decide +kernel
theorem dMH_written_184 : decode c_MH_written 184 = .ok (.iload 7, 2) := by decide +kernel
theorem dMH_written_186 : decode c_MH_written 186 = .ok (.iaload, 1) := by decide +kernel
theorem dMH_written_187 : decode c_MH_written 187 = .ok (.ifCond .ne 6, 3) := by decide +kernel
theorem dMH_written_190 : decode c_MH_written 190 = .ok (.goto 16, 3) := by decide +kernel
theorem dMH_written_193 : decode c_MH_written 193 = .ok (.aload_n 1, 1) := by decide +kernel
theorem dMH_written_194 : decode c_MH_written 194 = .ok (.iload 4, 2) := by decide +kernel
theorem dMH_written_196 : decode c_MH_written 196 = .ok (.iload 5, 2) := by decide +kernel
theorem dMH_written_198 : decode c_MH_written 198 = .ok (.iadd, 1) := by decide +kernel
theorem dMH_written_199 : decode c_MH_written 199 = .ok (.iload 7, 2) := by decide +kernel
theorem dMH_written_201 : decode c_MH_written 201 = .ok (.i2b, 1) := by decide +kernel
theorem dMH_written_202 : decode c_MH_written 202 = .ok (.bastore, 1) := by decide +kernel
theorem dMH_written_203 : decode c_MH_written 203 = .ok (.iinc 5 1, 3) := by decide +kernel
theorem dMH_written_206 : decode c_MH_written 206 = .ok (.iinc 7 1, 3) := by decide +kernel
theorem dMH_written_209 : decode c_MH_written 209 = .ok (.goto (-40), 3) := by decide +kernel
theorem dMH_written_212 : decode c_MH_written 212 = .ok (.aload_n 1, 1) := by decide +kernel
theorem dMH_written_213 : decode c_MH_written 213 = .ok (.iload 4, 2) := by decide +kernel
theorem dMH_written_215 : decode c_MH_written 215 = .ok (.getstatic 100, 3) := by decide +kernel
theorem dMH_written_218 : decode c_MH_written 218 = .ok (.aload_n 0, 1) := by decide +kernel
theorem dMH_written_219 : decode c_MH_written 219 = .ok (.getfield 103, 3) := by decide +kernel
theorem dMH_written_222 : decode c_MH_written 222 = .ok (.iaload, 1) := by decide +kernel
theorem dMH_written_223 : decode c_MH_written 223 = .ok (.iadd, 1) := by decide +kernel
theorem dMH_written_224 : decode c_MH_written 224 = .ok (.iload 6, 2) := by decide +kernel
theorem dMH_written_226 : decode c_MH_written 226 = .ok (.iadd, 1) := by decide +kernel
theorem dMH_written_227 : decode c_MH_written 227 = .ok (.iload 5, 2) := by decide +kernel
theorem dMH_written_229 : decode c_MH_written 229 = .ok (.i2b, 1) := by decide +kernel
theorem dMH_written_230 : decode c_MH_written 230 = .ok (.bastore, 1) := by decide +kernel
theorem dMH_written_231 : decode c_MH_written 231 = .ok (.iinc 6 1, 3) := by decide +kernel
theorem dMH_written_234 : decode c_MH_written 234 = .ok (.goto (-77), 3) := by decide +kernel
theorem dMH_written_237 : decode c_MH_written 237 = .ok (.return_, 1) := by decide +kernel
abbrev c_MH_readHints : ByteArray := prog_13_method_24_code
abbrev y_MH_readHints : MethodName := ⟨"LatticeKeysModel$Hands", "readHints", "([BI)Z"⟩
abbrev w_MH_readHints : List Cond := Cond.code y_MH_readHints c_MH_readHints 8 (some .boolean) :: WG
theorem dMH_readHints_0 : decode c_MH_readHints 0 = .ok (.iconst 0, 1) := by decide +kernel
theorem dMH_readHints_1 : decode c_MH_readHints 1 = .ok (.istore_n 3, 1) := by decide +kernel
theorem dMH_readHints_2 : decode c_MH_readHints 2 = .ok (.iconst 0, 1) := by decide +kernel
theorem dMH_readHints_3 : decode c_MH_readHints 3 = .ok (.istore 4, 2) := by decide +kernel
theorem dMH_readHints_5 : decode c_MH_readHints 5 = .ok (.iload 4, 2) := by decide +kernel
theorem dMH_readHints_7 : decode c_MH_readHints 7 = .ok (.aload_n 0, 1) := by decide +kernel
theorem dMH_readHints_8 : decode c_MH_readHints 8 = .ok (.getfield 107, 3) := by decide +kernel
theorem dMH_readHints_11 : decode c_MH_readHints 11 = .ok (.if_icmp .ge 146, 3) := by decide +kernel
theorem dMH_readHints_14 : decode c_MH_readHints 14 = .ok (.iconst 0, 1) := by decide +kernel
theorem dMH_readHints_15 : decode c_MH_readHints 15 = .ok (.istore 5, 2) := by decide +kernel
theorem dMH_readHints_17 : decode c_MH_readHints 17 = .ok (.iload 5, 2) := by decide +kernel
theorem dMH_readHints_19 : decode c_MH_readHints 19 = .ok (.sipush 256, 3) := by decide +kernel
theorem dMH_readHints_22 : decode c_MH_readHints 22 = .ok (.if_icmp .ge 20, 3) := by decide +kernel
theorem dMH_readHints_25 : decode c_MH_readHints 25 = .ok (.aload_n 0, 1) := by decide +kernel
theorem dMH_readHints_26 : decode c_MH_readHints 26 = .ok (.getfield 48, 3) := by decide +kernel
theorem dMH_readHints_29 : decode c_MH_readHints 29 = .ok (.iload 4, 2) := by decide +kernel
theorem dMH_readHints_31 : decode c_MH_readHints 31 = .ok (.aaload, 1) := by decide +kernel
theorem dMH_readHints_32 : decode c_MH_readHints 32 = .ok (.iload 5, 2) := by decide +kernel
theorem dMH_readHints_34 : decode c_MH_readHints 34 = .ok (.iconst 0, 1) := by decide +kernel
theorem dMH_readHints_35 : decode c_MH_readHints 35 = .ok (.iastore, 1) := by decide +kernel
theorem dMH_readHints_36 : decode c_MH_readHints 36 = .ok (.iinc 5 1, 3) := by decide +kernel
theorem dMH_readHints_39 : decode c_MH_readHints 39 = .ok (.goto (-22), 3) := by decide +kernel
theorem dMH_readHints_42 : decode c_MH_readHints 42 = .ok (.aload_n 1, 1) := by decide +kernel
theorem dMH_readHints_43 : decode c_MH_readHints 43 = .ok (.iload_n 2, 1) := by decide +kernel
theorem dMH_readHints_44 : decode c_MH_readHints 44 = .ok (.getstatic 100, 3) := by decide +kernel
theorem dMH_readHints_47 : decode c_MH_readHints 47 = .ok (.aload_n 0, 1) := by decide +kernel
theorem dMH_readHints_48 : decode c_MH_readHints 48 = .ok (.getfield 103, 3) := by decide +kernel
theorem dMH_readHints_51 : decode c_MH_readHints 51 = .ok (.iaload, 1) := by decide +kernel
theorem dMH_readHints_52 : decode c_MH_readHints 52 = .ok (.iadd, 1) := by decide +kernel
theorem dMH_readHints_53 : decode c_MH_readHints 53 = .ok (.iload 4, 2) := by decide +kernel
theorem dMH_readHints_55 : decode c_MH_readHints 55 = .ok (.iadd, 1) := by decide +kernel
theorem dMH_readHints_56 : decode c_MH_readHints 56 = .ok (.baload, 1) := by decide +kernel
theorem dMH_readHints_57 : decode c_MH_readHints 57 = .ok (.sipush 255, 3) := by decide +kernel
theorem dMH_readHints_60 : decode c_MH_readHints 60 = .ok (.iand, 1) := by decide +kernel
theorem dMH_readHints_61 : decode c_MH_readHints 61 = .ok (.istore 5, 2) := by decide +kernel
theorem dMH_readHints_63 : decode c_MH_readHints 63 = .ok (.iload 5, 2) := by decide +kernel
theorem dMH_readHints_65 : decode c_MH_readHints 65 = .ok (.iload_n 3, 1) := by decide +kernel
theorem dMH_readHints_66 : decode c_MH_readHints 66 = .ok (.if_icmp .lt 16, 3) := by decide +kernel
theorem dMH_readHints_69 : decode c_MH_readHints 69 = .ok (.iload 5, 2) := by decide +kernel
theorem dMH_readHints_71 : decode c_MH_readHints 71 = .ok (.getstatic 100, 3) := by decide +kernel
theorem dMH_readHints_74 : decode c_MH_readHints 74 = .ok (.aload_n 0, 1) := by decide +kernel
theorem dMH_readHints_75 : decode c_MH_readHints 75 = .ok (.getfield 103, 3) := by decide +kernel
theorem dMH_readHints_78 : decode c_MH_readHints 78 = .ok (.iaload, 1) := by decide +kernel
theorem dMH_readHints_79 : decode c_MH_readHints 79 = .ok (.if_icmp .le 5, 3) := by decide +kernel
theorem dMH_readHints_82 : decode c_MH_readHints 82 = .ok (.iconst 0, 1) := by decide +kernel
theorem dMH_readHints_83 : decode c_MH_readHints 83 = .ok (.ireturn, 1) := by decide +kernel
theorem dMH_readHints_84 : decode c_MH_readHints 84 = .ok (.iload_n 3, 1) := by decide +kernel
theorem dMH_readHints_85 : decode c_MH_readHints 85 = .ok (.istore 6, 2) := by decide +kernel
theorem dMH_readHints_87 : decode c_MH_readHints 87 = .ok (.iload 6, 2) := by decide +kernel
theorem dMH_readHints_89 : decode c_MH_readHints 89 = .ok (.iload 5, 2) := by decide +kernel
theorem dMH_readHints_91 : decode c_MH_readHints 91 = .ok (.if_icmp .ge 57, 3) := by decide +kernel
theorem dMH_readHints_94 : decode c_MH_readHints 94 = .ok (.aload_n 1, 1) := by decide +kernel
theorem dMH_readHints_95 : decode c_MH_readHints 95 = .ok (.iload_n 2, 1) := by decide +kernel
theorem dMH_readHints_96 : decode c_MH_readHints 96 = .ok (.iload 6, 2) := by decide +kernel
theorem dMH_readHints_98 : decode c_MH_readHints 98 = .ok (.iadd, 1) := by decide +kernel
theorem dMH_readHints_99 : decode c_MH_readHints 99 = .ok (.baload, 1) := by decide +kernel
theorem dMH_readHints_100 : decode c_MH_readHints 100 = .ok (.sipush 255, 3) := by decide +kernel
theorem dMH_readHints_103 : decode c_MH_readHints 103 = .ok (.iand, 1) := by decide +kernel
theorem dMH_readHints_104 : decode c_MH_readHints 104 = .ok (.istore 7, 2) := by decide +kernel
theorem dMH_readHints_106 : decode c_MH_readHints 106 = .ok (.iload 6, 2) := by decide +kernel
theorem dMH_readHints_108 : decode c_MH_readHints 108 = .ok (.iload_n 3, 1) := by decide +kernel
theorem dMH_readHints_109 : decode c_MH_readHints 109 = .ok (.if_icmp .le 22, 3) := by decide +kernel
theorem dMH_readHints_112 : decode c_MH_readHints 112 = .ok (.aload_n 1, 1) := by decide +kernel
theorem dMH_readHints_113 : decode c_MH_readHints 113 = .ok (.iload_n 2, 1) := by decide +kernel
theorem dMH_readHints_114 : decode c_MH_readHints 114 = .ok (.iload 6, 2) := by decide +kernel
theorem dMH_readHints_116 : decode c_MH_readHints 116 = .ok (.iadd, 1) := by decide +kernel
theorem dMH_readHints_117 : decode c_MH_readHints 117 = .ok (.iconst 1, 1) := by decide +kernel
theorem dMH_readHints_118 : decode c_MH_readHints 118 = .ok (.isub, 1) := by decide +kernel
theorem dMH_readHints_119 : decode c_MH_readHints 119 = .ok (.baload, 1) := by decide +kernel
theorem dMH_readHints_120 : decode c_MH_readHints 120 = .ok (.sipush 255, 3) := by decide +kernel
theorem dMH_readHints_123 : decode c_MH_readHints 123 = .ok (.iand, 1) := by decide +kernel
theorem dMH_readHints_124 : decode c_MH_readHints 124 = .ok (.iload 7, 2) := by decide +kernel
theorem dMH_readHints_126 : decode c_MH_readHints 126 = .ok (.if_icmp .lt 5, 3) := by decide +kernel
theorem dMH_readHints_129 : decode c_MH_readHints 129 = .ok (.iconst 0, 1) := by decide +kernel
theorem dMH_readHints_130 : decode c_MH_readHints 130 = .ok (.ireturn, 1) := by decide +kernel
theorem dMH_readHints_131 : decode c_MH_readHints 131 = .ok (.aload_n 0, 1) := by decide +kernel
theorem dMH_readHints_132 : decode c_MH_readHints 132 = .ok (.getfield 48, 3) := by decide +kernel
theorem dMH_readHints_135 : decode c_MH_readHints 135 = .ok (.iload 4, 2) := by decide +kernel
theorem dMH_readHints_137 : decode c_MH_readHints 137 = .ok (.aaload, 1) := by decide +kernel
theorem dMH_readHints_138 : decode c_MH_readHints 138 = .ok (.iload 7, 2) := by decide +kernel
theorem dMH_readHints_140 : decode c_MH_readHints 140 = .ok (.iconst 1, 1) := by decide +kernel
theorem dMH_readHints_141 : decode c_MH_readHints 141 = .ok (.iastore, 1) := by decide +kernel
theorem dMH_readHints_142 : decode c_MH_readHints 142 = .ok (.iinc 6 1, 3) := by decide +kernel
theorem dMH_readHints_145 : decode c_MH_readHints 145 = .ok (.goto (-58), 3) := by decide +kernel
theorem dMH_readHints_148 : decode c_MH_readHints 148 = .ok (.iload 5, 2) := by decide +kernel
theorem dMH_readHints_150 : decode c_MH_readHints 150 = .ok (.istore_n 3, 1) := by decide +kernel
theorem dMH_readHints_151 : decode c_MH_readHints 151 = .ok (.iinc 4 1, 3) := by decide +kernel
theorem dMH_readHints_154 : decode c_MH_readHints 154 = .ok (.goto (-149), 3) := by decide +kernel
theorem dMH_readHints_157 : decode c_MH_readHints 157 = .ok (.iload_n 3, 1) := by decide +kernel
theorem dMH_readHints_158 : decode c_MH_readHints 158 = .ok (.istore 4, 2) := by decide +kernel
theorem dMH_readHints_160 : decode c_MH_readHints 160 = .ok (.iload 4, 2) := by decide +kernel
theorem dMH_readHints_162 : decode c_MH_readHints 162 = .ok (.getstatic 100, 3) := by decide +kernel
theorem dMH_readHints_165 : decode c_MH_readHints 165 = .ok (.aload_n 0, 1) := by decide +kernel
theorem dMH_readHints_166 : decode c_MH_readHints 166 = .ok (.getfield 103, 3) := by decide +kernel
theorem dMH_readHints_169 : decode c_MH_readHints 169 = .ok (.iaload, 1) := by decide +kernel
theorem dMH_readHints_170 : decode c_MH_readHints 170 = .ok (.if_icmp .ge 20, 3) := by decide +kernel
theorem dMH_readHints_173 : decode c_MH_readHints 173 = .ok (.aload_n 1, 1) := by decide +kernel
theorem dMH_readHints_174 : decode c_MH_readHints 174 = .ok (.iload_n 2, 1) := by decide +kernel
theorem dMH_readHints_175 : decode c_MH_readHints 175 = .ok (.iload 4, 2) := by decide +kernel
theorem dMH_readHints_177 : decode c_MH_readHints 177 = .ok (.iadd, 1) := by decide +kernel
theorem dMH_readHints_178 : decode c_MH_readHints 178 = .ok (.baload, 1) := by decide +kernel
theorem dMH_readHints_179 : decode c_MH_readHints 179 = .ok (.ifCond .eq 5, 3) := by decide +kernel
theorem dMH_readHints_182 : decode c_MH_readHints 182 = .ok (.iconst 0, 1) := by decide +kernel
theorem dMH_readHints_183 : decode c_MH_readHints 183 = .ok (.ireturn, 1) := by decide +kernel
theorem dMH_readHints_184 : decode c_MH_readHints 184 = .ok (.iinc 4 1, 3) := by decide +kernel
theorem dMH_readHints_187 : decode c_MH_readHints 187 = .ok (.goto (-27), 3) := by decide +kernel
theorem dMH_readHints_190 : decode c_MH_readHints 190 = .ok (.iconst 1, 1) := by decide +kernel
theorem dMH_readHints_191 : decode c_MH_readHints 191 = .ok (.ireturn, 1) := by decide +kernel
set_option maxHeartbeats 400000 in
set_option maxRecDepth 100000 in
theorem t_MH_readHidden_0 (l : Launch) (g : Gd) (sz : Nat) (T : Ty) (xs : List Nat) (pl : va_W) (hO : okx g T xs pl) (hU : uni T) (hc0 : clo T xs 0) (h0 sk : Nat) (k_h0 : T h0 = some (46, 0)) (k_sk : T sk = some (1, 4896))  : Met l y_MH_readHidden w_MH_readHidden ({ frames := 1, cells := 0, slots := 0, locals := 24 } : Room) (va_Pc [.ref h0, .ref sk] (pr (en g) g.1 vcl sz ([] ++ pl))) (va_Qv (fun (u : va_W) => (True) ∧ okx g T xs u) (po g.1 vcl (va_A ([] ++ pl) sz) (fun (u : va_W) => [] ++ u)) (va_A ([] ++ pl) sz)) 0 0 (va_A ([] ++ pl) sz) := by
  refine mc_entry (cc := c_MH_readHidden) (maxL := 7) (ret := none) (by decide) rfl (Nat.le_of_ble_eq_true rfl) ?_
  intro p e s m args below meth c ls F hr hlk hnm hsz hP hD hE hA hl
  obtain ⟨hx, hb, hml, hown, hts⟩ := id F
  have hK := hE.1
  generalize va_A ([] ++ pl) sz = A at hD hE hA ⊢
  have hS : va_S A s.heap s.heap [] := va_S.rf
  have hl : lv_has ls 7 [(0, .ref h0), (1, .ref sk)] := hl
  refine lv_aload_n hx hb dMH_readHidden_0 rfl (lv_at hl 0 rfl) ?_
  refine ty_get (ci := 12) (C := "LatticeKeysModel$Hands") (TT := T_MH) (N := 31) (kd := (46, 0)) hx hb hts (wg_ft i_MH) hown hK hO k_h0 (nxg hc0 k_h0 rfl) hP (fun _ h9 => h9) rfl 26 (by decide) (hts _ (wg_t kw_1458)) (fun _ h9 => h9) (cd := (1, 0, 2)) rfl dMH_readHidden_1 (fun v21 hv21 => ?_)
  obtain rfl := (show v21 = .int (nI 2) from hv21)
  refine lv_iconst (v := nI 2) hx hb dMH_readHidden_4 (by decide) ?_
  refine mi_ne (tgt := 12) hx hb dMH_readHidden_5 (by decide) (by omega) (by omega) (fun h21 => absurd h21 (by omega)) (fun h21 => ?_)
  refine lv_iconst (v := nI 3) hx hb dMH_readHidden_8 (by decide) ?_
  refine lv_goto (tgt := 13) hx hb dMH_readHidden_9 (by decide) ?_
  refine lv_istore_n (lv' := [(2, .int (nI 3)), (0, .ref h0), (1, .ref sk)]) hx hb dMH_readHidden_13 rfl hl (by decide) rfl (fun ls hl => ?_)
  refine lv_sipush (v := nI 1024) hx hb dMH_readHidden_14 (by decide) ?_
  refine lv_istore_n (lv' := [(3, .int (nI 1024)), (2, .int (nI 3)), (0, .ref h0), (1, .ref sk)]) hx hb dMH_readHidden_17 rfl hl (by decide) rfl (fun ls hl => ?_)
  refine lv_iconst (v := nI 0) hx hb dMH_readHidden_18 (by decide) ?_
  refine lv_istore (lv' := [(4, .int (nI 0)), (3, .int (nI 1024)), (2, .int (nI 3)), (0, .ref h0), (1, .ref sk)]) hx hb dMH_readHidden_19 hl (by decide) rfl (fun ls hl => ?_)
  have lp21 : ∀ (n21 : Nat) (i21 : Nat) (az21 : Nat) (pl : va_W) (ls : Array Slot) (H : Heap) (locs : List Loc), n21 + i21 = 8 → (az21 = 1024 + 768 * i21) → lv_has ls 7 [(4, .int (nI i21)), (3, .int (nI az21)), (2, .int (nI 3)), (0, .ref h0), (1, .ref sk)] → okx g T xs pl → va_P g.1 vcl ([] ++ pl) H → va_D A ([] ++ pl) → va_S A s.heap H locs → W p l e ({ frames := 1, cells := 0, slots := 0, locals := 24 } : Room) s m args below meth c H locs 0 0 (MQ below (va_Qv (fun (u : va_W) => (True) ∧ okx g T xs u) (po g.1 vcl A (fun (u : va_W) => [] ++ u)) A) args s 0 0 A) (F0 m 21 ls []) := by
    intro n21
    induction n21 with
    | zero =>
      intro i21 az21 pl ls H locs hm21 hi21 hl hO hP hD hS
      refine lv_iload hx hb dMH_readHidden_21 (lv_at hl 0 rfl) ?_
      refine lv_aload_n hx hb dMH_readHidden_23 rfl (lv_at hl 3 rfl) ?_
      refine ty_get (ci := 12) (C := "LatticeKeysModel$Hands") (TT := T_MH) (N := 31) (kd := (46, 0)) hx hb hts (wg_ft i_MH) hown hK hO k_h0 (nxg hc0 k_h0 rfl) hP (fun _ h9 => h9) rfl 24 (by decide) (hts _ (wg_t kw_1456)) (fun _ h9 => h9) (cd := (1, 0, 4)) rfl dMH_readHidden_24 (fun v22 hv22 => ?_)
      obtain rfl := (show v22 = .int (nI 4) from hv22)
      refine lv_aload_n hx hb dMH_readHidden_27 rfl (lv_at hl 3 rfl) ?_
      refine ty_get (ci := 12) (C := "LatticeKeysModel$Hands") (TT := T_MH) (N := 31) (kd := (46, 0)) hx hb hts (wg_ft i_MH) hown hK hO k_h0 (nxg hc0 k_h0 rfl) hP (fun _ h9 => h9) rfl 25 (by decide) (hts _ (wg_t kw_1457)) (fun _ h9 => h9) (cd := (1, 0, 4)) rfl dMH_readHidden_28 (fun v23 hv23 => ?_)
      obtain rfl := (show v23 = .int (nI 4) from hv23)
      refine mi_iadd hx hb dMH_readHidden_31 ?_
      refine mi_as (show nI (4 + 4) = nI 8 from rfl) ?_
      refine mi_ge (tgt := 118) hx hb dMH_readHidden_32 (by decide) (by omega) (by omega) (fun h22 => ?_) (fun h22 => absurd h22 (by omega))
      refine lv_iconst (v := nI 0) hx hb dMH_readHidden_118 (by decide) ?_
      refine lv_istore (lv' := [(4, .int (nI 0)), (3, .int (nI az21)), (2, .int (nI 3)), (0, .ref h0), (1, .ref sk)]) hx hb dMH_readHidden_119 hl (by decide) rfl (fun ls hl => ?_)
      have lp22 : ∀ (n22 : Nat) (i22 : Nat) (az22 : Nat) (pl : va_W) (ls : Array Slot) (H : Heap) (locs : List Loc), n22 + i22 = 4 → (az22 = 7168 + 3328 * i22) → lv_has ls 7 [(4, .int (nI i22)), (3, .int (nI az22)), (0, .ref h0), (1, .ref sk)] → okx g T xs pl → va_P g.1 vcl ([] ++ pl) H → va_D A ([] ++ pl) → va_S A s.heap H locs → W p l e ({ frames := 1, cells := 0, slots := 0, locals := 24 } : Room) s m args below meth c H locs 0 0 (MQ below (va_Qv (fun (u : va_W) => (True) ∧ okx g T xs u) (po g.1 vcl A (fun (u : va_W) => [] ++ u)) A) args s 0 0 A) (F0 m 121 ls []) := by
        intro n22
        induction n22 with
        | zero =>
          intro i22 az22 pl ls H locs hm22 hi22 hl hO hP hD hS
          refine lv_iload hx hb dMH_readHidden_121 (lv_at hl 0 rfl) ?_
          refine lv_aload_n hx hb dMH_readHidden_123 rfl (lv_at hl 2 rfl) ?_
          refine ty_get (ci := 12) (C := "LatticeKeysModel$Hands") (TT := T_MH) (N := 31) (kd := (46, 0)) hx hb hts (wg_ft i_MH) hown hK hO k_h0 (nxg hc0 k_h0 rfl) hP (fun _ h9 => h9) rfl 24 (by decide) (hts _ (wg_t kw_1456)) (fun _ h9 => h9) (cd := (1, 0, 4)) rfl dMH_readHidden_124 (fun v24 hv24 => ?_)
          obtain rfl := (show v24 = .int (nI 4) from hv24)
          refine mi_ge (tgt := 179) hx hb dMH_readHidden_127 (by decide) (by omega) (by omega) (fun h23 => ?_) (fun h23 => absurd h23 (by omega))
          exact mp_vret hx hb hr hlk hP hD hS pl ⟨trivial, hO⟩ [] rfl rfl rfl (by omega) (by omega) dMH_readHidden_179
        | succ n22 ih22 =>
          intro i22 az22 pl ls H locs hm22 hi22 hl hO hP hD hS
          refine lv_iload hx hb dMH_readHidden_121 (lv_at hl 0 rfl) ?_
          refine lv_aload_n hx hb dMH_readHidden_123 rfl (lv_at hl 2 rfl) ?_
          refine ty_get (ci := 12) (C := "LatticeKeysModel$Hands") (TT := T_MH) (N := 31) (kd := (46, 0)) hx hb hts (wg_ft i_MH) hown hK hO k_h0 (nxg hc0 k_h0 rfl) hP (fun _ h9 => h9) rfl 24 (by decide) (hts _ (wg_t kw_1456)) (fun _ h9 => h9) (cd := (1, 0, 4)) rfl dMH_readHidden_124 (fun v25 hv25 => ?_)
          obtain rfl := (show v25 = .int (nI 4) from hv25)
          refine mi_ge (tgt := 179) hx hb dMH_readHidden_127 (by decide) (by omega) (by omega) (fun h24 => absurd h24 (by omega)) (fun h24 => ?_)
          refine lv_iconst (v := nI 0) hx hb dMH_readHidden_130 (by decide) ?_
          refine lv_istore (lv' := [(5, .int (nI 0)), (4, .int (nI i22)), (3, .int (nI az22)), (0, .ref h0), (1, .ref sk)]) hx hb dMH_readHidden_131 hl (by decide) rfl (fun ls hl => ?_)
          have lp23 : ∀ (n23 : Nat) (i23 : Nat) (az23 : Nat) (pl : va_W) (ls : Array Slot) (H : Heap) (locs : List Loc), n23 + i23 = 256 → (az23 = 7168 + 3328 * i22 + 13 * i23) → lv_has ls 7 [(5, .int (nI i23)), (4, .int (nI i22)), (3, .int (nI az23)), (0, .ref h0), (1, .ref sk)] → okx g T xs pl → va_P g.1 vcl ([] ++ pl) H → va_D A ([] ++ pl) → va_S A s.heap H locs → W p l e ({ frames := 1, cells := 0, slots := 0, locals := 24 } : Room) s m args below meth c H locs 0 0 (MQ below (va_Qv (fun (u : va_W) => (True) ∧ okx g T xs u) (po g.1 vcl A (fun (u : va_W) => [] ++ u)) A) args s 0 0 A) (F0 m 133 ls []) := by
            intro n23
            induction n23 with
            | zero =>
              intro i23 az23 pl ls H locs hm23 hi23 hl hO hP hD hS
              refine lv_iload hx hb dMH_readHidden_133 (lv_at hl 0 rfl) ?_
              refine lv_sipush (v := nI 256) hx hb dMH_readHidden_135 (by decide) ?_
              refine mi_ge (tgt := 173) hx hb dMH_readHidden_138 (by decide) (by omega) (by omega) (fun h25 => ?_) (fun h25 => absurd h25 (by omega))
              refine mi_iinc (k := 1) (x := i22) (d := 1) (y := i22 + 1) (lv' := [(4, .int (nI (i22 + 1))), (5, .int (nI i23)), (3, .int (nI az23)), (0, .ref h0), (1, .ref sk)]) hx hb dMH_readHidden_173 hl rfl (by decide) rfl (by decide) rfl (fun ls hl => ?_)
              refine lv_goto (tgt := 121) hx hb dMH_readHidden_176 (by decide) ?_
              exact ih22 (i22 + 1) az23 pl ls H locs (by omega) (by omega) (lv_sub hl [0, 2, 3, 4] rfl) hO hP hD hS
            | succ n23 ih23 =>
              intro i23 az23 pl ls H locs hm23 hi23 hl hO hP hD hS
              refine lv_iload hx hb dMH_readHidden_133 (lv_at hl 0 rfl) ?_
              refine lv_sipush (v := nI 256) hx hb dMH_readHidden_135 (by decide) ?_
              refine mi_ge (tgt := 173) hx hb dMH_readHidden_138 (by decide) (by omega) (by omega) (fun h26 => absurd h26 (by omega)) (fun h26 => ?_)
              refine lv_aload_n hx hb dMH_readHidden_141 rfl (lv_at hl 3 rfl) ?_
              refine ty_get (ci := 12) (C := "LatticeKeysModel$Hands") (TT := T_MH) (N := 31) (kd := (46, 0)) hx hb hts (wg_ft i_MH) hown hK hO k_h0 (nxg hc0 k_h0 rfl) hP (fun _ h9 => h9) rfl 5 (by decide) (hts _ (wg_t kw_1437)) (fun _ h9 => h9) (cd := (3, 3, 8)) rfl dMH_readHidden_142 (fun v26 hv26 => ?_)
              obtain ⟨r21, rfl, kr21⟩ := (show ∃ r : Nat, v26 = .ref r ∧ T r = some (3, 8) from hv26)
              refine lv_iload hx hb dMH_readHidden_145 (lv_at hl 1 rfl) ?_
              refine ty_aald3 hx hb hK hO kr21 (nxg hc0 kr21 rfl) hP (by omega) (by decide) dMH_readHidden_147 (fun r22 kr22 => ?_)
              refine lv_iload hx hb dMH_readHidden_148 (lv_at hl 0 rfl) ?_
              refine lv_sipush (v := nI 4096) hx hb dMH_readHidden_150 (by decide) ?_
              refine lv_aload_n hx hb dMH_readHidden_153 rfl (lv_at hl 4 rfl) ?_
              refine lv_iload_n hx hb dMH_readHidden_154 rfl (lv_at hl 2 rfl) ?_
              refine lv_bipush (v := nI 13) hx hb dMH_readHidden_155 (by decide) ?_
              refine mp_i (cx := []) (wr := []) hP hD hS hA [] [] rfl rfl rfl (by decide) (va_runSN (As := [.ref sk, .int (nI az23), .int (nI 13)]) (rest := [.int (nI 4096), .int (nI i23), .ref r22]) F (t_M_unpack l g _ T xs pl hO hU hc0 sk 4896 az23 13 k_sk (by omega) (by omega) (by omega)) ⟨va_cnB 3 hts (wg_in kw_1667) rfl rfl rfl (hE.2.2.2.2.2.2.2.2.2.2) (hts _ (wg_t kw_9)) (by decide +kernel) ⟨by decide, by decide⟩, hts _ (wg_t kw_1666), trivial⟩ (pp_S (en_ok g) hP hD hS hA hE [] rfl rfl) rfl rfl hl.1 rfl (lv_room (Nat.le_of_ble_eq_true rfl)) dMH_readHidden_157 ⟨by omega, by omega⟩) (fun r23 pl H locs hu21 hP hD hS => ?_)
              obtain ⟨hq21, hO⟩ := hu21
              have hP : va_P g.1 vcl ([] ++ pl) _ := hP
              have hD : va_D _ ([] ++ pl) := hD
              refine W.widen (k := 0) (n := 0) (by omega) (by omega) ?_
              refine mp_i (cx := []) (wr := []) hP hD hS hA [] [] rfl rfl rfl (by decide) (va_runS (As := [.int (nI 4096), .int r23]) (rest := [.int (nI i23), .ref r22]) F (t_MH_minus l g _ T xs pl hO hU  (nI 4096) r23) (va_cwS 2 hts (wg_app (wg_c kw_1865 (wg_c kw_1866 (wg_c kw_13 wg_n))) kw_1867) rfl rfl rfl (by decide +kernel) ⟨by decide, by decide⟩) (pp_S (en_ok g) hP hD hS hA hE [] rfl rfl) rfl rfl hl.1 rfl (lv_room (Nat.le_of_ble_eq_true rfl)) dMH_readHidden_160 ⟨by omega, by omega⟩) (fun r24 pl H locs hu22 hP hD hS => ?_)
              obtain ⟨hq22, hO⟩ := hu22
              have hP : va_P g.1 vcl ([] ++ pl) _ := hP
              have hD : va_D _ ([] ++ pl) := hD
              refine W.widen (k := 0) (n := 0) (by omega) (by omega) ?_
              refine ty_iast hx hb hK hO kr22 (nxg hc0 kr22 rfl) hP hD hS (vp_in_nI (by omega) (by decide)) dMH_readHidden_163 (fun pl H locs hO hP hD hS => ?_)
              refine mi_iinc (k := 2) (x := az23) (d := 13) (y := az23 + 13) (lv' := [(3, .int (nI (az23 + 13))), (5, .int (nI i23)), (4, .int (nI i22)), (0, .ref h0), (1, .ref sk)]) hx hb dMH_readHidden_164 hl rfl (by decide) rfl (by decide) rfl (fun ls hl => ?_)
              refine mi_iinc (k := 1) (x := i23) (d := 1) (y := i23 + 1) (lv' := [(5, .int (nI (i23 + 1))), (3, .int (nI (az23 + 13))), (4, .int (nI i22)), (0, .ref h0), (1, .ref sk)]) hx hb dMH_readHidden_167 hl rfl (by decide) rfl (by decide) rfl (fun ls hl => ?_)
              refine lv_goto (tgt := 133) hx hb dMH_readHidden_170 (by decide) ?_
              exact ih23 (i23 + 1) (az23 + 13) pl ls H locs (by omega) (by omega) (lv_sub hl [0, 2, 1, 3, 4] rfl) hO hP hD hS
          exact lp23 256 0 az22 pl ls _ _ (by omega) (by omega) (lv_sub hl [0, 1, 2, 3, 4] rfl) hO hP hD hS
      exact lp22 4 0 az21 pl ls _ _ (by omega) (by omega) (lv_sub hl [0, 1, 3, 4] rfl) hO hP hD hS
    | succ n21 ih21 =>
      intro i21 az21 pl ls H locs hm21 hi21 hl hO hP hD hS
      refine lv_iload hx hb dMH_readHidden_21 (lv_at hl 0 rfl) ?_
      refine lv_aload_n hx hb dMH_readHidden_23 rfl (lv_at hl 3 rfl) ?_
      refine ty_get (ci := 12) (C := "LatticeKeysModel$Hands") (TT := T_MH) (N := 31) (kd := (46, 0)) hx hb hts (wg_ft i_MH) hown hK hO k_h0 (nxg hc0 k_h0 rfl) hP (fun _ h9 => h9) rfl 24 (by decide) (hts _ (wg_t kw_1456)) (fun _ h9 => h9) (cd := (1, 0, 4)) rfl dMH_readHidden_24 (fun v27 hv27 => ?_)
      obtain rfl := (show v27 = .int (nI 4) from hv27)
      refine lv_aload_n hx hb dMH_readHidden_27 rfl (lv_at hl 3 rfl) ?_
      refine ty_get (ci := 12) (C := "LatticeKeysModel$Hands") (TT := T_MH) (N := 31) (kd := (46, 0)) hx hb hts (wg_ft i_MH) hown hK hO k_h0 (nxg hc0 k_h0 rfl) hP (fun _ h9 => h9) rfl 25 (by decide) (hts _ (wg_t kw_1457)) (fun _ h9 => h9) (cd := (1, 0, 4)) rfl dMH_readHidden_28 (fun v28 hv28 => ?_)
      obtain rfl := (show v28 = .int (nI 4) from hv28)
      refine mi_iadd hx hb dMH_readHidden_31 ?_
      refine mi_as (show nI (4 + 4) = nI 8 from rfl) ?_
      refine mi_ge (tgt := 118) hx hb dMH_readHidden_32 (by decide) (by omega) (by omega) (fun h27 => absurd h27 (by omega)) (fun h27 => ?_)
      refine lv_iconst (v := nI 0) hx hb dMH_readHidden_35 (by decide) ?_
      refine lv_istore (lv' := [(5, .int (nI 0)), (4, .int (nI i21)), (3, .int (nI az21)), (2, .int (nI 3)), (0, .ref h0), (1, .ref sk)]) hx hb dMH_readHidden_36 hl (by decide) rfl (fun ls hl => ?_)
      have lp24 : ∀ (n24 : Nat) (i24 : Nat) (az24 : Nat) (pl : va_W) (ls : Array Slot) (H : Heap) (locs : List Loc), n24 + i24 = 256 → (az24 = 1024 + 768 * i21 + 3 * i24) → lv_has ls 7 [(5, .int (nI i24)), (4, .int (nI i21)), (3, .int (nI az24)), (2, .int (nI 3)), (0, .ref h0), (1, .ref sk)] → okx g T xs pl → va_P g.1 vcl ([] ++ pl) H → va_D A ([] ++ pl) → va_S A s.heap H locs → W p l e ({ frames := 1, cells := 0, slots := 0, locals := 24 } : Room) s m args below meth c H locs 0 0 (MQ below (va_Qv (fun (u : va_W) => (True) ∧ okx g T xs u) (po g.1 vcl A (fun (u : va_W) => [] ++ u)) A) args s 0 0 A) (F0 m 38 ls []) := by
        intro n24
        induction n24 with
        | zero =>
          intro i24 az24 pl ls H locs hm24 hi24 hl hO hP hD hS
          refine lv_iload hx hb dMH_readHidden_38 (lv_at hl 0 rfl) ?_
          refine lv_sipush (v := nI 256) hx hb dMH_readHidden_40 (by decide) ?_
          refine mi_ge (tgt := 112) hx hb dMH_readHidden_43 (by decide) (by omega) (by omega) (fun h28 => ?_) (fun h28 => absurd h28 (by omega))
          refine mi_iinc (k := 1) (x := i21) (d := 1) (y := i21 + 1) (lv' := [(4, .int (nI (i21 + 1))), (5, .int (nI i24)), (3, .int (nI az24)), (2, .int (nI 3)), (0, .ref h0), (1, .ref sk)]) hx hb dMH_readHidden_112 hl rfl (by decide) rfl (by decide) rfl (fun ls hl => ?_)
          refine lv_goto (tgt := 21) hx hb dMH_readHidden_115 (by decide) ?_
          exact ih21 (i21 + 1) az24 pl ls H locs (by omega) (by omega) (lv_sub hl [0, 2, 3, 4, 5] rfl) hO hP hD hS
        | succ n24 ih24 =>
          intro i24 az24 pl ls H locs hm24 hi24 hl hO hP hD hS
          refine lv_iload hx hb dMH_readHidden_38 (lv_at hl 0 rfl) ?_
          refine lv_sipush (v := nI 256) hx hb dMH_readHidden_40 (by decide) ?_
          refine mi_ge (tgt := 112) hx hb dMH_readHidden_43 (by decide) (by omega) (by omega) (fun h29 => absurd h29 (by omega)) (fun h29 => ?_)
          refine lv_aload_n hx hb dMH_readHidden_46 rfl (lv_at hl 4 rfl) ?_
          refine ty_get (ci := 12) (C := "LatticeKeysModel$Hands") (TT := T_MH) (N := 31) (kd := (46, 0)) hx hb hts (wg_ft i_MH) hown hK hO k_h0 (nxg hc0 k_h0 rfl) hP (fun _ h9 => h9) rfl 26 (by decide) (hts _ (wg_t kw_1458)) (fun _ h9 => h9) (cd := (1, 0, 2)) rfl dMH_readHidden_47 (fun v29 hv29 => ?_)
          obtain rfl := (show v29 = .int (nI 2) from hv29)
          refine lv_aload_n hx hb dMH_readHidden_50 rfl (lv_at hl 5 rfl) ?_
          refine lv_iload_n hx hb dMH_readHidden_51 rfl (lv_at hl 2 rfl) ?_
          refine lv_iload_n hx hb dMH_readHidden_52 rfl (lv_at hl 3 rfl) ?_
          refine mp_i (cx := []) (wr := []) hP hD hS hA [] [] rfl rfl rfl (by decide) (va_runSN (As := [.ref sk, .int (nI az24), .int (nI 3)]) (rest := [.int (nI 2)]) F (t_M_unpack l g _ T xs pl hO hU hc0 sk 4896 az24 3 k_sk (by omega) (by omega) (by omega)) ⟨va_cnB 3 hts (wg_in kw_1667) rfl rfl rfl (hE.2.2.2.2.2.2.2.2.2.2) (hts _ (wg_t kw_9)) (by decide +kernel) ⟨by decide, by decide⟩, hts _ (wg_t kw_1666), trivial⟩ (pp_S (en_ok g) hP hD hS hA hE [] rfl rfl) rfl rfl hl.1 rfl (lv_room (Nat.le_of_ble_eq_true rfl)) dMH_readHidden_53 ⟨by omega, by omega⟩) (fun r25 pl H locs hu23 hP hD hS => ?_)
          obtain ⟨hq23, hO⟩ := hu23
          have hP : va_P g.1 vcl ([] ++ pl) _ := hP
          have hD : va_D _ ([] ++ pl) := hD
          refine W.widen (k := 0) (n := 0) (by omega) (by omega) ?_
          refine mp_i (cx := []) (wr := []) hP hD hS hA [] [] rfl rfl rfl (by decide) (va_runS (As := [.int (nI 2), .int r25]) (rest := []) F (t_MH_minus l g _ T xs pl hO hU  (nI 2) r25) (va_cwS 2 hts (wg_app (wg_c kw_1865 (wg_c kw_1866 (wg_c kw_13 wg_n))) kw_1867) rfl rfl rfl (by decide +kernel) ⟨by decide, by decide⟩) (pp_S (en_ok g) hP hD hS hA hE [] rfl rfl) rfl rfl hl.1 rfl (lv_room (Nat.le_of_ble_eq_true rfl)) dMH_readHidden_56 ⟨by omega, by omega⟩) (fun r26 pl H locs hu24 hP hD hS => ?_)
          obtain ⟨hq24, hO⟩ := hu24
          have hP : va_P g.1 vcl ([] ++ pl) _ := hP
          have hD : va_D _ ([] ++ pl) := hD
          refine W.widen (k := 0) (n := 0) (by omega) (by omega) ?_
          refine lv_istore (lv' := [(6, .int r26), (5, .int (nI i24)), (4, .int (nI i21)), (3, .int (nI az24)), (2, .int (nI 3)), (0, .ref h0), (1, .ref sk)]) hx hb dMH_readHidden_59 hl (by decide) rfl (fun ls hl => ?_)
          refine lv_iload hx hb dMH_readHidden_61 (lv_at hl 2 rfl) ?_
          refine lv_aload_n hx hb dMH_readHidden_63 rfl (lv_at hl 5 rfl) ?_
          refine ty_get (ci := 12) (C := "LatticeKeysModel$Hands") (TT := T_MH) (N := 31) (kd := (46, 0)) hx hb hts (wg_ft i_MH) hown hK hO k_h0 (nxg hc0 k_h0 rfl) hP (fun _ h9 => h9) rfl 25 (by decide) (hts _ (wg_t kw_1457)) (fun _ h9 => h9) (cd := (1, 0, 4)) rfl dMH_readHidden_64 (fun v30 hv30 => ?_)
          obtain rfl := (show v30 = .int (nI 4) from hv30)
          refine mi_ge (tgt := 85) hx hb dMH_readHidden_67 (by decide) (by omega) (by omega) (fun h30 => ?_) (fun h30 => ?_)
          · refine lv_aload_n hx hb dMH_readHidden_85 rfl (lv_at hl 5 rfl) ?_
            refine ty_get (ci := 12) (C := "LatticeKeysModel$Hands") (TT := T_MH) (N := 31) (kd := (46, 0)) hx hb hts (wg_ft i_MH) hown hK hO k_h0 (nxg hc0 k_h0 rfl) hP (fun _ h9 => h9) rfl 4 (by decide) (hts _ (wg_t kw_1436)) (fun _ h9 => h9) (cd := (3, 3, 8)) rfl dMH_readHidden_86 (fun v31 hv31 => ?_)
            obtain ⟨r27, rfl, kr23⟩ := (show ∃ r : Nat, v31 = .ref r ∧ T r = some (3, 8) from hv31)
            refine lv_iload hx hb dMH_readHidden_89 (lv_at hl 2 rfl) ?_
            refine lv_aload_n hx hb dMH_readHidden_91 rfl (lv_at hl 5 rfl) ?_
            refine ty_get (ci := 12) (C := "LatticeKeysModel$Hands") (TT := T_MH) (N := 31) (kd := (46, 0)) hx hb hts (wg_ft i_MH) hown hK hO k_h0 (nxg hc0 k_h0 rfl) hP (fun _ h9 => h9) rfl 25 (by decide) (hts _ (wg_t kw_1457)) (fun _ h9 => h9) (cd := (1, 0, 4)) rfl dMH_readHidden_92 (fun v32 hv32 => ?_)
            obtain rfl := (show v32 = .int (nI 4) from hv32)
            refine mi_isub hx hb dMH_readHidden_95 (by omega) ?_
            refine ty_aald3 hx hb hK hO kr23 (nxg hc0 kr23 rfl) hP (by omega) (by decide) dMH_readHidden_96 (fun r28 kr24 => ?_)
            refine lv_iload hx hb dMH_readHidden_97 (lv_at hl 1 rfl) ?_
            refine lv_iload hx hb dMH_readHidden_99 (lv_at hl 0 rfl) ?_
            refine ty_iast hx hb hK hO kr24 (nxg hc0 kr24 rfl) hP hD hS (vp_in_nI (by omega) (by decide)) dMH_readHidden_101 (fun pl H locs hO hP hD hS => ?_)
            refine lv_iload_n hx hb dMH_readHidden_102 rfl (lv_at hl 3 rfl) ?_
            refine lv_iload_n hx hb dMH_readHidden_103 rfl (lv_at hl 4 rfl) ?_
            refine mi_iadd hx hb dMH_readHidden_104 ?_
            refine lv_istore_n (lv' := [(3, .int (nI (az24 + 3))), (6, .int r26), (5, .int (nI i24)), (4, .int (nI i21)), (2, .int (nI 3)), (0, .ref h0), (1, .ref sk)]) hx hb dMH_readHidden_105 rfl hl (by decide) rfl (fun ls hl => ?_)
            refine mi_iinc (k := 2) (x := i24) (d := 1) (y := i24 + 1) (lv' := [(5, .int (nI (i24 + 1))), (3, .int (nI (az24 + 3))), (6, .int r26), (4, .int (nI i21)), (2, .int (nI 3)), (0, .ref h0), (1, .ref sk)]) hx hb dMH_readHidden_106 hl rfl (by decide) rfl (by decide) rfl (fun ls hl => ?_)
            refine lv_goto (tgt := 38) hx hb dMH_readHidden_109 (by decide) ?_
            exact ih24 (i24 + 1) (az24 + 3) pl ls H locs (by omega) (by omega) (lv_sub hl [0, 3, 1, 4, 5, 6] rfl) hO hP hD hS
          · refine lv_aload_n hx hb dMH_readHidden_70 rfl (lv_at hl 5 rfl) ?_
            refine ty_get (ci := 12) (C := "LatticeKeysModel$Hands") (TT := T_MH) (N := 31) (kd := (46, 0)) hx hb hts (wg_ft i_MH) hown hK hO k_h0 (nxg hc0 k_h0 rfl) hP (fun _ h9 => h9) rfl 3 (by decide) (hts _ (wg_t kw_1435)) (fun _ h9 => h9) (cd := (3, 3, 7)) rfl dMH_readHidden_71 (fun v33 hv33 => ?_)
            obtain ⟨r29, rfl, kr25⟩ := (show ∃ r : Nat, v33 = .ref r ∧ T r = some (3, 7) from hv33)
            refine lv_iload hx hb dMH_readHidden_74 (lv_at hl 2 rfl) ?_
            refine ty_aald3 hx hb hK hO kr25 (nxg hc0 kr25 rfl) hP (by omega) (by decide) dMH_readHidden_76 (fun r30 kr26 => ?_)
            refine lv_iload hx hb dMH_readHidden_77 (lv_at hl 1 rfl) ?_
            refine lv_iload hx hb dMH_readHidden_79 (lv_at hl 0 rfl) ?_
            refine ty_iast hx hb hK hO kr26 (nxg hc0 kr26 rfl) hP hD hS (vp_in_nI (by omega) (by decide)) dMH_readHidden_81 (fun pl H locs hO hP hD hS => ?_)
            refine lv_goto (tgt := 102) hx hb dMH_readHidden_82 (by decide) ?_
            refine lv_iload_n hx hb dMH_readHidden_102 rfl (lv_at hl 3 rfl) ?_
            refine lv_iload_n hx hb dMH_readHidden_103 rfl (lv_at hl 4 rfl) ?_
            refine mi_iadd hx hb dMH_readHidden_104 ?_
            refine lv_istore_n (lv' := [(3, .int (nI (az24 + 3))), (6, .int r26), (5, .int (nI i24)), (4, .int (nI i21)), (2, .int (nI 3)), (0, .ref h0), (1, .ref sk)]) hx hb dMH_readHidden_105 rfl hl (by decide) rfl (fun ls hl => ?_)
            refine mi_iinc (k := 2) (x := i24) (d := 1) (y := i24 + 1) (lv' := [(5, .int (nI (i24 + 1))), (3, .int (nI (az24 + 3))), (6, .int r26), (4, .int (nI i21)), (2, .int (nI 3)), (0, .ref h0), (1, .ref sk)]) hx hb dMH_readHidden_106 hl rfl (by decide) rfl (by decide) rfl (fun ls hl => ?_)
            refine lv_goto (tgt := 38) hx hb dMH_readHidden_109 (by decide) ?_
            exact ih24 (i24 + 1) (az24 + 3) pl ls H locs (by omega) (by omega) (lv_sub hl [0, 3, 1, 4, 5, 6] rfl) hO hP hD hS
      exact lp24 256 0 az21 pl ls _ _ (by omega) (by omega) (lv_sub hl [0, 1, 2, 3, 4, 5] rfl) hO hP hD hS
  exact lp21 8 0 1024 pl ls _ _ (by omega) (by omega) (lv_sub hl [0, 1, 2, 3, 4] rfl) hO hP hD hS
set_option maxHeartbeats 400000 in
set_option maxRecDepth 100000 in
theorem t_MH_readHidden_1 (l : Launch) (g : Gd) (sz : Nat) (T : Ty) (xs : List Nat) (pl : va_W) (hO : okx g T xs pl) (hU : uni T) (hc0 : clo T xs 0) (h0 sk : Nat) (k_h0 : T h0 = some (47, 0)) (k_sk : T sk = some (1, 4896))  : Met l y_MH_readHidden w_MH_readHidden ({ frames := 1, cells := 0, slots := 0, locals := 24 } : Room) (va_Pc [.ref h0, .ref sk] (pr (en g) g.1 vcl sz ([] ++ pl))) (va_Qv (fun (u : va_W) => (True) ∧ okx g T xs u) (po g.1 vcl (va_A ([] ++ pl) sz) (fun (u : va_W) => [] ++ u)) (va_A ([] ++ pl) sz)) 0 0 (va_A ([] ++ pl) sz) := by
  refine mc_entry (cc := c_MH_readHidden) (maxL := 7) (ret := none) (by decide) rfl (Nat.le_of_ble_eq_true rfl) ?_
  intro p e s m args below meth c ls F hr hlk hnm hsz hP hD hE hA hl
  obtain ⟨hx, hb, hml, hown, hts⟩ := id F
  have hK := hE.1
  generalize va_A ([] ++ pl) sz = A at hD hE hA ⊢
  have hS : va_S A s.heap s.heap [] := va_S.rf
  have hl : lv_has ls 7 [(0, .ref h0), (1, .ref sk)] := hl
  refine lv_aload_n hx hb dMH_readHidden_0 rfl (lv_at hl 0 rfl) ?_
  refine ty_get (ci := 12) (C := "LatticeKeysModel$Hands") (TT := T_MH) (N := 31) (kd := (47, 0)) hx hb hts (wg_ft i_MH) hown hK hO k_h0 (nxg hc0 k_h0 rfl) hP (fun _ h9 => h9) rfl 26 (by decide) (hts _ (wg_t kw_1458)) (fun _ h9 => h9) (cd := (1, 0, 4)) rfl dMH_readHidden_1 (fun v21 hv21 => ?_)
  obtain rfl := (show v21 = .int (nI 4) from hv21)
  refine lv_iconst (v := nI 2) hx hb dMH_readHidden_4 (by decide) ?_
  refine mi_ne (tgt := 12) hx hb dMH_readHidden_5 (by decide) (by omega) (by omega) (fun h21 => ?_) (fun h21 => absurd h21 (by omega))
  refine lv_iconst (v := nI 4) hx hb dMH_readHidden_12 (by decide) ?_
  refine lv_istore_n (lv' := [(2, .int (nI 4)), (0, .ref h0), (1, .ref sk)]) hx hb dMH_readHidden_13 rfl hl (by decide) rfl (fun ls hl => ?_)
  refine lv_sipush (v := nI 1024) hx hb dMH_readHidden_14 (by decide) ?_
  refine lv_istore_n (lv' := [(3, .int (nI 1024)), (2, .int (nI 4)), (0, .ref h0), (1, .ref sk)]) hx hb dMH_readHidden_17 rfl hl (by decide) rfl (fun ls hl => ?_)
  refine lv_iconst (v := nI 0) hx hb dMH_readHidden_18 (by decide) ?_
  refine lv_istore (lv' := [(4, .int (nI 0)), (3, .int (nI 1024)), (2, .int (nI 4)), (0, .ref h0), (1, .ref sk)]) hx hb dMH_readHidden_19 hl (by decide) rfl (fun ls hl => ?_)
  have lp21 : ∀ (n21 : Nat) (i21 : Nat) (az21 : Nat) (pl : va_W) (ls : Array Slot) (H : Heap) (locs : List Loc), n21 + i21 = 11 → (az21 = 1024 + 1024 * i21) → lv_has ls 7 [(4, .int (nI i21)), (3, .int (nI az21)), (2, .int (nI 4)), (0, .ref h0), (1, .ref sk)] → okx g T xs pl → va_P g.1 vcl ([] ++ pl) H → va_D A ([] ++ pl) → va_S A s.heap H locs → W p l e ({ frames := 1, cells := 0, slots := 0, locals := 24 } : Room) s m args below meth c H locs 0 0 (MQ below (va_Qv (fun (u : va_W) => (True) ∧ okx g T xs u) (po g.1 vcl A (fun (u : va_W) => [] ++ u)) A) args s 0 0 A) (F0 m 21 ls []) := by
    intro n21
    induction n21 with
    | zero =>
      intro i21 az21 pl ls H locs hm21 hi21 hl hO hP hD hS
      refine lv_iload hx hb dMH_readHidden_21 (lv_at hl 0 rfl) ?_
      refine lv_aload_n hx hb dMH_readHidden_23 rfl (lv_at hl 3 rfl) ?_
      refine ty_get (ci := 12) (C := "LatticeKeysModel$Hands") (TT := T_MH) (N := 31) (kd := (47, 0)) hx hb hts (wg_ft i_MH) hown hK hO k_h0 (nxg hc0 k_h0 rfl) hP (fun _ h9 => h9) rfl 24 (by decide) (hts _ (wg_t kw_1456)) (fun _ h9 => h9) (cd := (1, 0, 6)) rfl dMH_readHidden_24 (fun v22 hv22 => ?_)
      obtain rfl := (show v22 = .int (nI 6) from hv22)
      refine lv_aload_n hx hb dMH_readHidden_27 rfl (lv_at hl 3 rfl) ?_
      refine ty_get (ci := 12) (C := "LatticeKeysModel$Hands") (TT := T_MH) (N := 31) (kd := (47, 0)) hx hb hts (wg_ft i_MH) hown hK hO k_h0 (nxg hc0 k_h0 rfl) hP (fun _ h9 => h9) rfl 25 (by decide) (hts _ (wg_t kw_1457)) (fun _ h9 => h9) (cd := (1, 0, 5)) rfl dMH_readHidden_28 (fun v23 hv23 => ?_)
      obtain rfl := (show v23 = .int (nI 5) from hv23)
      refine mi_iadd hx hb dMH_readHidden_31 ?_
      refine mi_as (show nI (6 + 5) = nI 11 from rfl) ?_
      refine mi_ge (tgt := 118) hx hb dMH_readHidden_32 (by decide) (by omega) (by omega) (fun h22 => ?_) (fun h22 => absurd h22 (by omega))
      refine lv_iconst (v := nI 0) hx hb dMH_readHidden_118 (by decide) ?_
      refine lv_istore (lv' := [(4, .int (nI 0)), (3, .int (nI az21)), (2, .int (nI 4)), (0, .ref h0), (1, .ref sk)]) hx hb dMH_readHidden_119 hl (by decide) rfl (fun ls hl => ?_)
      have lp22 : ∀ (n22 : Nat) (i22 : Nat) (az22 : Nat) (pl : va_W) (ls : Array Slot) (H : Heap) (locs : List Loc), n22 + i22 = 6 → (az22 = 12288 + 3328 * i22) → lv_has ls 7 [(4, .int (nI i22)), (3, .int (nI az22)), (0, .ref h0), (1, .ref sk)] → okx g T xs pl → va_P g.1 vcl ([] ++ pl) H → va_D A ([] ++ pl) → va_S A s.heap H locs → W p l e ({ frames := 1, cells := 0, slots := 0, locals := 24 } : Room) s m args below meth c H locs 0 0 (MQ below (va_Qv (fun (u : va_W) => (True) ∧ okx g T xs u) (po g.1 vcl A (fun (u : va_W) => [] ++ u)) A) args s 0 0 A) (F0 m 121 ls []) := by
        intro n22
        induction n22 with
        | zero =>
          intro i22 az22 pl ls H locs hm22 hi22 hl hO hP hD hS
          refine lv_iload hx hb dMH_readHidden_121 (lv_at hl 0 rfl) ?_
          refine lv_aload_n hx hb dMH_readHidden_123 rfl (lv_at hl 2 rfl) ?_
          refine ty_get (ci := 12) (C := "LatticeKeysModel$Hands") (TT := T_MH) (N := 31) (kd := (47, 0)) hx hb hts (wg_ft i_MH) hown hK hO k_h0 (nxg hc0 k_h0 rfl) hP (fun _ h9 => h9) rfl 24 (by decide) (hts _ (wg_t kw_1456)) (fun _ h9 => h9) (cd := (1, 0, 6)) rfl dMH_readHidden_124 (fun v24 hv24 => ?_)
          obtain rfl := (show v24 = .int (nI 6) from hv24)
          refine mi_ge (tgt := 179) hx hb dMH_readHidden_127 (by decide) (by omega) (by omega) (fun h23 => ?_) (fun h23 => absurd h23 (by omega))
          exact mp_vret hx hb hr hlk hP hD hS pl ⟨trivial, hO⟩ [] rfl rfl rfl (by omega) (by omega) dMH_readHidden_179
        | succ n22 ih22 =>
          intro i22 az22 pl ls H locs hm22 hi22 hl hO hP hD hS
          refine lv_iload hx hb dMH_readHidden_121 (lv_at hl 0 rfl) ?_
          refine lv_aload_n hx hb dMH_readHidden_123 rfl (lv_at hl 2 rfl) ?_
          refine ty_get (ci := 12) (C := "LatticeKeysModel$Hands") (TT := T_MH) (N := 31) (kd := (47, 0)) hx hb hts (wg_ft i_MH) hown hK hO k_h0 (nxg hc0 k_h0 rfl) hP (fun _ h9 => h9) rfl 24 (by decide) (hts _ (wg_t kw_1456)) (fun _ h9 => h9) (cd := (1, 0, 6)) rfl dMH_readHidden_124 (fun v25 hv25 => ?_)
          obtain rfl := (show v25 = .int (nI 6) from hv25)
          refine mi_ge (tgt := 179) hx hb dMH_readHidden_127 (by decide) (by omega) (by omega) (fun h24 => absurd h24 (by omega)) (fun h24 => ?_)
          refine lv_iconst (v := nI 0) hx hb dMH_readHidden_130 (by decide) ?_
          refine lv_istore (lv' := [(5, .int (nI 0)), (4, .int (nI i22)), (3, .int (nI az22)), (0, .ref h0), (1, .ref sk)]) hx hb dMH_readHidden_131 hl (by decide) rfl (fun ls hl => ?_)
          have lp23 : ∀ (n23 : Nat) (i23 : Nat) (az23 : Nat) (pl : va_W) (ls : Array Slot) (H : Heap) (locs : List Loc), n23 + i23 = 256 → (az23 = 12288 + 3328 * i22 + 13 * i23) → lv_has ls 7 [(5, .int (nI i23)), (4, .int (nI i22)), (3, .int (nI az23)), (0, .ref h0), (1, .ref sk)] → okx g T xs pl → va_P g.1 vcl ([] ++ pl) H → va_D A ([] ++ pl) → va_S A s.heap H locs → W p l e ({ frames := 1, cells := 0, slots := 0, locals := 24 } : Room) s m args below meth c H locs 0 0 (MQ below (va_Qv (fun (u : va_W) => (True) ∧ okx g T xs u) (po g.1 vcl A (fun (u : va_W) => [] ++ u)) A) args s 0 0 A) (F0 m 133 ls []) := by
            intro n23
            induction n23 with
            | zero =>
              intro i23 az23 pl ls H locs hm23 hi23 hl hO hP hD hS
              refine lv_iload hx hb dMH_readHidden_133 (lv_at hl 0 rfl) ?_
              refine lv_sipush (v := nI 256) hx hb dMH_readHidden_135 (by decide) ?_
              refine mi_ge (tgt := 173) hx hb dMH_readHidden_138 (by decide) (by omega) (by omega) (fun h25 => ?_) (fun h25 => absurd h25 (by omega))
              refine mi_iinc (k := 1) (x := i22) (d := 1) (y := i22 + 1) (lv' := [(4, .int (nI (i22 + 1))), (5, .int (nI i23)), (3, .int (nI az23)), (0, .ref h0), (1, .ref sk)]) hx hb dMH_readHidden_173 hl rfl (by decide) rfl (by decide) rfl (fun ls hl => ?_)
              refine lv_goto (tgt := 121) hx hb dMH_readHidden_176 (by decide) ?_
              exact ih22 (i22 + 1) az23 pl ls H locs (by omega) (by omega) (lv_sub hl [0, 2, 3, 4] rfl) hO hP hD hS
            | succ n23 ih23 =>
              intro i23 az23 pl ls H locs hm23 hi23 hl hO hP hD hS
              refine lv_iload hx hb dMH_readHidden_133 (lv_at hl 0 rfl) ?_
              refine lv_sipush (v := nI 256) hx hb dMH_readHidden_135 (by decide) ?_
              refine mi_ge (tgt := 173) hx hb dMH_readHidden_138 (by decide) (by omega) (by omega) (fun h26 => absurd h26 (by omega)) (fun h26 => ?_)
              refine lv_aload_n hx hb dMH_readHidden_141 rfl (lv_at hl 3 rfl) ?_
              refine ty_get (ci := 12) (C := "LatticeKeysModel$Hands") (TT := T_MH) (N := 31) (kd := (47, 0)) hx hb hts (wg_ft i_MH) hown hK hO k_h0 (nxg hc0 k_h0 rfl) hP (fun _ h9 => h9) rfl 5 (by decide) (hts _ (wg_t kw_1437)) (fun _ h9 => h9) (cd := (3, 3, 8)) rfl dMH_readHidden_142 (fun v26 hv26 => ?_)
              obtain ⟨r21, rfl, kr21⟩ := (show ∃ r : Nat, v26 = .ref r ∧ T r = some (3, 8) from hv26)
              refine lv_iload hx hb dMH_readHidden_145 (lv_at hl 1 rfl) ?_
              refine ty_aald3 hx hb hK hO kr21 (nxg hc0 kr21 rfl) hP (by omega) (by decide) dMH_readHidden_147 (fun r22 kr22 => ?_)
              refine lv_iload hx hb dMH_readHidden_148 (lv_at hl 0 rfl) ?_
              refine lv_sipush (v := nI 4096) hx hb dMH_readHidden_150 (by decide) ?_
              refine lv_aload_n hx hb dMH_readHidden_153 rfl (lv_at hl 4 rfl) ?_
              refine lv_iload_n hx hb dMH_readHidden_154 rfl (lv_at hl 2 rfl) ?_
              refine lv_bipush (v := nI 13) hx hb dMH_readHidden_155 (by decide) ?_
              refine mp_i (cx := []) (wr := []) hP hD hS hA [] [] rfl rfl rfl (by decide) (va_runSN (As := [.ref sk, .int (nI az23), .int (nI 13)]) (rest := [.int (nI 4096), .int (nI i23), .ref r22]) F (t_M_unpack l g _ T xs pl hO hU hc0 sk 4896 az23 13 k_sk (by omega) (by omega) (by omega)) ⟨va_cnB 3 hts (wg_in kw_1667) rfl rfl rfl (hE.2.2.2.2.2.2.2.2.2.2) (hts _ (wg_t kw_9)) (by decide +kernel) ⟨by decide, by decide⟩, hts _ (wg_t kw_1666), trivial⟩ (pp_S (en_ok g) hP hD hS hA hE [] rfl rfl) rfl rfl hl.1 rfl (lv_room (Nat.le_of_ble_eq_true rfl)) dMH_readHidden_157 ⟨by omega, by omega⟩) (fun r23 pl H locs hu21 hP hD hS => ?_)
              obtain ⟨hq21, hO⟩ := hu21
              have hP : va_P g.1 vcl ([] ++ pl) _ := hP
              have hD : va_D _ ([] ++ pl) := hD
              refine W.widen (k := 0) (n := 0) (by omega) (by omega) ?_
              refine mp_i (cx := []) (wr := []) hP hD hS hA [] [] rfl rfl rfl (by decide) (va_runS (As := [.int (nI 4096), .int r23]) (rest := [.int (nI i23), .ref r22]) F (t_MH_minus l g _ T xs pl hO hU  (nI 4096) r23) (va_cwS 2 hts (wg_app (wg_c kw_1865 (wg_c kw_1866 (wg_c kw_13 wg_n))) kw_1867) rfl rfl rfl (by decide +kernel) ⟨by decide, by decide⟩) (pp_S (en_ok g) hP hD hS hA hE [] rfl rfl) rfl rfl hl.1 rfl (lv_room (Nat.le_of_ble_eq_true rfl)) dMH_readHidden_160 ⟨by omega, by omega⟩) (fun r24 pl H locs hu22 hP hD hS => ?_)
              obtain ⟨hq22, hO⟩ := hu22
              have hP : va_P g.1 vcl ([] ++ pl) _ := hP
              have hD : va_D _ ([] ++ pl) := hD
              refine W.widen (k := 0) (n := 0) (by omega) (by omega) ?_
              refine ty_iast hx hb hK hO kr22 (nxg hc0 kr22 rfl) hP hD hS (vp_in_nI (by omega) (by decide)) dMH_readHidden_163 (fun pl H locs hO hP hD hS => ?_)
              refine mi_iinc (k := 2) (x := az23) (d := 13) (y := az23 + 13) (lv' := [(3, .int (nI (az23 + 13))), (5, .int (nI i23)), (4, .int (nI i22)), (0, .ref h0), (1, .ref sk)]) hx hb dMH_readHidden_164 hl rfl (by decide) rfl (by decide) rfl (fun ls hl => ?_)
              refine mi_iinc (k := 1) (x := i23) (d := 1) (y := i23 + 1) (lv' := [(5, .int (nI (i23 + 1))), (3, .int (nI (az23 + 13))), (4, .int (nI i22)), (0, .ref h0), (1, .ref sk)]) hx hb dMH_readHidden_167 hl rfl (by decide) rfl (by decide) rfl (fun ls hl => ?_)
              refine lv_goto (tgt := 133) hx hb dMH_readHidden_170 (by decide) ?_
              exact ih23 (i23 + 1) (az23 + 13) pl ls H locs (by omega) (by omega) (lv_sub hl [0, 2, 1, 3, 4] rfl) hO hP hD hS
          exact lp23 256 0 az22 pl ls _ _ (by omega) (by omega) (lv_sub hl [0, 1, 2, 3, 4] rfl) hO hP hD hS
      exact lp22 6 0 az21 pl ls _ _ (by omega) (by omega) (lv_sub hl [0, 1, 3, 4] rfl) hO hP hD hS
    | succ n21 ih21 =>
      intro i21 az21 pl ls H locs hm21 hi21 hl hO hP hD hS
      refine lv_iload hx hb dMH_readHidden_21 (lv_at hl 0 rfl) ?_
      refine lv_aload_n hx hb dMH_readHidden_23 rfl (lv_at hl 3 rfl) ?_
      refine ty_get (ci := 12) (C := "LatticeKeysModel$Hands") (TT := T_MH) (N := 31) (kd := (47, 0)) hx hb hts (wg_ft i_MH) hown hK hO k_h0 (nxg hc0 k_h0 rfl) hP (fun _ h9 => h9) rfl 24 (by decide) (hts _ (wg_t kw_1456)) (fun _ h9 => h9) (cd := (1, 0, 6)) rfl dMH_readHidden_24 (fun v27 hv27 => ?_)
      obtain rfl := (show v27 = .int (nI 6) from hv27)
      refine lv_aload_n hx hb dMH_readHidden_27 rfl (lv_at hl 3 rfl) ?_
      refine ty_get (ci := 12) (C := "LatticeKeysModel$Hands") (TT := T_MH) (N := 31) (kd := (47, 0)) hx hb hts (wg_ft i_MH) hown hK hO k_h0 (nxg hc0 k_h0 rfl) hP (fun _ h9 => h9) rfl 25 (by decide) (hts _ (wg_t kw_1457)) (fun _ h9 => h9) (cd := (1, 0, 5)) rfl dMH_readHidden_28 (fun v28 hv28 => ?_)
      obtain rfl := (show v28 = .int (nI 5) from hv28)
      refine mi_iadd hx hb dMH_readHidden_31 ?_
      refine mi_as (show nI (6 + 5) = nI 11 from rfl) ?_
      refine mi_ge (tgt := 118) hx hb dMH_readHidden_32 (by decide) (by omega) (by omega) (fun h27 => absurd h27 (by omega)) (fun h27 => ?_)
      refine lv_iconst (v := nI 0) hx hb dMH_readHidden_35 (by decide) ?_
      refine lv_istore (lv' := [(5, .int (nI 0)), (4, .int (nI i21)), (3, .int (nI az21)), (2, .int (nI 4)), (0, .ref h0), (1, .ref sk)]) hx hb dMH_readHidden_36 hl (by decide) rfl (fun ls hl => ?_)
      have lp24 : ∀ (n24 : Nat) (i24 : Nat) (az24 : Nat) (pl : va_W) (ls : Array Slot) (H : Heap) (locs : List Loc), n24 + i24 = 256 → (az24 = 1024 + 1024 * i21 + 4 * i24) → lv_has ls 7 [(5, .int (nI i24)), (4, .int (nI i21)), (3, .int (nI az24)), (2, .int (nI 4)), (0, .ref h0), (1, .ref sk)] → okx g T xs pl → va_P g.1 vcl ([] ++ pl) H → va_D A ([] ++ pl) → va_S A s.heap H locs → W p l e ({ frames := 1, cells := 0, slots := 0, locals := 24 } : Room) s m args below meth c H locs 0 0 (MQ below (va_Qv (fun (u : va_W) => (True) ∧ okx g T xs u) (po g.1 vcl A (fun (u : va_W) => [] ++ u)) A) args s 0 0 A) (F0 m 38 ls []) := by
        intro n24
        induction n24 with
        | zero =>
          intro i24 az24 pl ls H locs hm24 hi24 hl hO hP hD hS
          refine lv_iload hx hb dMH_readHidden_38 (lv_at hl 0 rfl) ?_
          refine lv_sipush (v := nI 256) hx hb dMH_readHidden_40 (by decide) ?_
          refine mi_ge (tgt := 112) hx hb dMH_readHidden_43 (by decide) (by omega) (by omega) (fun h28 => ?_) (fun h28 => absurd h28 (by omega))
          refine mi_iinc (k := 1) (x := i21) (d := 1) (y := i21 + 1) (lv' := [(4, .int (nI (i21 + 1))), (5, .int (nI i24)), (3, .int (nI az24)), (2, .int (nI 4)), (0, .ref h0), (1, .ref sk)]) hx hb dMH_readHidden_112 hl rfl (by decide) rfl (by decide) rfl (fun ls hl => ?_)
          refine lv_goto (tgt := 21) hx hb dMH_readHidden_115 (by decide) ?_
          exact ih21 (i21 + 1) az24 pl ls H locs (by omega) (by omega) (lv_sub hl [0, 2, 3, 4, 5] rfl) hO hP hD hS
        | succ n24 ih24 =>
          intro i24 az24 pl ls H locs hm24 hi24 hl hO hP hD hS
          refine lv_iload hx hb dMH_readHidden_38 (lv_at hl 0 rfl) ?_
          refine lv_sipush (v := nI 256) hx hb dMH_readHidden_40 (by decide) ?_
          refine mi_ge (tgt := 112) hx hb dMH_readHidden_43 (by decide) (by omega) (by omega) (fun h29 => absurd h29 (by omega)) (fun h29 => ?_)
          refine lv_aload_n hx hb dMH_readHidden_46 rfl (lv_at hl 4 rfl) ?_
          refine ty_get (ci := 12) (C := "LatticeKeysModel$Hands") (TT := T_MH) (N := 31) (kd := (47, 0)) hx hb hts (wg_ft i_MH) hown hK hO k_h0 (nxg hc0 k_h0 rfl) hP (fun _ h9 => h9) rfl 26 (by decide) (hts _ (wg_t kw_1458)) (fun _ h9 => h9) (cd := (1, 0, 4)) rfl dMH_readHidden_47 (fun v29 hv29 => ?_)
          obtain rfl := (show v29 = .int (nI 4) from hv29)
          refine lv_aload_n hx hb dMH_readHidden_50 rfl (lv_at hl 5 rfl) ?_
          refine lv_iload_n hx hb dMH_readHidden_51 rfl (lv_at hl 2 rfl) ?_
          refine lv_iload_n hx hb dMH_readHidden_52 rfl (lv_at hl 3 rfl) ?_
          refine mp_i (cx := []) (wr := []) hP hD hS hA [] [] rfl rfl rfl (by decide) (va_runSN (As := [.ref sk, .int (nI az24), .int (nI 4)]) (rest := [.int (nI 4)]) F (t_M_unpack l g _ T xs pl hO hU hc0 sk 4896 az24 4 k_sk (by omega) (by omega) (by omega)) ⟨va_cnB 3 hts (wg_in kw_1667) rfl rfl rfl (hE.2.2.2.2.2.2.2.2.2.2) (hts _ (wg_t kw_9)) (by decide +kernel) ⟨by decide, by decide⟩, hts _ (wg_t kw_1666), trivial⟩ (pp_S (en_ok g) hP hD hS hA hE [] rfl rfl) rfl rfl hl.1 rfl (lv_room (Nat.le_of_ble_eq_true rfl)) dMH_readHidden_53 ⟨by omega, by omega⟩) (fun r25 pl H locs hu23 hP hD hS => ?_)
          obtain ⟨hq23, hO⟩ := hu23
          have hP : va_P g.1 vcl ([] ++ pl) _ := hP
          have hD : va_D _ ([] ++ pl) := hD
          refine W.widen (k := 0) (n := 0) (by omega) (by omega) ?_
          refine mp_i (cx := []) (wr := []) hP hD hS hA [] [] rfl rfl rfl (by decide) (va_runS (As := [.int (nI 4), .int r25]) (rest := []) F (t_MH_minus l g _ T xs pl hO hU  (nI 4) r25) (va_cwS 2 hts (wg_app (wg_c kw_1865 (wg_c kw_1866 (wg_c kw_13 wg_n))) kw_1867) rfl rfl rfl (by decide +kernel) ⟨by decide, by decide⟩) (pp_S (en_ok g) hP hD hS hA hE [] rfl rfl) rfl rfl hl.1 rfl (lv_room (Nat.le_of_ble_eq_true rfl)) dMH_readHidden_56 ⟨by omega, by omega⟩) (fun r26 pl H locs hu24 hP hD hS => ?_)
          obtain ⟨hq24, hO⟩ := hu24
          have hP : va_P g.1 vcl ([] ++ pl) _ := hP
          have hD : va_D _ ([] ++ pl) := hD
          refine W.widen (k := 0) (n := 0) (by omega) (by omega) ?_
          refine lv_istore (lv' := [(6, .int r26), (5, .int (nI i24)), (4, .int (nI i21)), (3, .int (nI az24)), (2, .int (nI 4)), (0, .ref h0), (1, .ref sk)]) hx hb dMH_readHidden_59 hl (by decide) rfl (fun ls hl => ?_)
          refine lv_iload hx hb dMH_readHidden_61 (lv_at hl 2 rfl) ?_
          refine lv_aload_n hx hb dMH_readHidden_63 rfl (lv_at hl 5 rfl) ?_
          refine ty_get (ci := 12) (C := "LatticeKeysModel$Hands") (TT := T_MH) (N := 31) (kd := (47, 0)) hx hb hts (wg_ft i_MH) hown hK hO k_h0 (nxg hc0 k_h0 rfl) hP (fun _ h9 => h9) rfl 25 (by decide) (hts _ (wg_t kw_1457)) (fun _ h9 => h9) (cd := (1, 0, 5)) rfl dMH_readHidden_64 (fun v30 hv30 => ?_)
          obtain rfl := (show v30 = .int (nI 5) from hv30)
          refine mi_ge (tgt := 85) hx hb dMH_readHidden_67 (by decide) (by omega) (by omega) (fun h30 => ?_) (fun h30 => ?_)
          · refine lv_aload_n hx hb dMH_readHidden_85 rfl (lv_at hl 5 rfl) ?_
            refine ty_get (ci := 12) (C := "LatticeKeysModel$Hands") (TT := T_MH) (N := 31) (kd := (47, 0)) hx hb hts (wg_ft i_MH) hown hK hO k_h0 (nxg hc0 k_h0 rfl) hP (fun _ h9 => h9) rfl 4 (by decide) (hts _ (wg_t kw_1436)) (fun _ h9 => h9) (cd := (3, 3, 8)) rfl dMH_readHidden_86 (fun v31 hv31 => ?_)
            obtain ⟨r27, rfl, kr23⟩ := (show ∃ r : Nat, v31 = .ref r ∧ T r = some (3, 8) from hv31)
            refine lv_iload hx hb dMH_readHidden_89 (lv_at hl 2 rfl) ?_
            refine lv_aload_n hx hb dMH_readHidden_91 rfl (lv_at hl 5 rfl) ?_
            refine ty_get (ci := 12) (C := "LatticeKeysModel$Hands") (TT := T_MH) (N := 31) (kd := (47, 0)) hx hb hts (wg_ft i_MH) hown hK hO k_h0 (nxg hc0 k_h0 rfl) hP (fun _ h9 => h9) rfl 25 (by decide) (hts _ (wg_t kw_1457)) (fun _ h9 => h9) (cd := (1, 0, 5)) rfl dMH_readHidden_92 (fun v32 hv32 => ?_)
            obtain rfl := (show v32 = .int (nI 5) from hv32)
            refine mi_isub hx hb dMH_readHidden_95 (by omega) ?_
            refine ty_aald3 hx hb hK hO kr23 (nxg hc0 kr23 rfl) hP (by omega) (by decide) dMH_readHidden_96 (fun r28 kr24 => ?_)
            refine lv_iload hx hb dMH_readHidden_97 (lv_at hl 1 rfl) ?_
            refine lv_iload hx hb dMH_readHidden_99 (lv_at hl 0 rfl) ?_
            refine ty_iast hx hb hK hO kr24 (nxg hc0 kr24 rfl) hP hD hS (vp_in_nI (by omega) (by decide)) dMH_readHidden_101 (fun pl H locs hO hP hD hS => ?_)
            refine lv_iload_n hx hb dMH_readHidden_102 rfl (lv_at hl 3 rfl) ?_
            refine lv_iload_n hx hb dMH_readHidden_103 rfl (lv_at hl 4 rfl) ?_
            refine mi_iadd hx hb dMH_readHidden_104 ?_
            refine lv_istore_n (lv' := [(3, .int (nI (az24 + 4))), (6, .int r26), (5, .int (nI i24)), (4, .int (nI i21)), (2, .int (nI 4)), (0, .ref h0), (1, .ref sk)]) hx hb dMH_readHidden_105 rfl hl (by decide) rfl (fun ls hl => ?_)
            refine mi_iinc (k := 2) (x := i24) (d := 1) (y := i24 + 1) (lv' := [(5, .int (nI (i24 + 1))), (3, .int (nI (az24 + 4))), (6, .int r26), (4, .int (nI i21)), (2, .int (nI 4)), (0, .ref h0), (1, .ref sk)]) hx hb dMH_readHidden_106 hl rfl (by decide) rfl (by decide) rfl (fun ls hl => ?_)
            refine lv_goto (tgt := 38) hx hb dMH_readHidden_109 (by decide) ?_
            exact ih24 (i24 + 1) (az24 + 4) pl ls H locs (by omega) (by omega) (lv_sub hl [0, 3, 1, 4, 5, 6] rfl) hO hP hD hS
          · refine lv_aload_n hx hb dMH_readHidden_70 rfl (lv_at hl 5 rfl) ?_
            refine ty_get (ci := 12) (C := "LatticeKeysModel$Hands") (TT := T_MH) (N := 31) (kd := (47, 0)) hx hb hts (wg_ft i_MH) hown hK hO k_h0 (nxg hc0 k_h0 rfl) hP (fun _ h9 => h9) rfl 3 (by decide) (hts _ (wg_t kw_1435)) (fun _ h9 => h9) (cd := (3, 3, 7)) rfl dMH_readHidden_71 (fun v33 hv33 => ?_)
            obtain ⟨r29, rfl, kr25⟩ := (show ∃ r : Nat, v33 = .ref r ∧ T r = some (3, 7) from hv33)
            refine lv_iload hx hb dMH_readHidden_74 (lv_at hl 2 rfl) ?_
            refine ty_aald3 hx hb hK hO kr25 (nxg hc0 kr25 rfl) hP (by omega) (by decide) dMH_readHidden_76 (fun r30 kr26 => ?_)
            refine lv_iload hx hb dMH_readHidden_77 (lv_at hl 1 rfl) ?_
            refine lv_iload hx hb dMH_readHidden_79 (lv_at hl 0 rfl) ?_
            refine ty_iast hx hb hK hO kr26 (nxg hc0 kr26 rfl) hP hD hS (vp_in_nI (by omega) (by decide)) dMH_readHidden_81 (fun pl H locs hO hP hD hS => ?_)
            refine lv_goto (tgt := 102) hx hb dMH_readHidden_82 (by decide) ?_
            refine lv_iload_n hx hb dMH_readHidden_102 rfl (lv_at hl 3 rfl) ?_
            refine lv_iload_n hx hb dMH_readHidden_103 rfl (lv_at hl 4 rfl) ?_
            refine mi_iadd hx hb dMH_readHidden_104 ?_
            refine lv_istore_n (lv' := [(3, .int (nI (az24 + 4))), (6, .int r26), (5, .int (nI i24)), (4, .int (nI i21)), (2, .int (nI 4)), (0, .ref h0), (1, .ref sk)]) hx hb dMH_readHidden_105 rfl hl (by decide) rfl (fun ls hl => ?_)
            refine mi_iinc (k := 2) (x := i24) (d := 1) (y := i24 + 1) (lv' := [(5, .int (nI (i24 + 1))), (3, .int (nI (az24 + 4))), (6, .int r26), (4, .int (nI i21)), (2, .int (nI 4)), (0, .ref h0), (1, .ref sk)]) hx hb dMH_readHidden_106 hl rfl (by decide) rfl (by decide) rfl (fun ls hl => ?_)
            refine lv_goto (tgt := 38) hx hb dMH_readHidden_109 (by decide) ?_
            exact ih24 (i24 + 1) (az24 + 4) pl ls H locs (by omega) (by omega) (lv_sub hl [0, 3, 1, 4, 5, 6] rfl) hO hP hD hS
      exact lp24 256 0 az21 pl ls _ _ (by omega) (by omega) (lv_sub hl [0, 1, 2, 3, 4, 5] rfl) hO hP hD hS
  exact lp21 11 0 1024 pl ls _ _ (by omega) (by omega) (lv_sub hl [0, 1, 2, 3, 4] rfl) hO hP hD hS
set_option maxHeartbeats 400000 in
set_option maxRecDepth 100000 in
theorem t_MH_readHidden_2 (l : Launch) (g : Gd) (sz : Nat) (T : Ty) (xs : List Nat) (pl : va_W) (hO : okx g T xs pl) (hU : uni T) (hc0 : clo T xs 0) (h0 sk : Nat) (k_h0 : T h0 = some (48, 0)) (k_sk : T sk = some (1, 4896))  : Met l y_MH_readHidden w_MH_readHidden ({ frames := 1, cells := 0, slots := 0, locals := 24 } : Room) (va_Pc [.ref h0, .ref sk] (pr (en g) g.1 vcl sz ([] ++ pl))) (va_Qv (fun (u : va_W) => (True) ∧ okx g T xs u) (po g.1 vcl (va_A ([] ++ pl) sz) (fun (u : va_W) => [] ++ u)) (va_A ([] ++ pl) sz)) 0 0 (va_A ([] ++ pl) sz) := by
  refine mc_entry (cc := c_MH_readHidden) (maxL := 7) (ret := none) (by decide) rfl (Nat.le_of_ble_eq_true rfl) ?_
  intro p e s m args below meth c ls F hr hlk hnm hsz hP hD hE hA hl
  obtain ⟨hx, hb, hml, hown, hts⟩ := id F
  have hK := hE.1
  generalize va_A ([] ++ pl) sz = A at hD hE hA ⊢
  have hS : va_S A s.heap s.heap [] := va_S.rf
  have hl : lv_has ls 7 [(0, .ref h0), (1, .ref sk)] := hl
  refine lv_aload_n hx hb dMH_readHidden_0 rfl (lv_at hl 0 rfl) ?_
  refine ty_get (ci := 12) (C := "LatticeKeysModel$Hands") (TT := T_MH) (N := 31) (kd := (48, 0)) hx hb hts (wg_ft i_MH) hown hK hO k_h0 (nxg hc0 k_h0 rfl) hP (fun _ h9 => h9) rfl 26 (by decide) (hts _ (wg_t kw_1458)) (fun _ h9 => h9) (cd := (1, 0, 2)) rfl dMH_readHidden_1 (fun v21 hv21 => ?_)
  obtain rfl := (show v21 = .int (nI 2) from hv21)
  refine lv_iconst (v := nI 2) hx hb dMH_readHidden_4 (by decide) ?_
  refine mi_ne (tgt := 12) hx hb dMH_readHidden_5 (by decide) (by omega) (by omega) (fun h21 => absurd h21 (by omega)) (fun h21 => ?_)
  refine lv_iconst (v := nI 3) hx hb dMH_readHidden_8 (by decide) ?_
  refine lv_goto (tgt := 13) hx hb dMH_readHidden_9 (by decide) ?_
  refine lv_istore_n (lv' := [(2, .int (nI 3)), (0, .ref h0), (1, .ref sk)]) hx hb dMH_readHidden_13 rfl hl (by decide) rfl (fun ls hl => ?_)
  refine lv_sipush (v := nI 1024) hx hb dMH_readHidden_14 (by decide) ?_
  refine lv_istore_n (lv' := [(3, .int (nI 1024)), (2, .int (nI 3)), (0, .ref h0), (1, .ref sk)]) hx hb dMH_readHidden_17 rfl hl (by decide) rfl (fun ls hl => ?_)
  refine lv_iconst (v := nI 0) hx hb dMH_readHidden_18 (by decide) ?_
  refine lv_istore (lv' := [(4, .int (nI 0)), (3, .int (nI 1024)), (2, .int (nI 3)), (0, .ref h0), (1, .ref sk)]) hx hb dMH_readHidden_19 hl (by decide) rfl (fun ls hl => ?_)
  have lp21 : ∀ (n21 : Nat) (i21 : Nat) (az21 : Nat) (pl : va_W) (ls : Array Slot) (H : Heap) (locs : List Loc), n21 + i21 = 15 → (az21 = 1024 + 768 * i21) → lv_has ls 7 [(4, .int (nI i21)), (3, .int (nI az21)), (2, .int (nI 3)), (0, .ref h0), (1, .ref sk)] → okx g T xs pl → va_P g.1 vcl ([] ++ pl) H → va_D A ([] ++ pl) → va_S A s.heap H locs → W p l e ({ frames := 1, cells := 0, slots := 0, locals := 24 } : Room) s m args below meth c H locs 0 0 (MQ below (va_Qv (fun (u : va_W) => (True) ∧ okx g T xs u) (po g.1 vcl A (fun (u : va_W) => [] ++ u)) A) args s 0 0 A) (F0 m 21 ls []) := by
    intro n21
    induction n21 with
    | zero =>
      intro i21 az21 pl ls H locs hm21 hi21 hl hO hP hD hS
      refine lv_iload hx hb dMH_readHidden_21 (lv_at hl 0 rfl) ?_
      refine lv_aload_n hx hb dMH_readHidden_23 rfl (lv_at hl 3 rfl) ?_
      refine ty_get (ci := 12) (C := "LatticeKeysModel$Hands") (TT := T_MH) (N := 31) (kd := (48, 0)) hx hb hts (wg_ft i_MH) hown hK hO k_h0 (nxg hc0 k_h0 rfl) hP (fun _ h9 => h9) rfl 24 (by decide) (hts _ (wg_t kw_1456)) (fun _ h9 => h9) (cd := (1, 0, 8)) rfl dMH_readHidden_24 (fun v22 hv22 => ?_)
      obtain rfl := (show v22 = .int (nI 8) from hv22)
      refine lv_aload_n hx hb dMH_readHidden_27 rfl (lv_at hl 3 rfl) ?_
      refine ty_get (ci := 12) (C := "LatticeKeysModel$Hands") (TT := T_MH) (N := 31) (kd := (48, 0)) hx hb hts (wg_ft i_MH) hown hK hO k_h0 (nxg hc0 k_h0 rfl) hP (fun _ h9 => h9) rfl 25 (by decide) (hts _ (wg_t kw_1457)) (fun _ h9 => h9) (cd := (1, 0, 7)) rfl dMH_readHidden_28 (fun v23 hv23 => ?_)
      obtain rfl := (show v23 = .int (nI 7) from hv23)
      refine mi_iadd hx hb dMH_readHidden_31 ?_
      refine mi_as (show nI (8 + 7) = nI 15 from rfl) ?_
      refine mi_ge (tgt := 118) hx hb dMH_readHidden_32 (by decide) (by omega) (by omega) (fun h22 => ?_) (fun h22 => absurd h22 (by omega))
      refine lv_iconst (v := nI 0) hx hb dMH_readHidden_118 (by decide) ?_
      refine lv_istore (lv' := [(4, .int (nI 0)), (3, .int (nI az21)), (2, .int (nI 3)), (0, .ref h0), (1, .ref sk)]) hx hb dMH_readHidden_119 hl (by decide) rfl (fun ls hl => ?_)
      have lp22 : ∀ (n22 : Nat) (i22 : Nat) (az22 : Nat) (pl : va_W) (ls : Array Slot) (H : Heap) (locs : List Loc), n22 + i22 = 8 → (az22 = 12544 + 3328 * i22) → lv_has ls 7 [(4, .int (nI i22)), (3, .int (nI az22)), (0, .ref h0), (1, .ref sk)] → okx g T xs pl → va_P g.1 vcl ([] ++ pl) H → va_D A ([] ++ pl) → va_S A s.heap H locs → W p l e ({ frames := 1, cells := 0, slots := 0, locals := 24 } : Room) s m args below meth c H locs 0 0 (MQ below (va_Qv (fun (u : va_W) => (True) ∧ okx g T xs u) (po g.1 vcl A (fun (u : va_W) => [] ++ u)) A) args s 0 0 A) (F0 m 121 ls []) := by
        intro n22
        induction n22 with
        | zero =>
          intro i22 az22 pl ls H locs hm22 hi22 hl hO hP hD hS
          refine lv_iload hx hb dMH_readHidden_121 (lv_at hl 0 rfl) ?_
          refine lv_aload_n hx hb dMH_readHidden_123 rfl (lv_at hl 2 rfl) ?_
          refine ty_get (ci := 12) (C := "LatticeKeysModel$Hands") (TT := T_MH) (N := 31) (kd := (48, 0)) hx hb hts (wg_ft i_MH) hown hK hO k_h0 (nxg hc0 k_h0 rfl) hP (fun _ h9 => h9) rfl 24 (by decide) (hts _ (wg_t kw_1456)) (fun _ h9 => h9) (cd := (1, 0, 8)) rfl dMH_readHidden_124 (fun v24 hv24 => ?_)
          obtain rfl := (show v24 = .int (nI 8) from hv24)
          refine mi_ge (tgt := 179) hx hb dMH_readHidden_127 (by decide) (by omega) (by omega) (fun h23 => ?_) (fun h23 => absurd h23 (by omega))
          exact mp_vret hx hb hr hlk hP hD hS pl ⟨trivial, hO⟩ [] rfl rfl rfl (by omega) (by omega) dMH_readHidden_179
        | succ n22 ih22 =>
          intro i22 az22 pl ls H locs hm22 hi22 hl hO hP hD hS
          refine lv_iload hx hb dMH_readHidden_121 (lv_at hl 0 rfl) ?_
          refine lv_aload_n hx hb dMH_readHidden_123 rfl (lv_at hl 2 rfl) ?_
          refine ty_get (ci := 12) (C := "LatticeKeysModel$Hands") (TT := T_MH) (N := 31) (kd := (48, 0)) hx hb hts (wg_ft i_MH) hown hK hO k_h0 (nxg hc0 k_h0 rfl) hP (fun _ h9 => h9) rfl 24 (by decide) (hts _ (wg_t kw_1456)) (fun _ h9 => h9) (cd := (1, 0, 8)) rfl dMH_readHidden_124 (fun v25 hv25 => ?_)
          obtain rfl := (show v25 = .int (nI 8) from hv25)
          refine mi_ge (tgt := 179) hx hb dMH_readHidden_127 (by decide) (by omega) (by omega) (fun h24 => absurd h24 (by omega)) (fun h24 => ?_)
          refine lv_iconst (v := nI 0) hx hb dMH_readHidden_130 (by decide) ?_
          refine lv_istore (lv' := [(5, .int (nI 0)), (4, .int (nI i22)), (3, .int (nI az22)), (0, .ref h0), (1, .ref sk)]) hx hb dMH_readHidden_131 hl (by decide) rfl (fun ls hl => ?_)
          have lp23 : ∀ (n23 : Nat) (i23 : Nat) (az23 : Nat) (pl : va_W) (ls : Array Slot) (H : Heap) (locs : List Loc), n23 + i23 = 256 → (az23 = 12544 + 3328 * i22 + 13 * i23) → lv_has ls 7 [(5, .int (nI i23)), (4, .int (nI i22)), (3, .int (nI az23)), (0, .ref h0), (1, .ref sk)] → okx g T xs pl → va_P g.1 vcl ([] ++ pl) H → va_D A ([] ++ pl) → va_S A s.heap H locs → W p l e ({ frames := 1, cells := 0, slots := 0, locals := 24 } : Room) s m args below meth c H locs 0 0 (MQ below (va_Qv (fun (u : va_W) => (True) ∧ okx g T xs u) (po g.1 vcl A (fun (u : va_W) => [] ++ u)) A) args s 0 0 A) (F0 m 133 ls []) := by
            intro n23
            induction n23 with
            | zero =>
              intro i23 az23 pl ls H locs hm23 hi23 hl hO hP hD hS
              refine lv_iload hx hb dMH_readHidden_133 (lv_at hl 0 rfl) ?_
              refine lv_sipush (v := nI 256) hx hb dMH_readHidden_135 (by decide) ?_
              refine mi_ge (tgt := 173) hx hb dMH_readHidden_138 (by decide) (by omega) (by omega) (fun h25 => ?_) (fun h25 => absurd h25 (by omega))
              refine mi_iinc (k := 1) (x := i22) (d := 1) (y := i22 + 1) (lv' := [(4, .int (nI (i22 + 1))), (5, .int (nI i23)), (3, .int (nI az23)), (0, .ref h0), (1, .ref sk)]) hx hb dMH_readHidden_173 hl rfl (by decide) rfl (by decide) rfl (fun ls hl => ?_)
              refine lv_goto (tgt := 121) hx hb dMH_readHidden_176 (by decide) ?_
              exact ih22 (i22 + 1) az23 pl ls H locs (by omega) (by omega) (lv_sub hl [0, 2, 3, 4] rfl) hO hP hD hS
            | succ n23 ih23 =>
              intro i23 az23 pl ls H locs hm23 hi23 hl hO hP hD hS
              refine lv_iload hx hb dMH_readHidden_133 (lv_at hl 0 rfl) ?_
              refine lv_sipush (v := nI 256) hx hb dMH_readHidden_135 (by decide) ?_
              refine mi_ge (tgt := 173) hx hb dMH_readHidden_138 (by decide) (by omega) (by omega) (fun h26 => absurd h26 (by omega)) (fun h26 => ?_)
              refine lv_aload_n hx hb dMH_readHidden_141 rfl (lv_at hl 3 rfl) ?_
              refine ty_get (ci := 12) (C := "LatticeKeysModel$Hands") (TT := T_MH) (N := 31) (kd := (48, 0)) hx hb hts (wg_ft i_MH) hown hK hO k_h0 (nxg hc0 k_h0 rfl) hP (fun _ h9 => h9) rfl 5 (by decide) (hts _ (wg_t kw_1437)) (fun _ h9 => h9) (cd := (3, 3, 8)) rfl dMH_readHidden_142 (fun v26 hv26 => ?_)
              obtain ⟨r21, rfl, kr21⟩ := (show ∃ r : Nat, v26 = .ref r ∧ T r = some (3, 8) from hv26)
              refine lv_iload hx hb dMH_readHidden_145 (lv_at hl 1 rfl) ?_
              refine ty_aald3 hx hb hK hO kr21 (nxg hc0 kr21 rfl) hP (by omega) (by decide) dMH_readHidden_147 (fun r22 kr22 => ?_)
              refine lv_iload hx hb dMH_readHidden_148 (lv_at hl 0 rfl) ?_
              refine lv_sipush (v := nI 4096) hx hb dMH_readHidden_150 (by decide) ?_
              refine lv_aload_n hx hb dMH_readHidden_153 rfl (lv_at hl 4 rfl) ?_
              refine lv_iload_n hx hb dMH_readHidden_154 rfl (lv_at hl 2 rfl) ?_
              refine lv_bipush (v := nI 13) hx hb dMH_readHidden_155 (by decide) ?_
              refine mp_i (cx := []) (wr := []) hP hD hS hA [] [] rfl rfl rfl (by decide) (va_runSN (As := [.ref sk, .int (nI az23), .int (nI 13)]) (rest := [.int (nI 4096), .int (nI i23), .ref r22]) F (t_M_unpack l g _ T xs pl hO hU hc0 sk 4896 az23 13 k_sk (by omega) (by omega) (by omega)) ⟨va_cnB 3 hts (wg_in kw_1667) rfl rfl rfl (hE.2.2.2.2.2.2.2.2.2.2) (hts _ (wg_t kw_9)) (by decide +kernel) ⟨by decide, by decide⟩, hts _ (wg_t kw_1666), trivial⟩ (pp_S (en_ok g) hP hD hS hA hE [] rfl rfl) rfl rfl hl.1 rfl (lv_room (Nat.le_of_ble_eq_true rfl)) dMH_readHidden_157 ⟨by omega, by omega⟩) (fun r23 pl H locs hu21 hP hD hS => ?_)
              obtain ⟨hq21, hO⟩ := hu21
              have hP : va_P g.1 vcl ([] ++ pl) _ := hP
              have hD : va_D _ ([] ++ pl) := hD
              refine W.widen (k := 0) (n := 0) (by omega) (by omega) ?_
              refine mp_i (cx := []) (wr := []) hP hD hS hA [] [] rfl rfl rfl (by decide) (va_runS (As := [.int (nI 4096), .int r23]) (rest := [.int (nI i23), .ref r22]) F (t_MH_minus l g _ T xs pl hO hU  (nI 4096) r23) (va_cwS 2 hts (wg_app (wg_c kw_1865 (wg_c kw_1866 (wg_c kw_13 wg_n))) kw_1867) rfl rfl rfl (by decide +kernel) ⟨by decide, by decide⟩) (pp_S (en_ok g) hP hD hS hA hE [] rfl rfl) rfl rfl hl.1 rfl (lv_room (Nat.le_of_ble_eq_true rfl)) dMH_readHidden_160 ⟨by omega, by omega⟩) (fun r24 pl H locs hu22 hP hD hS => ?_)
              obtain ⟨hq22, hO⟩ := hu22
              have hP : va_P g.1 vcl ([] ++ pl) _ := hP
              have hD : va_D _ ([] ++ pl) := hD
              refine W.widen (k := 0) (n := 0) (by omega) (by omega) ?_
              refine ty_iast hx hb hK hO kr22 (nxg hc0 kr22 rfl) hP hD hS (vp_in_nI (by omega) (by decide)) dMH_readHidden_163 (fun pl H locs hO hP hD hS => ?_)
              refine mi_iinc (k := 2) (x := az23) (d := 13) (y := az23 + 13) (lv' := [(3, .int (nI (az23 + 13))), (5, .int (nI i23)), (4, .int (nI i22)), (0, .ref h0), (1, .ref sk)]) hx hb dMH_readHidden_164 hl rfl (by decide) rfl (by decide) rfl (fun ls hl => ?_)
              refine mi_iinc (k := 1) (x := i23) (d := 1) (y := i23 + 1) (lv' := [(5, .int (nI (i23 + 1))), (3, .int (nI (az23 + 13))), (4, .int (nI i22)), (0, .ref h0), (1, .ref sk)]) hx hb dMH_readHidden_167 hl rfl (by decide) rfl (by decide) rfl (fun ls hl => ?_)
              refine lv_goto (tgt := 133) hx hb dMH_readHidden_170 (by decide) ?_
              exact ih23 (i23 + 1) (az23 + 13) pl ls H locs (by omega) (by omega) (lv_sub hl [0, 2, 1, 3, 4] rfl) hO hP hD hS
          exact lp23 256 0 az22 pl ls _ _ (by omega) (by omega) (lv_sub hl [0, 1, 2, 3, 4] rfl) hO hP hD hS
      exact lp22 8 0 az21 pl ls _ _ (by omega) (by omega) (lv_sub hl [0, 1, 3, 4] rfl) hO hP hD hS
    | succ n21 ih21 =>
      intro i21 az21 pl ls H locs hm21 hi21 hl hO hP hD hS
      refine lv_iload hx hb dMH_readHidden_21 (lv_at hl 0 rfl) ?_
      refine lv_aload_n hx hb dMH_readHidden_23 rfl (lv_at hl 3 rfl) ?_
      refine ty_get (ci := 12) (C := "LatticeKeysModel$Hands") (TT := T_MH) (N := 31) (kd := (48, 0)) hx hb hts (wg_ft i_MH) hown hK hO k_h0 (nxg hc0 k_h0 rfl) hP (fun _ h9 => h9) rfl 24 (by decide) (hts _ (wg_t kw_1456)) (fun _ h9 => h9) (cd := (1, 0, 8)) rfl dMH_readHidden_24 (fun v27 hv27 => ?_)
      obtain rfl := (show v27 = .int (nI 8) from hv27)
      refine lv_aload_n hx hb dMH_readHidden_27 rfl (lv_at hl 3 rfl) ?_
      refine ty_get (ci := 12) (C := "LatticeKeysModel$Hands") (TT := T_MH) (N := 31) (kd := (48, 0)) hx hb hts (wg_ft i_MH) hown hK hO k_h0 (nxg hc0 k_h0 rfl) hP (fun _ h9 => h9) rfl 25 (by decide) (hts _ (wg_t kw_1457)) (fun _ h9 => h9) (cd := (1, 0, 7)) rfl dMH_readHidden_28 (fun v28 hv28 => ?_)
      obtain rfl := (show v28 = .int (nI 7) from hv28)
      refine mi_iadd hx hb dMH_readHidden_31 ?_
      refine mi_as (show nI (8 + 7) = nI 15 from rfl) ?_
      refine mi_ge (tgt := 118) hx hb dMH_readHidden_32 (by decide) (by omega) (by omega) (fun h27 => absurd h27 (by omega)) (fun h27 => ?_)
      refine lv_iconst (v := nI 0) hx hb dMH_readHidden_35 (by decide) ?_
      refine lv_istore (lv' := [(5, .int (nI 0)), (4, .int (nI i21)), (3, .int (nI az21)), (2, .int (nI 3)), (0, .ref h0), (1, .ref sk)]) hx hb dMH_readHidden_36 hl (by decide) rfl (fun ls hl => ?_)
      have lp24 : ∀ (n24 : Nat) (i24 : Nat) (az24 : Nat) (pl : va_W) (ls : Array Slot) (H : Heap) (locs : List Loc), n24 + i24 = 256 → (az24 = 1024 + 768 * i21 + 3 * i24) → lv_has ls 7 [(5, .int (nI i24)), (4, .int (nI i21)), (3, .int (nI az24)), (2, .int (nI 3)), (0, .ref h0), (1, .ref sk)] → okx g T xs pl → va_P g.1 vcl ([] ++ pl) H → va_D A ([] ++ pl) → va_S A s.heap H locs → W p l e ({ frames := 1, cells := 0, slots := 0, locals := 24 } : Room) s m args below meth c H locs 0 0 (MQ below (va_Qv (fun (u : va_W) => (True) ∧ okx g T xs u) (po g.1 vcl A (fun (u : va_W) => [] ++ u)) A) args s 0 0 A) (F0 m 38 ls []) := by
        intro n24
        induction n24 with
        | zero =>
          intro i24 az24 pl ls H locs hm24 hi24 hl hO hP hD hS
          refine lv_iload hx hb dMH_readHidden_38 (lv_at hl 0 rfl) ?_
          refine lv_sipush (v := nI 256) hx hb dMH_readHidden_40 (by decide) ?_
          refine mi_ge (tgt := 112) hx hb dMH_readHidden_43 (by decide) (by omega) (by omega) (fun h28 => ?_) (fun h28 => absurd h28 (by omega))
          refine mi_iinc (k := 1) (x := i21) (d := 1) (y := i21 + 1) (lv' := [(4, .int (nI (i21 + 1))), (5, .int (nI i24)), (3, .int (nI az24)), (2, .int (nI 3)), (0, .ref h0), (1, .ref sk)]) hx hb dMH_readHidden_112 hl rfl (by decide) rfl (by decide) rfl (fun ls hl => ?_)
          refine lv_goto (tgt := 21) hx hb dMH_readHidden_115 (by decide) ?_
          exact ih21 (i21 + 1) az24 pl ls H locs (by omega) (by omega) (lv_sub hl [0, 2, 3, 4, 5] rfl) hO hP hD hS
        | succ n24 ih24 =>
          intro i24 az24 pl ls H locs hm24 hi24 hl hO hP hD hS
          refine lv_iload hx hb dMH_readHidden_38 (lv_at hl 0 rfl) ?_
          refine lv_sipush (v := nI 256) hx hb dMH_readHidden_40 (by decide) ?_
          refine mi_ge (tgt := 112) hx hb dMH_readHidden_43 (by decide) (by omega) (by omega) (fun h29 => absurd h29 (by omega)) (fun h29 => ?_)
          refine lv_aload_n hx hb dMH_readHidden_46 rfl (lv_at hl 4 rfl) ?_
          refine ty_get (ci := 12) (C := "LatticeKeysModel$Hands") (TT := T_MH) (N := 31) (kd := (48, 0)) hx hb hts (wg_ft i_MH) hown hK hO k_h0 (nxg hc0 k_h0 rfl) hP (fun _ h9 => h9) rfl 26 (by decide) (hts _ (wg_t kw_1458)) (fun _ h9 => h9) (cd := (1, 0, 2)) rfl dMH_readHidden_47 (fun v29 hv29 => ?_)
          obtain rfl := (show v29 = .int (nI 2) from hv29)
          refine lv_aload_n hx hb dMH_readHidden_50 rfl (lv_at hl 5 rfl) ?_
          refine lv_iload_n hx hb dMH_readHidden_51 rfl (lv_at hl 2 rfl) ?_
          refine lv_iload_n hx hb dMH_readHidden_52 rfl (lv_at hl 3 rfl) ?_
          refine mp_i (cx := []) (wr := []) hP hD hS hA [] [] rfl rfl rfl (by decide) (va_runSN (As := [.ref sk, .int (nI az24), .int (nI 3)]) (rest := [.int (nI 2)]) F (t_M_unpack l g _ T xs pl hO hU hc0 sk 4896 az24 3 k_sk (by omega) (by omega) (by omega)) ⟨va_cnB 3 hts (wg_in kw_1667) rfl rfl rfl (hE.2.2.2.2.2.2.2.2.2.2) (hts _ (wg_t kw_9)) (by decide +kernel) ⟨by decide, by decide⟩, hts _ (wg_t kw_1666), trivial⟩ (pp_S (en_ok g) hP hD hS hA hE [] rfl rfl) rfl rfl hl.1 rfl (lv_room (Nat.le_of_ble_eq_true rfl)) dMH_readHidden_53 ⟨by omega, by omega⟩) (fun r25 pl H locs hu23 hP hD hS => ?_)
          obtain ⟨hq23, hO⟩ := hu23
          have hP : va_P g.1 vcl ([] ++ pl) _ := hP
          have hD : va_D _ ([] ++ pl) := hD
          refine W.widen (k := 0) (n := 0) (by omega) (by omega) ?_
          refine mp_i (cx := []) (wr := []) hP hD hS hA [] [] rfl rfl rfl (by decide) (va_runS (As := [.int (nI 2), .int r25]) (rest := []) F (t_MH_minus l g _ T xs pl hO hU  (nI 2) r25) (va_cwS 2 hts (wg_app (wg_c kw_1865 (wg_c kw_1866 (wg_c kw_13 wg_n))) kw_1867) rfl rfl rfl (by decide +kernel) ⟨by decide, by decide⟩) (pp_S (en_ok g) hP hD hS hA hE [] rfl rfl) rfl rfl hl.1 rfl (lv_room (Nat.le_of_ble_eq_true rfl)) dMH_readHidden_56 ⟨by omega, by omega⟩) (fun r26 pl H locs hu24 hP hD hS => ?_)
          obtain ⟨hq24, hO⟩ := hu24
          have hP : va_P g.1 vcl ([] ++ pl) _ := hP
          have hD : va_D _ ([] ++ pl) := hD
          refine W.widen (k := 0) (n := 0) (by omega) (by omega) ?_
          refine lv_istore (lv' := [(6, .int r26), (5, .int (nI i24)), (4, .int (nI i21)), (3, .int (nI az24)), (2, .int (nI 3)), (0, .ref h0), (1, .ref sk)]) hx hb dMH_readHidden_59 hl (by decide) rfl (fun ls hl => ?_)
          refine lv_iload hx hb dMH_readHidden_61 (lv_at hl 2 rfl) ?_
          refine lv_aload_n hx hb dMH_readHidden_63 rfl (lv_at hl 5 rfl) ?_
          refine ty_get (ci := 12) (C := "LatticeKeysModel$Hands") (TT := T_MH) (N := 31) (kd := (48, 0)) hx hb hts (wg_ft i_MH) hown hK hO k_h0 (nxg hc0 k_h0 rfl) hP (fun _ h9 => h9) rfl 25 (by decide) (hts _ (wg_t kw_1457)) (fun _ h9 => h9) (cd := (1, 0, 7)) rfl dMH_readHidden_64 (fun v30 hv30 => ?_)
          obtain rfl := (show v30 = .int (nI 7) from hv30)
          refine mi_ge (tgt := 85) hx hb dMH_readHidden_67 (by decide) (by omega) (by omega) (fun h30 => ?_) (fun h30 => ?_)
          · refine lv_aload_n hx hb dMH_readHidden_85 rfl (lv_at hl 5 rfl) ?_
            refine ty_get (ci := 12) (C := "LatticeKeysModel$Hands") (TT := T_MH) (N := 31) (kd := (48, 0)) hx hb hts (wg_ft i_MH) hown hK hO k_h0 (nxg hc0 k_h0 rfl) hP (fun _ h9 => h9) rfl 4 (by decide) (hts _ (wg_t kw_1436)) (fun _ h9 => h9) (cd := (3, 3, 8)) rfl dMH_readHidden_86 (fun v31 hv31 => ?_)
            obtain ⟨r27, rfl, kr23⟩ := (show ∃ r : Nat, v31 = .ref r ∧ T r = some (3, 8) from hv31)
            refine lv_iload hx hb dMH_readHidden_89 (lv_at hl 2 rfl) ?_
            refine lv_aload_n hx hb dMH_readHidden_91 rfl (lv_at hl 5 rfl) ?_
            refine ty_get (ci := 12) (C := "LatticeKeysModel$Hands") (TT := T_MH) (N := 31) (kd := (48, 0)) hx hb hts (wg_ft i_MH) hown hK hO k_h0 (nxg hc0 k_h0 rfl) hP (fun _ h9 => h9) rfl 25 (by decide) (hts _ (wg_t kw_1457)) (fun _ h9 => h9) (cd := (1, 0, 7)) rfl dMH_readHidden_92 (fun v32 hv32 => ?_)
            obtain rfl := (show v32 = .int (nI 7) from hv32)
            refine mi_isub hx hb dMH_readHidden_95 (by omega) ?_
            refine ty_aald3 hx hb hK hO kr23 (nxg hc0 kr23 rfl) hP (by omega) (by decide) dMH_readHidden_96 (fun r28 kr24 => ?_)
            refine lv_iload hx hb dMH_readHidden_97 (lv_at hl 1 rfl) ?_
            refine lv_iload hx hb dMH_readHidden_99 (lv_at hl 0 rfl) ?_
            refine ty_iast hx hb hK hO kr24 (nxg hc0 kr24 rfl) hP hD hS (vp_in_nI (by omega) (by decide)) dMH_readHidden_101 (fun pl H locs hO hP hD hS => ?_)
            refine lv_iload_n hx hb dMH_readHidden_102 rfl (lv_at hl 3 rfl) ?_
            refine lv_iload_n hx hb dMH_readHidden_103 rfl (lv_at hl 4 rfl) ?_
            refine mi_iadd hx hb dMH_readHidden_104 ?_
            refine lv_istore_n (lv' := [(3, .int (nI (az24 + 3))), (6, .int r26), (5, .int (nI i24)), (4, .int (nI i21)), (2, .int (nI 3)), (0, .ref h0), (1, .ref sk)]) hx hb dMH_readHidden_105 rfl hl (by decide) rfl (fun ls hl => ?_)
            refine mi_iinc (k := 2) (x := i24) (d := 1) (y := i24 + 1) (lv' := [(5, .int (nI (i24 + 1))), (3, .int (nI (az24 + 3))), (6, .int r26), (4, .int (nI i21)), (2, .int (nI 3)), (0, .ref h0), (1, .ref sk)]) hx hb dMH_readHidden_106 hl rfl (by decide) rfl (by decide) rfl (fun ls hl => ?_)
            refine lv_goto (tgt := 38) hx hb dMH_readHidden_109 (by decide) ?_
            exact ih24 (i24 + 1) (az24 + 3) pl ls H locs (by omega) (by omega) (lv_sub hl [0, 3, 1, 4, 5, 6] rfl) hO hP hD hS
          · refine lv_aload_n hx hb dMH_readHidden_70 rfl (lv_at hl 5 rfl) ?_
            refine ty_get (ci := 12) (C := "LatticeKeysModel$Hands") (TT := T_MH) (N := 31) (kd := (48, 0)) hx hb hts (wg_ft i_MH) hown hK hO k_h0 (nxg hc0 k_h0 rfl) hP (fun _ h9 => h9) rfl 3 (by decide) (hts _ (wg_t kw_1435)) (fun _ h9 => h9) (cd := (3, 3, 7)) rfl dMH_readHidden_71 (fun v33 hv33 => ?_)
            obtain ⟨r29, rfl, kr25⟩ := (show ∃ r : Nat, v33 = .ref r ∧ T r = some (3, 7) from hv33)
            refine lv_iload hx hb dMH_readHidden_74 (lv_at hl 2 rfl) ?_
            refine ty_aald3 hx hb hK hO kr25 (nxg hc0 kr25 rfl) hP (by omega) (by decide) dMH_readHidden_76 (fun r30 kr26 => ?_)
            refine lv_iload hx hb dMH_readHidden_77 (lv_at hl 1 rfl) ?_
            refine lv_iload hx hb dMH_readHidden_79 (lv_at hl 0 rfl) ?_
            refine ty_iast hx hb hK hO kr26 (nxg hc0 kr26 rfl) hP hD hS (vp_in_nI (by omega) (by decide)) dMH_readHidden_81 (fun pl H locs hO hP hD hS => ?_)
            refine lv_goto (tgt := 102) hx hb dMH_readHidden_82 (by decide) ?_
            refine lv_iload_n hx hb dMH_readHidden_102 rfl (lv_at hl 3 rfl) ?_
            refine lv_iload_n hx hb dMH_readHidden_103 rfl (lv_at hl 4 rfl) ?_
            refine mi_iadd hx hb dMH_readHidden_104 ?_
            refine lv_istore_n (lv' := [(3, .int (nI (az24 + 3))), (6, .int r26), (5, .int (nI i24)), (4, .int (nI i21)), (2, .int (nI 3)), (0, .ref h0), (1, .ref sk)]) hx hb dMH_readHidden_105 rfl hl (by decide) rfl (fun ls hl => ?_)
            refine mi_iinc (k := 2) (x := i24) (d := 1) (y := i24 + 1) (lv' := [(5, .int (nI (i24 + 1))), (3, .int (nI (az24 + 3))), (6, .int r26), (4, .int (nI i21)), (2, .int (nI 3)), (0, .ref h0), (1, .ref sk)]) hx hb dMH_readHidden_106 hl rfl (by decide) rfl (by decide) rfl (fun ls hl => ?_)
            refine lv_goto (tgt := 38) hx hb dMH_readHidden_109 (by decide) ?_
            exact ih24 (i24 + 1) (az24 + 3) pl ls H locs (by omega) (by omega) (lv_sub hl [0, 3, 1, 4, 5, 6] rfl) hO hP hD hS
      exact lp24 256 0 az21 pl ls _ _ (by omega) (by omega) (lv_sub hl [0, 1, 2, 3, 4, 5] rfl) hO hP hD hS
  exact lp21 15 0 1024 pl ls _ _ (by omega) (by omega) (lv_sub hl [0, 1, 2, 3, 4] rfl) hO hP hD hS
set_option maxHeartbeats 400000 in
set_option maxRecDepth 100000 in
theorem t_MH_message_0 (l : Launch) (g : Gd) (sz : Nat) (T : Ty) (xs : List Nat) (pl : va_W) (hO : okx g T xs pl) (hU : uni T) (hc0 : clo T xs 0) (hc9 : clo T xs 9) (h0 hs b nh nb ha at_ ed : Nat) (v : Int32) (k_h0 : T h0 = some (46, 0)) (k_hs : T hs = some (1, nh)) (k_b : T b = some (1, nb)) (h1 : ha + 64 ≤ nh) (h2 : nh < 65536) (h3 : at_ ≤ ed) (h4 : ed ≤ nb) (h5 : nb < 65536)  : Met l y_MH_message w_MH_message ({ frames := 4, cells := 0, slots := 0, locals := 98 } : Room) (va_Pc [.ref h0, .ref hs, .int (nI ha), .ref b, .int (nI at_), .int v, .int (nI ed)] (pr (en g) g.1 vcl sz ([] ++ pl))) (va_Qv (fun (u : va_W) => (True) ∧ okx g T xs u) (po g.1 vcl (va_A ([] ++ pl) sz) (fun (u : va_W) => [] ++ u)) (va_A ([] ++ pl) sz)) 0 0 (va_A ([] ++ pl) sz) := by
  refine mc_entry (cc := c_MH_message) (maxL := 7) (ret := none) (by decide) rfl (Nat.le_of_ble_eq_true rfl) ?_
  intro p e s m args below meth c ls F hr hlk hnm hsz hP hD hE hA hl
  obtain ⟨hx, hb, hml, hown, hts⟩ := id F
  have hK := hE.1
  generalize va_A ([] ++ pl) sz = A at hD hE hA ⊢
  have hS : va_S A s.heap s.heap [] := va_S.rf
  have hl : lv_has ls 7 [(0, .ref h0), (1, .ref hs), (2, .int (nI ha)), (3, .ref b), (4, .int (nI at_)), (5, .int v), (6, .int (nI ed))] := hl
  refine lv_aload_n hx hb dMH_message_0 rfl (lv_at hl 0 rfl) ?_
  refine ty_get (ci := 12) (C := "LatticeKeysModel$Hands") (TT := T_MH) (N := 31) (kd := (46, 0)) hx hb hts (wg_ft i_MH) hown hK hO k_h0 (nxg hc0 k_h0 rfl) hP (fun _ h9 => h9) rfl 0 (by decide) (hts _ (wg_t kw_1432)) (fun _ h9 => h9) (cd := (3, 20, 0)) rfl dMH_message_1 (fun v21 hv21 => ?_)
  obtain ⟨r21, rfl, kr21⟩ := (show ∃ r : Nat, v21 = .ref r ∧ T r = some (20, 0) from hv21)
  obtain ⟨e21, pl, hP, hD, hk21, hO⟩ := open1 hP hD hO kr21 (nxg hc9 kr21 rfl)
  obtain ⟨am21, am22, am23, am24, am25, rt21, ps21, x21, rfl, km21, km22, km23, km24, km25, hr21, hr22, hr23⟩ := hk21
  obtain ⟨e22, pl, hP, hD, hk22, hO⟩ := open1 hP hD hO km21 (nmc (knd_ne km21 kr21 (by decide)) (nxg hc9 km21 rfl))
  obtain ⟨f21, rfl⟩ := hk22
  obtain ⟨e23, pl, hP, hD, hk23, hO⟩ := open1 hP hD hO km22 (nmc (knd_ne km22 km21 (by decide)) (nmc (knd_ne km22 kr21 (by decide)) (nxg hc9 km22 rfl)))
  obtain ⟨f22, rfl⟩ := hk23
  obtain ⟨e24, pl, hP, hD, hk24, hO⟩ := open1 hP hD hO km23 (nmc (knd_ne km23 km22 (by decide)) (nmc (knd_ne km23 km21 (by decide)) (nmc (knd_ne km23 kr21 (by decide)) (nxg hc9 km23 rfl))))
  obtain ⟨f23, rfl⟩ := hk24
  obtain ⟨e25, pl, hP, hD, hk25, hO⟩ := open1 hP hD hO km24 (nmc (knd_ne km24 km23 (by decide)) (nmc (knd_ne km24 km22 (by decide)) (nmc (knd_ne km24 km21 (by decide)) (nmc (knd_ne km24 kr21 (by decide)) (nxg hc9 km24 rfl)))))
  obtain ⟨f24, rfl⟩ := hk25
  obtain ⟨e26, pl, hP, hD, hk26, hO⟩ := open1 hP hD hO km25 (nmc (knd_ne km25 km24 (by decide)) (nmc (knd_ne km25 km23 (by decide)) (nmc (knd_ne km25 km22 (by decide)) (nmc (knd_ne km25 km21 (by decide)) (nmc (knd_ne km25 kr21 (by decide)) (nxg hc9 km25 rfl))))))
  obtain ⟨f25, rfl⟩ := hk26
  have hP : va_P g.1 vcl ([(r21, .inr (9, [.ref am21, .ref am22, .ref am23, .ref am24, .ref am25, .int (nI rt21), .int (nI ps21), .int x21])), (am21, .inl (g.2.1 2, 25, .inr (.inl f21))), (am22, .inl (g.2.1 2, 25, .inr (.inl f22))), (am23, .inl (g.2.1 2, 5, .inr (.inl f23))), (am24, .inl (g.2.1 2, 24, .inr (.inl f24))), (am25, .inl (g.2.1 0, 25, .inl f25))] ++ pl) _ := hP
  have hD : va_D _ ([(r21, .inr (9, [.ref am21, .ref am22, .ref am23, .ref am24, .ref am25, .int (nI rt21), .int (nI ps21), .int x21])), (am21, .inl (g.2.1 2, 25, .inr (.inl f21))), (am22, .inl (g.2.1 2, 25, .inr (.inl f22))), (am23, .inl (g.2.1 2, 5, .inr (.inl f23))), (am24, .inl (g.2.1 2, 24, .inr (.inl f24))), (am25, .inl (g.2.1 0, 25, .inl f25))] ++ pl) := hD
  refine mp_v (cx := [(r21, .inr (9, [.ref am21, .ref am22, .ref am23, .ref am24, .ref am25, .int (nI rt21), .int (nI ps21), .int x21])), (am21, .inl (g.2.1 2, 25, .inr (.inl f21))), (am22, .inl (g.2.1 2, 25, .inr (.inl f22))), (am23, .inl (g.2.1 2, 5, .inr (.inl f23))), (am24, .inl (g.2.1 2, 24, .inr (.inl f24))), (am25, .inl (g.2.1 0, 25, .inl f25))]) (wr := []) hP hD hS hA [0, 1, 2, 3, 4, 5] [] rfl rfl rfl (by decide) (va_runV (As := []) (rest := []) F (t_MS_shake l g _ T (am25 :: (am24 :: (am23 :: (am22 :: (am21 :: (r21 :: xs)))))) pl hO hU  r21 am21 am22 am23 am24 am25 rt21 ps21 x21 f21 f22 f23 f24 f25) (cwV 0 hts (wg_app (wg_c kw_1718 (wg_c kw_1661 (wg_c kw_1662 (wg_c kw_10 wg_n)))) kw_1663) rfl rfl rfl (by decide +kernel) ⟨by decide, by decide⟩) (pp_V (en_ok g) (q0 := 0) hK hP hD hS hA hE [0, 1, 2, 3, 4, 5] rfl rfl rfl rfl) rfl rfl hl.1 rfl (lv_room (Nat.le_of_ble_eq_true rfl)) dMH_message_4 ⟨by omega, by omega⟩) (fun  u21 H locs hu21 hP hD hS => ?_)
  obtain ⟨u22, pl⟩ := u21
  obtain ⟨hq21, hO⟩ := hu21
  obtain ⟨ps22, f26, f27, f28⟩ := u22
  have hP : va_P g.1 vcl ([(r21, .inr (9, [.ref am21, .ref am22, .ref am23, .ref am24, .ref am25, .int (nI 136), .int (nI ps22), .int (nI 31)])), (am21, .inl (g.2.1 2, 25, .inr (.inl f26))), (am22, .inl (g.2.1 2, 25, .inr (.inl f27))), (am23, .inl (g.2.1 2, 5, .inr (.inl f28))), (am24, .inl (g.2.1 2, 24, .inr (.inl f24))), (am25, .inl (g.2.1 0, 25, .inl f25))] ++ pl) _ := hP
  have hD : va_D _ ([(r21, .inr (9, [.ref am21, .ref am22, .ref am23, .ref am24, .ref am25, .int (nI 136), .int (nI ps22), .int (nI 31)])), (am21, .inl (g.2.1 2, 25, .inr (.inl f26))), (am22, .inl (g.2.1 2, 25, .inr (.inl f27))), (am23, .inl (g.2.1 2, 5, .inr (.inl f28))), (am24, .inl (g.2.1 2, 24, .inr (.inl f24))), (am25, .inl (g.2.1 0, 25, .inl f25))] ++ pl) := hD
  have hq21 : ps22 ≤ 136 := hq21
  refine W.widen (k := 0) (n := 0) (by omega) (by omega) ?_
  refine lv_aload_n hx hb dMH_message_7 rfl (lv_at hl 0 rfl) ?_
  refine ty_get (ci := 12) (C := "LatticeKeysModel$Hands") (TT := T_MH) (N := 31) (kd := (46, 0)) hx hb hts (wg_ft i_MH) hown hK hO k_h0 (nxg (clo_cons (clo_cons (clo_cons (clo_cons (clo_cons (clo_cons hc0 kr21 (by decide)) km21 (by decide)) km22 (by decide)) km23 (by decide)) km24 (by decide)) km25 (by decide)) k_h0 rfl) hP (fun _ h9 => h9) rfl 0 (by decide) (hts _ (wg_t kw_1432)) (fun _ h9 => h9) (cd := (3, 20, 0)) rfl dMH_message_8 (fun v22 hv22 => ?_)
  obtain ⟨r22, rfl, kr22⟩ := (show ∃ r : Nat, v22 = .ref r ∧ T r = some (20, 0) from hv22)
  obtain rfl : r21 = r22 := hU _ _ _ (by decide) kr21 kr22
  refine lv_aload_n hx hb dMH_message_11 rfl (lv_at hl 1 rfl) ?_
  refine lv_iload_n hx hb dMH_message_12 rfl (lv_at hl 2 rfl) ?_
  refine lv_bipush (v := nI 64) hx hb dMH_message_13 (by decide) ?_
  refine mp_v (cx := [(r21, .inr (9, [.ref am21, .ref am22, .ref am23, .ref am24, .ref am25, .int (nI 136), .int (nI ps22), .int (nI 31)])), (am21, .inl (g.2.1 2, 25, .inr (.inl f26))), (am22, .inl (g.2.1 2, 25, .inr (.inl f27))), (am23, .inl (g.2.1 2, 5, .inr (.inl f28))), (am24, .inl (g.2.1 2, 24, .inr (.inl f24))), (am25, .inl (g.2.1 0, 25, .inl f25))]) (wr := []) hP hD hS hA [0, 1, 2, 3, 4, 5] [] rfl rfl rfl (by decide) (va_runV (As := [.ref hs, .int (nI ha), .int (nI 64)]) (rest := []) F (t_MS_puts l g _ T (am25 :: (am24 :: (am23 :: (am22 :: (am21 :: (r21 :: xs)))))) pl hO hU (clo_cons (clo_cons (clo_cons (clo_cons (clo_cons (clo_cons hc0 kr21 (by decide)) km21 (by decide)) km22 (by decide)) km23 (by decide)) km24 (by decide)) km25 (by decide)) hs nh ha 64 r21 am21 am22 am23 am24 am25 136 ps22 (nI 31) f26 f27 f28 f24 f25 k_hs (by omega) (by omega) (by omega) (by omega)) (cwV 3 hts (wg_app (wg_c kw_1719 (wg_c kw_1612 (wg_c kw_1613 (wg_c kw_10 wg_n)))) kw_1614) rfl rfl rfl (by decide +kernel) ⟨by decide, by decide⟩) (pp_V (en_ok g) (q0 := 0) hK hP hD hS hA hE [0, 1, 2, 3, 4, 5] rfl rfl rfl rfl) rfl rfl hl.1 rfl (lv_room (Nat.le_of_ble_eq_true rfl)) dMH_message_15 ⟨by omega, by omega⟩) (fun  u23 H locs hu22 hP hD hS => ?_)
  obtain ⟨u24, pl⟩ := u23
  obtain ⟨hq22, hO⟩ := hu22
  obtain ⟨ps23, f29, f30, f31⟩ := u24
  have hP : va_P g.1 vcl ([(r21, .inr (9, [.ref am21, .ref am22, .ref am23, .ref am24, .ref am25, .int (nI 136), .int (nI ps23), .int (nI 31)])), (am21, .inl (g.2.1 2, 25, .inr (.inl f29))), (am22, .inl (g.2.1 2, 25, .inr (.inl f30))), (am23, .inl (g.2.1 2, 5, .inr (.inl f31))), (am24, .inl (g.2.1 2, 24, .inr (.inl f24))), (am25, .inl (g.2.1 0, 25, .inl f25))] ++ pl) _ := hP
  have hD : va_D _ ([(r21, .inr (9, [.ref am21, .ref am22, .ref am23, .ref am24, .ref am25, .int (nI 136), .int (nI ps23), .int (nI 31)])), (am21, .inl (g.2.1 2, 25, .inr (.inl f29))), (am22, .inl (g.2.1 2, 25, .inr (.inl f30))), (am23, .inl (g.2.1 2, 5, .inr (.inl f31))), (am24, .inl (g.2.1 2, 24, .inr (.inl f24))), (am25, .inl (g.2.1 0, 25, .inl f25))] ++ pl) := hD
  have hq22 : ps23 ≤ 136 := hq22
  refine W.widen (k := 0) (n := 0) (by omega) (by omega) ?_
  refine lv_aload_n hx hb dMH_message_18 rfl (lv_at hl 0 rfl) ?_
  refine ty_get (ci := 12) (C := "LatticeKeysModel$Hands") (TT := T_MH) (N := 31) (kd := (46, 0)) hx hb hts (wg_ft i_MH) hown hK hO k_h0 (nxg (clo_cons (clo_cons (clo_cons (clo_cons (clo_cons (clo_cons hc0 kr21 (by decide)) km21 (by decide)) km22 (by decide)) km23 (by decide)) km24 (by decide)) km25 (by decide)) k_h0 rfl) hP (fun _ h9 => h9) rfl 0 (by decide) (hts _ (wg_t kw_1432)) (fun _ h9 => h9) (cd := (3, 20, 0)) rfl dMH_message_19 (fun v23 hv23 => ?_)
  obtain ⟨r23, rfl, kr23⟩ := (show ∃ r : Nat, v23 = .ref r ∧ T r = some (20, 0) from hv23)
  obtain rfl : r21 = r23 := hU _ _ _ (by decide) kr21 kr23
  refine lv_iconst (v := nI 0) hx hb dMH_message_22 (by decide) ?_
  refine mp_v (cx := [(r21, .inr (9, [.ref am21, .ref am22, .ref am23, .ref am24, .ref am25, .int (nI 136), .int (nI ps23), .int (nI 31)])), (am21, .inl (g.2.1 2, 25, .inr (.inl f29))), (am22, .inl (g.2.1 2, 25, .inr (.inl f30))), (am23, .inl (g.2.1 2, 5, .inr (.inl f31))), (am24, .inl (g.2.1 2, 24, .inr (.inl f24))), (am25, .inl (g.2.1 0, 25, .inl f25))]) (wr := []) hP hD hS hA [0, 1, 2, 3, 4, 5] [] rfl rfl rfl (by decide) (va_runV (As := [.int (nI 0)]) (rest := []) F (t_MS_put l g _ T (am25 :: (am24 :: (am23 :: (am22 :: (am21 :: (r21 :: xs)))))) pl hO hU  (nI 0) r21 am21 am22 am23 am24 am25 136 ps23 (nI 31) f29 f30 f31 f24 f25 (by omega) (by omega)) (cwV 1 hts (wg_app (wg_c kw_1720 (wg_c kw_1616 (wg_c kw_1617 (wg_c kw_10 wg_n)))) kw_1618) rfl rfl rfl (by decide +kernel) ⟨by decide, by decide⟩) (pp_V (en_ok g) (q0 := 0) hK hP hD hS hA hE [0, 1, 2, 3, 4, 5] rfl rfl rfl rfl) rfl rfl hl.1 rfl (lv_room (Nat.le_of_ble_eq_true rfl)) dMH_message_23 ⟨by omega, by omega⟩) (fun  u25 H locs hu23 hP hD hS => ?_)
  obtain ⟨u26, pl⟩ := u25
  obtain ⟨hq23, hO⟩ := hu23
  obtain ⟨ps24, f32, f33, f34⟩ := u26
  have hP : va_P g.1 vcl ([(r21, .inr (9, [.ref am21, .ref am22, .ref am23, .ref am24, .ref am25, .int (nI 136), .int (nI ps24), .int (nI 31)])), (am21, .inl (g.2.1 2, 25, .inr (.inl f32))), (am22, .inl (g.2.1 2, 25, .inr (.inl f33))), (am23, .inl (g.2.1 2, 5, .inr (.inl f34))), (am24, .inl (g.2.1 2, 24, .inr (.inl f24))), (am25, .inl (g.2.1 0, 25, .inl f25))] ++ pl) _ := hP
  have hD : va_D _ ([(r21, .inr (9, [.ref am21, .ref am22, .ref am23, .ref am24, .ref am25, .int (nI 136), .int (nI ps24), .int (nI 31)])), (am21, .inl (g.2.1 2, 25, .inr (.inl f32))), (am22, .inl (g.2.1 2, 25, .inr (.inl f33))), (am23, .inl (g.2.1 2, 5, .inr (.inl f34))), (am24, .inl (g.2.1 2, 24, .inr (.inl f24))), (am25, .inl (g.2.1 0, 25, .inl f25))] ++ pl) := hD
  have hq23 : ps24 ≤ 136 := hq23
  refine W.widen (k := 0) (n := 0) (by omega) (by omega) ?_
  refine lv_aload_n hx hb dMH_message_26 rfl (lv_at hl 0 rfl) ?_
  refine ty_get (ci := 12) (C := "LatticeKeysModel$Hands") (TT := T_MH) (N := 31) (kd := (46, 0)) hx hb hts (wg_ft i_MH) hown hK hO k_h0 (nxg (clo_cons (clo_cons (clo_cons (clo_cons (clo_cons (clo_cons hc0 kr21 (by decide)) km21 (by decide)) km22 (by decide)) km23 (by decide)) km24 (by decide)) km25 (by decide)) k_h0 rfl) hP (fun _ h9 => h9) rfl 0 (by decide) (hts _ (wg_t kw_1432)) (fun _ h9 => h9) (cd := (3, 20, 0)) rfl dMH_message_27 (fun v24 hv24 => ?_)
  obtain ⟨r24, rfl, kr24⟩ := (show ∃ r : Nat, v24 = .ref r ∧ T r = some (20, 0) from hv24)
  obtain rfl : r21 = r24 := hU _ _ _ (by decide) kr21 kr24
  refine lv_iload hx hb dMH_message_30 (lv_at hl 5 rfl) ?_
  refine mp_v (cx := [(r21, .inr (9, [.ref am21, .ref am22, .ref am23, .ref am24, .ref am25, .int (nI 136), .int (nI ps24), .int (nI 31)])), (am21, .inl (g.2.1 2, 25, .inr (.inl f32))), (am22, .inl (g.2.1 2, 25, .inr (.inl f33))), (am23, .inl (g.2.1 2, 5, .inr (.inl f34))), (am24, .inl (g.2.1 2, 24, .inr (.inl f24))), (am25, .inl (g.2.1 0, 25, .inl f25))]) (wr := []) hP hD hS hA [0, 1, 2, 3, 4, 5] [] rfl rfl rfl (by decide) (va_runV (As := [.int v]) (rest := []) F (t_MS_put l g _ T (am25 :: (am24 :: (am23 :: (am22 :: (am21 :: (r21 :: xs)))))) pl hO hU  v r21 am21 am22 am23 am24 am25 136 ps24 (nI 31) f32 f33 f34 f24 f25 (by omega) (by omega)) (cwV 1 hts (wg_app (wg_c kw_1720 (wg_c kw_1616 (wg_c kw_1617 (wg_c kw_10 wg_n)))) kw_1618) rfl rfl rfl (by decide +kernel) ⟨by decide, by decide⟩) (pp_V (en_ok g) (q0 := 0) hK hP hD hS hA hE [0, 1, 2, 3, 4, 5] rfl rfl rfl rfl) rfl rfl hl.1 rfl (lv_room (Nat.le_of_ble_eq_true rfl)) dMH_message_32 ⟨by omega, by omega⟩) (fun  u27 H locs hu24 hP hD hS => ?_)
  obtain ⟨u28, pl⟩ := u27
  obtain ⟨hq24, hO⟩ := hu24
  obtain ⟨ps25, f35, f36, f37⟩ := u28
  have hP : va_P g.1 vcl ([(r21, .inr (9, [.ref am21, .ref am22, .ref am23, .ref am24, .ref am25, .int (nI 136), .int (nI ps25), .int (nI 31)])), (am21, .inl (g.2.1 2, 25, .inr (.inl f35))), (am22, .inl (g.2.1 2, 25, .inr (.inl f36))), (am23, .inl (g.2.1 2, 5, .inr (.inl f37))), (am24, .inl (g.2.1 2, 24, .inr (.inl f24))), (am25, .inl (g.2.1 0, 25, .inl f25))] ++ pl) _ := hP
  have hD : va_D _ ([(r21, .inr (9, [.ref am21, .ref am22, .ref am23, .ref am24, .ref am25, .int (nI 136), .int (nI ps25), .int (nI 31)])), (am21, .inl (g.2.1 2, 25, .inr (.inl f35))), (am22, .inl (g.2.1 2, 25, .inr (.inl f36))), (am23, .inl (g.2.1 2, 5, .inr (.inl f37))), (am24, .inl (g.2.1 2, 24, .inr (.inl f24))), (am25, .inl (g.2.1 0, 25, .inl f25))] ++ pl) := hD
  have hq24 : ps25 ≤ 136 := hq24
  refine W.widen (k := 0) (n := 0) (by omega) (by omega) ?_
  refine lv_aload_n hx hb dMH_message_35 rfl (lv_at hl 0 rfl) ?_
  refine ty_get (ci := 12) (C := "LatticeKeysModel$Hands") (TT := T_MH) (N := 31) (kd := (46, 0)) hx hb hts (wg_ft i_MH) hown hK hO k_h0 (nxg (clo_cons (clo_cons (clo_cons (clo_cons (clo_cons (clo_cons hc0 kr21 (by decide)) km21 (by decide)) km22 (by decide)) km23 (by decide)) km24 (by decide)) km25 (by decide)) k_h0 rfl) hP (fun _ h9 => h9) rfl 0 (by decide) (hts _ (wg_t kw_1432)) (fun _ h9 => h9) (cd := (3, 20, 0)) rfl dMH_message_36 (fun v25 hv25 => ?_)
  obtain ⟨r25, rfl, kr25⟩ := (show ∃ r : Nat, v25 = .ref r ∧ T r = some (20, 0) from hv25)
  obtain rfl : r21 = r25 := hU _ _ _ (by decide) kr21 kr25
  refine lv_aload_n hx hb dMH_message_39 rfl (lv_at hl 3 rfl) ?_
  refine lv_iload hx hb dMH_message_40 (lv_at hl 4 rfl) ?_
  refine lv_iload hx hb dMH_message_42 (lv_at hl 6 rfl) ?_
  refine lv_iload hx hb dMH_message_44 (lv_at hl 4 rfl) ?_
  refine mi_isub hx hb dMH_message_46 (by omega) ?_
  refine mp_v (cx := [(r21, .inr (9, [.ref am21, .ref am22, .ref am23, .ref am24, .ref am25, .int (nI 136), .int (nI ps25), .int (nI 31)])), (am21, .inl (g.2.1 2, 25, .inr (.inl f35))), (am22, .inl (g.2.1 2, 25, .inr (.inl f36))), (am23, .inl (g.2.1 2, 5, .inr (.inl f37))), (am24, .inl (g.2.1 2, 24, .inr (.inl f24))), (am25, .inl (g.2.1 0, 25, .inl f25))]) (wr := []) hP hD hS hA [0, 1, 2, 3, 4, 5] [] rfl rfl rfl (by decide) (va_runV (As := [.ref b, .int (nI at_), .int (nI (ed - at_))]) (rest := []) F (t_MS_puts l g _ T (am25 :: (am24 :: (am23 :: (am22 :: (am21 :: (r21 :: xs)))))) pl hO hU (clo_cons (clo_cons (clo_cons (clo_cons (clo_cons (clo_cons hc0 kr21 (by decide)) km21 (by decide)) km22 (by decide)) km23 (by decide)) km24 (by decide)) km25 (by decide)) b nb at_ (ed - at_) r21 am21 am22 am23 am24 am25 136 ps25 (nI 31) f35 f36 f37 f24 f25 k_b (by omega) (by omega) (by omega) (by omega)) (cwV 3 hts (wg_app (wg_c kw_1719 (wg_c kw_1612 (wg_c kw_1613 (wg_c kw_10 wg_n)))) kw_1614) rfl rfl rfl (by decide +kernel) ⟨by decide, by decide⟩) (pp_V (en_ok g) (q0 := 0) hK hP hD hS hA hE [0, 1, 2, 3, 4, 5] rfl rfl rfl rfl) rfl rfl hl.1 rfl (lv_room (Nat.le_of_ble_eq_true rfl)) dMH_message_47 ⟨by omega, by omega⟩) (fun  u29 H locs hu25 hP hD hS => ?_)
  obtain ⟨u30, pl⟩ := u29
  obtain ⟨hq25, hO⟩ := hu25
  obtain ⟨ps26, f38, f39, f40⟩ := u30
  have hP : va_P g.1 vcl ([(r21, .inr (9, [.ref am21, .ref am22, .ref am23, .ref am24, .ref am25, .int (nI 136), .int (nI ps26), .int (nI 31)])), (am21, .inl (g.2.1 2, 25, .inr (.inl f38))), (am22, .inl (g.2.1 2, 25, .inr (.inl f39))), (am23, .inl (g.2.1 2, 5, .inr (.inl f40))), (am24, .inl (g.2.1 2, 24, .inr (.inl f24))), (am25, .inl (g.2.1 0, 25, .inl f25))] ++ pl) _ := hP
  have hD : va_D _ ([(r21, .inr (9, [.ref am21, .ref am22, .ref am23, .ref am24, .ref am25, .int (nI 136), .int (nI ps26), .int (nI 31)])), (am21, .inl (g.2.1 2, 25, .inr (.inl f38))), (am22, .inl (g.2.1 2, 25, .inr (.inl f39))), (am23, .inl (g.2.1 2, 5, .inr (.inl f40))), (am24, .inl (g.2.1 2, 24, .inr (.inl f24))), (am25, .inl (g.2.1 0, 25, .inl f25))] ++ pl) := hD
  have hq25 : ps26 ≤ 136 := hq25
  refine W.widen (k := 0) (n := 0) (by omega) (by omega) ?_
  refine lv_aload_n hx hb dMH_message_50 rfl (lv_at hl 0 rfl) ?_
  refine ty_get (ci := 12) (C := "LatticeKeysModel$Hands") (TT := T_MH) (N := 31) (kd := (46, 0)) hx hb hts (wg_ft i_MH) hown hK hO k_h0 (nxg (clo_cons (clo_cons (clo_cons (clo_cons (clo_cons (clo_cons hc0 kr21 (by decide)) km21 (by decide)) km22 (by decide)) km23 (by decide)) km24 (by decide)) km25 (by decide)) k_h0 rfl) hP (fun _ h9 => h9) rfl 0 (by decide) (hts _ (wg_t kw_1432)) (fun _ h9 => h9) (cd := (3, 20, 0)) rfl dMH_message_51 (fun v26 hv26 => ?_)
  obtain ⟨r26, rfl, kr26⟩ := (show ∃ r : Nat, v26 = .ref r ∧ T r = some (20, 0) from hv26)
  obtain rfl : r21 = r26 := hU _ _ _ (by decide) kr21 kr26
  refine mp_v (cx := [(r21, .inr (9, [.ref am21, .ref am22, .ref am23, .ref am24, .ref am25, .int (nI 136), .int (nI ps26), .int (nI 31)])), (am21, .inl (g.2.1 2, 25, .inr (.inl f38))), (am22, .inl (g.2.1 2, 25, .inr (.inl f39))), (am23, .inl (g.2.1 2, 5, .inr (.inl f40))), (am24, .inl (g.2.1 2, 24, .inr (.inl f24))), (am25, .inl (g.2.1 0, 25, .inl f25))]) (wr := []) hP hD hS hA [0, 1, 2, 3, 4, 5] [] rfl rfl rfl (by decide) (va_runV (As := []) (rest := []) F (t_MS_end l g _ T (am25 :: (am24 :: (am23 :: (am22 :: (am21 :: (r21 :: xs)))))) pl hO hU  r21 am21 am22 am23 am24 am25 136 ps26 (nI 31) f38 f39 f40 f24 f25 (by omega) (by omega)) (cwV 0 hts (wg_app (wg_c kw_1721 (wg_c kw_1634 (wg_c kw_1635 (wg_c kw_10 wg_n)))) kw_1636) rfl rfl rfl (by decide +kernel) ⟨by decide, by decide⟩) (pp_V (en_ok g) (q0 := 0) hK hP hD hS hA hE [0, 1, 2, 3, 4, 5] rfl rfl rfl rfl) rfl rfl hl.1 rfl (lv_room (Nat.le_of_ble_eq_true rfl)) dMH_message_54 ⟨by omega, by omega⟩) (fun  u31 H locs hu26 hP hD hS => ?_)
  obtain ⟨u32, pl⟩ := u31
  obtain ⟨hq26, hO⟩ := hu26
  obtain ⟨ps27, f41, f42, f43⟩ := u32
  have hP : va_P g.1 vcl ([(r21, .inr (9, [.ref am21, .ref am22, .ref am23, .ref am24, .ref am25, .int (nI 136), .int (nI ps27), .int (nI 31)])), (am21, .inl (g.2.1 2, 25, .inr (.inl f41))), (am22, .inl (g.2.1 2, 25, .inr (.inl f42))), (am23, .inl (g.2.1 2, 5, .inr (.inl f43))), (am24, .inl (g.2.1 2, 24, .inr (.inl f24))), (am25, .inl (g.2.1 0, 25, .inl f25))] ++ pl) _ := hP
  have hD : va_D _ ([(r21, .inr (9, [.ref am21, .ref am22, .ref am23, .ref am24, .ref am25, .int (nI 136), .int (nI ps27), .int (nI 31)])), (am21, .inl (g.2.1 2, 25, .inr (.inl f41))), (am22, .inl (g.2.1 2, 25, .inr (.inl f42))), (am23, .inl (g.2.1 2, 5, .inr (.inl f43))), (am24, .inl (g.2.1 2, 24, .inr (.inl f24))), (am25, .inl (g.2.1 0, 25, .inl f25))] ++ pl) := hD
  have hq26 : ps27 ≤ 136 := hq26
  refine W.widen (k := 0) (n := 0) (by omega) (by omega) ?_
  refine lv_aload_n hx hb dMH_message_57 rfl (lv_at hl 0 rfl) ?_
  refine ty_get (ci := 12) (C := "LatticeKeysModel$Hands") (TT := T_MH) (N := 31) (kd := (46, 0)) hx hb hts (wg_ft i_MH) hown hK hO k_h0 (nxg (clo_cons (clo_cons (clo_cons (clo_cons (clo_cons (clo_cons hc0 kr21 (by decide)) km21 (by decide)) km22 (by decide)) km23 (by decide)) km24 (by decide)) km25 (by decide)) k_h0 rfl) hP (fun _ h9 => h9) rfl 0 (by decide) (hts _ (wg_t kw_1432)) (fun _ h9 => h9) (cd := (3, 20, 0)) rfl dMH_message_58 (fun v27 hv27 => ?_)
  obtain ⟨r27, rfl, kr27⟩ := (show ∃ r : Nat, v27 = .ref r ∧ T r = some (20, 0) from hv27)
  obtain rfl : r21 = r27 := hU _ _ _ (by decide) kr21 kr27
  refine lv_aload_n hx hb dMH_message_61 rfl (lv_at hl 0 rfl) ?_
  refine ty_get (ci := 12) (C := "LatticeKeysModel$Hands") (TT := T_MH) (N := 31) (kd := (46, 0)) hx hb hts (wg_ft i_MH) hown hK hO k_h0 (nxg (clo_cons (clo_cons (clo_cons (clo_cons (clo_cons (clo_cons hc0 kr21 (by decide)) km21 (by decide)) km22 (by decide)) km23 (by decide)) km24 (by decide)) km25 (by decide)) k_h0 rfl) hP (fun _ h9 => h9) rfl 17 (by decide) (hts _ (wg_t kw_1449)) (fun _ h9 => h9) (cd := (3, 1, 64)) rfl dMH_message_62 (fun v28 hv28 => ?_)
  obtain ⟨r28, rfl, kr28⟩ := (show ∃ r : Nat, v28 = .ref r ∧ T r = some (1, 64) from hv28)
  refine lv_iconst (v := nI 0) hx hb dMH_message_65 (by decide) ?_
  refine lv_bipush (v := nI 64) hx hb dMH_message_66 (by decide) ?_
  refine mp_v (cx := [(r21, .inr (9, [.ref am21, .ref am22, .ref am23, .ref am24, .ref am25, .int (nI 136), .int (nI ps27), .int (nI 31)])), (am21, .inl (g.2.1 2, 25, .inr (.inl f41))), (am22, .inl (g.2.1 2, 25, .inr (.inl f42))), (am23, .inl (g.2.1 2, 5, .inr (.inl f43))), (am24, .inl (g.2.1 2, 24, .inr (.inl f24))), (am25, .inl (g.2.1 0, 25, .inl f25))]) (wr := []) hP hD hS hA [0, 1, 2, 3, 4, 5] [] rfl rfl rfl (by decide) (va_runV (As := [.ref r28, .int (nI 0), .int (nI 64)]) (rest := []) F (t_MS_take l g _ T (am25 :: (am24 :: (am23 :: (am22 :: (am21 :: (r21 :: xs)))))) pl hO hU (clo_cons (clo_cons (clo_cons (clo_cons (clo_cons (clo_cons hc0 kr21 (by decide)) km21 (by decide)) km22 (by decide)) km23 (by decide)) km24 (by decide)) km25 (by decide)) r28 64 0 64 r21 am21 am22 am23 am24 am25 136 ps27 (nI 31) f41 f42 f43 f24 f25 kr28 (by omega) (by omega) (by omega) (by omega)) (cwV 3 hts (wg_app (wg_c kw_1722 (wg_c kw_1638 (wg_c kw_1639 (wg_c kw_10 wg_n)))) kw_1640) rfl rfl rfl (by decide +kernel) ⟨by decide, by decide⟩) (pp_V (en_ok g) (q0 := 0) hK hP hD hS hA hE [0, 1, 2, 3, 4, 5] rfl rfl rfl rfl) rfl rfl hl.1 rfl (lv_room (Nat.le_of_ble_eq_true rfl)) dMH_message_68 ⟨by omega, by omega⟩) (fun  u33 H locs hu27 hP hD hS => ?_)
  obtain ⟨u34, pl⟩ := u33
  obtain ⟨hq27, hO⟩ := hu27
  obtain ⟨ps28, f44, f45, f46⟩ := u34
  have hP : va_P g.1 vcl ([(r21, .inr (9, [.ref am21, .ref am22, .ref am23, .ref am24, .ref am25, .int (nI 136), .int (nI ps28), .int (nI 31)])), (am21, .inl (g.2.1 2, 25, .inr (.inl f44))), (am22, .inl (g.2.1 2, 25, .inr (.inl f45))), (am23, .inl (g.2.1 2, 5, .inr (.inl f46))), (am24, .inl (g.2.1 2, 24, .inr (.inl f24))), (am25, .inl (g.2.1 0, 25, .inl f25))] ++ pl) _ := hP
  have hD : va_D _ ([(r21, .inr (9, [.ref am21, .ref am22, .ref am23, .ref am24, .ref am25, .int (nI 136), .int (nI ps28), .int (nI 31)])), (am21, .inl (g.2.1 2, 25, .inr (.inl f44))), (am22, .inl (g.2.1 2, 25, .inr (.inl f45))), (am23, .inl (g.2.1 2, 5, .inr (.inl f46))), (am24, .inl (g.2.1 2, 24, .inr (.inl f24))), (am25, .inl (g.2.1 0, 25, .inl f25))] ++ pl) := hD
  have hq27 : ps28 ≤ 136 := hq27
  refine W.widen (k := 0) (n := 0) (by omega) (by omega) ?_
  have hO := close1 (e := .inl (g.2.1 0, 25, .inl f25)) hO km25 ⟨_, rfl⟩
  have hO := close1 (e := .inl (g.2.1 2, 24, .inr (.inl f24))) hO km24 ⟨_, rfl⟩
  have hO := close1 (e := .inl (g.2.1 2, 5, .inr (.inl f46))) hO km23 ⟨_, rfl⟩
  have hO := close1 (e := .inl (g.2.1 2, 25, .inr (.inl f45))) hO km22 ⟨_, rfl⟩
  have hO := close1 (e := .inl (g.2.1 2, 25, .inr (.inl f44))) hO km21 ⟨_, rfl⟩
  have hO := close1 (e := .inr (9, [.ref am21, .ref am22, .ref am23, .ref am24, .ref am25, .int (nI 136), .int (nI ps28), .int (nI 31)])) hO kr21 ⟨_, _, _, _, _, _, _, _, rfl, km21, km22, km23, km24, km25, by omega, by omega, by omega⟩
  have hO : okx g T xs ((r21, .inr (9, [.ref am21, .ref am22, .ref am23, .ref am24, .ref am25, .int (nI 136), .int (nI ps28), .int (nI 31)])) :: (am21, .inl (g.2.1 2, 25, .inr (.inl f44))) :: (am22, .inl (g.2.1 2, 25, .inr (.inl f45))) :: (am23, .inl (g.2.1 2, 5, .inr (.inl f46))) :: (am24, .inl (g.2.1 2, 24, .inr (.inl f24))) :: (am25, .inl (g.2.1 0, 25, .inl f25)) :: pl) := hO
  have hP : va_P g.1 vcl ([] ++ ((r21, .inr (9, [.ref am21, .ref am22, .ref am23, .ref am24, .ref am25, .int (nI 136), .int (nI ps28), .int (nI 31)])) :: (am21, .inl (g.2.1 2, 25, .inr (.inl f44))) :: (am22, .inl (g.2.1 2, 25, .inr (.inl f45))) :: (am23, .inl (g.2.1 2, 5, .inr (.inl f46))) :: (am24, .inl (g.2.1 2, 24, .inr (.inl f24))) :: (am25, .inl (g.2.1 0, 25, .inl f25)) :: pl)) _ := hP
  have hD : va_D _ ([] ++ ((r21, .inr (9, [.ref am21, .ref am22, .ref am23, .ref am24, .ref am25, .int (nI 136), .int (nI ps28), .int (nI 31)])) :: (am21, .inl (g.2.1 2, 25, .inr (.inl f44))) :: (am22, .inl (g.2.1 2, 25, .inr (.inl f45))) :: (am23, .inl (g.2.1 2, 5, .inr (.inl f46))) :: (am24, .inl (g.2.1 2, 24, .inr (.inl f24))) :: (am25, .inl (g.2.1 0, 25, .inl f25)) :: pl)) := hD
  generalize ((r21, .inr (9, [.ref am21, .ref am22, .ref am23, .ref am24, .ref am25, .int (nI 136), .int (nI ps28), .int (nI 31)])) :: (am21, .inl (g.2.1 2, 25, .inr (.inl f44))) :: (am22, .inl (g.2.1 2, 25, .inr (.inl f45))) :: (am23, .inl (g.2.1 2, 5, .inr (.inl f46))) :: (am24, .inl (g.2.1 2, 24, .inr (.inl f24))) :: (am25, .inl (g.2.1 0, 25, .inl f25)) :: pl) = pl at hO hP hD
  exact mp_vret hx hb hr hlk hP hD hS pl ⟨trivial, hO⟩ [] rfl rfl rfl (by omega) (by omega) dMH_message_71
set_option maxHeartbeats 400000 in
set_option maxRecDepth 100000 in
theorem t_MH_message_1 (l : Launch) (g : Gd) (sz : Nat) (T : Ty) (xs : List Nat) (pl : va_W) (hO : okx g T xs pl) (hU : uni T) (hc0 : clo T xs 0) (hc9 : clo T xs 9) (h0 hs b nh nb ha at_ ed : Nat) (v : Int32) (k_h0 : T h0 = some (47, 0)) (k_hs : T hs = some (1, nh)) (k_b : T b = some (1, nb)) (h1 : ha + 64 ≤ nh) (h2 : nh < 65536) (h3 : at_ ≤ ed) (h4 : ed ≤ nb) (h5 : nb < 65536)  : Met l y_MH_message w_MH_message ({ frames := 4, cells := 0, slots := 0, locals := 98 } : Room) (va_Pc [.ref h0, .ref hs, .int (nI ha), .ref b, .int (nI at_), .int v, .int (nI ed)] (pr (en g) g.1 vcl sz ([] ++ pl))) (va_Qv (fun (u : va_W) => (True) ∧ okx g T xs u) (po g.1 vcl (va_A ([] ++ pl) sz) (fun (u : va_W) => [] ++ u)) (va_A ([] ++ pl) sz)) 0 0 (va_A ([] ++ pl) sz) := by
  refine mc_entry (cc := c_MH_message) (maxL := 7) (ret := none) (by decide) rfl (Nat.le_of_ble_eq_true rfl) ?_
  intro p e s m args below meth c ls F hr hlk hnm hsz hP hD hE hA hl
  obtain ⟨hx, hb, hml, hown, hts⟩ := id F
  have hK := hE.1
  generalize va_A ([] ++ pl) sz = A at hD hE hA ⊢
  have hS : va_S A s.heap s.heap [] := va_S.rf
  have hl : lv_has ls 7 [(0, .ref h0), (1, .ref hs), (2, .int (nI ha)), (3, .ref b), (4, .int (nI at_)), (5, .int v), (6, .int (nI ed))] := hl
  refine lv_aload_n hx hb dMH_message_0 rfl (lv_at hl 0 rfl) ?_
  refine ty_get (ci := 12) (C := "LatticeKeysModel$Hands") (TT := T_MH) (N := 31) (kd := (47, 0)) hx hb hts (wg_ft i_MH) hown hK hO k_h0 (nxg hc0 k_h0 rfl) hP (fun _ h9 => h9) rfl 0 (by decide) (hts _ (wg_t kw_1432)) (fun _ h9 => h9) (cd := (3, 20, 0)) rfl dMH_message_1 (fun v21 hv21 => ?_)
  obtain ⟨r21, rfl, kr21⟩ := (show ∃ r : Nat, v21 = .ref r ∧ T r = some (20, 0) from hv21)
  obtain ⟨e21, pl, hP, hD, hk21, hO⟩ := open1 hP hD hO kr21 (nxg hc9 kr21 rfl)
  obtain ⟨am21, am22, am23, am24, am25, rt21, ps21, x21, rfl, km21, km22, km23, km24, km25, hr21, hr22, hr23⟩ := hk21
  obtain ⟨e22, pl, hP, hD, hk22, hO⟩ := open1 hP hD hO km21 (nmc (knd_ne km21 kr21 (by decide)) (nxg hc9 km21 rfl))
  obtain ⟨f21, rfl⟩ := hk22
  obtain ⟨e23, pl, hP, hD, hk23, hO⟩ := open1 hP hD hO km22 (nmc (knd_ne km22 km21 (by decide)) (nmc (knd_ne km22 kr21 (by decide)) (nxg hc9 km22 rfl)))
  obtain ⟨f22, rfl⟩ := hk23
  obtain ⟨e24, pl, hP, hD, hk24, hO⟩ := open1 hP hD hO km23 (nmc (knd_ne km23 km22 (by decide)) (nmc (knd_ne km23 km21 (by decide)) (nmc (knd_ne km23 kr21 (by decide)) (nxg hc9 km23 rfl))))
  obtain ⟨f23, rfl⟩ := hk24
  obtain ⟨e25, pl, hP, hD, hk25, hO⟩ := open1 hP hD hO km24 (nmc (knd_ne km24 km23 (by decide)) (nmc (knd_ne km24 km22 (by decide)) (nmc (knd_ne km24 km21 (by decide)) (nmc (knd_ne km24 kr21 (by decide)) (nxg hc9 km24 rfl)))))
  obtain ⟨f24, rfl⟩ := hk25
  obtain ⟨e26, pl, hP, hD, hk26, hO⟩ := open1 hP hD hO km25 (nmc (knd_ne km25 km24 (by decide)) (nmc (knd_ne km25 km23 (by decide)) (nmc (knd_ne km25 km22 (by decide)) (nmc (knd_ne km25 km21 (by decide)) (nmc (knd_ne km25 kr21 (by decide)) (nxg hc9 km25 rfl))))))
  obtain ⟨f25, rfl⟩ := hk26
  have hP : va_P g.1 vcl ([(r21, .inr (9, [.ref am21, .ref am22, .ref am23, .ref am24, .ref am25, .int (nI rt21), .int (nI ps21), .int x21])), (am21, .inl (g.2.1 2, 25, .inr (.inl f21))), (am22, .inl (g.2.1 2, 25, .inr (.inl f22))), (am23, .inl (g.2.1 2, 5, .inr (.inl f23))), (am24, .inl (g.2.1 2, 24, .inr (.inl f24))), (am25, .inl (g.2.1 0, 25, .inl f25))] ++ pl) _ := hP
  have hD : va_D _ ([(r21, .inr (9, [.ref am21, .ref am22, .ref am23, .ref am24, .ref am25, .int (nI rt21), .int (nI ps21), .int x21])), (am21, .inl (g.2.1 2, 25, .inr (.inl f21))), (am22, .inl (g.2.1 2, 25, .inr (.inl f22))), (am23, .inl (g.2.1 2, 5, .inr (.inl f23))), (am24, .inl (g.2.1 2, 24, .inr (.inl f24))), (am25, .inl (g.2.1 0, 25, .inl f25))] ++ pl) := hD
  refine mp_v (cx := [(r21, .inr (9, [.ref am21, .ref am22, .ref am23, .ref am24, .ref am25, .int (nI rt21), .int (nI ps21), .int x21])), (am21, .inl (g.2.1 2, 25, .inr (.inl f21))), (am22, .inl (g.2.1 2, 25, .inr (.inl f22))), (am23, .inl (g.2.1 2, 5, .inr (.inl f23))), (am24, .inl (g.2.1 2, 24, .inr (.inl f24))), (am25, .inl (g.2.1 0, 25, .inl f25))]) (wr := []) hP hD hS hA [0, 1, 2, 3, 4, 5] [] rfl rfl rfl (by decide) (va_runV (As := []) (rest := []) F (t_MS_shake l g _ T (am25 :: (am24 :: (am23 :: (am22 :: (am21 :: (r21 :: xs)))))) pl hO hU  r21 am21 am22 am23 am24 am25 rt21 ps21 x21 f21 f22 f23 f24 f25) (cwV 0 hts (wg_app (wg_c kw_1718 (wg_c kw_1661 (wg_c kw_1662 (wg_c kw_10 wg_n)))) kw_1663) rfl rfl rfl (by decide +kernel) ⟨by decide, by decide⟩) (pp_V (en_ok g) (q0 := 0) hK hP hD hS hA hE [0, 1, 2, 3, 4, 5] rfl rfl rfl rfl) rfl rfl hl.1 rfl (lv_room (Nat.le_of_ble_eq_true rfl)) dMH_message_4 ⟨by omega, by omega⟩) (fun  u21 H locs hu21 hP hD hS => ?_)
  obtain ⟨u22, pl⟩ := u21
  obtain ⟨hq21, hO⟩ := hu21
  obtain ⟨ps22, f26, f27, f28⟩ := u22
  have hP : va_P g.1 vcl ([(r21, .inr (9, [.ref am21, .ref am22, .ref am23, .ref am24, .ref am25, .int (nI 136), .int (nI ps22), .int (nI 31)])), (am21, .inl (g.2.1 2, 25, .inr (.inl f26))), (am22, .inl (g.2.1 2, 25, .inr (.inl f27))), (am23, .inl (g.2.1 2, 5, .inr (.inl f28))), (am24, .inl (g.2.1 2, 24, .inr (.inl f24))), (am25, .inl (g.2.1 0, 25, .inl f25))] ++ pl) _ := hP
  have hD : va_D _ ([(r21, .inr (9, [.ref am21, .ref am22, .ref am23, .ref am24, .ref am25, .int (nI 136), .int (nI ps22), .int (nI 31)])), (am21, .inl (g.2.1 2, 25, .inr (.inl f26))), (am22, .inl (g.2.1 2, 25, .inr (.inl f27))), (am23, .inl (g.2.1 2, 5, .inr (.inl f28))), (am24, .inl (g.2.1 2, 24, .inr (.inl f24))), (am25, .inl (g.2.1 0, 25, .inl f25))] ++ pl) := hD
  have hq21 : ps22 ≤ 136 := hq21
  refine W.widen (k := 0) (n := 0) (by omega) (by omega) ?_
  refine lv_aload_n hx hb dMH_message_7 rfl (lv_at hl 0 rfl) ?_
  refine ty_get (ci := 12) (C := "LatticeKeysModel$Hands") (TT := T_MH) (N := 31) (kd := (47, 0)) hx hb hts (wg_ft i_MH) hown hK hO k_h0 (nxg (clo_cons (clo_cons (clo_cons (clo_cons (clo_cons (clo_cons hc0 kr21 (by decide)) km21 (by decide)) km22 (by decide)) km23 (by decide)) km24 (by decide)) km25 (by decide)) k_h0 rfl) hP (fun _ h9 => h9) rfl 0 (by decide) (hts _ (wg_t kw_1432)) (fun _ h9 => h9) (cd := (3, 20, 0)) rfl dMH_message_8 (fun v22 hv22 => ?_)
  obtain ⟨r22, rfl, kr22⟩ := (show ∃ r : Nat, v22 = .ref r ∧ T r = some (20, 0) from hv22)
  obtain rfl : r21 = r22 := hU _ _ _ (by decide) kr21 kr22
  refine lv_aload_n hx hb dMH_message_11 rfl (lv_at hl 1 rfl) ?_
  refine lv_iload_n hx hb dMH_message_12 rfl (lv_at hl 2 rfl) ?_
  refine lv_bipush (v := nI 64) hx hb dMH_message_13 (by decide) ?_
  refine mp_v (cx := [(r21, .inr (9, [.ref am21, .ref am22, .ref am23, .ref am24, .ref am25, .int (nI 136), .int (nI ps22), .int (nI 31)])), (am21, .inl (g.2.1 2, 25, .inr (.inl f26))), (am22, .inl (g.2.1 2, 25, .inr (.inl f27))), (am23, .inl (g.2.1 2, 5, .inr (.inl f28))), (am24, .inl (g.2.1 2, 24, .inr (.inl f24))), (am25, .inl (g.2.1 0, 25, .inl f25))]) (wr := []) hP hD hS hA [0, 1, 2, 3, 4, 5] [] rfl rfl rfl (by decide) (va_runV (As := [.ref hs, .int (nI ha), .int (nI 64)]) (rest := []) F (t_MS_puts l g _ T (am25 :: (am24 :: (am23 :: (am22 :: (am21 :: (r21 :: xs)))))) pl hO hU (clo_cons (clo_cons (clo_cons (clo_cons (clo_cons (clo_cons hc0 kr21 (by decide)) km21 (by decide)) km22 (by decide)) km23 (by decide)) km24 (by decide)) km25 (by decide)) hs nh ha 64 r21 am21 am22 am23 am24 am25 136 ps22 (nI 31) f26 f27 f28 f24 f25 k_hs (by omega) (by omega) (by omega) (by omega)) (cwV 3 hts (wg_app (wg_c kw_1719 (wg_c kw_1612 (wg_c kw_1613 (wg_c kw_10 wg_n)))) kw_1614) rfl rfl rfl (by decide +kernel) ⟨by decide, by decide⟩) (pp_V (en_ok g) (q0 := 0) hK hP hD hS hA hE [0, 1, 2, 3, 4, 5] rfl rfl rfl rfl) rfl rfl hl.1 rfl (lv_room (Nat.le_of_ble_eq_true rfl)) dMH_message_15 ⟨by omega, by omega⟩) (fun  u23 H locs hu22 hP hD hS => ?_)
  obtain ⟨u24, pl⟩ := u23
  obtain ⟨hq22, hO⟩ := hu22
  obtain ⟨ps23, f29, f30, f31⟩ := u24
  have hP : va_P g.1 vcl ([(r21, .inr (9, [.ref am21, .ref am22, .ref am23, .ref am24, .ref am25, .int (nI 136), .int (nI ps23), .int (nI 31)])), (am21, .inl (g.2.1 2, 25, .inr (.inl f29))), (am22, .inl (g.2.1 2, 25, .inr (.inl f30))), (am23, .inl (g.2.1 2, 5, .inr (.inl f31))), (am24, .inl (g.2.1 2, 24, .inr (.inl f24))), (am25, .inl (g.2.1 0, 25, .inl f25))] ++ pl) _ := hP
  have hD : va_D _ ([(r21, .inr (9, [.ref am21, .ref am22, .ref am23, .ref am24, .ref am25, .int (nI 136), .int (nI ps23), .int (nI 31)])), (am21, .inl (g.2.1 2, 25, .inr (.inl f29))), (am22, .inl (g.2.1 2, 25, .inr (.inl f30))), (am23, .inl (g.2.1 2, 5, .inr (.inl f31))), (am24, .inl (g.2.1 2, 24, .inr (.inl f24))), (am25, .inl (g.2.1 0, 25, .inl f25))] ++ pl) := hD
  have hq22 : ps23 ≤ 136 := hq22
  refine W.widen (k := 0) (n := 0) (by omega) (by omega) ?_
  refine lv_aload_n hx hb dMH_message_18 rfl (lv_at hl 0 rfl) ?_
  refine ty_get (ci := 12) (C := "LatticeKeysModel$Hands") (TT := T_MH) (N := 31) (kd := (47, 0)) hx hb hts (wg_ft i_MH) hown hK hO k_h0 (nxg (clo_cons (clo_cons (clo_cons (clo_cons (clo_cons (clo_cons hc0 kr21 (by decide)) km21 (by decide)) km22 (by decide)) km23 (by decide)) km24 (by decide)) km25 (by decide)) k_h0 rfl) hP (fun _ h9 => h9) rfl 0 (by decide) (hts _ (wg_t kw_1432)) (fun _ h9 => h9) (cd := (3, 20, 0)) rfl dMH_message_19 (fun v23 hv23 => ?_)
  obtain ⟨r23, rfl, kr23⟩ := (show ∃ r : Nat, v23 = .ref r ∧ T r = some (20, 0) from hv23)
  obtain rfl : r21 = r23 := hU _ _ _ (by decide) kr21 kr23
  refine lv_iconst (v := nI 0) hx hb dMH_message_22 (by decide) ?_
  refine mp_v (cx := [(r21, .inr (9, [.ref am21, .ref am22, .ref am23, .ref am24, .ref am25, .int (nI 136), .int (nI ps23), .int (nI 31)])), (am21, .inl (g.2.1 2, 25, .inr (.inl f29))), (am22, .inl (g.2.1 2, 25, .inr (.inl f30))), (am23, .inl (g.2.1 2, 5, .inr (.inl f31))), (am24, .inl (g.2.1 2, 24, .inr (.inl f24))), (am25, .inl (g.2.1 0, 25, .inl f25))]) (wr := []) hP hD hS hA [0, 1, 2, 3, 4, 5] [] rfl rfl rfl (by decide) (va_runV (As := [.int (nI 0)]) (rest := []) F (t_MS_put l g _ T (am25 :: (am24 :: (am23 :: (am22 :: (am21 :: (r21 :: xs)))))) pl hO hU  (nI 0) r21 am21 am22 am23 am24 am25 136 ps23 (nI 31) f29 f30 f31 f24 f25 (by omega) (by omega)) (cwV 1 hts (wg_app (wg_c kw_1720 (wg_c kw_1616 (wg_c kw_1617 (wg_c kw_10 wg_n)))) kw_1618) rfl rfl rfl (by decide +kernel) ⟨by decide, by decide⟩) (pp_V (en_ok g) (q0 := 0) hK hP hD hS hA hE [0, 1, 2, 3, 4, 5] rfl rfl rfl rfl) rfl rfl hl.1 rfl (lv_room (Nat.le_of_ble_eq_true rfl)) dMH_message_23 ⟨by omega, by omega⟩) (fun  u25 H locs hu23 hP hD hS => ?_)
  obtain ⟨u26, pl⟩ := u25
  obtain ⟨hq23, hO⟩ := hu23
  obtain ⟨ps24, f32, f33, f34⟩ := u26
  have hP : va_P g.1 vcl ([(r21, .inr (9, [.ref am21, .ref am22, .ref am23, .ref am24, .ref am25, .int (nI 136), .int (nI ps24), .int (nI 31)])), (am21, .inl (g.2.1 2, 25, .inr (.inl f32))), (am22, .inl (g.2.1 2, 25, .inr (.inl f33))), (am23, .inl (g.2.1 2, 5, .inr (.inl f34))), (am24, .inl (g.2.1 2, 24, .inr (.inl f24))), (am25, .inl (g.2.1 0, 25, .inl f25))] ++ pl) _ := hP
  have hD : va_D _ ([(r21, .inr (9, [.ref am21, .ref am22, .ref am23, .ref am24, .ref am25, .int (nI 136), .int (nI ps24), .int (nI 31)])), (am21, .inl (g.2.1 2, 25, .inr (.inl f32))), (am22, .inl (g.2.1 2, 25, .inr (.inl f33))), (am23, .inl (g.2.1 2, 5, .inr (.inl f34))), (am24, .inl (g.2.1 2, 24, .inr (.inl f24))), (am25, .inl (g.2.1 0, 25, .inl f25))] ++ pl) := hD
  have hq23 : ps24 ≤ 136 := hq23
  refine W.widen (k := 0) (n := 0) (by omega) (by omega) ?_
  refine lv_aload_n hx hb dMH_message_26 rfl (lv_at hl 0 rfl) ?_
  refine ty_get (ci := 12) (C := "LatticeKeysModel$Hands") (TT := T_MH) (N := 31) (kd := (47, 0)) hx hb hts (wg_ft i_MH) hown hK hO k_h0 (nxg (clo_cons (clo_cons (clo_cons (clo_cons (clo_cons (clo_cons hc0 kr21 (by decide)) km21 (by decide)) km22 (by decide)) km23 (by decide)) km24 (by decide)) km25 (by decide)) k_h0 rfl) hP (fun _ h9 => h9) rfl 0 (by decide) (hts _ (wg_t kw_1432)) (fun _ h9 => h9) (cd := (3, 20, 0)) rfl dMH_message_27 (fun v24 hv24 => ?_)
  obtain ⟨r24, rfl, kr24⟩ := (show ∃ r : Nat, v24 = .ref r ∧ T r = some (20, 0) from hv24)
  obtain rfl : r21 = r24 := hU _ _ _ (by decide) kr21 kr24
  refine lv_iload hx hb dMH_message_30 (lv_at hl 5 rfl) ?_
  refine mp_v (cx := [(r21, .inr (9, [.ref am21, .ref am22, .ref am23, .ref am24, .ref am25, .int (nI 136), .int (nI ps24), .int (nI 31)])), (am21, .inl (g.2.1 2, 25, .inr (.inl f32))), (am22, .inl (g.2.1 2, 25, .inr (.inl f33))), (am23, .inl (g.2.1 2, 5, .inr (.inl f34))), (am24, .inl (g.2.1 2, 24, .inr (.inl f24))), (am25, .inl (g.2.1 0, 25, .inl f25))]) (wr := []) hP hD hS hA [0, 1, 2, 3, 4, 5] [] rfl rfl rfl (by decide) (va_runV (As := [.int v]) (rest := []) F (t_MS_put l g _ T (am25 :: (am24 :: (am23 :: (am22 :: (am21 :: (r21 :: xs)))))) pl hO hU  v r21 am21 am22 am23 am24 am25 136 ps24 (nI 31) f32 f33 f34 f24 f25 (by omega) (by omega)) (cwV 1 hts (wg_app (wg_c kw_1720 (wg_c kw_1616 (wg_c kw_1617 (wg_c kw_10 wg_n)))) kw_1618) rfl rfl rfl (by decide +kernel) ⟨by decide, by decide⟩) (pp_V (en_ok g) (q0 := 0) hK hP hD hS hA hE [0, 1, 2, 3, 4, 5] rfl rfl rfl rfl) rfl rfl hl.1 rfl (lv_room (Nat.le_of_ble_eq_true rfl)) dMH_message_32 ⟨by omega, by omega⟩) (fun  u27 H locs hu24 hP hD hS => ?_)
  obtain ⟨u28, pl⟩ := u27
  obtain ⟨hq24, hO⟩ := hu24
  obtain ⟨ps25, f35, f36, f37⟩ := u28
  have hP : va_P g.1 vcl ([(r21, .inr (9, [.ref am21, .ref am22, .ref am23, .ref am24, .ref am25, .int (nI 136), .int (nI ps25), .int (nI 31)])), (am21, .inl (g.2.1 2, 25, .inr (.inl f35))), (am22, .inl (g.2.1 2, 25, .inr (.inl f36))), (am23, .inl (g.2.1 2, 5, .inr (.inl f37))), (am24, .inl (g.2.1 2, 24, .inr (.inl f24))), (am25, .inl (g.2.1 0, 25, .inl f25))] ++ pl) _ := hP
  have hD : va_D _ ([(r21, .inr (9, [.ref am21, .ref am22, .ref am23, .ref am24, .ref am25, .int (nI 136), .int (nI ps25), .int (nI 31)])), (am21, .inl (g.2.1 2, 25, .inr (.inl f35))), (am22, .inl (g.2.1 2, 25, .inr (.inl f36))), (am23, .inl (g.2.1 2, 5, .inr (.inl f37))), (am24, .inl (g.2.1 2, 24, .inr (.inl f24))), (am25, .inl (g.2.1 0, 25, .inl f25))] ++ pl) := hD
  have hq24 : ps25 ≤ 136 := hq24
  refine W.widen (k := 0) (n := 0) (by omega) (by omega) ?_
  refine lv_aload_n hx hb dMH_message_35 rfl (lv_at hl 0 rfl) ?_
  refine ty_get (ci := 12) (C := "LatticeKeysModel$Hands") (TT := T_MH) (N := 31) (kd := (47, 0)) hx hb hts (wg_ft i_MH) hown hK hO k_h0 (nxg (clo_cons (clo_cons (clo_cons (clo_cons (clo_cons (clo_cons hc0 kr21 (by decide)) km21 (by decide)) km22 (by decide)) km23 (by decide)) km24 (by decide)) km25 (by decide)) k_h0 rfl) hP (fun _ h9 => h9) rfl 0 (by decide) (hts _ (wg_t kw_1432)) (fun _ h9 => h9) (cd := (3, 20, 0)) rfl dMH_message_36 (fun v25 hv25 => ?_)
  obtain ⟨r25, rfl, kr25⟩ := (show ∃ r : Nat, v25 = .ref r ∧ T r = some (20, 0) from hv25)
  obtain rfl : r21 = r25 := hU _ _ _ (by decide) kr21 kr25
  refine lv_aload_n hx hb dMH_message_39 rfl (lv_at hl 3 rfl) ?_
  refine lv_iload hx hb dMH_message_40 (lv_at hl 4 rfl) ?_
  refine lv_iload hx hb dMH_message_42 (lv_at hl 6 rfl) ?_
  refine lv_iload hx hb dMH_message_44 (lv_at hl 4 rfl) ?_
  refine mi_isub hx hb dMH_message_46 (by omega) ?_
  refine mp_v (cx := [(r21, .inr (9, [.ref am21, .ref am22, .ref am23, .ref am24, .ref am25, .int (nI 136), .int (nI ps25), .int (nI 31)])), (am21, .inl (g.2.1 2, 25, .inr (.inl f35))), (am22, .inl (g.2.1 2, 25, .inr (.inl f36))), (am23, .inl (g.2.1 2, 5, .inr (.inl f37))), (am24, .inl (g.2.1 2, 24, .inr (.inl f24))), (am25, .inl (g.2.1 0, 25, .inl f25))]) (wr := []) hP hD hS hA [0, 1, 2, 3, 4, 5] [] rfl rfl rfl (by decide) (va_runV (As := [.ref b, .int (nI at_), .int (nI (ed - at_))]) (rest := []) F (t_MS_puts l g _ T (am25 :: (am24 :: (am23 :: (am22 :: (am21 :: (r21 :: xs)))))) pl hO hU (clo_cons (clo_cons (clo_cons (clo_cons (clo_cons (clo_cons hc0 kr21 (by decide)) km21 (by decide)) km22 (by decide)) km23 (by decide)) km24 (by decide)) km25 (by decide)) b nb at_ (ed - at_) r21 am21 am22 am23 am24 am25 136 ps25 (nI 31) f35 f36 f37 f24 f25 k_b (by omega) (by omega) (by omega) (by omega)) (cwV 3 hts (wg_app (wg_c kw_1719 (wg_c kw_1612 (wg_c kw_1613 (wg_c kw_10 wg_n)))) kw_1614) rfl rfl rfl (by decide +kernel) ⟨by decide, by decide⟩) (pp_V (en_ok g) (q0 := 0) hK hP hD hS hA hE [0, 1, 2, 3, 4, 5] rfl rfl rfl rfl) rfl rfl hl.1 rfl (lv_room (Nat.le_of_ble_eq_true rfl)) dMH_message_47 ⟨by omega, by omega⟩) (fun  u29 H locs hu25 hP hD hS => ?_)
  obtain ⟨u30, pl⟩ := u29
  obtain ⟨hq25, hO⟩ := hu25
  obtain ⟨ps26, f38, f39, f40⟩ := u30
  have hP : va_P g.1 vcl ([(r21, .inr (9, [.ref am21, .ref am22, .ref am23, .ref am24, .ref am25, .int (nI 136), .int (nI ps26), .int (nI 31)])), (am21, .inl (g.2.1 2, 25, .inr (.inl f38))), (am22, .inl (g.2.1 2, 25, .inr (.inl f39))), (am23, .inl (g.2.1 2, 5, .inr (.inl f40))), (am24, .inl (g.2.1 2, 24, .inr (.inl f24))), (am25, .inl (g.2.1 0, 25, .inl f25))] ++ pl) _ := hP
  have hD : va_D _ ([(r21, .inr (9, [.ref am21, .ref am22, .ref am23, .ref am24, .ref am25, .int (nI 136), .int (nI ps26), .int (nI 31)])), (am21, .inl (g.2.1 2, 25, .inr (.inl f38))), (am22, .inl (g.2.1 2, 25, .inr (.inl f39))), (am23, .inl (g.2.1 2, 5, .inr (.inl f40))), (am24, .inl (g.2.1 2, 24, .inr (.inl f24))), (am25, .inl (g.2.1 0, 25, .inl f25))] ++ pl) := hD
  have hq25 : ps26 ≤ 136 := hq25
  refine W.widen (k := 0) (n := 0) (by omega) (by omega) ?_
  refine lv_aload_n hx hb dMH_message_50 rfl (lv_at hl 0 rfl) ?_
  refine ty_get (ci := 12) (C := "LatticeKeysModel$Hands") (TT := T_MH) (N := 31) (kd := (47, 0)) hx hb hts (wg_ft i_MH) hown hK hO k_h0 (nxg (clo_cons (clo_cons (clo_cons (clo_cons (clo_cons (clo_cons hc0 kr21 (by decide)) km21 (by decide)) km22 (by decide)) km23 (by decide)) km24 (by decide)) km25 (by decide)) k_h0 rfl) hP (fun _ h9 => h9) rfl 0 (by decide) (hts _ (wg_t kw_1432)) (fun _ h9 => h9) (cd := (3, 20, 0)) rfl dMH_message_51 (fun v26 hv26 => ?_)
  obtain ⟨r26, rfl, kr26⟩ := (show ∃ r : Nat, v26 = .ref r ∧ T r = some (20, 0) from hv26)
  obtain rfl : r21 = r26 := hU _ _ _ (by decide) kr21 kr26
  refine mp_v (cx := [(r21, .inr (9, [.ref am21, .ref am22, .ref am23, .ref am24, .ref am25, .int (nI 136), .int (nI ps26), .int (nI 31)])), (am21, .inl (g.2.1 2, 25, .inr (.inl f38))), (am22, .inl (g.2.1 2, 25, .inr (.inl f39))), (am23, .inl (g.2.1 2, 5, .inr (.inl f40))), (am24, .inl (g.2.1 2, 24, .inr (.inl f24))), (am25, .inl (g.2.1 0, 25, .inl f25))]) (wr := []) hP hD hS hA [0, 1, 2, 3, 4, 5] [] rfl rfl rfl (by decide) (va_runV (As := []) (rest := []) F (t_MS_end l g _ T (am25 :: (am24 :: (am23 :: (am22 :: (am21 :: (r21 :: xs)))))) pl hO hU  r21 am21 am22 am23 am24 am25 136 ps26 (nI 31) f38 f39 f40 f24 f25 (by omega) (by omega)) (cwV 0 hts (wg_app (wg_c kw_1721 (wg_c kw_1634 (wg_c kw_1635 (wg_c kw_10 wg_n)))) kw_1636) rfl rfl rfl (by decide +kernel) ⟨by decide, by decide⟩) (pp_V (en_ok g) (q0 := 0) hK hP hD hS hA hE [0, 1, 2, 3, 4, 5] rfl rfl rfl rfl) rfl rfl hl.1 rfl (lv_room (Nat.le_of_ble_eq_true rfl)) dMH_message_54 ⟨by omega, by omega⟩) (fun  u31 H locs hu26 hP hD hS => ?_)
  obtain ⟨u32, pl⟩ := u31
  obtain ⟨hq26, hO⟩ := hu26
  obtain ⟨ps27, f41, f42, f43⟩ := u32
  have hP : va_P g.1 vcl ([(r21, .inr (9, [.ref am21, .ref am22, .ref am23, .ref am24, .ref am25, .int (nI 136), .int (nI ps27), .int (nI 31)])), (am21, .inl (g.2.1 2, 25, .inr (.inl f41))), (am22, .inl (g.2.1 2, 25, .inr (.inl f42))), (am23, .inl (g.2.1 2, 5, .inr (.inl f43))), (am24, .inl (g.2.1 2, 24, .inr (.inl f24))), (am25, .inl (g.2.1 0, 25, .inl f25))] ++ pl) _ := hP
  have hD : va_D _ ([(r21, .inr (9, [.ref am21, .ref am22, .ref am23, .ref am24, .ref am25, .int (nI 136), .int (nI ps27), .int (nI 31)])), (am21, .inl (g.2.1 2, 25, .inr (.inl f41))), (am22, .inl (g.2.1 2, 25, .inr (.inl f42))), (am23, .inl (g.2.1 2, 5, .inr (.inl f43))), (am24, .inl (g.2.1 2, 24, .inr (.inl f24))), (am25, .inl (g.2.1 0, 25, .inl f25))] ++ pl) := hD
  have hq26 : ps27 ≤ 136 := hq26
  refine W.widen (k := 0) (n := 0) (by omega) (by omega) ?_
  refine lv_aload_n hx hb dMH_message_57 rfl (lv_at hl 0 rfl) ?_
  refine ty_get (ci := 12) (C := "LatticeKeysModel$Hands") (TT := T_MH) (N := 31) (kd := (47, 0)) hx hb hts (wg_ft i_MH) hown hK hO k_h0 (nxg (clo_cons (clo_cons (clo_cons (clo_cons (clo_cons (clo_cons hc0 kr21 (by decide)) km21 (by decide)) km22 (by decide)) km23 (by decide)) km24 (by decide)) km25 (by decide)) k_h0 rfl) hP (fun _ h9 => h9) rfl 0 (by decide) (hts _ (wg_t kw_1432)) (fun _ h9 => h9) (cd := (3, 20, 0)) rfl dMH_message_58 (fun v27 hv27 => ?_)
  obtain ⟨r27, rfl, kr27⟩ := (show ∃ r : Nat, v27 = .ref r ∧ T r = some (20, 0) from hv27)
  obtain rfl : r21 = r27 := hU _ _ _ (by decide) kr21 kr27
  refine lv_aload_n hx hb dMH_message_61 rfl (lv_at hl 0 rfl) ?_
  refine ty_get (ci := 12) (C := "LatticeKeysModel$Hands") (TT := T_MH) (N := 31) (kd := (47, 0)) hx hb hts (wg_ft i_MH) hown hK hO k_h0 (nxg (clo_cons (clo_cons (clo_cons (clo_cons (clo_cons (clo_cons hc0 kr21 (by decide)) km21 (by decide)) km22 (by decide)) km23 (by decide)) km24 (by decide)) km25 (by decide)) k_h0 rfl) hP (fun _ h9 => h9) rfl 17 (by decide) (hts _ (wg_t kw_1449)) (fun _ h9 => h9) (cd := (3, 1, 64)) rfl dMH_message_62 (fun v28 hv28 => ?_)
  obtain ⟨r28, rfl, kr28⟩ := (show ∃ r : Nat, v28 = .ref r ∧ T r = some (1, 64) from hv28)
  refine lv_iconst (v := nI 0) hx hb dMH_message_65 (by decide) ?_
  refine lv_bipush (v := nI 64) hx hb dMH_message_66 (by decide) ?_
  refine mp_v (cx := [(r21, .inr (9, [.ref am21, .ref am22, .ref am23, .ref am24, .ref am25, .int (nI 136), .int (nI ps27), .int (nI 31)])), (am21, .inl (g.2.1 2, 25, .inr (.inl f41))), (am22, .inl (g.2.1 2, 25, .inr (.inl f42))), (am23, .inl (g.2.1 2, 5, .inr (.inl f43))), (am24, .inl (g.2.1 2, 24, .inr (.inl f24))), (am25, .inl (g.2.1 0, 25, .inl f25))]) (wr := []) hP hD hS hA [0, 1, 2, 3, 4, 5] [] rfl rfl rfl (by decide) (va_runV (As := [.ref r28, .int (nI 0), .int (nI 64)]) (rest := []) F (t_MS_take l g _ T (am25 :: (am24 :: (am23 :: (am22 :: (am21 :: (r21 :: xs)))))) pl hO hU (clo_cons (clo_cons (clo_cons (clo_cons (clo_cons (clo_cons hc0 kr21 (by decide)) km21 (by decide)) km22 (by decide)) km23 (by decide)) km24 (by decide)) km25 (by decide)) r28 64 0 64 r21 am21 am22 am23 am24 am25 136 ps27 (nI 31) f41 f42 f43 f24 f25 kr28 (by omega) (by omega) (by omega) (by omega)) (cwV 3 hts (wg_app (wg_c kw_1722 (wg_c kw_1638 (wg_c kw_1639 (wg_c kw_10 wg_n)))) kw_1640) rfl rfl rfl (by decide +kernel) ⟨by decide, by decide⟩) (pp_V (en_ok g) (q0 := 0) hK hP hD hS hA hE [0, 1, 2, 3, 4, 5] rfl rfl rfl rfl) rfl rfl hl.1 rfl (lv_room (Nat.le_of_ble_eq_true rfl)) dMH_message_68 ⟨by omega, by omega⟩) (fun  u33 H locs hu27 hP hD hS => ?_)
  obtain ⟨u34, pl⟩ := u33
  obtain ⟨hq27, hO⟩ := hu27
  obtain ⟨ps28, f44, f45, f46⟩ := u34
  have hP : va_P g.1 vcl ([(r21, .inr (9, [.ref am21, .ref am22, .ref am23, .ref am24, .ref am25, .int (nI 136), .int (nI ps28), .int (nI 31)])), (am21, .inl (g.2.1 2, 25, .inr (.inl f44))), (am22, .inl (g.2.1 2, 25, .inr (.inl f45))), (am23, .inl (g.2.1 2, 5, .inr (.inl f46))), (am24, .inl (g.2.1 2, 24, .inr (.inl f24))), (am25, .inl (g.2.1 0, 25, .inl f25))] ++ pl) _ := hP
  have hD : va_D _ ([(r21, .inr (9, [.ref am21, .ref am22, .ref am23, .ref am24, .ref am25, .int (nI 136), .int (nI ps28), .int (nI 31)])), (am21, .inl (g.2.1 2, 25, .inr (.inl f44))), (am22, .inl (g.2.1 2, 25, .inr (.inl f45))), (am23, .inl (g.2.1 2, 5, .inr (.inl f46))), (am24, .inl (g.2.1 2, 24, .inr (.inl f24))), (am25, .inl (g.2.1 0, 25, .inl f25))] ++ pl) := hD
  have hq27 : ps28 ≤ 136 := hq27
  refine W.widen (k := 0) (n := 0) (by omega) (by omega) ?_
  have hO := close1 (e := .inl (g.2.1 0, 25, .inl f25)) hO km25 ⟨_, rfl⟩
  have hO := close1 (e := .inl (g.2.1 2, 24, .inr (.inl f24))) hO km24 ⟨_, rfl⟩
  have hO := close1 (e := .inl (g.2.1 2, 5, .inr (.inl f46))) hO km23 ⟨_, rfl⟩
  have hO := close1 (e := .inl (g.2.1 2, 25, .inr (.inl f45))) hO km22 ⟨_, rfl⟩
  have hO := close1 (e := .inl (g.2.1 2, 25, .inr (.inl f44))) hO km21 ⟨_, rfl⟩
  have hO := close1 (e := .inr (9, [.ref am21, .ref am22, .ref am23, .ref am24, .ref am25, .int (nI 136), .int (nI ps28), .int (nI 31)])) hO kr21 ⟨_, _, _, _, _, _, _, _, rfl, km21, km22, km23, km24, km25, by omega, by omega, by omega⟩
  have hO : okx g T xs ((r21, .inr (9, [.ref am21, .ref am22, .ref am23, .ref am24, .ref am25, .int (nI 136), .int (nI ps28), .int (nI 31)])) :: (am21, .inl (g.2.1 2, 25, .inr (.inl f44))) :: (am22, .inl (g.2.1 2, 25, .inr (.inl f45))) :: (am23, .inl (g.2.1 2, 5, .inr (.inl f46))) :: (am24, .inl (g.2.1 2, 24, .inr (.inl f24))) :: (am25, .inl (g.2.1 0, 25, .inl f25)) :: pl) := hO
  have hP : va_P g.1 vcl ([] ++ ((r21, .inr (9, [.ref am21, .ref am22, .ref am23, .ref am24, .ref am25, .int (nI 136), .int (nI ps28), .int (nI 31)])) :: (am21, .inl (g.2.1 2, 25, .inr (.inl f44))) :: (am22, .inl (g.2.1 2, 25, .inr (.inl f45))) :: (am23, .inl (g.2.1 2, 5, .inr (.inl f46))) :: (am24, .inl (g.2.1 2, 24, .inr (.inl f24))) :: (am25, .inl (g.2.1 0, 25, .inl f25)) :: pl)) _ := hP
  have hD : va_D _ ([] ++ ((r21, .inr (9, [.ref am21, .ref am22, .ref am23, .ref am24, .ref am25, .int (nI 136), .int (nI ps28), .int (nI 31)])) :: (am21, .inl (g.2.1 2, 25, .inr (.inl f44))) :: (am22, .inl (g.2.1 2, 25, .inr (.inl f45))) :: (am23, .inl (g.2.1 2, 5, .inr (.inl f46))) :: (am24, .inl (g.2.1 2, 24, .inr (.inl f24))) :: (am25, .inl (g.2.1 0, 25, .inl f25)) :: pl)) := hD
  generalize ((r21, .inr (9, [.ref am21, .ref am22, .ref am23, .ref am24, .ref am25, .int (nI 136), .int (nI ps28), .int (nI 31)])) :: (am21, .inl (g.2.1 2, 25, .inr (.inl f44))) :: (am22, .inl (g.2.1 2, 25, .inr (.inl f45))) :: (am23, .inl (g.2.1 2, 5, .inr (.inl f46))) :: (am24, .inl (g.2.1 2, 24, .inr (.inl f24))) :: (am25, .inl (g.2.1 0, 25, .inl f25)) :: pl) = pl at hO hP hD
  exact mp_vret hx hb hr hlk hP hD hS pl ⟨trivial, hO⟩ [] rfl rfl rfl (by omega) (by omega) dMH_message_71
set_option maxHeartbeats 400000 in
set_option maxRecDepth 100000 in
theorem t_MH_message_2 (l : Launch) (g : Gd) (sz : Nat) (T : Ty) (xs : List Nat) (pl : va_W) (hO : okx g T xs pl) (hU : uni T) (hc0 : clo T xs 0) (hc9 : clo T xs 9) (h0 hs b nh nb ha at_ ed : Nat) (v : Int32) (k_h0 : T h0 = some (48, 0)) (k_hs : T hs = some (1, nh)) (k_b : T b = some (1, nb)) (h1 : ha + 64 ≤ nh) (h2 : nh < 65536) (h3 : at_ ≤ ed) (h4 : ed ≤ nb) (h5 : nb < 65536)  : Met l y_MH_message w_MH_message ({ frames := 4, cells := 0, slots := 0, locals := 98 } : Room) (va_Pc [.ref h0, .ref hs, .int (nI ha), .ref b, .int (nI at_), .int v, .int (nI ed)] (pr (en g) g.1 vcl sz ([] ++ pl))) (va_Qv (fun (u : va_W) => (True) ∧ okx g T xs u) (po g.1 vcl (va_A ([] ++ pl) sz) (fun (u : va_W) => [] ++ u)) (va_A ([] ++ pl) sz)) 0 0 (va_A ([] ++ pl) sz) := by
  refine mc_entry (cc := c_MH_message) (maxL := 7) (ret := none) (by decide) rfl (Nat.le_of_ble_eq_true rfl) ?_
  intro p e s m args below meth c ls F hr hlk hnm hsz hP hD hE hA hl
  obtain ⟨hx, hb, hml, hown, hts⟩ := id F
  have hK := hE.1
  generalize va_A ([] ++ pl) sz = A at hD hE hA ⊢
  have hS : va_S A s.heap s.heap [] := va_S.rf
  have hl : lv_has ls 7 [(0, .ref h0), (1, .ref hs), (2, .int (nI ha)), (3, .ref b), (4, .int (nI at_)), (5, .int v), (6, .int (nI ed))] := hl
  refine lv_aload_n hx hb dMH_message_0 rfl (lv_at hl 0 rfl) ?_
  refine ty_get (ci := 12) (C := "LatticeKeysModel$Hands") (TT := T_MH) (N := 31) (kd := (48, 0)) hx hb hts (wg_ft i_MH) hown hK hO k_h0 (nxg hc0 k_h0 rfl) hP (fun _ h9 => h9) rfl 0 (by decide) (hts _ (wg_t kw_1432)) (fun _ h9 => h9) (cd := (3, 20, 0)) rfl dMH_message_1 (fun v21 hv21 => ?_)
  obtain ⟨r21, rfl, kr21⟩ := (show ∃ r : Nat, v21 = .ref r ∧ T r = some (20, 0) from hv21)
  obtain ⟨e21, pl, hP, hD, hk21, hO⟩ := open1 hP hD hO kr21 (nxg hc9 kr21 rfl)
  obtain ⟨am21, am22, am23, am24, am25, rt21, ps21, x21, rfl, km21, km22, km23, km24, km25, hr21, hr22, hr23⟩ := hk21
  obtain ⟨e22, pl, hP, hD, hk22, hO⟩ := open1 hP hD hO km21 (nmc (knd_ne km21 kr21 (by decide)) (nxg hc9 km21 rfl))
  obtain ⟨f21, rfl⟩ := hk22
  obtain ⟨e23, pl, hP, hD, hk23, hO⟩ := open1 hP hD hO km22 (nmc (knd_ne km22 km21 (by decide)) (nmc (knd_ne km22 kr21 (by decide)) (nxg hc9 km22 rfl)))
  obtain ⟨f22, rfl⟩ := hk23
  obtain ⟨e24, pl, hP, hD, hk24, hO⟩ := open1 hP hD hO km23 (nmc (knd_ne km23 km22 (by decide)) (nmc (knd_ne km23 km21 (by decide)) (nmc (knd_ne km23 kr21 (by decide)) (nxg hc9 km23 rfl))))
  obtain ⟨f23, rfl⟩ := hk24
  obtain ⟨e25, pl, hP, hD, hk25, hO⟩ := open1 hP hD hO km24 (nmc (knd_ne km24 km23 (by decide)) (nmc (knd_ne km24 km22 (by decide)) (nmc (knd_ne km24 km21 (by decide)) (nmc (knd_ne km24 kr21 (by decide)) (nxg hc9 km24 rfl)))))
  obtain ⟨f24, rfl⟩ := hk25
  obtain ⟨e26, pl, hP, hD, hk26, hO⟩ := open1 hP hD hO km25 (nmc (knd_ne km25 km24 (by decide)) (nmc (knd_ne km25 km23 (by decide)) (nmc (knd_ne km25 km22 (by decide)) (nmc (knd_ne km25 km21 (by decide)) (nmc (knd_ne km25 kr21 (by decide)) (nxg hc9 km25 rfl))))))
  obtain ⟨f25, rfl⟩ := hk26
  have hP : va_P g.1 vcl ([(r21, .inr (9, [.ref am21, .ref am22, .ref am23, .ref am24, .ref am25, .int (nI rt21), .int (nI ps21), .int x21])), (am21, .inl (g.2.1 2, 25, .inr (.inl f21))), (am22, .inl (g.2.1 2, 25, .inr (.inl f22))), (am23, .inl (g.2.1 2, 5, .inr (.inl f23))), (am24, .inl (g.2.1 2, 24, .inr (.inl f24))), (am25, .inl (g.2.1 0, 25, .inl f25))] ++ pl) _ := hP
  have hD : va_D _ ([(r21, .inr (9, [.ref am21, .ref am22, .ref am23, .ref am24, .ref am25, .int (nI rt21), .int (nI ps21), .int x21])), (am21, .inl (g.2.1 2, 25, .inr (.inl f21))), (am22, .inl (g.2.1 2, 25, .inr (.inl f22))), (am23, .inl (g.2.1 2, 5, .inr (.inl f23))), (am24, .inl (g.2.1 2, 24, .inr (.inl f24))), (am25, .inl (g.2.1 0, 25, .inl f25))] ++ pl) := hD
  refine mp_v (cx := [(r21, .inr (9, [.ref am21, .ref am22, .ref am23, .ref am24, .ref am25, .int (nI rt21), .int (nI ps21), .int x21])), (am21, .inl (g.2.1 2, 25, .inr (.inl f21))), (am22, .inl (g.2.1 2, 25, .inr (.inl f22))), (am23, .inl (g.2.1 2, 5, .inr (.inl f23))), (am24, .inl (g.2.1 2, 24, .inr (.inl f24))), (am25, .inl (g.2.1 0, 25, .inl f25))]) (wr := []) hP hD hS hA [0, 1, 2, 3, 4, 5] [] rfl rfl rfl (by decide) (va_runV (As := []) (rest := []) F (t_MS_shake l g _ T (am25 :: (am24 :: (am23 :: (am22 :: (am21 :: (r21 :: xs)))))) pl hO hU  r21 am21 am22 am23 am24 am25 rt21 ps21 x21 f21 f22 f23 f24 f25) (cwV 0 hts (wg_app (wg_c kw_1718 (wg_c kw_1661 (wg_c kw_1662 (wg_c kw_10 wg_n)))) kw_1663) rfl rfl rfl (by decide +kernel) ⟨by decide, by decide⟩) (pp_V (en_ok g) (q0 := 0) hK hP hD hS hA hE [0, 1, 2, 3, 4, 5] rfl rfl rfl rfl) rfl rfl hl.1 rfl (lv_room (Nat.le_of_ble_eq_true rfl)) dMH_message_4 ⟨by omega, by omega⟩) (fun  u21 H locs hu21 hP hD hS => ?_)
  obtain ⟨u22, pl⟩ := u21
  obtain ⟨hq21, hO⟩ := hu21
  obtain ⟨ps22, f26, f27, f28⟩ := u22
  have hP : va_P g.1 vcl ([(r21, .inr (9, [.ref am21, .ref am22, .ref am23, .ref am24, .ref am25, .int (nI 136), .int (nI ps22), .int (nI 31)])), (am21, .inl (g.2.1 2, 25, .inr (.inl f26))), (am22, .inl (g.2.1 2, 25, .inr (.inl f27))), (am23, .inl (g.2.1 2, 5, .inr (.inl f28))), (am24, .inl (g.2.1 2, 24, .inr (.inl f24))), (am25, .inl (g.2.1 0, 25, .inl f25))] ++ pl) _ := hP
  have hD : va_D _ ([(r21, .inr (9, [.ref am21, .ref am22, .ref am23, .ref am24, .ref am25, .int (nI 136), .int (nI ps22), .int (nI 31)])), (am21, .inl (g.2.1 2, 25, .inr (.inl f26))), (am22, .inl (g.2.1 2, 25, .inr (.inl f27))), (am23, .inl (g.2.1 2, 5, .inr (.inl f28))), (am24, .inl (g.2.1 2, 24, .inr (.inl f24))), (am25, .inl (g.2.1 0, 25, .inl f25))] ++ pl) := hD
  have hq21 : ps22 ≤ 136 := hq21
  refine W.widen (k := 0) (n := 0) (by omega) (by omega) ?_
  refine lv_aload_n hx hb dMH_message_7 rfl (lv_at hl 0 rfl) ?_
  refine ty_get (ci := 12) (C := "LatticeKeysModel$Hands") (TT := T_MH) (N := 31) (kd := (48, 0)) hx hb hts (wg_ft i_MH) hown hK hO k_h0 (nxg (clo_cons (clo_cons (clo_cons (clo_cons (clo_cons (clo_cons hc0 kr21 (by decide)) km21 (by decide)) km22 (by decide)) km23 (by decide)) km24 (by decide)) km25 (by decide)) k_h0 rfl) hP (fun _ h9 => h9) rfl 0 (by decide) (hts _ (wg_t kw_1432)) (fun _ h9 => h9) (cd := (3, 20, 0)) rfl dMH_message_8 (fun v22 hv22 => ?_)
  obtain ⟨r22, rfl, kr22⟩ := (show ∃ r : Nat, v22 = .ref r ∧ T r = some (20, 0) from hv22)
  obtain rfl : r21 = r22 := hU _ _ _ (by decide) kr21 kr22
  refine lv_aload_n hx hb dMH_message_11 rfl (lv_at hl 1 rfl) ?_
  refine lv_iload_n hx hb dMH_message_12 rfl (lv_at hl 2 rfl) ?_
  refine lv_bipush (v := nI 64) hx hb dMH_message_13 (by decide) ?_
  refine mp_v (cx := [(r21, .inr (9, [.ref am21, .ref am22, .ref am23, .ref am24, .ref am25, .int (nI 136), .int (nI ps22), .int (nI 31)])), (am21, .inl (g.2.1 2, 25, .inr (.inl f26))), (am22, .inl (g.2.1 2, 25, .inr (.inl f27))), (am23, .inl (g.2.1 2, 5, .inr (.inl f28))), (am24, .inl (g.2.1 2, 24, .inr (.inl f24))), (am25, .inl (g.2.1 0, 25, .inl f25))]) (wr := []) hP hD hS hA [0, 1, 2, 3, 4, 5] [] rfl rfl rfl (by decide) (va_runV (As := [.ref hs, .int (nI ha), .int (nI 64)]) (rest := []) F (t_MS_puts l g _ T (am25 :: (am24 :: (am23 :: (am22 :: (am21 :: (r21 :: xs)))))) pl hO hU (clo_cons (clo_cons (clo_cons (clo_cons (clo_cons (clo_cons hc0 kr21 (by decide)) km21 (by decide)) km22 (by decide)) km23 (by decide)) km24 (by decide)) km25 (by decide)) hs nh ha 64 r21 am21 am22 am23 am24 am25 136 ps22 (nI 31) f26 f27 f28 f24 f25 k_hs (by omega) (by omega) (by omega) (by omega)) (cwV 3 hts (wg_app (wg_c kw_1719 (wg_c kw_1612 (wg_c kw_1613 (wg_c kw_10 wg_n)))) kw_1614) rfl rfl rfl (by decide +kernel) ⟨by decide, by decide⟩) (pp_V (en_ok g) (q0 := 0) hK hP hD hS hA hE [0, 1, 2, 3, 4, 5] rfl rfl rfl rfl) rfl rfl hl.1 rfl (lv_room (Nat.le_of_ble_eq_true rfl)) dMH_message_15 ⟨by omega, by omega⟩) (fun  u23 H locs hu22 hP hD hS => ?_)
  obtain ⟨u24, pl⟩ := u23
  obtain ⟨hq22, hO⟩ := hu22
  obtain ⟨ps23, f29, f30, f31⟩ := u24
  have hP : va_P g.1 vcl ([(r21, .inr (9, [.ref am21, .ref am22, .ref am23, .ref am24, .ref am25, .int (nI 136), .int (nI ps23), .int (nI 31)])), (am21, .inl (g.2.1 2, 25, .inr (.inl f29))), (am22, .inl (g.2.1 2, 25, .inr (.inl f30))), (am23, .inl (g.2.1 2, 5, .inr (.inl f31))), (am24, .inl (g.2.1 2, 24, .inr (.inl f24))), (am25, .inl (g.2.1 0, 25, .inl f25))] ++ pl) _ := hP
  have hD : va_D _ ([(r21, .inr (9, [.ref am21, .ref am22, .ref am23, .ref am24, .ref am25, .int (nI 136), .int (nI ps23), .int (nI 31)])), (am21, .inl (g.2.1 2, 25, .inr (.inl f29))), (am22, .inl (g.2.1 2, 25, .inr (.inl f30))), (am23, .inl (g.2.1 2, 5, .inr (.inl f31))), (am24, .inl (g.2.1 2, 24, .inr (.inl f24))), (am25, .inl (g.2.1 0, 25, .inl f25))] ++ pl) := hD
  have hq22 : ps23 ≤ 136 := hq22
  refine W.widen (k := 0) (n := 0) (by omega) (by omega) ?_
  refine lv_aload_n hx hb dMH_message_18 rfl (lv_at hl 0 rfl) ?_
  refine ty_get (ci := 12) (C := "LatticeKeysModel$Hands") (TT := T_MH) (N := 31) (kd := (48, 0)) hx hb hts (wg_ft i_MH) hown hK hO k_h0 (nxg (clo_cons (clo_cons (clo_cons (clo_cons (clo_cons (clo_cons hc0 kr21 (by decide)) km21 (by decide)) km22 (by decide)) km23 (by decide)) km24 (by decide)) km25 (by decide)) k_h0 rfl) hP (fun _ h9 => h9) rfl 0 (by decide) (hts _ (wg_t kw_1432)) (fun _ h9 => h9) (cd := (3, 20, 0)) rfl dMH_message_19 (fun v23 hv23 => ?_)
  obtain ⟨r23, rfl, kr23⟩ := (show ∃ r : Nat, v23 = .ref r ∧ T r = some (20, 0) from hv23)
  obtain rfl : r21 = r23 := hU _ _ _ (by decide) kr21 kr23
  refine lv_iconst (v := nI 0) hx hb dMH_message_22 (by decide) ?_
  refine mp_v (cx := [(r21, .inr (9, [.ref am21, .ref am22, .ref am23, .ref am24, .ref am25, .int (nI 136), .int (nI ps23), .int (nI 31)])), (am21, .inl (g.2.1 2, 25, .inr (.inl f29))), (am22, .inl (g.2.1 2, 25, .inr (.inl f30))), (am23, .inl (g.2.1 2, 5, .inr (.inl f31))), (am24, .inl (g.2.1 2, 24, .inr (.inl f24))), (am25, .inl (g.2.1 0, 25, .inl f25))]) (wr := []) hP hD hS hA [0, 1, 2, 3, 4, 5] [] rfl rfl rfl (by decide) (va_runV (As := [.int (nI 0)]) (rest := []) F (t_MS_put l g _ T (am25 :: (am24 :: (am23 :: (am22 :: (am21 :: (r21 :: xs)))))) pl hO hU  (nI 0) r21 am21 am22 am23 am24 am25 136 ps23 (nI 31) f29 f30 f31 f24 f25 (by omega) (by omega)) (cwV 1 hts (wg_app (wg_c kw_1720 (wg_c kw_1616 (wg_c kw_1617 (wg_c kw_10 wg_n)))) kw_1618) rfl rfl rfl (by decide +kernel) ⟨by decide, by decide⟩) (pp_V (en_ok g) (q0 := 0) hK hP hD hS hA hE [0, 1, 2, 3, 4, 5] rfl rfl rfl rfl) rfl rfl hl.1 rfl (lv_room (Nat.le_of_ble_eq_true rfl)) dMH_message_23 ⟨by omega, by omega⟩) (fun  u25 H locs hu23 hP hD hS => ?_)
  obtain ⟨u26, pl⟩ := u25
  obtain ⟨hq23, hO⟩ := hu23
  obtain ⟨ps24, f32, f33, f34⟩ := u26
  have hP : va_P g.1 vcl ([(r21, .inr (9, [.ref am21, .ref am22, .ref am23, .ref am24, .ref am25, .int (nI 136), .int (nI ps24), .int (nI 31)])), (am21, .inl (g.2.1 2, 25, .inr (.inl f32))), (am22, .inl (g.2.1 2, 25, .inr (.inl f33))), (am23, .inl (g.2.1 2, 5, .inr (.inl f34))), (am24, .inl (g.2.1 2, 24, .inr (.inl f24))), (am25, .inl (g.2.1 0, 25, .inl f25))] ++ pl) _ := hP
  have hD : va_D _ ([(r21, .inr (9, [.ref am21, .ref am22, .ref am23, .ref am24, .ref am25, .int (nI 136), .int (nI ps24), .int (nI 31)])), (am21, .inl (g.2.1 2, 25, .inr (.inl f32))), (am22, .inl (g.2.1 2, 25, .inr (.inl f33))), (am23, .inl (g.2.1 2, 5, .inr (.inl f34))), (am24, .inl (g.2.1 2, 24, .inr (.inl f24))), (am25, .inl (g.2.1 0, 25, .inl f25))] ++ pl) := hD
  have hq23 : ps24 ≤ 136 := hq23
  refine W.widen (k := 0) (n := 0) (by omega) (by omega) ?_
  refine lv_aload_n hx hb dMH_message_26 rfl (lv_at hl 0 rfl) ?_
  refine ty_get (ci := 12) (C := "LatticeKeysModel$Hands") (TT := T_MH) (N := 31) (kd := (48, 0)) hx hb hts (wg_ft i_MH) hown hK hO k_h0 (nxg (clo_cons (clo_cons (clo_cons (clo_cons (clo_cons (clo_cons hc0 kr21 (by decide)) km21 (by decide)) km22 (by decide)) km23 (by decide)) km24 (by decide)) km25 (by decide)) k_h0 rfl) hP (fun _ h9 => h9) rfl 0 (by decide) (hts _ (wg_t kw_1432)) (fun _ h9 => h9) (cd := (3, 20, 0)) rfl dMH_message_27 (fun v24 hv24 => ?_)
  obtain ⟨r24, rfl, kr24⟩ := (show ∃ r : Nat, v24 = .ref r ∧ T r = some (20, 0) from hv24)
  obtain rfl : r21 = r24 := hU _ _ _ (by decide) kr21 kr24
  refine lv_iload hx hb dMH_message_30 (lv_at hl 5 rfl) ?_
  refine mp_v (cx := [(r21, .inr (9, [.ref am21, .ref am22, .ref am23, .ref am24, .ref am25, .int (nI 136), .int (nI ps24), .int (nI 31)])), (am21, .inl (g.2.1 2, 25, .inr (.inl f32))), (am22, .inl (g.2.1 2, 25, .inr (.inl f33))), (am23, .inl (g.2.1 2, 5, .inr (.inl f34))), (am24, .inl (g.2.1 2, 24, .inr (.inl f24))), (am25, .inl (g.2.1 0, 25, .inl f25))]) (wr := []) hP hD hS hA [0, 1, 2, 3, 4, 5] [] rfl rfl rfl (by decide) (va_runV (As := [.int v]) (rest := []) F (t_MS_put l g _ T (am25 :: (am24 :: (am23 :: (am22 :: (am21 :: (r21 :: xs)))))) pl hO hU  v r21 am21 am22 am23 am24 am25 136 ps24 (nI 31) f32 f33 f34 f24 f25 (by omega) (by omega)) (cwV 1 hts (wg_app (wg_c kw_1720 (wg_c kw_1616 (wg_c kw_1617 (wg_c kw_10 wg_n)))) kw_1618) rfl rfl rfl (by decide +kernel) ⟨by decide, by decide⟩) (pp_V (en_ok g) (q0 := 0) hK hP hD hS hA hE [0, 1, 2, 3, 4, 5] rfl rfl rfl rfl) rfl rfl hl.1 rfl (lv_room (Nat.le_of_ble_eq_true rfl)) dMH_message_32 ⟨by omega, by omega⟩) (fun  u27 H locs hu24 hP hD hS => ?_)
  obtain ⟨u28, pl⟩ := u27
  obtain ⟨hq24, hO⟩ := hu24
  obtain ⟨ps25, f35, f36, f37⟩ := u28
  have hP : va_P g.1 vcl ([(r21, .inr (9, [.ref am21, .ref am22, .ref am23, .ref am24, .ref am25, .int (nI 136), .int (nI ps25), .int (nI 31)])), (am21, .inl (g.2.1 2, 25, .inr (.inl f35))), (am22, .inl (g.2.1 2, 25, .inr (.inl f36))), (am23, .inl (g.2.1 2, 5, .inr (.inl f37))), (am24, .inl (g.2.1 2, 24, .inr (.inl f24))), (am25, .inl (g.2.1 0, 25, .inl f25))] ++ pl) _ := hP
  have hD : va_D _ ([(r21, .inr (9, [.ref am21, .ref am22, .ref am23, .ref am24, .ref am25, .int (nI 136), .int (nI ps25), .int (nI 31)])), (am21, .inl (g.2.1 2, 25, .inr (.inl f35))), (am22, .inl (g.2.1 2, 25, .inr (.inl f36))), (am23, .inl (g.2.1 2, 5, .inr (.inl f37))), (am24, .inl (g.2.1 2, 24, .inr (.inl f24))), (am25, .inl (g.2.1 0, 25, .inl f25))] ++ pl) := hD
  have hq24 : ps25 ≤ 136 := hq24
  refine W.widen (k := 0) (n := 0) (by omega) (by omega) ?_
  refine lv_aload_n hx hb dMH_message_35 rfl (lv_at hl 0 rfl) ?_
  refine ty_get (ci := 12) (C := "LatticeKeysModel$Hands") (TT := T_MH) (N := 31) (kd := (48, 0)) hx hb hts (wg_ft i_MH) hown hK hO k_h0 (nxg (clo_cons (clo_cons (clo_cons (clo_cons (clo_cons (clo_cons hc0 kr21 (by decide)) km21 (by decide)) km22 (by decide)) km23 (by decide)) km24 (by decide)) km25 (by decide)) k_h0 rfl) hP (fun _ h9 => h9) rfl 0 (by decide) (hts _ (wg_t kw_1432)) (fun _ h9 => h9) (cd := (3, 20, 0)) rfl dMH_message_36 (fun v25 hv25 => ?_)
  obtain ⟨r25, rfl, kr25⟩ := (show ∃ r : Nat, v25 = .ref r ∧ T r = some (20, 0) from hv25)
  obtain rfl : r21 = r25 := hU _ _ _ (by decide) kr21 kr25
  refine lv_aload_n hx hb dMH_message_39 rfl (lv_at hl 3 rfl) ?_
  refine lv_iload hx hb dMH_message_40 (lv_at hl 4 rfl) ?_
  refine lv_iload hx hb dMH_message_42 (lv_at hl 6 rfl) ?_
  refine lv_iload hx hb dMH_message_44 (lv_at hl 4 rfl) ?_
  refine mi_isub hx hb dMH_message_46 (by omega) ?_
  refine mp_v (cx := [(r21, .inr (9, [.ref am21, .ref am22, .ref am23, .ref am24, .ref am25, .int (nI 136), .int (nI ps25), .int (nI 31)])), (am21, .inl (g.2.1 2, 25, .inr (.inl f35))), (am22, .inl (g.2.1 2, 25, .inr (.inl f36))), (am23, .inl (g.2.1 2, 5, .inr (.inl f37))), (am24, .inl (g.2.1 2, 24, .inr (.inl f24))), (am25, .inl (g.2.1 0, 25, .inl f25))]) (wr := []) hP hD hS hA [0, 1, 2, 3, 4, 5] [] rfl rfl rfl (by decide) (va_runV (As := [.ref b, .int (nI at_), .int (nI (ed - at_))]) (rest := []) F (t_MS_puts l g _ T (am25 :: (am24 :: (am23 :: (am22 :: (am21 :: (r21 :: xs)))))) pl hO hU (clo_cons (clo_cons (clo_cons (clo_cons (clo_cons (clo_cons hc0 kr21 (by decide)) km21 (by decide)) km22 (by decide)) km23 (by decide)) km24 (by decide)) km25 (by decide)) b nb at_ (ed - at_) r21 am21 am22 am23 am24 am25 136 ps25 (nI 31) f35 f36 f37 f24 f25 k_b (by omega) (by omega) (by omega) (by omega)) (cwV 3 hts (wg_app (wg_c kw_1719 (wg_c kw_1612 (wg_c kw_1613 (wg_c kw_10 wg_n)))) kw_1614) rfl rfl rfl (by decide +kernel) ⟨by decide, by decide⟩) (pp_V (en_ok g) (q0 := 0) hK hP hD hS hA hE [0, 1, 2, 3, 4, 5] rfl rfl rfl rfl) rfl rfl hl.1 rfl (lv_room (Nat.le_of_ble_eq_true rfl)) dMH_message_47 ⟨by omega, by omega⟩) (fun  u29 H locs hu25 hP hD hS => ?_)
  obtain ⟨u30, pl⟩ := u29
  obtain ⟨hq25, hO⟩ := hu25
  obtain ⟨ps26, f38, f39, f40⟩ := u30
  have hP : va_P g.1 vcl ([(r21, .inr (9, [.ref am21, .ref am22, .ref am23, .ref am24, .ref am25, .int (nI 136), .int (nI ps26), .int (nI 31)])), (am21, .inl (g.2.1 2, 25, .inr (.inl f38))), (am22, .inl (g.2.1 2, 25, .inr (.inl f39))), (am23, .inl (g.2.1 2, 5, .inr (.inl f40))), (am24, .inl (g.2.1 2, 24, .inr (.inl f24))), (am25, .inl (g.2.1 0, 25, .inl f25))] ++ pl) _ := hP
  have hD : va_D _ ([(r21, .inr (9, [.ref am21, .ref am22, .ref am23, .ref am24, .ref am25, .int (nI 136), .int (nI ps26), .int (nI 31)])), (am21, .inl (g.2.1 2, 25, .inr (.inl f38))), (am22, .inl (g.2.1 2, 25, .inr (.inl f39))), (am23, .inl (g.2.1 2, 5, .inr (.inl f40))), (am24, .inl (g.2.1 2, 24, .inr (.inl f24))), (am25, .inl (g.2.1 0, 25, .inl f25))] ++ pl) := hD
  have hq25 : ps26 ≤ 136 := hq25
  refine W.widen (k := 0) (n := 0) (by omega) (by omega) ?_
  refine lv_aload_n hx hb dMH_message_50 rfl (lv_at hl 0 rfl) ?_
  refine ty_get (ci := 12) (C := "LatticeKeysModel$Hands") (TT := T_MH) (N := 31) (kd := (48, 0)) hx hb hts (wg_ft i_MH) hown hK hO k_h0 (nxg (clo_cons (clo_cons (clo_cons (clo_cons (clo_cons (clo_cons hc0 kr21 (by decide)) km21 (by decide)) km22 (by decide)) km23 (by decide)) km24 (by decide)) km25 (by decide)) k_h0 rfl) hP (fun _ h9 => h9) rfl 0 (by decide) (hts _ (wg_t kw_1432)) (fun _ h9 => h9) (cd := (3, 20, 0)) rfl dMH_message_51 (fun v26 hv26 => ?_)
  obtain ⟨r26, rfl, kr26⟩ := (show ∃ r : Nat, v26 = .ref r ∧ T r = some (20, 0) from hv26)
  obtain rfl : r21 = r26 := hU _ _ _ (by decide) kr21 kr26
  refine mp_v (cx := [(r21, .inr (9, [.ref am21, .ref am22, .ref am23, .ref am24, .ref am25, .int (nI 136), .int (nI ps26), .int (nI 31)])), (am21, .inl (g.2.1 2, 25, .inr (.inl f38))), (am22, .inl (g.2.1 2, 25, .inr (.inl f39))), (am23, .inl (g.2.1 2, 5, .inr (.inl f40))), (am24, .inl (g.2.1 2, 24, .inr (.inl f24))), (am25, .inl (g.2.1 0, 25, .inl f25))]) (wr := []) hP hD hS hA [0, 1, 2, 3, 4, 5] [] rfl rfl rfl (by decide) (va_runV (As := []) (rest := []) F (t_MS_end l g _ T (am25 :: (am24 :: (am23 :: (am22 :: (am21 :: (r21 :: xs)))))) pl hO hU  r21 am21 am22 am23 am24 am25 136 ps26 (nI 31) f38 f39 f40 f24 f25 (by omega) (by omega)) (cwV 0 hts (wg_app (wg_c kw_1721 (wg_c kw_1634 (wg_c kw_1635 (wg_c kw_10 wg_n)))) kw_1636) rfl rfl rfl (by decide +kernel) ⟨by decide, by decide⟩) (pp_V (en_ok g) (q0 := 0) hK hP hD hS hA hE [0, 1, 2, 3, 4, 5] rfl rfl rfl rfl) rfl rfl hl.1 rfl (lv_room (Nat.le_of_ble_eq_true rfl)) dMH_message_54 ⟨by omega, by omega⟩) (fun  u31 H locs hu26 hP hD hS => ?_)
  obtain ⟨u32, pl⟩ := u31
  obtain ⟨hq26, hO⟩ := hu26
  obtain ⟨ps27, f41, f42, f43⟩ := u32
  have hP : va_P g.1 vcl ([(r21, .inr (9, [.ref am21, .ref am22, .ref am23, .ref am24, .ref am25, .int (nI 136), .int (nI ps27), .int (nI 31)])), (am21, .inl (g.2.1 2, 25, .inr (.inl f41))), (am22, .inl (g.2.1 2, 25, .inr (.inl f42))), (am23, .inl (g.2.1 2, 5, .inr (.inl f43))), (am24, .inl (g.2.1 2, 24, .inr (.inl f24))), (am25, .inl (g.2.1 0, 25, .inl f25))] ++ pl) _ := hP
  have hD : va_D _ ([(r21, .inr (9, [.ref am21, .ref am22, .ref am23, .ref am24, .ref am25, .int (nI 136), .int (nI ps27), .int (nI 31)])), (am21, .inl (g.2.1 2, 25, .inr (.inl f41))), (am22, .inl (g.2.1 2, 25, .inr (.inl f42))), (am23, .inl (g.2.1 2, 5, .inr (.inl f43))), (am24, .inl (g.2.1 2, 24, .inr (.inl f24))), (am25, .inl (g.2.1 0, 25, .inl f25))] ++ pl) := hD
  have hq26 : ps27 ≤ 136 := hq26
  refine W.widen (k := 0) (n := 0) (by omega) (by omega) ?_
  refine lv_aload_n hx hb dMH_message_57 rfl (lv_at hl 0 rfl) ?_
  refine ty_get (ci := 12) (C := "LatticeKeysModel$Hands") (TT := T_MH) (N := 31) (kd := (48, 0)) hx hb hts (wg_ft i_MH) hown hK hO k_h0 (nxg (clo_cons (clo_cons (clo_cons (clo_cons (clo_cons (clo_cons hc0 kr21 (by decide)) km21 (by decide)) km22 (by decide)) km23 (by decide)) km24 (by decide)) km25 (by decide)) k_h0 rfl) hP (fun _ h9 => h9) rfl 0 (by decide) (hts _ (wg_t kw_1432)) (fun _ h9 => h9) (cd := (3, 20, 0)) rfl dMH_message_58 (fun v27 hv27 => ?_)
  obtain ⟨r27, rfl, kr27⟩ := (show ∃ r : Nat, v27 = .ref r ∧ T r = some (20, 0) from hv27)
  obtain rfl : r21 = r27 := hU _ _ _ (by decide) kr21 kr27
  refine lv_aload_n hx hb dMH_message_61 rfl (lv_at hl 0 rfl) ?_
  refine ty_get (ci := 12) (C := "LatticeKeysModel$Hands") (TT := T_MH) (N := 31) (kd := (48, 0)) hx hb hts (wg_ft i_MH) hown hK hO k_h0 (nxg (clo_cons (clo_cons (clo_cons (clo_cons (clo_cons (clo_cons hc0 kr21 (by decide)) km21 (by decide)) km22 (by decide)) km23 (by decide)) km24 (by decide)) km25 (by decide)) k_h0 rfl) hP (fun _ h9 => h9) rfl 17 (by decide) (hts _ (wg_t kw_1449)) (fun _ h9 => h9) (cd := (3, 1, 64)) rfl dMH_message_62 (fun v28 hv28 => ?_)
  obtain ⟨r28, rfl, kr28⟩ := (show ∃ r : Nat, v28 = .ref r ∧ T r = some (1, 64) from hv28)
  refine lv_iconst (v := nI 0) hx hb dMH_message_65 (by decide) ?_
  refine lv_bipush (v := nI 64) hx hb dMH_message_66 (by decide) ?_
  refine mp_v (cx := [(r21, .inr (9, [.ref am21, .ref am22, .ref am23, .ref am24, .ref am25, .int (nI 136), .int (nI ps27), .int (nI 31)])), (am21, .inl (g.2.1 2, 25, .inr (.inl f41))), (am22, .inl (g.2.1 2, 25, .inr (.inl f42))), (am23, .inl (g.2.1 2, 5, .inr (.inl f43))), (am24, .inl (g.2.1 2, 24, .inr (.inl f24))), (am25, .inl (g.2.1 0, 25, .inl f25))]) (wr := []) hP hD hS hA [0, 1, 2, 3, 4, 5] [] rfl rfl rfl (by decide) (va_runV (As := [.ref r28, .int (nI 0), .int (nI 64)]) (rest := []) F (t_MS_take l g _ T (am25 :: (am24 :: (am23 :: (am22 :: (am21 :: (r21 :: xs)))))) pl hO hU (clo_cons (clo_cons (clo_cons (clo_cons (clo_cons (clo_cons hc0 kr21 (by decide)) km21 (by decide)) km22 (by decide)) km23 (by decide)) km24 (by decide)) km25 (by decide)) r28 64 0 64 r21 am21 am22 am23 am24 am25 136 ps27 (nI 31) f41 f42 f43 f24 f25 kr28 (by omega) (by omega) (by omega) (by omega)) (cwV 3 hts (wg_app (wg_c kw_1722 (wg_c kw_1638 (wg_c kw_1639 (wg_c kw_10 wg_n)))) kw_1640) rfl rfl rfl (by decide +kernel) ⟨by decide, by decide⟩) (pp_V (en_ok g) (q0 := 0) hK hP hD hS hA hE [0, 1, 2, 3, 4, 5] rfl rfl rfl rfl) rfl rfl hl.1 rfl (lv_room (Nat.le_of_ble_eq_true rfl)) dMH_message_68 ⟨by omega, by omega⟩) (fun  u33 H locs hu27 hP hD hS => ?_)
  obtain ⟨u34, pl⟩ := u33
  obtain ⟨hq27, hO⟩ := hu27
  obtain ⟨ps28, f44, f45, f46⟩ := u34
  have hP : va_P g.1 vcl ([(r21, .inr (9, [.ref am21, .ref am22, .ref am23, .ref am24, .ref am25, .int (nI 136), .int (nI ps28), .int (nI 31)])), (am21, .inl (g.2.1 2, 25, .inr (.inl f44))), (am22, .inl (g.2.1 2, 25, .inr (.inl f45))), (am23, .inl (g.2.1 2, 5, .inr (.inl f46))), (am24, .inl (g.2.1 2, 24, .inr (.inl f24))), (am25, .inl (g.2.1 0, 25, .inl f25))] ++ pl) _ := hP
  have hD : va_D _ ([(r21, .inr (9, [.ref am21, .ref am22, .ref am23, .ref am24, .ref am25, .int (nI 136), .int (nI ps28), .int (nI 31)])), (am21, .inl (g.2.1 2, 25, .inr (.inl f44))), (am22, .inl (g.2.1 2, 25, .inr (.inl f45))), (am23, .inl (g.2.1 2, 5, .inr (.inl f46))), (am24, .inl (g.2.1 2, 24, .inr (.inl f24))), (am25, .inl (g.2.1 0, 25, .inl f25))] ++ pl) := hD
  have hq27 : ps28 ≤ 136 := hq27
  refine W.widen (k := 0) (n := 0) (by omega) (by omega) ?_
  have hO := close1 (e := .inl (g.2.1 0, 25, .inl f25)) hO km25 ⟨_, rfl⟩
  have hO := close1 (e := .inl (g.2.1 2, 24, .inr (.inl f24))) hO km24 ⟨_, rfl⟩
  have hO := close1 (e := .inl (g.2.1 2, 5, .inr (.inl f46))) hO km23 ⟨_, rfl⟩
  have hO := close1 (e := .inl (g.2.1 2, 25, .inr (.inl f45))) hO km22 ⟨_, rfl⟩
  have hO := close1 (e := .inl (g.2.1 2, 25, .inr (.inl f44))) hO km21 ⟨_, rfl⟩
  have hO := close1 (e := .inr (9, [.ref am21, .ref am22, .ref am23, .ref am24, .ref am25, .int (nI 136), .int (nI ps28), .int (nI 31)])) hO kr21 ⟨_, _, _, _, _, _, _, _, rfl, km21, km22, km23, km24, km25, by omega, by omega, by omega⟩
  have hO : okx g T xs ((r21, .inr (9, [.ref am21, .ref am22, .ref am23, .ref am24, .ref am25, .int (nI 136), .int (nI ps28), .int (nI 31)])) :: (am21, .inl (g.2.1 2, 25, .inr (.inl f44))) :: (am22, .inl (g.2.1 2, 25, .inr (.inl f45))) :: (am23, .inl (g.2.1 2, 5, .inr (.inl f46))) :: (am24, .inl (g.2.1 2, 24, .inr (.inl f24))) :: (am25, .inl (g.2.1 0, 25, .inl f25)) :: pl) := hO
  have hP : va_P g.1 vcl ([] ++ ((r21, .inr (9, [.ref am21, .ref am22, .ref am23, .ref am24, .ref am25, .int (nI 136), .int (nI ps28), .int (nI 31)])) :: (am21, .inl (g.2.1 2, 25, .inr (.inl f44))) :: (am22, .inl (g.2.1 2, 25, .inr (.inl f45))) :: (am23, .inl (g.2.1 2, 5, .inr (.inl f46))) :: (am24, .inl (g.2.1 2, 24, .inr (.inl f24))) :: (am25, .inl (g.2.1 0, 25, .inl f25)) :: pl)) _ := hP
  have hD : va_D _ ([] ++ ((r21, .inr (9, [.ref am21, .ref am22, .ref am23, .ref am24, .ref am25, .int (nI 136), .int (nI ps28), .int (nI 31)])) :: (am21, .inl (g.2.1 2, 25, .inr (.inl f44))) :: (am22, .inl (g.2.1 2, 25, .inr (.inl f45))) :: (am23, .inl (g.2.1 2, 5, .inr (.inl f46))) :: (am24, .inl (g.2.1 2, 24, .inr (.inl f24))) :: (am25, .inl (g.2.1 0, 25, .inl f25)) :: pl)) := hD
  generalize ((r21, .inr (9, [.ref am21, .ref am22, .ref am23, .ref am24, .ref am25, .int (nI 136), .int (nI ps28), .int (nI 31)])) :: (am21, .inl (g.2.1 2, 25, .inr (.inl f44))) :: (am22, .inl (g.2.1 2, 25, .inr (.inl f45))) :: (am23, .inl (g.2.1 2, 5, .inr (.inl f46))) :: (am24, .inl (g.2.1 2, 24, .inr (.inl f24))) :: (am25, .inl (g.2.1 0, 25, .inl f25)) :: pl) = pl at hO hP hD
  exact mp_vret hx hb hr hlk hP hD hS pl ⟨trivial, hO⟩ [] rfl rfl rfl (by omega) (by omega) dMH_message_71
set_option maxHeartbeats 400000 in
set_option maxRecDepth 100000 in
theorem t_MH_mask_0 (l : Launch) (g : Gd) (sz : Nat) (T : Ty) (xs : List Nat) (pl : va_W) (hO : okx g T xs pl) (hU : uni T) (hc0 : clo T xs 0) (hc9 : clo T xs 9) (h0 : Nat) (fr : Int32) (k_h0 : T h0 = some (46, 0))  : Met l y_MH_mask w_MH_mask ({ frames := 4, cells := 0, slots := 0, locals := 98 } : Room) (va_Pc [.ref h0, .int fr] (pr (en g) g.1 vcl sz ([] ++ pl))) (va_Qv (fun (u : va_W) => (True) ∧ okx g T xs u) (po g.1 vcl (va_A ([] ++ pl) sz) (fun (u : va_W) => [] ++ u)) (va_A ([] ++ pl) sz)) 0 0 (va_A ([] ++ pl) sz) := by
  refine mc_entry (cc := c_MH_mask) (maxL := 5) (ret := none) (by decide) rfl (Nat.le_of_ble_eq_true rfl) ?_
  intro p e s m args below meth c ls F hr hlk hnm hsz hP hD hE hA hl
  obtain ⟨hx, hb, hml, hown, hts⟩ := id F
  have hK := hE.1
  generalize va_A ([] ++ pl) sz = A at hD hE hA ⊢
  have hS : va_S A s.heap s.heap [] := va_S.rf
  have hl : lv_has ls 5 [(0, .ref h0), (1, .int fr)] := hl
  refine lv_aload_n hx hb dMH_mask_0 rfl (lv_at hl 0 rfl) ?_
  refine ty_get (ci := 12) (C := "LatticeKeysModel$Hands") (TT := T_MH) (N := 31) (kd := (46, 0)) hx hb hts (wg_ft i_MH) hown hK hO k_h0 (nxg hc0 k_h0 rfl) hP (fun _ h9 => h9) rfl 23 (by decide) (hts _ (wg_t kw_1455)) (fun _ h9 => h9) (cd := (1, 0, 0)) rfl dMH_mask_1 (fun v21 hv21 => ?_)
  obtain rfl := (show v21 = .int (nI 0) from hv21)
  refine lv_if_ne (tgt := 12) hx hb dMH_mask_4 (by decide) (fun h21 => absurd h21 (by decide)) (fun h21 => ?_)
  refine lv_bipush (v := nI 18) hx hb dMH_mask_7 (by decide) ?_
  refine lv_goto (tgt := 14) hx hb dMH_mask_9 (by decide) ?_
  refine lv_istore_n (lv' := [(2, .int (nI 18)), (0, .ref h0), (1, .int fr)]) hx hb dMH_mask_14 rfl hl (by decide) rfl (fun ls hl => ?_)
  refine lv_iconst (v := nI 0) hx hb dMH_mask_15 (by decide) ?_
  refine lv_istore_n (lv' := [(3, .int (nI 0)), (2, .int (nI 18)), (0, .ref h0), (1, .int fr)]) hx hb dMH_mask_16 rfl hl (by decide) rfl (fun ls hl => ?_)
  have lp21 : ∀ (n21 : Nat) (i21 : Nat) (pl : va_W) (ls : Array Slot) (H : Heap) (locs : List Loc), n21 + i21 = 4 → lv_has ls 5 [(3, .int (nI i21)), (2, .int (nI 18)), (0, .ref h0), (1, .int fr)] → okx g T xs pl → va_P g.1 vcl ([] ++ pl) H → va_D A ([] ++ pl) → va_S A s.heap H locs → W p l e ({ frames := 4, cells := 0, slots := 0, locals := 98 } : Room) s m args below meth c H locs 0 0 (MQ below (va_Qv (fun (u : va_W) => (True) ∧ okx g T xs u) (po g.1 vcl A (fun (u : va_W) => [] ++ u)) A) args s 0 0 A) (F0 m 17 ls []) := by
    intro n21
    induction n21 with
    | zero =>
      intro i21 pl ls H locs hm21  hl hO hP hD hS
      refine lv_iload_n hx hb dMH_mask_17 rfl (lv_at hl 0 rfl) ?_
      refine lv_aload_n hx hb dMH_mask_18 rfl (lv_at hl 2 rfl) ?_
      refine ty_get (ci := 12) (C := "LatticeKeysModel$Hands") (TT := T_MH) (N := 31) (kd := (46, 0)) hx hb hts (wg_ft i_MH) hown hK hO k_h0 (nxg hc0 k_h0 rfl) hP (fun _ h9 => h9) rfl 25 (by decide) (hts _ (wg_t kw_1457)) (fun _ h9 => h9) (cd := (1, 0, 4)) rfl dMH_mask_19 (fun v22 hv22 => ?_)
      obtain rfl := (show v22 = .int (nI 4) from hv22)
      refine mi_ge (tgt := 143) hx hb dMH_mask_22 (by decide) (by omega) (by omega) (fun h22 => ?_) (fun h22 => absurd h22 (by omega))
      exact mp_vret hx hb hr hlk hP hD hS pl ⟨trivial, hO⟩ [] rfl rfl rfl (by omega) (by omega) dMH_mask_143
    | succ n21 ih21 =>
      intro i21 pl ls H locs hm21  hl hO hP hD hS
      refine lv_iload_n hx hb dMH_mask_17 rfl (lv_at hl 0 rfl) ?_
      refine lv_aload_n hx hb dMH_mask_18 rfl (lv_at hl 2 rfl) ?_
      refine ty_get (ci := 12) (C := "LatticeKeysModel$Hands") (TT := T_MH) (N := 31) (kd := (46, 0)) hx hb hts (wg_ft i_MH) hown hK hO k_h0 (nxg hc0 k_h0 rfl) hP (fun _ h9 => h9) rfl 25 (by decide) (hts _ (wg_t kw_1457)) (fun _ h9 => h9) (cd := (1, 0, 4)) rfl dMH_mask_19 (fun v23 hv23 => ?_)
      obtain rfl := (show v23 = .int (nI 4) from hv23)
      refine mi_ge (tgt := 143) hx hb dMH_mask_22 (by decide) (by omega) (by omega) (fun h23 => absurd h23 (by omega)) (fun h23 => ?_)
      refine lv_aload_n hx hb dMH_mask_25 rfl (lv_at hl 2 rfl) ?_
      refine ty_get (ci := 12) (C := "LatticeKeysModel$Hands") (TT := T_MH) (N := 31) (kd := (46, 0)) hx hb hts (wg_ft i_MH) hown hK hO k_h0 (nxg hc0 k_h0 rfl) hP (fun _ h9 => h9) rfl 0 (by decide) (hts _ (wg_t kw_1432)) (fun _ h9 => h9) (cd := (3, 20, 0)) rfl dMH_mask_26 (fun v24 hv24 => ?_)
      obtain ⟨r21, rfl, kr21⟩ := (show ∃ r : Nat, v24 = .ref r ∧ T r = some (20, 0) from hv24)
      obtain ⟨e21, pl, hP, hD, hk21, hO⟩ := open1 hP hD hO kr21 (nxg hc9 kr21 rfl)
      obtain ⟨am21, am22, am23, am24, am25, rt21, ps21, x21, rfl, km21, km22, km23, km24, km25, hr21, hr22, hr23⟩ := hk21
      obtain ⟨e22, pl, hP, hD, hk22, hO⟩ := open1 hP hD hO km21 (nmc (knd_ne km21 kr21 (by decide)) (nxg hc9 km21 rfl))
      obtain ⟨f21, rfl⟩ := hk22
      obtain ⟨e23, pl, hP, hD, hk23, hO⟩ := open1 hP hD hO km22 (nmc (knd_ne km22 km21 (by decide)) (nmc (knd_ne km22 kr21 (by decide)) (nxg hc9 km22 rfl)))
      obtain ⟨f22, rfl⟩ := hk23
      obtain ⟨e24, pl, hP, hD, hk24, hO⟩ := open1 hP hD hO km23 (nmc (knd_ne km23 km22 (by decide)) (nmc (knd_ne km23 km21 (by decide)) (nmc (knd_ne km23 kr21 (by decide)) (nxg hc9 km23 rfl))))
      obtain ⟨f23, rfl⟩ := hk24
      obtain ⟨e25, pl, hP, hD, hk25, hO⟩ := open1 hP hD hO km24 (nmc (knd_ne km24 km23 (by decide)) (nmc (knd_ne km24 km22 (by decide)) (nmc (knd_ne km24 km21 (by decide)) (nmc (knd_ne km24 kr21 (by decide)) (nxg hc9 km24 rfl)))))
      obtain ⟨f24, rfl⟩ := hk25
      obtain ⟨e26, pl, hP, hD, hk26, hO⟩ := open1 hP hD hO km25 (nmc (knd_ne km25 km24 (by decide)) (nmc (knd_ne km25 km23 (by decide)) (nmc (knd_ne km25 km22 (by decide)) (nmc (knd_ne km25 km21 (by decide)) (nmc (knd_ne km25 kr21 (by decide)) (nxg hc9 km25 rfl))))))
      obtain ⟨f25, rfl⟩ := hk26
      have hP : va_P g.1 vcl ([(r21, .inr (9, [.ref am21, .ref am22, .ref am23, .ref am24, .ref am25, .int (nI rt21), .int (nI ps21), .int x21])), (am21, .inl (g.2.1 2, 25, .inr (.inl f21))), (am22, .inl (g.2.1 2, 25, .inr (.inl f22))), (am23, .inl (g.2.1 2, 5, .inr (.inl f23))), (am24, .inl (g.2.1 2, 24, .inr (.inl f24))), (am25, .inl (g.2.1 0, 25, .inl f25))] ++ pl) _ := hP
      have hD : va_D _ ([(r21, .inr (9, [.ref am21, .ref am22, .ref am23, .ref am24, .ref am25, .int (nI rt21), .int (nI ps21), .int x21])), (am21, .inl (g.2.1 2, 25, .inr (.inl f21))), (am22, .inl (g.2.1 2, 25, .inr (.inl f22))), (am23, .inl (g.2.1 2, 5, .inr (.inl f23))), (am24, .inl (g.2.1 2, 24, .inr (.inl f24))), (am25, .inl (g.2.1 0, 25, .inl f25))] ++ pl) := hD
      refine mp_v (cx := [(r21, .inr (9, [.ref am21, .ref am22, .ref am23, .ref am24, .ref am25, .int (nI rt21), .int (nI ps21), .int x21])), (am21, .inl (g.2.1 2, 25, .inr (.inl f21))), (am22, .inl (g.2.1 2, 25, .inr (.inl f22))), (am23, .inl (g.2.1 2, 5, .inr (.inl f23))), (am24, .inl (g.2.1 2, 24, .inr (.inl f24))), (am25, .inl (g.2.1 0, 25, .inl f25))]) (wr := []) hP hD hS hA [0, 1, 2, 3, 4, 5] [] rfl rfl rfl (by decide) (va_runV (As := []) (rest := []) F (t_MS_shake l g _ T (am25 :: (am24 :: (am23 :: (am22 :: (am21 :: (r21 :: xs)))))) pl hO hU  r21 am21 am22 am23 am24 am25 rt21 ps21 x21 f21 f22 f23 f24 f25) (cwV 0 hts (wg_app (wg_c kw_1718 (wg_c kw_1661 (wg_c kw_1662 (wg_c kw_10 wg_n)))) kw_1663) rfl rfl rfl (by decide +kernel) ⟨by decide, by decide⟩) (pp_V (en_ok g) (q0 := 0) hK hP hD hS hA hE [0, 1, 2, 3, 4, 5] rfl rfl rfl rfl) rfl rfl hl.1 rfl (lv_room (Nat.le_of_ble_eq_true rfl)) dMH_mask_29 ⟨by omega, by omega⟩) (fun  u21 H locs hu21 hP hD hS => ?_)
      obtain ⟨u22, pl⟩ := u21
      obtain ⟨hq21, hO⟩ := hu21
      obtain ⟨ps22, f26, f27, f28⟩ := u22
      have hP : va_P g.1 vcl ([(r21, .inr (9, [.ref am21, .ref am22, .ref am23, .ref am24, .ref am25, .int (nI 136), .int (nI ps22), .int (nI 31)])), (am21, .inl (g.2.1 2, 25, .inr (.inl f26))), (am22, .inl (g.2.1 2, 25, .inr (.inl f27))), (am23, .inl (g.2.1 2, 5, .inr (.inl f28))), (am24, .inl (g.2.1 2, 24, .inr (.inl f24))), (am25, .inl (g.2.1 0, 25, .inl f25))] ++ pl) _ := hP
      have hD : va_D _ ([(r21, .inr (9, [.ref am21, .ref am22, .ref am23, .ref am24, .ref am25, .int (nI 136), .int (nI ps22), .int (nI 31)])), (am21, .inl (g.2.1 2, 25, .inr (.inl f26))), (am22, .inl (g.2.1 2, 25, .inr (.inl f27))), (am23, .inl (g.2.1 2, 5, .inr (.inl f28))), (am24, .inl (g.2.1 2, 24, .inr (.inl f24))), (am25, .inl (g.2.1 0, 25, .inl f25))] ++ pl) := hD
      have hq21 : ps22 ≤ 136 := hq21
      refine W.widen (k := 0) (n := 0) (by omega) (by omega) ?_
      refine lv_aload_n hx hb dMH_mask_32 rfl (lv_at hl 2 rfl) ?_
      refine ty_get (ci := 12) (C := "LatticeKeysModel$Hands") (TT := T_MH) (N := 31) (kd := (46, 0)) hx hb hts (wg_ft i_MH) hown hK hO k_h0 (nxg (clo_cons (clo_cons (clo_cons (clo_cons (clo_cons (clo_cons hc0 kr21 (by decide)) km21 (by decide)) km22 (by decide)) km23 (by decide)) km24 (by decide)) km25 (by decide)) k_h0 rfl) hP (fun _ h9 => h9) rfl 0 (by decide) (hts _ (wg_t kw_1432)) (fun _ h9 => h9) (cd := (3, 20, 0)) rfl dMH_mask_33 (fun v25 hv25 => ?_)
      obtain ⟨r22, rfl, kr22⟩ := (show ∃ r : Nat, v25 = .ref r ∧ T r = some (20, 0) from hv25)
      obtain rfl : r21 = r22 := hU _ _ _ (by decide) kr21 kr22
      refine lv_aload_n hx hb dMH_mask_36 rfl (lv_at hl 2 rfl) ?_
      refine ty_get (ci := 12) (C := "LatticeKeysModel$Hands") (TT := T_MH) (N := 31) (kd := (46, 0)) hx hb hts (wg_ft i_MH) hown hK hO k_h0 (nxg (clo_cons (clo_cons (clo_cons (clo_cons (clo_cons (clo_cons hc0 kr21 (by decide)) km21 (by decide)) km22 (by decide)) km23 (by decide)) km24 (by decide)) km25 (by decide)) k_h0 rfl) hP (fun _ h9 => h9) rfl 18 (by decide) (hts _ (wg_t kw_1450)) (fun _ h9 => h9) (cd := (3, 1, 64)) rfl dMH_mask_37 (fun v26 hv26 => ?_)
      obtain ⟨r23, rfl, kr23⟩ := (show ∃ r : Nat, v26 = .ref r ∧ T r = some (1, 64) from hv26)
      refine lv_iconst (v := nI 0) hx hb dMH_mask_40 (by decide) ?_
      refine lv_bipush (v := nI 64) hx hb dMH_mask_41 (by decide) ?_
      refine mp_v (cx := [(r21, .inr (9, [.ref am21, .ref am22, .ref am23, .ref am24, .ref am25, .int (nI 136), .int (nI ps22), .int (nI 31)])), (am21, .inl (g.2.1 2, 25, .inr (.inl f26))), (am22, .inl (g.2.1 2, 25, .inr (.inl f27))), (am23, .inl (g.2.1 2, 5, .inr (.inl f28))), (am24, .inl (g.2.1 2, 24, .inr (.inl f24))), (am25, .inl (g.2.1 0, 25, .inl f25))]) (wr := []) hP hD hS hA [0, 1, 2, 3, 4, 5] [] rfl rfl rfl (by decide) (va_runV (As := [.ref r23, .int (nI 0), .int (nI 64)]) (rest := []) F (t_MS_puts l g _ T (am25 :: (am24 :: (am23 :: (am22 :: (am21 :: (r21 :: xs)))))) pl hO hU (clo_cons (clo_cons (clo_cons (clo_cons (clo_cons (clo_cons hc0 kr21 (by decide)) km21 (by decide)) km22 (by decide)) km23 (by decide)) km24 (by decide)) km25 (by decide)) r23 64 0 64 r21 am21 am22 am23 am24 am25 136 ps22 (nI 31) f26 f27 f28 f24 f25 kr23 (by omega) (by omega) (by omega) (by omega)) (cwV 3 hts (wg_app (wg_c kw_1719 (wg_c kw_1612 (wg_c kw_1613 (wg_c kw_10 wg_n)))) kw_1614) rfl rfl rfl (by decide +kernel) ⟨by decide, by decide⟩) (pp_V (en_ok g) (q0 := 0) hK hP hD hS hA hE [0, 1, 2, 3, 4, 5] rfl rfl rfl rfl) rfl rfl hl.1 rfl (lv_room (Nat.le_of_ble_eq_true rfl)) dMH_mask_43 ⟨by omega, by omega⟩) (fun  u23 H locs hu22 hP hD hS => ?_)
      obtain ⟨u24, pl⟩ := u23
      obtain ⟨hq22, hO⟩ := hu22
      obtain ⟨ps23, f29, f30, f31⟩ := u24
      have hP : va_P g.1 vcl ([(r21, .inr (9, [.ref am21, .ref am22, .ref am23, .ref am24, .ref am25, .int (nI 136), .int (nI ps23), .int (nI 31)])), (am21, .inl (g.2.1 2, 25, .inr (.inl f29))), (am22, .inl (g.2.1 2, 25, .inr (.inl f30))), (am23, .inl (g.2.1 2, 5, .inr (.inl f31))), (am24, .inl (g.2.1 2, 24, .inr (.inl f24))), (am25, .inl (g.2.1 0, 25, .inl f25))] ++ pl) _ := hP
      have hD : va_D _ ([(r21, .inr (9, [.ref am21, .ref am22, .ref am23, .ref am24, .ref am25, .int (nI 136), .int (nI ps23), .int (nI 31)])), (am21, .inl (g.2.1 2, 25, .inr (.inl f29))), (am22, .inl (g.2.1 2, 25, .inr (.inl f30))), (am23, .inl (g.2.1 2, 5, .inr (.inl f31))), (am24, .inl (g.2.1 2, 24, .inr (.inl f24))), (am25, .inl (g.2.1 0, 25, .inl f25))] ++ pl) := hD
      have hq22 : ps23 ≤ 136 := hq22
      refine W.widen (k := 0) (n := 0) (by omega) (by omega) ?_
      refine lv_aload_n hx hb dMH_mask_46 rfl (lv_at hl 2 rfl) ?_
      refine ty_get (ci := 12) (C := "LatticeKeysModel$Hands") (TT := T_MH) (N := 31) (kd := (46, 0)) hx hb hts (wg_ft i_MH) hown hK hO k_h0 (nxg (clo_cons (clo_cons (clo_cons (clo_cons (clo_cons (clo_cons hc0 kr21 (by decide)) km21 (by decide)) km22 (by decide)) km23 (by decide)) km24 (by decide)) km25 (by decide)) k_h0 rfl) hP (fun _ h9 => h9) rfl 0 (by decide) (hts _ (wg_t kw_1432)) (fun _ h9 => h9) (cd := (3, 20, 0)) rfl dMH_mask_47 (fun v27 hv27 => ?_)
      obtain ⟨r24, rfl, kr24⟩ := (show ∃ r : Nat, v27 = .ref r ∧ T r = some (20, 0) from hv27)
      obtain rfl : r21 = r24 := hU _ _ _ (by decide) kr21 kr24
      refine lv_iload_n hx hb dMH_mask_50 rfl (lv_at hl 3 rfl) ?_
      refine lv_iload_n hx hb dMH_mask_51 rfl (lv_at hl 0 rfl) ?_
      refine lv_iadd hx hb dMH_mask_52 ?_
      refine mi_any (fun z21 => ?_)
      refine mp_v (cx := [(r21, .inr (9, [.ref am21, .ref am22, .ref am23, .ref am24, .ref am25, .int (nI 136), .int (nI ps23), .int (nI 31)])), (am21, .inl (g.2.1 2, 25, .inr (.inl f29))), (am22, .inl (g.2.1 2, 25, .inr (.inl f30))), (am23, .inl (g.2.1 2, 5, .inr (.inl f31))), (am24, .inl (g.2.1 2, 24, .inr (.inl f24))), (am25, .inl (g.2.1 0, 25, .inl f25))]) (wr := []) hP hD hS hA [0, 1, 2, 3, 4, 5] [] rfl rfl rfl (by decide) (va_runV (As := [.int z21]) (rest := []) F (t_MS_put l g _ T (am25 :: (am24 :: (am23 :: (am22 :: (am21 :: (r21 :: xs)))))) pl hO hU  z21 r21 am21 am22 am23 am24 am25 136 ps23 (nI 31) f29 f30 f31 f24 f25 (by omega) (by omega)) (cwV 1 hts (wg_app (wg_c kw_1720 (wg_c kw_1616 (wg_c kw_1617 (wg_c kw_10 wg_n)))) kw_1618) rfl rfl rfl (by decide +kernel) ⟨by decide, by decide⟩) (pp_V (en_ok g) (q0 := 0) hK hP hD hS hA hE [0, 1, 2, 3, 4, 5] rfl rfl rfl rfl) rfl rfl hl.1 rfl (lv_room (Nat.le_of_ble_eq_true rfl)) dMH_mask_53 ⟨by omega, by omega⟩) (fun  u25 H locs hu23 hP hD hS => ?_)
      obtain ⟨u26, pl⟩ := u25
      obtain ⟨hq23, hO⟩ := hu23
      obtain ⟨ps24, f32, f33, f34⟩ := u26
      have hP : va_P g.1 vcl ([(r21, .inr (9, [.ref am21, .ref am22, .ref am23, .ref am24, .ref am25, .int (nI 136), .int (nI ps24), .int (nI 31)])), (am21, .inl (g.2.1 2, 25, .inr (.inl f32))), (am22, .inl (g.2.1 2, 25, .inr (.inl f33))), (am23, .inl (g.2.1 2, 5, .inr (.inl f34))), (am24, .inl (g.2.1 2, 24, .inr (.inl f24))), (am25, .inl (g.2.1 0, 25, .inl f25))] ++ pl) _ := hP
      have hD : va_D _ ([(r21, .inr (9, [.ref am21, .ref am22, .ref am23, .ref am24, .ref am25, .int (nI 136), .int (nI ps24), .int (nI 31)])), (am21, .inl (g.2.1 2, 25, .inr (.inl f32))), (am22, .inl (g.2.1 2, 25, .inr (.inl f33))), (am23, .inl (g.2.1 2, 5, .inr (.inl f34))), (am24, .inl (g.2.1 2, 24, .inr (.inl f24))), (am25, .inl (g.2.1 0, 25, .inl f25))] ++ pl) := hD
      have hq23 : ps24 ≤ 136 := hq23
      refine W.widen (k := 0) (n := 0) (by omega) (by omega) ?_
      refine lv_aload_n hx hb dMH_mask_56 rfl (lv_at hl 2 rfl) ?_
      refine ty_get (ci := 12) (C := "LatticeKeysModel$Hands") (TT := T_MH) (N := 31) (kd := (46, 0)) hx hb hts (wg_ft i_MH) hown hK hO k_h0 (nxg (clo_cons (clo_cons (clo_cons (clo_cons (clo_cons (clo_cons hc0 kr21 (by decide)) km21 (by decide)) km22 (by decide)) km23 (by decide)) km24 (by decide)) km25 (by decide)) k_h0 rfl) hP (fun _ h9 => h9) rfl 0 (by decide) (hts _ (wg_t kw_1432)) (fun _ h9 => h9) (cd := (3, 20, 0)) rfl dMH_mask_57 (fun v28 hv28 => ?_)
      obtain ⟨r25, rfl, kr25⟩ := (show ∃ r : Nat, v28 = .ref r ∧ T r = some (20, 0) from hv28)
      obtain rfl : r21 = r25 := hU _ _ _ (by decide) kr21 kr25
      refine lv_iload_n hx hb dMH_mask_60 rfl (lv_at hl 3 rfl) ?_
      refine lv_iload_n hx hb dMH_mask_61 rfl (lv_at hl 0 rfl) ?_
      refine lv_iadd hx hb dMH_mask_62 ?_
      refine mi_any (fun z22 => ?_)
      refine lv_bipush (v := nI 8) hx hb dMH_mask_63 (by decide) ?_
      refine lv_ishr hx hb dMH_mask_65 ?_
      refine mi_any (fun z23 => ?_)
      refine mp_v (cx := [(r21, .inr (9, [.ref am21, .ref am22, .ref am23, .ref am24, .ref am25, .int (nI 136), .int (nI ps24), .int (nI 31)])), (am21, .inl (g.2.1 2, 25, .inr (.inl f32))), (am22, .inl (g.2.1 2, 25, .inr (.inl f33))), (am23, .inl (g.2.1 2, 5, .inr (.inl f34))), (am24, .inl (g.2.1 2, 24, .inr (.inl f24))), (am25, .inl (g.2.1 0, 25, .inl f25))]) (wr := []) hP hD hS hA [0, 1, 2, 3, 4, 5] [] rfl rfl rfl (by decide) (va_runV (As := [.int z23]) (rest := []) F (t_MS_put l g _ T (am25 :: (am24 :: (am23 :: (am22 :: (am21 :: (r21 :: xs)))))) pl hO hU  z23 r21 am21 am22 am23 am24 am25 136 ps24 (nI 31) f32 f33 f34 f24 f25 (by omega) (by omega)) (cwV 1 hts (wg_app (wg_c kw_1720 (wg_c kw_1616 (wg_c kw_1617 (wg_c kw_10 wg_n)))) kw_1618) rfl rfl rfl (by decide +kernel) ⟨by decide, by decide⟩) (pp_V (en_ok g) (q0 := 0) hK hP hD hS hA hE [0, 1, 2, 3, 4, 5] rfl rfl rfl rfl) rfl rfl hl.1 rfl (lv_room (Nat.le_of_ble_eq_true rfl)) dMH_mask_66 ⟨by omega, by omega⟩) (fun  u27 H locs hu24 hP hD hS => ?_)
      obtain ⟨u28, pl⟩ := u27
      obtain ⟨hq24, hO⟩ := hu24
      obtain ⟨ps25, f35, f36, f37⟩ := u28
      have hP : va_P g.1 vcl ([(r21, .inr (9, [.ref am21, .ref am22, .ref am23, .ref am24, .ref am25, .int (nI 136), .int (nI ps25), .int (nI 31)])), (am21, .inl (g.2.1 2, 25, .inr (.inl f35))), (am22, .inl (g.2.1 2, 25, .inr (.inl f36))), (am23, .inl (g.2.1 2, 5, .inr (.inl f37))), (am24, .inl (g.2.1 2, 24, .inr (.inl f24))), (am25, .inl (g.2.1 0, 25, .inl f25))] ++ pl) _ := hP
      have hD : va_D _ ([(r21, .inr (9, [.ref am21, .ref am22, .ref am23, .ref am24, .ref am25, .int (nI 136), .int (nI ps25), .int (nI 31)])), (am21, .inl (g.2.1 2, 25, .inr (.inl f35))), (am22, .inl (g.2.1 2, 25, .inr (.inl f36))), (am23, .inl (g.2.1 2, 5, .inr (.inl f37))), (am24, .inl (g.2.1 2, 24, .inr (.inl f24))), (am25, .inl (g.2.1 0, 25, .inl f25))] ++ pl) := hD
      have hq24 : ps25 ≤ 136 := hq24
      refine W.widen (k := 0) (n := 0) (by omega) (by omega) ?_
      refine lv_aload_n hx hb dMH_mask_69 rfl (lv_at hl 2 rfl) ?_
      refine ty_get (ci := 12) (C := "LatticeKeysModel$Hands") (TT := T_MH) (N := 31) (kd := (46, 0)) hx hb hts (wg_ft i_MH) hown hK hO k_h0 (nxg (clo_cons (clo_cons (clo_cons (clo_cons (clo_cons (clo_cons hc0 kr21 (by decide)) km21 (by decide)) km22 (by decide)) km23 (by decide)) km24 (by decide)) km25 (by decide)) k_h0 rfl) hP (fun _ h9 => h9) rfl 0 (by decide) (hts _ (wg_t kw_1432)) (fun _ h9 => h9) (cd := (3, 20, 0)) rfl dMH_mask_70 (fun v29 hv29 => ?_)
      obtain ⟨r26, rfl, kr26⟩ := (show ∃ r : Nat, v29 = .ref r ∧ T r = some (20, 0) from hv29)
      obtain rfl : r21 = r26 := hU _ _ _ (by decide) kr21 kr26
      refine mp_v (cx := [(r21, .inr (9, [.ref am21, .ref am22, .ref am23, .ref am24, .ref am25, .int (nI 136), .int (nI ps25), .int (nI 31)])), (am21, .inl (g.2.1 2, 25, .inr (.inl f35))), (am22, .inl (g.2.1 2, 25, .inr (.inl f36))), (am23, .inl (g.2.1 2, 5, .inr (.inl f37))), (am24, .inl (g.2.1 2, 24, .inr (.inl f24))), (am25, .inl (g.2.1 0, 25, .inl f25))]) (wr := []) hP hD hS hA [0, 1, 2, 3, 4, 5] [] rfl rfl rfl (by decide) (va_runV (As := []) (rest := []) F (t_MS_end l g _ T (am25 :: (am24 :: (am23 :: (am22 :: (am21 :: (r21 :: xs)))))) pl hO hU  r21 am21 am22 am23 am24 am25 136 ps25 (nI 31) f35 f36 f37 f24 f25 (by omega) (by omega)) (cwV 0 hts (wg_app (wg_c kw_1721 (wg_c kw_1634 (wg_c kw_1635 (wg_c kw_10 wg_n)))) kw_1636) rfl rfl rfl (by decide +kernel) ⟨by decide, by decide⟩) (pp_V (en_ok g) (q0 := 0) hK hP hD hS hA hE [0, 1, 2, 3, 4, 5] rfl rfl rfl rfl) rfl rfl hl.1 rfl (lv_room (Nat.le_of_ble_eq_true rfl)) dMH_mask_73 ⟨by omega, by omega⟩) (fun  u29 H locs hu25 hP hD hS => ?_)
      obtain ⟨u30, pl⟩ := u29
      obtain ⟨hq25, hO⟩ := hu25
      obtain ⟨ps26, f38, f39, f40⟩ := u30
      have hP : va_P g.1 vcl ([(r21, .inr (9, [.ref am21, .ref am22, .ref am23, .ref am24, .ref am25, .int (nI 136), .int (nI ps26), .int (nI 31)])), (am21, .inl (g.2.1 2, 25, .inr (.inl f38))), (am22, .inl (g.2.1 2, 25, .inr (.inl f39))), (am23, .inl (g.2.1 2, 5, .inr (.inl f40))), (am24, .inl (g.2.1 2, 24, .inr (.inl f24))), (am25, .inl (g.2.1 0, 25, .inl f25))] ++ pl) _ := hP
      have hD : va_D _ ([(r21, .inr (9, [.ref am21, .ref am22, .ref am23, .ref am24, .ref am25, .int (nI 136), .int (nI ps26), .int (nI 31)])), (am21, .inl (g.2.1 2, 25, .inr (.inl f38))), (am22, .inl (g.2.1 2, 25, .inr (.inl f39))), (am23, .inl (g.2.1 2, 5, .inr (.inl f40))), (am24, .inl (g.2.1 2, 24, .inr (.inl f24))), (am25, .inl (g.2.1 0, 25, .inl f25))] ++ pl) := hD
      have hq25 : ps26 ≤ 136 := hq25
      refine W.widen (k := 0) (n := 0) (by omega) (by omega) ?_
      refine lv_aload_n hx hb dMH_mask_76 rfl (lv_at hl 2 rfl) ?_
      refine ty_get (ci := 12) (C := "LatticeKeysModel$Hands") (TT := T_MH) (N := 31) (kd := (46, 0)) hx hb hts (wg_ft i_MH) hown hK hO k_h0 (nxg (clo_cons (clo_cons (clo_cons (clo_cons (clo_cons (clo_cons hc0 kr21 (by decide)) km21 (by decide)) km22 (by decide)) km23 (by decide)) km24 (by decide)) km25 (by decide)) k_h0 rfl) hP (fun _ h9 => h9) rfl 0 (by decide) (hts _ (wg_t kw_1432)) (fun _ h9 => h9) (cd := (3, 20, 0)) rfl dMH_mask_77 (fun v30 hv30 => ?_)
      obtain ⟨r27, rfl, kr27⟩ := (show ∃ r : Nat, v30 = .ref r ∧ T r = some (20, 0) from hv30)
      obtain rfl : r21 = r27 := hU _ _ _ (by decide) kr21 kr27
      refine lv_aload_n hx hb dMH_mask_80 rfl (lv_at hl 2 rfl) ?_
      refine ty_get (ci := 12) (C := "LatticeKeysModel$Hands") (TT := T_MH) (N := 31) (kd := (46, 0)) hx hb hts (wg_ft i_MH) hown hK hO k_h0 (nxg (clo_cons (clo_cons (clo_cons (clo_cons (clo_cons (clo_cons hc0 kr21 (by decide)) km21 (by decide)) km22 (by decide)) km23 (by decide)) km24 (by decide)) km25 (by decide)) k_h0 rfl) hP (fun _ h9 => h9) rfl 19 (by decide) (hts _ (wg_t kw_1451)) (fun _ h9 => h9) (cd := (3, 1, 640)) rfl dMH_mask_81 (fun v31 hv31 => ?_)
      obtain ⟨r28, rfl, kr28⟩ := (show ∃ r : Nat, v31 = .ref r ∧ T r = some (1, 640) from hv31)
      refine lv_iconst (v := nI 0) hx hb dMH_mask_84 (by decide) ?_
      refine lv_bipush (v := nI 32) hx hb dMH_mask_85 (by decide) ?_
      refine lv_iload_n hx hb dMH_mask_87 rfl (lv_at hl 1 rfl) ?_
      refine mi_imul hx hb dMH_mask_88 ?_
      refine mi_as (show nI (32 * 18) = nI 576 from rfl) ?_
      refine mp_v (cx := [(r21, .inr (9, [.ref am21, .ref am22, .ref am23, .ref am24, .ref am25, .int (nI 136), .int (nI ps26), .int (nI 31)])), (am21, .inl (g.2.1 2, 25, .inr (.inl f38))), (am22, .inl (g.2.1 2, 25, .inr (.inl f39))), (am23, .inl (g.2.1 2, 5, .inr (.inl f40))), (am24, .inl (g.2.1 2, 24, .inr (.inl f24))), (am25, .inl (g.2.1 0, 25, .inl f25))]) (wr := []) hP hD hS hA [0, 1, 2, 3, 4, 5] [] rfl rfl rfl (by decide) (va_runV (As := [.ref r28, .int (nI 0), .int (nI 576)]) (rest := []) F (t_MS_take l g _ T (am25 :: (am24 :: (am23 :: (am22 :: (am21 :: (r21 :: xs)))))) pl hO hU (clo_cons (clo_cons (clo_cons (clo_cons (clo_cons (clo_cons hc0 kr21 (by decide)) km21 (by decide)) km22 (by decide)) km23 (by decide)) km24 (by decide)) km25 (by decide)) r28 640 0 576 r21 am21 am22 am23 am24 am25 136 ps26 (nI 31) f38 f39 f40 f24 f25 kr28 (by omega) (by omega) (by omega) (by omega)) (cwV 3 hts (wg_app (wg_c kw_1722 (wg_c kw_1638 (wg_c kw_1639 (wg_c kw_10 wg_n)))) kw_1640) rfl rfl rfl (by decide +kernel) ⟨by decide, by decide⟩) (pp_V (en_ok g) (q0 := 0) hK hP hD hS hA hE [0, 1, 2, 3, 4, 5] rfl rfl rfl rfl) rfl rfl hl.1 rfl (lv_room (Nat.le_of_ble_eq_true rfl)) dMH_mask_89 ⟨by omega, by omega⟩) (fun  u31 H locs hu26 hP hD hS => ?_)
      obtain ⟨u32, pl⟩ := u31
      obtain ⟨hq26, hO⟩ := hu26
      obtain ⟨ps27, f41, f42, f43⟩ := u32
      have hP : va_P g.1 vcl ([(r21, .inr (9, [.ref am21, .ref am22, .ref am23, .ref am24, .ref am25, .int (nI 136), .int (nI ps27), .int (nI 31)])), (am21, .inl (g.2.1 2, 25, .inr (.inl f41))), (am22, .inl (g.2.1 2, 25, .inr (.inl f42))), (am23, .inl (g.2.1 2, 5, .inr (.inl f43))), (am24, .inl (g.2.1 2, 24, .inr (.inl f24))), (am25, .inl (g.2.1 0, 25, .inl f25))] ++ pl) _ := hP
      have hD : va_D _ ([(r21, .inr (9, [.ref am21, .ref am22, .ref am23, .ref am24, .ref am25, .int (nI 136), .int (nI ps27), .int (nI 31)])), (am21, .inl (g.2.1 2, 25, .inr (.inl f41))), (am22, .inl (g.2.1 2, 25, .inr (.inl f42))), (am23, .inl (g.2.1 2, 5, .inr (.inl f43))), (am24, .inl (g.2.1 2, 24, .inr (.inl f24))), (am25, .inl (g.2.1 0, 25, .inl f25))] ++ pl) := hD
      have hq26 : ps27 ≤ 136 := hq26
      refine W.widen (k := 0) (n := 0) (by omega) (by omega) ?_
      refine lv_iconst (v := nI 0) hx hb dMH_mask_92 (by decide) ?_
      refine lv_istore (lv' := [(4, .int (nI 0)), (3, .int (nI i21)), (2, .int (nI 18)), (0, .ref h0), (1, .int fr)]) hx hb dMH_mask_93 hl (by decide) rfl (fun ls hl => ?_)
      have hO := close1 (e := .inl (g.2.1 0, 25, .inl f25)) hO km25 ⟨_, rfl⟩
      have hO := close1 (e := .inl (g.2.1 2, 24, .inr (.inl f24))) hO km24 ⟨_, rfl⟩
      have hO := close1 (e := .inl (g.2.1 2, 5, .inr (.inl f43))) hO km23 ⟨_, rfl⟩
      have hO := close1 (e := .inl (g.2.1 2, 25, .inr (.inl f42))) hO km22 ⟨_, rfl⟩
      have hO := close1 (e := .inl (g.2.1 2, 25, .inr (.inl f41))) hO km21 ⟨_, rfl⟩
      have hO := close1 (e := .inr (9, [.ref am21, .ref am22, .ref am23, .ref am24, .ref am25, .int (nI 136), .int (nI ps27), .int (nI 31)])) hO kr21 ⟨_, _, _, _, _, _, _, _, rfl, km21, km22, km23, km24, km25, by omega, by omega, by omega⟩
      have hO : okx g T xs ((r21, .inr (9, [.ref am21, .ref am22, .ref am23, .ref am24, .ref am25, .int (nI 136), .int (nI ps27), .int (nI 31)])) :: (am21, .inl (g.2.1 2, 25, .inr (.inl f41))) :: (am22, .inl (g.2.1 2, 25, .inr (.inl f42))) :: (am23, .inl (g.2.1 2, 5, .inr (.inl f43))) :: (am24, .inl (g.2.1 2, 24, .inr (.inl f24))) :: (am25, .inl (g.2.1 0, 25, .inl f25)) :: pl) := hO
      have hP : va_P g.1 vcl ([] ++ ((r21, .inr (9, [.ref am21, .ref am22, .ref am23, .ref am24, .ref am25, .int (nI 136), .int (nI ps27), .int (nI 31)])) :: (am21, .inl (g.2.1 2, 25, .inr (.inl f41))) :: (am22, .inl (g.2.1 2, 25, .inr (.inl f42))) :: (am23, .inl (g.2.1 2, 5, .inr (.inl f43))) :: (am24, .inl (g.2.1 2, 24, .inr (.inl f24))) :: (am25, .inl (g.2.1 0, 25, .inl f25)) :: pl)) _ := hP
      have hD : va_D _ ([] ++ ((r21, .inr (9, [.ref am21, .ref am22, .ref am23, .ref am24, .ref am25, .int (nI 136), .int (nI ps27), .int (nI 31)])) :: (am21, .inl (g.2.1 2, 25, .inr (.inl f41))) :: (am22, .inl (g.2.1 2, 25, .inr (.inl f42))) :: (am23, .inl (g.2.1 2, 5, .inr (.inl f43))) :: (am24, .inl (g.2.1 2, 24, .inr (.inl f24))) :: (am25, .inl (g.2.1 0, 25, .inl f25)) :: pl)) := hD
      generalize ((r21, .inr (9, [.ref am21, .ref am22, .ref am23, .ref am24, .ref am25, .int (nI 136), .int (nI ps27), .int (nI 31)])) :: (am21, .inl (g.2.1 2, 25, .inr (.inl f41))) :: (am22, .inl (g.2.1 2, 25, .inr (.inl f42))) :: (am23, .inl (g.2.1 2, 5, .inr (.inl f43))) :: (am24, .inl (g.2.1 2, 24, .inr (.inl f24))) :: (am25, .inl (g.2.1 0, 25, .inl f25)) :: pl) = pl at hO hP hD
      have lp22 : ∀ (n22 : Nat) (i22 : Nat) (pl : va_W) (ls : Array Slot) (H : Heap) (locs : List Loc), n22 + i22 = 256 → lv_has ls 5 [(4, .int (nI i22)), (3, .int (nI i21)), (2, .int (nI 18)), (0, .ref h0), (1, .int fr)] → okx g T xs pl → va_P g.1 vcl ([] ++ pl) H → va_D A ([] ++ pl) → va_S A s.heap H locs → W p l e ({ frames := 4, cells := 0, slots := 0, locals := 98 } : Room) s m args below meth c H locs 0 0 (MQ below (va_Qv (fun (u : va_W) => (True) ∧ okx g T xs u) (po g.1 vcl A (fun (u : va_W) => [] ++ u)) A) args s 0 0 A) (F0 m 95 ls []) := by
        intro n22
        induction n22 with
        | zero =>
          intro i22 pl ls H locs hm22  hl hO hP hD hS
          refine lv_iload hx hb dMH_mask_95 (lv_at hl 0 rfl) ?_
          refine lv_sipush (v := nI 256) hx hb dMH_mask_97 (by decide) ?_
          refine mi_ge (tgt := 137) hx hb dMH_mask_100 (by decide) (by omega) (by omega) (fun h24 => ?_) (fun h24 => absurd h24 (by omega))
          refine mi_iinc (k := 1) (x := i21) (d := 1) (y := i21 + 1) (lv' := [(3, .int (nI (i21 + 1))), (4, .int (nI i22)), (2, .int (nI 18)), (0, .ref h0), (1, .int fr)]) hx hb dMH_mask_137 hl rfl (by decide) rfl (by decide) rfl (fun ls hl => ?_)
          refine lv_goto (tgt := 17) hx hb dMH_mask_140 (by decide) ?_
          exact ih21 (i21 + 1) pl ls H locs (by omega) (lv_sub hl [0, 2, 3, 4] rfl) hO hP hD hS
        | succ n22 ih22 =>
          intro i22 pl ls H locs hm22  hl hO hP hD hS
          refine lv_iload hx hb dMH_mask_95 (lv_at hl 0 rfl) ?_
          refine lv_sipush (v := nI 256) hx hb dMH_mask_97 (by decide) ?_
          refine mi_ge (tgt := 137) hx hb dMH_mask_100 (by decide) (by omega) (by omega) (fun h25 => absurd h25 (by omega)) (fun h25 => ?_)
          refine lv_aload_n hx hb dMH_mask_103 rfl (lv_at hl 3 rfl) ?_
          refine ty_get (ci := 12) (C := "LatticeKeysModel$Hands") (TT := T_MH) (N := 31) (kd := (46, 0)) hx hb hts (wg_ft i_MH) hown hK hO k_h0 (nxg hc0 k_h0 rfl) hP (fun _ h9 => h9) rfl 7 (by decide) (hts _ (wg_t kw_1439)) (fun _ h9 => h9) (cd := (3, 3, 7)) rfl dMH_mask_104 (fun v32 hv32 => ?_)
          obtain ⟨r29, rfl, kr29⟩ := (show ∃ r : Nat, v32 = .ref r ∧ T r = some (3, 7) from hv32)
          refine lv_iload_n hx hb dMH_mask_107 rfl (lv_at hl 1 rfl) ?_
          refine ty_aald3 hx hb hK hO kr29 (nxg hc0 kr29 rfl) hP (by omega) (by decide) dMH_mask_108 (fun r30 kr30 => ?_)
          refine lv_iload hx hb dMH_mask_109 (lv_at hl 0 rfl) ?_
          refine lv_aload_n hx hb dMH_mask_111 rfl (lv_at hl 3 rfl) ?_
          refine ty_get (ci := 12) (C := "LatticeKeysModel$Hands") (TT := T_MH) (N := 31) (kd := (46, 0)) hx hb hts (wg_ft i_MH) hown hK hO k_h0 (nxg hc0 k_h0 rfl) hP (fun _ h9 => h9) rfl 27 (by decide) (hts _ (wg_t kw_1459)) (fun _ h9 => h9) (cd := (1, 0, 131072)) rfl dMH_mask_112 (fun v33 hv33 => ?_)
          obtain rfl := (show v33 = .int (nI 131072) from hv33)
          refine lv_aload_n hx hb dMH_mask_115 rfl (lv_at hl 3 rfl) ?_
          refine ty_get (ci := 12) (C := "LatticeKeysModel$Hands") (TT := T_MH) (N := 31) (kd := (46, 0)) hx hb hts (wg_ft i_MH) hown hK hO k_h0 (nxg hc0 k_h0 rfl) hP (fun _ h9 => h9) rfl 19 (by decide) (hts _ (wg_t kw_1451)) (fun _ h9 => h9) (cd := (3, 1, 640)) rfl dMH_mask_116 (fun v34 hv34 => ?_)
          obtain ⟨r31, rfl, kr31⟩ := (show ∃ r : Nat, v34 = .ref r ∧ T r = some (1, 640) from hv34)
          refine lv_iload_n hx hb dMH_mask_119 rfl (lv_at hl 2 rfl) ?_
          refine lv_iload hx hb dMH_mask_120 (lv_at hl 0 rfl) ?_
          refine mi_imul hx hb dMH_mask_122 ?_
          refine lv_iload_n hx hb dMH_mask_123 rfl (lv_at hl 2 rfl) ?_
          refine mp_i (cx := []) (wr := []) hP hD hS hA [] [] rfl rfl rfl (by decide) (va_runSN (As := [.ref r31, .int (nI (18 * i22)), .int (nI 18)]) (rest := [.int (nI 131072), .int (nI i22), .ref r30]) F (t_M_unpack l g _ T xs pl hO hU hc0 r31 640 (18 * i22) 18 kr31 (by omega) (by omega) (by omega)) ⟨va_cnB 3 hts (wg_in kw_1667) rfl rfl rfl (hE.2.2.2.2.2.2.2.2.2.2) (hts _ (wg_t kw_9)) (by decide +kernel) ⟨by decide, by decide⟩, hts _ (wg_t kw_1666), trivial⟩ (pp_S (en_ok g) hP hD hS hA hE [] rfl rfl) rfl rfl hl.1 rfl (lv_room (Nat.le_of_ble_eq_true rfl)) dMH_mask_124 ⟨by omega, by omega⟩) (fun r32 pl H locs hu27 hP hD hS => ?_)
          obtain ⟨hq27, hO⟩ := hu27
          have hP : va_P g.1 vcl ([] ++ pl) _ := hP
          have hD : va_D _ ([] ++ pl) := hD
          refine W.widen (k := 0) (n := 0) (by omega) (by omega) ?_
          refine mp_i (cx := []) (wr := []) hP hD hS hA [] [] rfl rfl rfl (by decide) (va_runS (As := [.int (nI 131072), .int r32]) (rest := [.int (nI i22), .ref r30]) F (t_MH_minus l g _ T xs pl hO hU  (nI 131072) r32) (va_cwS 2 hts (wg_app (wg_c kw_1865 (wg_c kw_1866 (wg_c kw_13 wg_n))) kw_1867) rfl rfl rfl (by decide +kernel) ⟨by decide, by decide⟩) (pp_S (en_ok g) hP hD hS hA hE [] rfl rfl) rfl rfl hl.1 rfl (lv_room (Nat.le_of_ble_eq_true rfl)) dMH_mask_127 ⟨by omega, by omega⟩) (fun r33 pl H locs hu28 hP hD hS => ?_)
          obtain ⟨hq28, hO⟩ := hu28
          have hP : va_P g.1 vcl ([] ++ pl) _ := hP
          have hD : va_D _ ([] ++ pl) := hD
          refine W.widen (k := 0) (n := 0) (by omega) (by omega) ?_
          refine ty_iast hx hb hK hO kr30 (nxg hc0 kr30 rfl) hP hD hS (vp_in_nI (by omega) (by decide)) dMH_mask_130 (fun pl H locs hO hP hD hS => ?_)
          refine mi_iinc (k := 0) (x := i22) (d := 1) (y := i22 + 1) (lv' := [(4, .int (nI (i22 + 1))), (3, .int (nI i21)), (2, .int (nI 18)), (0, .ref h0), (1, .int fr)]) hx hb dMH_mask_131 hl rfl (by decide) rfl (by decide) rfl (fun ls hl => ?_)
          refine lv_goto (tgt := 95) hx hb dMH_mask_134 (by decide) ?_
          exact ih22 (i22 + 1) pl ls H locs (by omega) (lv_sub hl [0, 1, 2, 3, 4] rfl) hO hP hD hS
      exact lp22 256 0 pl ls _ _ (by omega) (lv_sub hl [0, 1, 2, 3, 4] rfl) hO hP hD hS
  exact lp21 4 0 pl ls _ _ (by omega) (lv_sub hl [0, 1, 2, 3] rfl) hO hP hD hS
set_option maxHeartbeats 400000 in
set_option maxRecDepth 100000 in
theorem t_MH_mask_1 (l : Launch) (g : Gd) (sz : Nat) (T : Ty) (xs : List Nat) (pl : va_W) (hO : okx g T xs pl) (hU : uni T) (hc0 : clo T xs 0) (hc9 : clo T xs 9) (h0 : Nat) (fr : Int32) (k_h0 : T h0 = some (47, 0))  : Met l y_MH_mask w_MH_mask ({ frames := 4, cells := 0, slots := 0, locals := 98 } : Room) (va_Pc [.ref h0, .int fr] (pr (en g) g.1 vcl sz ([] ++ pl))) (va_Qv (fun (u : va_W) => (True) ∧ okx g T xs u) (po g.1 vcl (va_A ([] ++ pl) sz) (fun (u : va_W) => [] ++ u)) (va_A ([] ++ pl) sz)) 0 0 (va_A ([] ++ pl) sz) := by
  refine mc_entry (cc := c_MH_mask) (maxL := 5) (ret := none) (by decide) rfl (Nat.le_of_ble_eq_true rfl) ?_
  intro p e s m args below meth c ls F hr hlk hnm hsz hP hD hE hA hl
  obtain ⟨hx, hb, hml, hown, hts⟩ := id F
  have hK := hE.1
  generalize va_A ([] ++ pl) sz = A at hD hE hA ⊢
  have hS : va_S A s.heap s.heap [] := va_S.rf
  have hl : lv_has ls 5 [(0, .ref h0), (1, .int fr)] := hl
  refine lv_aload_n hx hb dMH_mask_0 rfl (lv_at hl 0 rfl) ?_
  refine ty_get (ci := 12) (C := "LatticeKeysModel$Hands") (TT := T_MH) (N := 31) (kd := (47, 0)) hx hb hts (wg_ft i_MH) hown hK hO k_h0 (nxg hc0 k_h0 rfl) hP (fun _ h9 => h9) rfl 23 (by decide) (hts _ (wg_t kw_1455)) (fun _ h9 => h9) (cd := (1, 0, 1)) rfl dMH_mask_1 (fun v21 hv21 => ?_)
  obtain rfl := (show v21 = .int (nI 1) from hv21)
  refine lv_if_ne (tgt := 12) hx hb dMH_mask_4 (by decide) (fun h21 => ?_) (fun h21 => absurd h21 (by decide))
  refine lv_bipush (v := nI 20) hx hb dMH_mask_12 (by decide) ?_
  refine lv_istore_n (lv' := [(2, .int (nI 20)), (0, .ref h0), (1, .int fr)]) hx hb dMH_mask_14 rfl hl (by decide) rfl (fun ls hl => ?_)
  refine lv_iconst (v := nI 0) hx hb dMH_mask_15 (by decide) ?_
  refine lv_istore_n (lv' := [(3, .int (nI 0)), (2, .int (nI 20)), (0, .ref h0), (1, .int fr)]) hx hb dMH_mask_16 rfl hl (by decide) rfl (fun ls hl => ?_)
  have lp21 : ∀ (n21 : Nat) (i21 : Nat) (pl : va_W) (ls : Array Slot) (H : Heap) (locs : List Loc), n21 + i21 = 5 → lv_has ls 5 [(3, .int (nI i21)), (2, .int (nI 20)), (0, .ref h0), (1, .int fr)] → okx g T xs pl → va_P g.1 vcl ([] ++ pl) H → va_D A ([] ++ pl) → va_S A s.heap H locs → W p l e ({ frames := 4, cells := 0, slots := 0, locals := 98 } : Room) s m args below meth c H locs 0 0 (MQ below (va_Qv (fun (u : va_W) => (True) ∧ okx g T xs u) (po g.1 vcl A (fun (u : va_W) => [] ++ u)) A) args s 0 0 A) (F0 m 17 ls []) := by
    intro n21
    induction n21 with
    | zero =>
      intro i21 pl ls H locs hm21  hl hO hP hD hS
      refine lv_iload_n hx hb dMH_mask_17 rfl (lv_at hl 0 rfl) ?_
      refine lv_aload_n hx hb dMH_mask_18 rfl (lv_at hl 2 rfl) ?_
      refine ty_get (ci := 12) (C := "LatticeKeysModel$Hands") (TT := T_MH) (N := 31) (kd := (47, 0)) hx hb hts (wg_ft i_MH) hown hK hO k_h0 (nxg hc0 k_h0 rfl) hP (fun _ h9 => h9) rfl 25 (by decide) (hts _ (wg_t kw_1457)) (fun _ h9 => h9) (cd := (1, 0, 5)) rfl dMH_mask_19 (fun v22 hv22 => ?_)
      obtain rfl := (show v22 = .int (nI 5) from hv22)
      refine mi_ge (tgt := 143) hx hb dMH_mask_22 (by decide) (by omega) (by omega) (fun h22 => ?_) (fun h22 => absurd h22 (by omega))
      exact mp_vret hx hb hr hlk hP hD hS pl ⟨trivial, hO⟩ [] rfl rfl rfl (by omega) (by omega) dMH_mask_143
    | succ n21 ih21 =>
      intro i21 pl ls H locs hm21  hl hO hP hD hS
      refine lv_iload_n hx hb dMH_mask_17 rfl (lv_at hl 0 rfl) ?_
      refine lv_aload_n hx hb dMH_mask_18 rfl (lv_at hl 2 rfl) ?_
      refine ty_get (ci := 12) (C := "LatticeKeysModel$Hands") (TT := T_MH) (N := 31) (kd := (47, 0)) hx hb hts (wg_ft i_MH) hown hK hO k_h0 (nxg hc0 k_h0 rfl) hP (fun _ h9 => h9) rfl 25 (by decide) (hts _ (wg_t kw_1457)) (fun _ h9 => h9) (cd := (1, 0, 5)) rfl dMH_mask_19 (fun v23 hv23 => ?_)
      obtain rfl := (show v23 = .int (nI 5) from hv23)
      refine mi_ge (tgt := 143) hx hb dMH_mask_22 (by decide) (by omega) (by omega) (fun h23 => absurd h23 (by omega)) (fun h23 => ?_)
      refine lv_aload_n hx hb dMH_mask_25 rfl (lv_at hl 2 rfl) ?_
      refine ty_get (ci := 12) (C := "LatticeKeysModel$Hands") (TT := T_MH) (N := 31) (kd := (47, 0)) hx hb hts (wg_ft i_MH) hown hK hO k_h0 (nxg hc0 k_h0 rfl) hP (fun _ h9 => h9) rfl 0 (by decide) (hts _ (wg_t kw_1432)) (fun _ h9 => h9) (cd := (3, 20, 0)) rfl dMH_mask_26 (fun v24 hv24 => ?_)
      obtain ⟨r21, rfl, kr21⟩ := (show ∃ r : Nat, v24 = .ref r ∧ T r = some (20, 0) from hv24)
      obtain ⟨e21, pl, hP, hD, hk21, hO⟩ := open1 hP hD hO kr21 (nxg hc9 kr21 rfl)
      obtain ⟨am21, am22, am23, am24, am25, rt21, ps21, x21, rfl, km21, km22, km23, km24, km25, hr21, hr22, hr23⟩ := hk21
      obtain ⟨e22, pl, hP, hD, hk22, hO⟩ := open1 hP hD hO km21 (nmc (knd_ne km21 kr21 (by decide)) (nxg hc9 km21 rfl))
      obtain ⟨f21, rfl⟩ := hk22
      obtain ⟨e23, pl, hP, hD, hk23, hO⟩ := open1 hP hD hO km22 (nmc (knd_ne km22 km21 (by decide)) (nmc (knd_ne km22 kr21 (by decide)) (nxg hc9 km22 rfl)))
      obtain ⟨f22, rfl⟩ := hk23
      obtain ⟨e24, pl, hP, hD, hk24, hO⟩ := open1 hP hD hO km23 (nmc (knd_ne km23 km22 (by decide)) (nmc (knd_ne km23 km21 (by decide)) (nmc (knd_ne km23 kr21 (by decide)) (nxg hc9 km23 rfl))))
      obtain ⟨f23, rfl⟩ := hk24
      obtain ⟨e25, pl, hP, hD, hk25, hO⟩ := open1 hP hD hO km24 (nmc (knd_ne km24 km23 (by decide)) (nmc (knd_ne km24 km22 (by decide)) (nmc (knd_ne km24 km21 (by decide)) (nmc (knd_ne km24 kr21 (by decide)) (nxg hc9 km24 rfl)))))
      obtain ⟨f24, rfl⟩ := hk25
      obtain ⟨e26, pl, hP, hD, hk26, hO⟩ := open1 hP hD hO km25 (nmc (knd_ne km25 km24 (by decide)) (nmc (knd_ne km25 km23 (by decide)) (nmc (knd_ne km25 km22 (by decide)) (nmc (knd_ne km25 km21 (by decide)) (nmc (knd_ne km25 kr21 (by decide)) (nxg hc9 km25 rfl))))))
      obtain ⟨f25, rfl⟩ := hk26
      have hP : va_P g.1 vcl ([(r21, .inr (9, [.ref am21, .ref am22, .ref am23, .ref am24, .ref am25, .int (nI rt21), .int (nI ps21), .int x21])), (am21, .inl (g.2.1 2, 25, .inr (.inl f21))), (am22, .inl (g.2.1 2, 25, .inr (.inl f22))), (am23, .inl (g.2.1 2, 5, .inr (.inl f23))), (am24, .inl (g.2.1 2, 24, .inr (.inl f24))), (am25, .inl (g.2.1 0, 25, .inl f25))] ++ pl) _ := hP
      have hD : va_D _ ([(r21, .inr (9, [.ref am21, .ref am22, .ref am23, .ref am24, .ref am25, .int (nI rt21), .int (nI ps21), .int x21])), (am21, .inl (g.2.1 2, 25, .inr (.inl f21))), (am22, .inl (g.2.1 2, 25, .inr (.inl f22))), (am23, .inl (g.2.1 2, 5, .inr (.inl f23))), (am24, .inl (g.2.1 2, 24, .inr (.inl f24))), (am25, .inl (g.2.1 0, 25, .inl f25))] ++ pl) := hD
      refine mp_v (cx := [(r21, .inr (9, [.ref am21, .ref am22, .ref am23, .ref am24, .ref am25, .int (nI rt21), .int (nI ps21), .int x21])), (am21, .inl (g.2.1 2, 25, .inr (.inl f21))), (am22, .inl (g.2.1 2, 25, .inr (.inl f22))), (am23, .inl (g.2.1 2, 5, .inr (.inl f23))), (am24, .inl (g.2.1 2, 24, .inr (.inl f24))), (am25, .inl (g.2.1 0, 25, .inl f25))]) (wr := []) hP hD hS hA [0, 1, 2, 3, 4, 5] [] rfl rfl rfl (by decide) (va_runV (As := []) (rest := []) F (t_MS_shake l g _ T (am25 :: (am24 :: (am23 :: (am22 :: (am21 :: (r21 :: xs)))))) pl hO hU  r21 am21 am22 am23 am24 am25 rt21 ps21 x21 f21 f22 f23 f24 f25) (cwV 0 hts (wg_app (wg_c kw_1718 (wg_c kw_1661 (wg_c kw_1662 (wg_c kw_10 wg_n)))) kw_1663) rfl rfl rfl (by decide +kernel) ⟨by decide, by decide⟩) (pp_V (en_ok g) (q0 := 0) hK hP hD hS hA hE [0, 1, 2, 3, 4, 5] rfl rfl rfl rfl) rfl rfl hl.1 rfl (lv_room (Nat.le_of_ble_eq_true rfl)) dMH_mask_29 ⟨by omega, by omega⟩) (fun  u21 H locs hu21 hP hD hS => ?_)
      obtain ⟨u22, pl⟩ := u21
      obtain ⟨hq21, hO⟩ := hu21
      obtain ⟨ps22, f26, f27, f28⟩ := u22
      have hP : va_P g.1 vcl ([(r21, .inr (9, [.ref am21, .ref am22, .ref am23, .ref am24, .ref am25, .int (nI 136), .int (nI ps22), .int (nI 31)])), (am21, .inl (g.2.1 2, 25, .inr (.inl f26))), (am22, .inl (g.2.1 2, 25, .inr (.inl f27))), (am23, .inl (g.2.1 2, 5, .inr (.inl f28))), (am24, .inl (g.2.1 2, 24, .inr (.inl f24))), (am25, .inl (g.2.1 0, 25, .inl f25))] ++ pl) _ := hP
      have hD : va_D _ ([(r21, .inr (9, [.ref am21, .ref am22, .ref am23, .ref am24, .ref am25, .int (nI 136), .int (nI ps22), .int (nI 31)])), (am21, .inl (g.2.1 2, 25, .inr (.inl f26))), (am22, .inl (g.2.1 2, 25, .inr (.inl f27))), (am23, .inl (g.2.1 2, 5, .inr (.inl f28))), (am24, .inl (g.2.1 2, 24, .inr (.inl f24))), (am25, .inl (g.2.1 0, 25, .inl f25))] ++ pl) := hD
      have hq21 : ps22 ≤ 136 := hq21
      refine W.widen (k := 0) (n := 0) (by omega) (by omega) ?_
      refine lv_aload_n hx hb dMH_mask_32 rfl (lv_at hl 2 rfl) ?_
      refine ty_get (ci := 12) (C := "LatticeKeysModel$Hands") (TT := T_MH) (N := 31) (kd := (47, 0)) hx hb hts (wg_ft i_MH) hown hK hO k_h0 (nxg (clo_cons (clo_cons (clo_cons (clo_cons (clo_cons (clo_cons hc0 kr21 (by decide)) km21 (by decide)) km22 (by decide)) km23 (by decide)) km24 (by decide)) km25 (by decide)) k_h0 rfl) hP (fun _ h9 => h9) rfl 0 (by decide) (hts _ (wg_t kw_1432)) (fun _ h9 => h9) (cd := (3, 20, 0)) rfl dMH_mask_33 (fun v25 hv25 => ?_)
      obtain ⟨r22, rfl, kr22⟩ := (show ∃ r : Nat, v25 = .ref r ∧ T r = some (20, 0) from hv25)
      obtain rfl : r21 = r22 := hU _ _ _ (by decide) kr21 kr22
      refine lv_aload_n hx hb dMH_mask_36 rfl (lv_at hl 2 rfl) ?_
      refine ty_get (ci := 12) (C := "LatticeKeysModel$Hands") (TT := T_MH) (N := 31) (kd := (47, 0)) hx hb hts (wg_ft i_MH) hown hK hO k_h0 (nxg (clo_cons (clo_cons (clo_cons (clo_cons (clo_cons (clo_cons hc0 kr21 (by decide)) km21 (by decide)) km22 (by decide)) km23 (by decide)) km24 (by decide)) km25 (by decide)) k_h0 rfl) hP (fun _ h9 => h9) rfl 18 (by decide) (hts _ (wg_t kw_1450)) (fun _ h9 => h9) (cd := (3, 1, 64)) rfl dMH_mask_37 (fun v26 hv26 => ?_)
      obtain ⟨r23, rfl, kr23⟩ := (show ∃ r : Nat, v26 = .ref r ∧ T r = some (1, 64) from hv26)
      refine lv_iconst (v := nI 0) hx hb dMH_mask_40 (by decide) ?_
      refine lv_bipush (v := nI 64) hx hb dMH_mask_41 (by decide) ?_
      refine mp_v (cx := [(r21, .inr (9, [.ref am21, .ref am22, .ref am23, .ref am24, .ref am25, .int (nI 136), .int (nI ps22), .int (nI 31)])), (am21, .inl (g.2.1 2, 25, .inr (.inl f26))), (am22, .inl (g.2.1 2, 25, .inr (.inl f27))), (am23, .inl (g.2.1 2, 5, .inr (.inl f28))), (am24, .inl (g.2.1 2, 24, .inr (.inl f24))), (am25, .inl (g.2.1 0, 25, .inl f25))]) (wr := []) hP hD hS hA [0, 1, 2, 3, 4, 5] [] rfl rfl rfl (by decide) (va_runV (As := [.ref r23, .int (nI 0), .int (nI 64)]) (rest := []) F (t_MS_puts l g _ T (am25 :: (am24 :: (am23 :: (am22 :: (am21 :: (r21 :: xs)))))) pl hO hU (clo_cons (clo_cons (clo_cons (clo_cons (clo_cons (clo_cons hc0 kr21 (by decide)) km21 (by decide)) km22 (by decide)) km23 (by decide)) km24 (by decide)) km25 (by decide)) r23 64 0 64 r21 am21 am22 am23 am24 am25 136 ps22 (nI 31) f26 f27 f28 f24 f25 kr23 (by omega) (by omega) (by omega) (by omega)) (cwV 3 hts (wg_app (wg_c kw_1719 (wg_c kw_1612 (wg_c kw_1613 (wg_c kw_10 wg_n)))) kw_1614) rfl rfl rfl (by decide +kernel) ⟨by decide, by decide⟩) (pp_V (en_ok g) (q0 := 0) hK hP hD hS hA hE [0, 1, 2, 3, 4, 5] rfl rfl rfl rfl) rfl rfl hl.1 rfl (lv_room (Nat.le_of_ble_eq_true rfl)) dMH_mask_43 ⟨by omega, by omega⟩) (fun  u23 H locs hu22 hP hD hS => ?_)
      obtain ⟨u24, pl⟩ := u23
      obtain ⟨hq22, hO⟩ := hu22
      obtain ⟨ps23, f29, f30, f31⟩ := u24
      have hP : va_P g.1 vcl ([(r21, .inr (9, [.ref am21, .ref am22, .ref am23, .ref am24, .ref am25, .int (nI 136), .int (nI ps23), .int (nI 31)])), (am21, .inl (g.2.1 2, 25, .inr (.inl f29))), (am22, .inl (g.2.1 2, 25, .inr (.inl f30))), (am23, .inl (g.2.1 2, 5, .inr (.inl f31))), (am24, .inl (g.2.1 2, 24, .inr (.inl f24))), (am25, .inl (g.2.1 0, 25, .inl f25))] ++ pl) _ := hP
      have hD : va_D _ ([(r21, .inr (9, [.ref am21, .ref am22, .ref am23, .ref am24, .ref am25, .int (nI 136), .int (nI ps23), .int (nI 31)])), (am21, .inl (g.2.1 2, 25, .inr (.inl f29))), (am22, .inl (g.2.1 2, 25, .inr (.inl f30))), (am23, .inl (g.2.1 2, 5, .inr (.inl f31))), (am24, .inl (g.2.1 2, 24, .inr (.inl f24))), (am25, .inl (g.2.1 0, 25, .inl f25))] ++ pl) := hD
      have hq22 : ps23 ≤ 136 := hq22
      refine W.widen (k := 0) (n := 0) (by omega) (by omega) ?_
      refine lv_aload_n hx hb dMH_mask_46 rfl (lv_at hl 2 rfl) ?_
      refine ty_get (ci := 12) (C := "LatticeKeysModel$Hands") (TT := T_MH) (N := 31) (kd := (47, 0)) hx hb hts (wg_ft i_MH) hown hK hO k_h0 (nxg (clo_cons (clo_cons (clo_cons (clo_cons (clo_cons (clo_cons hc0 kr21 (by decide)) km21 (by decide)) km22 (by decide)) km23 (by decide)) km24 (by decide)) km25 (by decide)) k_h0 rfl) hP (fun _ h9 => h9) rfl 0 (by decide) (hts _ (wg_t kw_1432)) (fun _ h9 => h9) (cd := (3, 20, 0)) rfl dMH_mask_47 (fun v27 hv27 => ?_)
      obtain ⟨r24, rfl, kr24⟩ := (show ∃ r : Nat, v27 = .ref r ∧ T r = some (20, 0) from hv27)
      obtain rfl : r21 = r24 := hU _ _ _ (by decide) kr21 kr24
      refine lv_iload_n hx hb dMH_mask_50 rfl (lv_at hl 3 rfl) ?_
      refine lv_iload_n hx hb dMH_mask_51 rfl (lv_at hl 0 rfl) ?_
      refine lv_iadd hx hb dMH_mask_52 ?_
      refine mi_any (fun z21 => ?_)
      refine mp_v (cx := [(r21, .inr (9, [.ref am21, .ref am22, .ref am23, .ref am24, .ref am25, .int (nI 136), .int (nI ps23), .int (nI 31)])), (am21, .inl (g.2.1 2, 25, .inr (.inl f29))), (am22, .inl (g.2.1 2, 25, .inr (.inl f30))), (am23, .inl (g.2.1 2, 5, .inr (.inl f31))), (am24, .inl (g.2.1 2, 24, .inr (.inl f24))), (am25, .inl (g.2.1 0, 25, .inl f25))]) (wr := []) hP hD hS hA [0, 1, 2, 3, 4, 5] [] rfl rfl rfl (by decide) (va_runV (As := [.int z21]) (rest := []) F (t_MS_put l g _ T (am25 :: (am24 :: (am23 :: (am22 :: (am21 :: (r21 :: xs)))))) pl hO hU  z21 r21 am21 am22 am23 am24 am25 136 ps23 (nI 31) f29 f30 f31 f24 f25 (by omega) (by omega)) (cwV 1 hts (wg_app (wg_c kw_1720 (wg_c kw_1616 (wg_c kw_1617 (wg_c kw_10 wg_n)))) kw_1618) rfl rfl rfl (by decide +kernel) ⟨by decide, by decide⟩) (pp_V (en_ok g) (q0 := 0) hK hP hD hS hA hE [0, 1, 2, 3, 4, 5] rfl rfl rfl rfl) rfl rfl hl.1 rfl (lv_room (Nat.le_of_ble_eq_true rfl)) dMH_mask_53 ⟨by omega, by omega⟩) (fun  u25 H locs hu23 hP hD hS => ?_)
      obtain ⟨u26, pl⟩ := u25
      obtain ⟨hq23, hO⟩ := hu23
      obtain ⟨ps24, f32, f33, f34⟩ := u26
      have hP : va_P g.1 vcl ([(r21, .inr (9, [.ref am21, .ref am22, .ref am23, .ref am24, .ref am25, .int (nI 136), .int (nI ps24), .int (nI 31)])), (am21, .inl (g.2.1 2, 25, .inr (.inl f32))), (am22, .inl (g.2.1 2, 25, .inr (.inl f33))), (am23, .inl (g.2.1 2, 5, .inr (.inl f34))), (am24, .inl (g.2.1 2, 24, .inr (.inl f24))), (am25, .inl (g.2.1 0, 25, .inl f25))] ++ pl) _ := hP
      have hD : va_D _ ([(r21, .inr (9, [.ref am21, .ref am22, .ref am23, .ref am24, .ref am25, .int (nI 136), .int (nI ps24), .int (nI 31)])), (am21, .inl (g.2.1 2, 25, .inr (.inl f32))), (am22, .inl (g.2.1 2, 25, .inr (.inl f33))), (am23, .inl (g.2.1 2, 5, .inr (.inl f34))), (am24, .inl (g.2.1 2, 24, .inr (.inl f24))), (am25, .inl (g.2.1 0, 25, .inl f25))] ++ pl) := hD
      have hq23 : ps24 ≤ 136 := hq23
      refine W.widen (k := 0) (n := 0) (by omega) (by omega) ?_
      refine lv_aload_n hx hb dMH_mask_56 rfl (lv_at hl 2 rfl) ?_
      refine ty_get (ci := 12) (C := "LatticeKeysModel$Hands") (TT := T_MH) (N := 31) (kd := (47, 0)) hx hb hts (wg_ft i_MH) hown hK hO k_h0 (nxg (clo_cons (clo_cons (clo_cons (clo_cons (clo_cons (clo_cons hc0 kr21 (by decide)) km21 (by decide)) km22 (by decide)) km23 (by decide)) km24 (by decide)) km25 (by decide)) k_h0 rfl) hP (fun _ h9 => h9) rfl 0 (by decide) (hts _ (wg_t kw_1432)) (fun _ h9 => h9) (cd := (3, 20, 0)) rfl dMH_mask_57 (fun v28 hv28 => ?_)
      obtain ⟨r25, rfl, kr25⟩ := (show ∃ r : Nat, v28 = .ref r ∧ T r = some (20, 0) from hv28)
      obtain rfl : r21 = r25 := hU _ _ _ (by decide) kr21 kr25
      refine lv_iload_n hx hb dMH_mask_60 rfl (lv_at hl 3 rfl) ?_
      refine lv_iload_n hx hb dMH_mask_61 rfl (lv_at hl 0 rfl) ?_
      refine lv_iadd hx hb dMH_mask_62 ?_
      refine mi_any (fun z22 => ?_)
      refine lv_bipush (v := nI 8) hx hb dMH_mask_63 (by decide) ?_
      refine lv_ishr hx hb dMH_mask_65 ?_
      refine mi_any (fun z23 => ?_)
      refine mp_v (cx := [(r21, .inr (9, [.ref am21, .ref am22, .ref am23, .ref am24, .ref am25, .int (nI 136), .int (nI ps24), .int (nI 31)])), (am21, .inl (g.2.1 2, 25, .inr (.inl f32))), (am22, .inl (g.2.1 2, 25, .inr (.inl f33))), (am23, .inl (g.2.1 2, 5, .inr (.inl f34))), (am24, .inl (g.2.1 2, 24, .inr (.inl f24))), (am25, .inl (g.2.1 0, 25, .inl f25))]) (wr := []) hP hD hS hA [0, 1, 2, 3, 4, 5] [] rfl rfl rfl (by decide) (va_runV (As := [.int z23]) (rest := []) F (t_MS_put l g _ T (am25 :: (am24 :: (am23 :: (am22 :: (am21 :: (r21 :: xs)))))) pl hO hU  z23 r21 am21 am22 am23 am24 am25 136 ps24 (nI 31) f32 f33 f34 f24 f25 (by omega) (by omega)) (cwV 1 hts (wg_app (wg_c kw_1720 (wg_c kw_1616 (wg_c kw_1617 (wg_c kw_10 wg_n)))) kw_1618) rfl rfl rfl (by decide +kernel) ⟨by decide, by decide⟩) (pp_V (en_ok g) (q0 := 0) hK hP hD hS hA hE [0, 1, 2, 3, 4, 5] rfl rfl rfl rfl) rfl rfl hl.1 rfl (lv_room (Nat.le_of_ble_eq_true rfl)) dMH_mask_66 ⟨by omega, by omega⟩) (fun  u27 H locs hu24 hP hD hS => ?_)
      obtain ⟨u28, pl⟩ := u27
      obtain ⟨hq24, hO⟩ := hu24
      obtain ⟨ps25, f35, f36, f37⟩ := u28
      have hP : va_P g.1 vcl ([(r21, .inr (9, [.ref am21, .ref am22, .ref am23, .ref am24, .ref am25, .int (nI 136), .int (nI ps25), .int (nI 31)])), (am21, .inl (g.2.1 2, 25, .inr (.inl f35))), (am22, .inl (g.2.1 2, 25, .inr (.inl f36))), (am23, .inl (g.2.1 2, 5, .inr (.inl f37))), (am24, .inl (g.2.1 2, 24, .inr (.inl f24))), (am25, .inl (g.2.1 0, 25, .inl f25))] ++ pl) _ := hP
      have hD : va_D _ ([(r21, .inr (9, [.ref am21, .ref am22, .ref am23, .ref am24, .ref am25, .int (nI 136), .int (nI ps25), .int (nI 31)])), (am21, .inl (g.2.1 2, 25, .inr (.inl f35))), (am22, .inl (g.2.1 2, 25, .inr (.inl f36))), (am23, .inl (g.2.1 2, 5, .inr (.inl f37))), (am24, .inl (g.2.1 2, 24, .inr (.inl f24))), (am25, .inl (g.2.1 0, 25, .inl f25))] ++ pl) := hD
      have hq24 : ps25 ≤ 136 := hq24
      refine W.widen (k := 0) (n := 0) (by omega) (by omega) ?_
      refine lv_aload_n hx hb dMH_mask_69 rfl (lv_at hl 2 rfl) ?_
      refine ty_get (ci := 12) (C := "LatticeKeysModel$Hands") (TT := T_MH) (N := 31) (kd := (47, 0)) hx hb hts (wg_ft i_MH) hown hK hO k_h0 (nxg (clo_cons (clo_cons (clo_cons (clo_cons (clo_cons (clo_cons hc0 kr21 (by decide)) km21 (by decide)) km22 (by decide)) km23 (by decide)) km24 (by decide)) km25 (by decide)) k_h0 rfl) hP (fun _ h9 => h9) rfl 0 (by decide) (hts _ (wg_t kw_1432)) (fun _ h9 => h9) (cd := (3, 20, 0)) rfl dMH_mask_70 (fun v29 hv29 => ?_)
      obtain ⟨r26, rfl, kr26⟩ := (show ∃ r : Nat, v29 = .ref r ∧ T r = some (20, 0) from hv29)
      obtain rfl : r21 = r26 := hU _ _ _ (by decide) kr21 kr26
      refine mp_v (cx := [(r21, .inr (9, [.ref am21, .ref am22, .ref am23, .ref am24, .ref am25, .int (nI 136), .int (nI ps25), .int (nI 31)])), (am21, .inl (g.2.1 2, 25, .inr (.inl f35))), (am22, .inl (g.2.1 2, 25, .inr (.inl f36))), (am23, .inl (g.2.1 2, 5, .inr (.inl f37))), (am24, .inl (g.2.1 2, 24, .inr (.inl f24))), (am25, .inl (g.2.1 0, 25, .inl f25))]) (wr := []) hP hD hS hA [0, 1, 2, 3, 4, 5] [] rfl rfl rfl (by decide) (va_runV (As := []) (rest := []) F (t_MS_end l g _ T (am25 :: (am24 :: (am23 :: (am22 :: (am21 :: (r21 :: xs)))))) pl hO hU  r21 am21 am22 am23 am24 am25 136 ps25 (nI 31) f35 f36 f37 f24 f25 (by omega) (by omega)) (cwV 0 hts (wg_app (wg_c kw_1721 (wg_c kw_1634 (wg_c kw_1635 (wg_c kw_10 wg_n)))) kw_1636) rfl rfl rfl (by decide +kernel) ⟨by decide, by decide⟩) (pp_V (en_ok g) (q0 := 0) hK hP hD hS hA hE [0, 1, 2, 3, 4, 5] rfl rfl rfl rfl) rfl rfl hl.1 rfl (lv_room (Nat.le_of_ble_eq_true rfl)) dMH_mask_73 ⟨by omega, by omega⟩) (fun  u29 H locs hu25 hP hD hS => ?_)
      obtain ⟨u30, pl⟩ := u29
      obtain ⟨hq25, hO⟩ := hu25
      obtain ⟨ps26, f38, f39, f40⟩ := u30
      have hP : va_P g.1 vcl ([(r21, .inr (9, [.ref am21, .ref am22, .ref am23, .ref am24, .ref am25, .int (nI 136), .int (nI ps26), .int (nI 31)])), (am21, .inl (g.2.1 2, 25, .inr (.inl f38))), (am22, .inl (g.2.1 2, 25, .inr (.inl f39))), (am23, .inl (g.2.1 2, 5, .inr (.inl f40))), (am24, .inl (g.2.1 2, 24, .inr (.inl f24))), (am25, .inl (g.2.1 0, 25, .inl f25))] ++ pl) _ := hP
      have hD : va_D _ ([(r21, .inr (9, [.ref am21, .ref am22, .ref am23, .ref am24, .ref am25, .int (nI 136), .int (nI ps26), .int (nI 31)])), (am21, .inl (g.2.1 2, 25, .inr (.inl f38))), (am22, .inl (g.2.1 2, 25, .inr (.inl f39))), (am23, .inl (g.2.1 2, 5, .inr (.inl f40))), (am24, .inl (g.2.1 2, 24, .inr (.inl f24))), (am25, .inl (g.2.1 0, 25, .inl f25))] ++ pl) := hD
      have hq25 : ps26 ≤ 136 := hq25
      refine W.widen (k := 0) (n := 0) (by omega) (by omega) ?_
      refine lv_aload_n hx hb dMH_mask_76 rfl (lv_at hl 2 rfl) ?_
      refine ty_get (ci := 12) (C := "LatticeKeysModel$Hands") (TT := T_MH) (N := 31) (kd := (47, 0)) hx hb hts (wg_ft i_MH) hown hK hO k_h0 (nxg (clo_cons (clo_cons (clo_cons (clo_cons (clo_cons (clo_cons hc0 kr21 (by decide)) km21 (by decide)) km22 (by decide)) km23 (by decide)) km24 (by decide)) km25 (by decide)) k_h0 rfl) hP (fun _ h9 => h9) rfl 0 (by decide) (hts _ (wg_t kw_1432)) (fun _ h9 => h9) (cd := (3, 20, 0)) rfl dMH_mask_77 (fun v30 hv30 => ?_)
      obtain ⟨r27, rfl, kr27⟩ := (show ∃ r : Nat, v30 = .ref r ∧ T r = some (20, 0) from hv30)
      obtain rfl : r21 = r27 := hU _ _ _ (by decide) kr21 kr27
      refine lv_aload_n hx hb dMH_mask_80 rfl (lv_at hl 2 rfl) ?_
      refine ty_get (ci := 12) (C := "LatticeKeysModel$Hands") (TT := T_MH) (N := 31) (kd := (47, 0)) hx hb hts (wg_ft i_MH) hown hK hO k_h0 (nxg (clo_cons (clo_cons (clo_cons (clo_cons (clo_cons (clo_cons hc0 kr21 (by decide)) km21 (by decide)) km22 (by decide)) km23 (by decide)) km24 (by decide)) km25 (by decide)) k_h0 rfl) hP (fun _ h9 => h9) rfl 19 (by decide) (hts _ (wg_t kw_1451)) (fun _ h9 => h9) (cd := (3, 1, 640)) rfl dMH_mask_81 (fun v31 hv31 => ?_)
      obtain ⟨r28, rfl, kr28⟩ := (show ∃ r : Nat, v31 = .ref r ∧ T r = some (1, 640) from hv31)
      refine lv_iconst (v := nI 0) hx hb dMH_mask_84 (by decide) ?_
      refine lv_bipush (v := nI 32) hx hb dMH_mask_85 (by decide) ?_
      refine lv_iload_n hx hb dMH_mask_87 rfl (lv_at hl 1 rfl) ?_
      refine mi_imul hx hb dMH_mask_88 ?_
      refine mi_as (show nI (32 * 20) = nI 640 from rfl) ?_
      refine mp_v (cx := [(r21, .inr (9, [.ref am21, .ref am22, .ref am23, .ref am24, .ref am25, .int (nI 136), .int (nI ps26), .int (nI 31)])), (am21, .inl (g.2.1 2, 25, .inr (.inl f38))), (am22, .inl (g.2.1 2, 25, .inr (.inl f39))), (am23, .inl (g.2.1 2, 5, .inr (.inl f40))), (am24, .inl (g.2.1 2, 24, .inr (.inl f24))), (am25, .inl (g.2.1 0, 25, .inl f25))]) (wr := []) hP hD hS hA [0, 1, 2, 3, 4, 5] [] rfl rfl rfl (by decide) (va_runV (As := [.ref r28, .int (nI 0), .int (nI 640)]) (rest := []) F (t_MS_take l g _ T (am25 :: (am24 :: (am23 :: (am22 :: (am21 :: (r21 :: xs)))))) pl hO hU (clo_cons (clo_cons (clo_cons (clo_cons (clo_cons (clo_cons hc0 kr21 (by decide)) km21 (by decide)) km22 (by decide)) km23 (by decide)) km24 (by decide)) km25 (by decide)) r28 640 0 640 r21 am21 am22 am23 am24 am25 136 ps26 (nI 31) f38 f39 f40 f24 f25 kr28 (by omega) (by omega) (by omega) (by omega)) (cwV 3 hts (wg_app (wg_c kw_1722 (wg_c kw_1638 (wg_c kw_1639 (wg_c kw_10 wg_n)))) kw_1640) rfl rfl rfl (by decide +kernel) ⟨by decide, by decide⟩) (pp_V (en_ok g) (q0 := 0) hK hP hD hS hA hE [0, 1, 2, 3, 4, 5] rfl rfl rfl rfl) rfl rfl hl.1 rfl (lv_room (Nat.le_of_ble_eq_true rfl)) dMH_mask_89 ⟨by omega, by omega⟩) (fun  u31 H locs hu26 hP hD hS => ?_)
      obtain ⟨u32, pl⟩ := u31
      obtain ⟨hq26, hO⟩ := hu26
      obtain ⟨ps27, f41, f42, f43⟩ := u32
      have hP : va_P g.1 vcl ([(r21, .inr (9, [.ref am21, .ref am22, .ref am23, .ref am24, .ref am25, .int (nI 136), .int (nI ps27), .int (nI 31)])), (am21, .inl (g.2.1 2, 25, .inr (.inl f41))), (am22, .inl (g.2.1 2, 25, .inr (.inl f42))), (am23, .inl (g.2.1 2, 5, .inr (.inl f43))), (am24, .inl (g.2.1 2, 24, .inr (.inl f24))), (am25, .inl (g.2.1 0, 25, .inl f25))] ++ pl) _ := hP
      have hD : va_D _ ([(r21, .inr (9, [.ref am21, .ref am22, .ref am23, .ref am24, .ref am25, .int (nI 136), .int (nI ps27), .int (nI 31)])), (am21, .inl (g.2.1 2, 25, .inr (.inl f41))), (am22, .inl (g.2.1 2, 25, .inr (.inl f42))), (am23, .inl (g.2.1 2, 5, .inr (.inl f43))), (am24, .inl (g.2.1 2, 24, .inr (.inl f24))), (am25, .inl (g.2.1 0, 25, .inl f25))] ++ pl) := hD
      have hq26 : ps27 ≤ 136 := hq26
      refine W.widen (k := 0) (n := 0) (by omega) (by omega) ?_
      refine lv_iconst (v := nI 0) hx hb dMH_mask_92 (by decide) ?_
      refine lv_istore (lv' := [(4, .int (nI 0)), (3, .int (nI i21)), (2, .int (nI 20)), (0, .ref h0), (1, .int fr)]) hx hb dMH_mask_93 hl (by decide) rfl (fun ls hl => ?_)
      have hO := close1 (e := .inl (g.2.1 0, 25, .inl f25)) hO km25 ⟨_, rfl⟩
      have hO := close1 (e := .inl (g.2.1 2, 24, .inr (.inl f24))) hO km24 ⟨_, rfl⟩
      have hO := close1 (e := .inl (g.2.1 2, 5, .inr (.inl f43))) hO km23 ⟨_, rfl⟩
      have hO := close1 (e := .inl (g.2.1 2, 25, .inr (.inl f42))) hO km22 ⟨_, rfl⟩
      have hO := close1 (e := .inl (g.2.1 2, 25, .inr (.inl f41))) hO km21 ⟨_, rfl⟩
      have hO := close1 (e := .inr (9, [.ref am21, .ref am22, .ref am23, .ref am24, .ref am25, .int (nI 136), .int (nI ps27), .int (nI 31)])) hO kr21 ⟨_, _, _, _, _, _, _, _, rfl, km21, km22, km23, km24, km25, by omega, by omega, by omega⟩
      have hO : okx g T xs ((r21, .inr (9, [.ref am21, .ref am22, .ref am23, .ref am24, .ref am25, .int (nI 136), .int (nI ps27), .int (nI 31)])) :: (am21, .inl (g.2.1 2, 25, .inr (.inl f41))) :: (am22, .inl (g.2.1 2, 25, .inr (.inl f42))) :: (am23, .inl (g.2.1 2, 5, .inr (.inl f43))) :: (am24, .inl (g.2.1 2, 24, .inr (.inl f24))) :: (am25, .inl (g.2.1 0, 25, .inl f25)) :: pl) := hO
      have hP : va_P g.1 vcl ([] ++ ((r21, .inr (9, [.ref am21, .ref am22, .ref am23, .ref am24, .ref am25, .int (nI 136), .int (nI ps27), .int (nI 31)])) :: (am21, .inl (g.2.1 2, 25, .inr (.inl f41))) :: (am22, .inl (g.2.1 2, 25, .inr (.inl f42))) :: (am23, .inl (g.2.1 2, 5, .inr (.inl f43))) :: (am24, .inl (g.2.1 2, 24, .inr (.inl f24))) :: (am25, .inl (g.2.1 0, 25, .inl f25)) :: pl)) _ := hP
      have hD : va_D _ ([] ++ ((r21, .inr (9, [.ref am21, .ref am22, .ref am23, .ref am24, .ref am25, .int (nI 136), .int (nI ps27), .int (nI 31)])) :: (am21, .inl (g.2.1 2, 25, .inr (.inl f41))) :: (am22, .inl (g.2.1 2, 25, .inr (.inl f42))) :: (am23, .inl (g.2.1 2, 5, .inr (.inl f43))) :: (am24, .inl (g.2.1 2, 24, .inr (.inl f24))) :: (am25, .inl (g.2.1 0, 25, .inl f25)) :: pl)) := hD
      generalize ((r21, .inr (9, [.ref am21, .ref am22, .ref am23, .ref am24, .ref am25, .int (nI 136), .int (nI ps27), .int (nI 31)])) :: (am21, .inl (g.2.1 2, 25, .inr (.inl f41))) :: (am22, .inl (g.2.1 2, 25, .inr (.inl f42))) :: (am23, .inl (g.2.1 2, 5, .inr (.inl f43))) :: (am24, .inl (g.2.1 2, 24, .inr (.inl f24))) :: (am25, .inl (g.2.1 0, 25, .inl f25)) :: pl) = pl at hO hP hD
      have lp22 : ∀ (n22 : Nat) (i22 : Nat) (pl : va_W) (ls : Array Slot) (H : Heap) (locs : List Loc), n22 + i22 = 256 → lv_has ls 5 [(4, .int (nI i22)), (3, .int (nI i21)), (2, .int (nI 20)), (0, .ref h0), (1, .int fr)] → okx g T xs pl → va_P g.1 vcl ([] ++ pl) H → va_D A ([] ++ pl) → va_S A s.heap H locs → W p l e ({ frames := 4, cells := 0, slots := 0, locals := 98 } : Room) s m args below meth c H locs 0 0 (MQ below (va_Qv (fun (u : va_W) => (True) ∧ okx g T xs u) (po g.1 vcl A (fun (u : va_W) => [] ++ u)) A) args s 0 0 A) (F0 m 95 ls []) := by
        intro n22
        induction n22 with
        | zero =>
          intro i22 pl ls H locs hm22  hl hO hP hD hS
          refine lv_iload hx hb dMH_mask_95 (lv_at hl 0 rfl) ?_
          refine lv_sipush (v := nI 256) hx hb dMH_mask_97 (by decide) ?_
          refine mi_ge (tgt := 137) hx hb dMH_mask_100 (by decide) (by omega) (by omega) (fun h24 => ?_) (fun h24 => absurd h24 (by omega))
          refine mi_iinc (k := 1) (x := i21) (d := 1) (y := i21 + 1) (lv' := [(3, .int (nI (i21 + 1))), (4, .int (nI i22)), (2, .int (nI 20)), (0, .ref h0), (1, .int fr)]) hx hb dMH_mask_137 hl rfl (by decide) rfl (by decide) rfl (fun ls hl => ?_)
          refine lv_goto (tgt := 17) hx hb dMH_mask_140 (by decide) ?_
          exact ih21 (i21 + 1) pl ls H locs (by omega) (lv_sub hl [0, 2, 3, 4] rfl) hO hP hD hS
        | succ n22 ih22 =>
          intro i22 pl ls H locs hm22  hl hO hP hD hS
          refine lv_iload hx hb dMH_mask_95 (lv_at hl 0 rfl) ?_
          refine lv_sipush (v := nI 256) hx hb dMH_mask_97 (by decide) ?_
          refine mi_ge (tgt := 137) hx hb dMH_mask_100 (by decide) (by omega) (by omega) (fun h25 => absurd h25 (by omega)) (fun h25 => ?_)
          refine lv_aload_n hx hb dMH_mask_103 rfl (lv_at hl 3 rfl) ?_
          refine ty_get (ci := 12) (C := "LatticeKeysModel$Hands") (TT := T_MH) (N := 31) (kd := (47, 0)) hx hb hts (wg_ft i_MH) hown hK hO k_h0 (nxg hc0 k_h0 rfl) hP (fun _ h9 => h9) rfl 7 (by decide) (hts _ (wg_t kw_1439)) (fun _ h9 => h9) (cd := (3, 3, 7)) rfl dMH_mask_104 (fun v32 hv32 => ?_)
          obtain ⟨r29, rfl, kr29⟩ := (show ∃ r : Nat, v32 = .ref r ∧ T r = some (3, 7) from hv32)
          refine lv_iload_n hx hb dMH_mask_107 rfl (lv_at hl 1 rfl) ?_
          refine ty_aald3 hx hb hK hO kr29 (nxg hc0 kr29 rfl) hP (by omega) (by decide) dMH_mask_108 (fun r30 kr30 => ?_)
          refine lv_iload hx hb dMH_mask_109 (lv_at hl 0 rfl) ?_
          refine lv_aload_n hx hb dMH_mask_111 rfl (lv_at hl 3 rfl) ?_
          refine ty_get (ci := 12) (C := "LatticeKeysModel$Hands") (TT := T_MH) (N := 31) (kd := (47, 0)) hx hb hts (wg_ft i_MH) hown hK hO k_h0 (nxg hc0 k_h0 rfl) hP (fun _ h9 => h9) rfl 27 (by decide) (hts _ (wg_t kw_1459)) (fun _ h9 => h9) (cd := (1, 0, 524288)) rfl dMH_mask_112 (fun v33 hv33 => ?_)
          obtain rfl := (show v33 = .int (nI 524288) from hv33)
          refine lv_aload_n hx hb dMH_mask_115 rfl (lv_at hl 3 rfl) ?_
          refine ty_get (ci := 12) (C := "LatticeKeysModel$Hands") (TT := T_MH) (N := 31) (kd := (47, 0)) hx hb hts (wg_ft i_MH) hown hK hO k_h0 (nxg hc0 k_h0 rfl) hP (fun _ h9 => h9) rfl 19 (by decide) (hts _ (wg_t kw_1451)) (fun _ h9 => h9) (cd := (3, 1, 640)) rfl dMH_mask_116 (fun v34 hv34 => ?_)
          obtain ⟨r31, rfl, kr31⟩ := (show ∃ r : Nat, v34 = .ref r ∧ T r = some (1, 640) from hv34)
          refine lv_iload_n hx hb dMH_mask_119 rfl (lv_at hl 2 rfl) ?_
          refine lv_iload hx hb dMH_mask_120 (lv_at hl 0 rfl) ?_
          refine mi_imul hx hb dMH_mask_122 ?_
          refine lv_iload_n hx hb dMH_mask_123 rfl (lv_at hl 2 rfl) ?_
          refine mp_i (cx := []) (wr := []) hP hD hS hA [] [] rfl rfl rfl (by decide) (va_runSN (As := [.ref r31, .int (nI (20 * i22)), .int (nI 20)]) (rest := [.int (nI 524288), .int (nI i22), .ref r30]) F (t_M_unpack l g _ T xs pl hO hU hc0 r31 640 (20 * i22) 20 kr31 (by omega) (by omega) (by omega)) ⟨va_cnB 3 hts (wg_in kw_1667) rfl rfl rfl (hE.2.2.2.2.2.2.2.2.2.2) (hts _ (wg_t kw_9)) (by decide +kernel) ⟨by decide, by decide⟩, hts _ (wg_t kw_1666), trivial⟩ (pp_S (en_ok g) hP hD hS hA hE [] rfl rfl) rfl rfl hl.1 rfl (lv_room (Nat.le_of_ble_eq_true rfl)) dMH_mask_124 ⟨by omega, by omega⟩) (fun r32 pl H locs hu27 hP hD hS => ?_)
          obtain ⟨hq27, hO⟩ := hu27
          have hP : va_P g.1 vcl ([] ++ pl) _ := hP
          have hD : va_D _ ([] ++ pl) := hD
          refine W.widen (k := 0) (n := 0) (by omega) (by omega) ?_
          refine mp_i (cx := []) (wr := []) hP hD hS hA [] [] rfl rfl rfl (by decide) (va_runS (As := [.int (nI 524288), .int r32]) (rest := [.int (nI i22), .ref r30]) F (t_MH_minus l g _ T xs pl hO hU  (nI 524288) r32) (va_cwS 2 hts (wg_app (wg_c kw_1865 (wg_c kw_1866 (wg_c kw_13 wg_n))) kw_1867) rfl rfl rfl (by decide +kernel) ⟨by decide, by decide⟩) (pp_S (en_ok g) hP hD hS hA hE [] rfl rfl) rfl rfl hl.1 rfl (lv_room (Nat.le_of_ble_eq_true rfl)) dMH_mask_127 ⟨by omega, by omega⟩) (fun r33 pl H locs hu28 hP hD hS => ?_)
          obtain ⟨hq28, hO⟩ := hu28
          have hP : va_P g.1 vcl ([] ++ pl) _ := hP
          have hD : va_D _ ([] ++ pl) := hD
          refine W.widen (k := 0) (n := 0) (by omega) (by omega) ?_
          refine ty_iast hx hb hK hO kr30 (nxg hc0 kr30 rfl) hP hD hS (vp_in_nI (by omega) (by decide)) dMH_mask_130 (fun pl H locs hO hP hD hS => ?_)
          refine mi_iinc (k := 0) (x := i22) (d := 1) (y := i22 + 1) (lv' := [(4, .int (nI (i22 + 1))), (3, .int (nI i21)), (2, .int (nI 20)), (0, .ref h0), (1, .int fr)]) hx hb dMH_mask_131 hl rfl (by decide) rfl (by decide) rfl (fun ls hl => ?_)
          refine lv_goto (tgt := 95) hx hb dMH_mask_134 (by decide) ?_
          exact ih22 (i22 + 1) pl ls H locs (by omega) (lv_sub hl [0, 1, 2, 3, 4] rfl) hO hP hD hS
      exact lp22 256 0 pl ls _ _ (by omega) (lv_sub hl [0, 1, 2, 3, 4] rfl) hO hP hD hS
  exact lp21 5 0 pl ls _ _ (by omega) (lv_sub hl [0, 1, 2, 3] rfl) hO hP hD hS
set_option maxHeartbeats 400000 in
set_option maxRecDepth 100000 in
theorem t_MH_mask_2 (l : Launch) (g : Gd) (sz : Nat) (T : Ty) (xs : List Nat) (pl : va_W) (hO : okx g T xs pl) (hU : uni T) (hc0 : clo T xs 0) (hc9 : clo T xs 9) (h0 : Nat) (fr : Int32) (k_h0 : T h0 = some (48, 0))  : Met l y_MH_mask w_MH_mask ({ frames := 4, cells := 0, slots := 0, locals := 98 } : Room) (va_Pc [.ref h0, .int fr] (pr (en g) g.1 vcl sz ([] ++ pl))) (va_Qv (fun (u : va_W) => (True) ∧ okx g T xs u) (po g.1 vcl (va_A ([] ++ pl) sz) (fun (u : va_W) => [] ++ u)) (va_A ([] ++ pl) sz)) 0 0 (va_A ([] ++ pl) sz) := by
  refine mc_entry (cc := c_MH_mask) (maxL := 5) (ret := none) (by decide) rfl (Nat.le_of_ble_eq_true rfl) ?_
  intro p e s m args below meth c ls F hr hlk hnm hsz hP hD hE hA hl
  obtain ⟨hx, hb, hml, hown, hts⟩ := id F
  have hK := hE.1
  generalize va_A ([] ++ pl) sz = A at hD hE hA ⊢
  have hS : va_S A s.heap s.heap [] := va_S.rf
  have hl : lv_has ls 5 [(0, .ref h0), (1, .int fr)] := hl
  refine lv_aload_n hx hb dMH_mask_0 rfl (lv_at hl 0 rfl) ?_
  refine ty_get (ci := 12) (C := "LatticeKeysModel$Hands") (TT := T_MH) (N := 31) (kd := (48, 0)) hx hb hts (wg_ft i_MH) hown hK hO k_h0 (nxg hc0 k_h0 rfl) hP (fun _ h9 => h9) rfl 23 (by decide) (hts _ (wg_t kw_1455)) (fun _ h9 => h9) (cd := (1, 0, 2)) rfl dMH_mask_1 (fun v21 hv21 => ?_)
  obtain rfl := (show v21 = .int (nI 2) from hv21)
  refine lv_if_ne (tgt := 12) hx hb dMH_mask_4 (by decide) (fun h21 => ?_) (fun h21 => absurd h21 (by decide))
  refine lv_bipush (v := nI 20) hx hb dMH_mask_12 (by decide) ?_
  refine lv_istore_n (lv' := [(2, .int (nI 20)), (0, .ref h0), (1, .int fr)]) hx hb dMH_mask_14 rfl hl (by decide) rfl (fun ls hl => ?_)
  refine lv_iconst (v := nI 0) hx hb dMH_mask_15 (by decide) ?_
  refine lv_istore_n (lv' := [(3, .int (nI 0)), (2, .int (nI 20)), (0, .ref h0), (1, .int fr)]) hx hb dMH_mask_16 rfl hl (by decide) rfl (fun ls hl => ?_)
  have lp21 : ∀ (n21 : Nat) (i21 : Nat) (pl : va_W) (ls : Array Slot) (H : Heap) (locs : List Loc), n21 + i21 = 7 → lv_has ls 5 [(3, .int (nI i21)), (2, .int (nI 20)), (0, .ref h0), (1, .int fr)] → okx g T xs pl → va_P g.1 vcl ([] ++ pl) H → va_D A ([] ++ pl) → va_S A s.heap H locs → W p l e ({ frames := 4, cells := 0, slots := 0, locals := 98 } : Room) s m args below meth c H locs 0 0 (MQ below (va_Qv (fun (u : va_W) => (True) ∧ okx g T xs u) (po g.1 vcl A (fun (u : va_W) => [] ++ u)) A) args s 0 0 A) (F0 m 17 ls []) := by
    intro n21
    induction n21 with
    | zero =>
      intro i21 pl ls H locs hm21  hl hO hP hD hS
      refine lv_iload_n hx hb dMH_mask_17 rfl (lv_at hl 0 rfl) ?_
      refine lv_aload_n hx hb dMH_mask_18 rfl (lv_at hl 2 rfl) ?_
      refine ty_get (ci := 12) (C := "LatticeKeysModel$Hands") (TT := T_MH) (N := 31) (kd := (48, 0)) hx hb hts (wg_ft i_MH) hown hK hO k_h0 (nxg hc0 k_h0 rfl) hP (fun _ h9 => h9) rfl 25 (by decide) (hts _ (wg_t kw_1457)) (fun _ h9 => h9) (cd := (1, 0, 7)) rfl dMH_mask_19 (fun v22 hv22 => ?_)
      obtain rfl := (show v22 = .int (nI 7) from hv22)
      refine mi_ge (tgt := 143) hx hb dMH_mask_22 (by decide) (by omega) (by omega) (fun h22 => ?_) (fun h22 => absurd h22 (by omega))
      exact mp_vret hx hb hr hlk hP hD hS pl ⟨trivial, hO⟩ [] rfl rfl rfl (by omega) (by omega) dMH_mask_143
    | succ n21 ih21 =>
      intro i21 pl ls H locs hm21  hl hO hP hD hS
      refine lv_iload_n hx hb dMH_mask_17 rfl (lv_at hl 0 rfl) ?_
      refine lv_aload_n hx hb dMH_mask_18 rfl (lv_at hl 2 rfl) ?_
      refine ty_get (ci := 12) (C := "LatticeKeysModel$Hands") (TT := T_MH) (N := 31) (kd := (48, 0)) hx hb hts (wg_ft i_MH) hown hK hO k_h0 (nxg hc0 k_h0 rfl) hP (fun _ h9 => h9) rfl 25 (by decide) (hts _ (wg_t kw_1457)) (fun _ h9 => h9) (cd := (1, 0, 7)) rfl dMH_mask_19 (fun v23 hv23 => ?_)
      obtain rfl := (show v23 = .int (nI 7) from hv23)
      refine mi_ge (tgt := 143) hx hb dMH_mask_22 (by decide) (by omega) (by omega) (fun h23 => absurd h23 (by omega)) (fun h23 => ?_)
      refine lv_aload_n hx hb dMH_mask_25 rfl (lv_at hl 2 rfl) ?_
      refine ty_get (ci := 12) (C := "LatticeKeysModel$Hands") (TT := T_MH) (N := 31) (kd := (48, 0)) hx hb hts (wg_ft i_MH) hown hK hO k_h0 (nxg hc0 k_h0 rfl) hP (fun _ h9 => h9) rfl 0 (by decide) (hts _ (wg_t kw_1432)) (fun _ h9 => h9) (cd := (3, 20, 0)) rfl dMH_mask_26 (fun v24 hv24 => ?_)
      obtain ⟨r21, rfl, kr21⟩ := (show ∃ r : Nat, v24 = .ref r ∧ T r = some (20, 0) from hv24)
      obtain ⟨e21, pl, hP, hD, hk21, hO⟩ := open1 hP hD hO kr21 (nxg hc9 kr21 rfl)
      obtain ⟨am21, am22, am23, am24, am25, rt21, ps21, x21, rfl, km21, km22, km23, km24, km25, hr21, hr22, hr23⟩ := hk21
      obtain ⟨e22, pl, hP, hD, hk22, hO⟩ := open1 hP hD hO km21 (nmc (knd_ne km21 kr21 (by decide)) (nxg hc9 km21 rfl))
      obtain ⟨f21, rfl⟩ := hk22
      obtain ⟨e23, pl, hP, hD, hk23, hO⟩ := open1 hP hD hO km22 (nmc (knd_ne km22 km21 (by decide)) (nmc (knd_ne km22 kr21 (by decide)) (nxg hc9 km22 rfl)))
      obtain ⟨f22, rfl⟩ := hk23
      obtain ⟨e24, pl, hP, hD, hk24, hO⟩ := open1 hP hD hO km23 (nmc (knd_ne km23 km22 (by decide)) (nmc (knd_ne km23 km21 (by decide)) (nmc (knd_ne km23 kr21 (by decide)) (nxg hc9 km23 rfl))))
      obtain ⟨f23, rfl⟩ := hk24
      obtain ⟨e25, pl, hP, hD, hk25, hO⟩ := open1 hP hD hO km24 (nmc (knd_ne km24 km23 (by decide)) (nmc (knd_ne km24 km22 (by decide)) (nmc (knd_ne km24 km21 (by decide)) (nmc (knd_ne km24 kr21 (by decide)) (nxg hc9 km24 rfl)))))
      obtain ⟨f24, rfl⟩ := hk25
      obtain ⟨e26, pl, hP, hD, hk26, hO⟩ := open1 hP hD hO km25 (nmc (knd_ne km25 km24 (by decide)) (nmc (knd_ne km25 km23 (by decide)) (nmc (knd_ne km25 km22 (by decide)) (nmc (knd_ne km25 km21 (by decide)) (nmc (knd_ne km25 kr21 (by decide)) (nxg hc9 km25 rfl))))))
      obtain ⟨f25, rfl⟩ := hk26
      have hP : va_P g.1 vcl ([(r21, .inr (9, [.ref am21, .ref am22, .ref am23, .ref am24, .ref am25, .int (nI rt21), .int (nI ps21), .int x21])), (am21, .inl (g.2.1 2, 25, .inr (.inl f21))), (am22, .inl (g.2.1 2, 25, .inr (.inl f22))), (am23, .inl (g.2.1 2, 5, .inr (.inl f23))), (am24, .inl (g.2.1 2, 24, .inr (.inl f24))), (am25, .inl (g.2.1 0, 25, .inl f25))] ++ pl) _ := hP
      have hD : va_D _ ([(r21, .inr (9, [.ref am21, .ref am22, .ref am23, .ref am24, .ref am25, .int (nI rt21), .int (nI ps21), .int x21])), (am21, .inl (g.2.1 2, 25, .inr (.inl f21))), (am22, .inl (g.2.1 2, 25, .inr (.inl f22))), (am23, .inl (g.2.1 2, 5, .inr (.inl f23))), (am24, .inl (g.2.1 2, 24, .inr (.inl f24))), (am25, .inl (g.2.1 0, 25, .inl f25))] ++ pl) := hD
      refine mp_v (cx := [(r21, .inr (9, [.ref am21, .ref am22, .ref am23, .ref am24, .ref am25, .int (nI rt21), .int (nI ps21), .int x21])), (am21, .inl (g.2.1 2, 25, .inr (.inl f21))), (am22, .inl (g.2.1 2, 25, .inr (.inl f22))), (am23, .inl (g.2.1 2, 5, .inr (.inl f23))), (am24, .inl (g.2.1 2, 24, .inr (.inl f24))), (am25, .inl (g.2.1 0, 25, .inl f25))]) (wr := []) hP hD hS hA [0, 1, 2, 3, 4, 5] [] rfl rfl rfl (by decide) (va_runV (As := []) (rest := []) F (t_MS_shake l g _ T (am25 :: (am24 :: (am23 :: (am22 :: (am21 :: (r21 :: xs)))))) pl hO hU  r21 am21 am22 am23 am24 am25 rt21 ps21 x21 f21 f22 f23 f24 f25) (cwV 0 hts (wg_app (wg_c kw_1718 (wg_c kw_1661 (wg_c kw_1662 (wg_c kw_10 wg_n)))) kw_1663) rfl rfl rfl (by decide +kernel) ⟨by decide, by decide⟩) (pp_V (en_ok g) (q0 := 0) hK hP hD hS hA hE [0, 1, 2, 3, 4, 5] rfl rfl rfl rfl) rfl rfl hl.1 rfl (lv_room (Nat.le_of_ble_eq_true rfl)) dMH_mask_29 ⟨by omega, by omega⟩) (fun  u21 H locs hu21 hP hD hS => ?_)
      obtain ⟨u22, pl⟩ := u21
      obtain ⟨hq21, hO⟩ := hu21
      obtain ⟨ps22, f26, f27, f28⟩ := u22
      have hP : va_P g.1 vcl ([(r21, .inr (9, [.ref am21, .ref am22, .ref am23, .ref am24, .ref am25, .int (nI 136), .int (nI ps22), .int (nI 31)])), (am21, .inl (g.2.1 2, 25, .inr (.inl f26))), (am22, .inl (g.2.1 2, 25, .inr (.inl f27))), (am23, .inl (g.2.1 2, 5, .inr (.inl f28))), (am24, .inl (g.2.1 2, 24, .inr (.inl f24))), (am25, .inl (g.2.1 0, 25, .inl f25))] ++ pl) _ := hP
      have hD : va_D _ ([(r21, .inr (9, [.ref am21, .ref am22, .ref am23, .ref am24, .ref am25, .int (nI 136), .int (nI ps22), .int (nI 31)])), (am21, .inl (g.2.1 2, 25, .inr (.inl f26))), (am22, .inl (g.2.1 2, 25, .inr (.inl f27))), (am23, .inl (g.2.1 2, 5, .inr (.inl f28))), (am24, .inl (g.2.1 2, 24, .inr (.inl f24))), (am25, .inl (g.2.1 0, 25, .inl f25))] ++ pl) := hD
      have hq21 : ps22 ≤ 136 := hq21
      refine W.widen (k := 0) (n := 0) (by omega) (by omega) ?_
      refine lv_aload_n hx hb dMH_mask_32 rfl (lv_at hl 2 rfl) ?_
      refine ty_get (ci := 12) (C := "LatticeKeysModel$Hands") (TT := T_MH) (N := 31) (kd := (48, 0)) hx hb hts (wg_ft i_MH) hown hK hO k_h0 (nxg (clo_cons (clo_cons (clo_cons (clo_cons (clo_cons (clo_cons hc0 kr21 (by decide)) km21 (by decide)) km22 (by decide)) km23 (by decide)) km24 (by decide)) km25 (by decide)) k_h0 rfl) hP (fun _ h9 => h9) rfl 0 (by decide) (hts _ (wg_t kw_1432)) (fun _ h9 => h9) (cd := (3, 20, 0)) rfl dMH_mask_33 (fun v25 hv25 => ?_)
      obtain ⟨r22, rfl, kr22⟩ := (show ∃ r : Nat, v25 = .ref r ∧ T r = some (20, 0) from hv25)
      obtain rfl : r21 = r22 := hU _ _ _ (by decide) kr21 kr22
      refine lv_aload_n hx hb dMH_mask_36 rfl (lv_at hl 2 rfl) ?_
      refine ty_get (ci := 12) (C := "LatticeKeysModel$Hands") (TT := T_MH) (N := 31) (kd := (48, 0)) hx hb hts (wg_ft i_MH) hown hK hO k_h0 (nxg (clo_cons (clo_cons (clo_cons (clo_cons (clo_cons (clo_cons hc0 kr21 (by decide)) km21 (by decide)) km22 (by decide)) km23 (by decide)) km24 (by decide)) km25 (by decide)) k_h0 rfl) hP (fun _ h9 => h9) rfl 18 (by decide) (hts _ (wg_t kw_1450)) (fun _ h9 => h9) (cd := (3, 1, 64)) rfl dMH_mask_37 (fun v26 hv26 => ?_)
      obtain ⟨r23, rfl, kr23⟩ := (show ∃ r : Nat, v26 = .ref r ∧ T r = some (1, 64) from hv26)
      refine lv_iconst (v := nI 0) hx hb dMH_mask_40 (by decide) ?_
      refine lv_bipush (v := nI 64) hx hb dMH_mask_41 (by decide) ?_
      refine mp_v (cx := [(r21, .inr (9, [.ref am21, .ref am22, .ref am23, .ref am24, .ref am25, .int (nI 136), .int (nI ps22), .int (nI 31)])), (am21, .inl (g.2.1 2, 25, .inr (.inl f26))), (am22, .inl (g.2.1 2, 25, .inr (.inl f27))), (am23, .inl (g.2.1 2, 5, .inr (.inl f28))), (am24, .inl (g.2.1 2, 24, .inr (.inl f24))), (am25, .inl (g.2.1 0, 25, .inl f25))]) (wr := []) hP hD hS hA [0, 1, 2, 3, 4, 5] [] rfl rfl rfl (by decide) (va_runV (As := [.ref r23, .int (nI 0), .int (nI 64)]) (rest := []) F (t_MS_puts l g _ T (am25 :: (am24 :: (am23 :: (am22 :: (am21 :: (r21 :: xs)))))) pl hO hU (clo_cons (clo_cons (clo_cons (clo_cons (clo_cons (clo_cons hc0 kr21 (by decide)) km21 (by decide)) km22 (by decide)) km23 (by decide)) km24 (by decide)) km25 (by decide)) r23 64 0 64 r21 am21 am22 am23 am24 am25 136 ps22 (nI 31) f26 f27 f28 f24 f25 kr23 (by omega) (by omega) (by omega) (by omega)) (cwV 3 hts (wg_app (wg_c kw_1719 (wg_c kw_1612 (wg_c kw_1613 (wg_c kw_10 wg_n)))) kw_1614) rfl rfl rfl (by decide +kernel) ⟨by decide, by decide⟩) (pp_V (en_ok g) (q0 := 0) hK hP hD hS hA hE [0, 1, 2, 3, 4, 5] rfl rfl rfl rfl) rfl rfl hl.1 rfl (lv_room (Nat.le_of_ble_eq_true rfl)) dMH_mask_43 ⟨by omega, by omega⟩) (fun  u23 H locs hu22 hP hD hS => ?_)
      obtain ⟨u24, pl⟩ := u23
      obtain ⟨hq22, hO⟩ := hu22
      obtain ⟨ps23, f29, f30, f31⟩ := u24
      have hP : va_P g.1 vcl ([(r21, .inr (9, [.ref am21, .ref am22, .ref am23, .ref am24, .ref am25, .int (nI 136), .int (nI ps23), .int (nI 31)])), (am21, .inl (g.2.1 2, 25, .inr (.inl f29))), (am22, .inl (g.2.1 2, 25, .inr (.inl f30))), (am23, .inl (g.2.1 2, 5, .inr (.inl f31))), (am24, .inl (g.2.1 2, 24, .inr (.inl f24))), (am25, .inl (g.2.1 0, 25, .inl f25))] ++ pl) _ := hP
      have hD : va_D _ ([(r21, .inr (9, [.ref am21, .ref am22, .ref am23, .ref am24, .ref am25, .int (nI 136), .int (nI ps23), .int (nI 31)])), (am21, .inl (g.2.1 2, 25, .inr (.inl f29))), (am22, .inl (g.2.1 2, 25, .inr (.inl f30))), (am23, .inl (g.2.1 2, 5, .inr (.inl f31))), (am24, .inl (g.2.1 2, 24, .inr (.inl f24))), (am25, .inl (g.2.1 0, 25, .inl f25))] ++ pl) := hD
      have hq22 : ps23 ≤ 136 := hq22
      refine W.widen (k := 0) (n := 0) (by omega) (by omega) ?_
      refine lv_aload_n hx hb dMH_mask_46 rfl (lv_at hl 2 rfl) ?_
      refine ty_get (ci := 12) (C := "LatticeKeysModel$Hands") (TT := T_MH) (N := 31) (kd := (48, 0)) hx hb hts (wg_ft i_MH) hown hK hO k_h0 (nxg (clo_cons (clo_cons (clo_cons (clo_cons (clo_cons (clo_cons hc0 kr21 (by decide)) km21 (by decide)) km22 (by decide)) km23 (by decide)) km24 (by decide)) km25 (by decide)) k_h0 rfl) hP (fun _ h9 => h9) rfl 0 (by decide) (hts _ (wg_t kw_1432)) (fun _ h9 => h9) (cd := (3, 20, 0)) rfl dMH_mask_47 (fun v27 hv27 => ?_)
      obtain ⟨r24, rfl, kr24⟩ := (show ∃ r : Nat, v27 = .ref r ∧ T r = some (20, 0) from hv27)
      obtain rfl : r21 = r24 := hU _ _ _ (by decide) kr21 kr24
      refine lv_iload_n hx hb dMH_mask_50 rfl (lv_at hl 3 rfl) ?_
      refine lv_iload_n hx hb dMH_mask_51 rfl (lv_at hl 0 rfl) ?_
      refine lv_iadd hx hb dMH_mask_52 ?_
      refine mi_any (fun z21 => ?_)
      refine mp_v (cx := [(r21, .inr (9, [.ref am21, .ref am22, .ref am23, .ref am24, .ref am25, .int (nI 136), .int (nI ps23), .int (nI 31)])), (am21, .inl (g.2.1 2, 25, .inr (.inl f29))), (am22, .inl (g.2.1 2, 25, .inr (.inl f30))), (am23, .inl (g.2.1 2, 5, .inr (.inl f31))), (am24, .inl (g.2.1 2, 24, .inr (.inl f24))), (am25, .inl (g.2.1 0, 25, .inl f25))]) (wr := []) hP hD hS hA [0, 1, 2, 3, 4, 5] [] rfl rfl rfl (by decide) (va_runV (As := [.int z21]) (rest := []) F (t_MS_put l g _ T (am25 :: (am24 :: (am23 :: (am22 :: (am21 :: (r21 :: xs)))))) pl hO hU  z21 r21 am21 am22 am23 am24 am25 136 ps23 (nI 31) f29 f30 f31 f24 f25 (by omega) (by omega)) (cwV 1 hts (wg_app (wg_c kw_1720 (wg_c kw_1616 (wg_c kw_1617 (wg_c kw_10 wg_n)))) kw_1618) rfl rfl rfl (by decide +kernel) ⟨by decide, by decide⟩) (pp_V (en_ok g) (q0 := 0) hK hP hD hS hA hE [0, 1, 2, 3, 4, 5] rfl rfl rfl rfl) rfl rfl hl.1 rfl (lv_room (Nat.le_of_ble_eq_true rfl)) dMH_mask_53 ⟨by omega, by omega⟩) (fun  u25 H locs hu23 hP hD hS => ?_)
      obtain ⟨u26, pl⟩ := u25
      obtain ⟨hq23, hO⟩ := hu23
      obtain ⟨ps24, f32, f33, f34⟩ := u26
      have hP : va_P g.1 vcl ([(r21, .inr (9, [.ref am21, .ref am22, .ref am23, .ref am24, .ref am25, .int (nI 136), .int (nI ps24), .int (nI 31)])), (am21, .inl (g.2.1 2, 25, .inr (.inl f32))), (am22, .inl (g.2.1 2, 25, .inr (.inl f33))), (am23, .inl (g.2.1 2, 5, .inr (.inl f34))), (am24, .inl (g.2.1 2, 24, .inr (.inl f24))), (am25, .inl (g.2.1 0, 25, .inl f25))] ++ pl) _ := hP
      have hD : va_D _ ([(r21, .inr (9, [.ref am21, .ref am22, .ref am23, .ref am24, .ref am25, .int (nI 136), .int (nI ps24), .int (nI 31)])), (am21, .inl (g.2.1 2, 25, .inr (.inl f32))), (am22, .inl (g.2.1 2, 25, .inr (.inl f33))), (am23, .inl (g.2.1 2, 5, .inr (.inl f34))), (am24, .inl (g.2.1 2, 24, .inr (.inl f24))), (am25, .inl (g.2.1 0, 25, .inl f25))] ++ pl) := hD
      have hq23 : ps24 ≤ 136 := hq23
      refine W.widen (k := 0) (n := 0) (by omega) (by omega) ?_
      refine lv_aload_n hx hb dMH_mask_56 rfl (lv_at hl 2 rfl) ?_
      refine ty_get (ci := 12) (C := "LatticeKeysModel$Hands") (TT := T_MH) (N := 31) (kd := (48, 0)) hx hb hts (wg_ft i_MH) hown hK hO k_h0 (nxg (clo_cons (clo_cons (clo_cons (clo_cons (clo_cons (clo_cons hc0 kr21 (by decide)) km21 (by decide)) km22 (by decide)) km23 (by decide)) km24 (by decide)) km25 (by decide)) k_h0 rfl) hP (fun _ h9 => h9) rfl 0 (by decide) (hts _ (wg_t kw_1432)) (fun _ h9 => h9) (cd := (3, 20, 0)) rfl dMH_mask_57 (fun v28 hv28 => ?_)
      obtain ⟨r25, rfl, kr25⟩ := (show ∃ r : Nat, v28 = .ref r ∧ T r = some (20, 0) from hv28)
      obtain rfl : r21 = r25 := hU _ _ _ (by decide) kr21 kr25
      refine lv_iload_n hx hb dMH_mask_60 rfl (lv_at hl 3 rfl) ?_
      refine lv_iload_n hx hb dMH_mask_61 rfl (lv_at hl 0 rfl) ?_
      refine lv_iadd hx hb dMH_mask_62 ?_
      refine mi_any (fun z22 => ?_)
      refine lv_bipush (v := nI 8) hx hb dMH_mask_63 (by decide) ?_
      refine lv_ishr hx hb dMH_mask_65 ?_
      refine mi_any (fun z23 => ?_)
      refine mp_v (cx := [(r21, .inr (9, [.ref am21, .ref am22, .ref am23, .ref am24, .ref am25, .int (nI 136), .int (nI ps24), .int (nI 31)])), (am21, .inl (g.2.1 2, 25, .inr (.inl f32))), (am22, .inl (g.2.1 2, 25, .inr (.inl f33))), (am23, .inl (g.2.1 2, 5, .inr (.inl f34))), (am24, .inl (g.2.1 2, 24, .inr (.inl f24))), (am25, .inl (g.2.1 0, 25, .inl f25))]) (wr := []) hP hD hS hA [0, 1, 2, 3, 4, 5] [] rfl rfl rfl (by decide) (va_runV (As := [.int z23]) (rest := []) F (t_MS_put l g _ T (am25 :: (am24 :: (am23 :: (am22 :: (am21 :: (r21 :: xs)))))) pl hO hU  z23 r21 am21 am22 am23 am24 am25 136 ps24 (nI 31) f32 f33 f34 f24 f25 (by omega) (by omega)) (cwV 1 hts (wg_app (wg_c kw_1720 (wg_c kw_1616 (wg_c kw_1617 (wg_c kw_10 wg_n)))) kw_1618) rfl rfl rfl (by decide +kernel) ⟨by decide, by decide⟩) (pp_V (en_ok g) (q0 := 0) hK hP hD hS hA hE [0, 1, 2, 3, 4, 5] rfl rfl rfl rfl) rfl rfl hl.1 rfl (lv_room (Nat.le_of_ble_eq_true rfl)) dMH_mask_66 ⟨by omega, by omega⟩) (fun  u27 H locs hu24 hP hD hS => ?_)
      obtain ⟨u28, pl⟩ := u27
      obtain ⟨hq24, hO⟩ := hu24
      obtain ⟨ps25, f35, f36, f37⟩ := u28
      have hP : va_P g.1 vcl ([(r21, .inr (9, [.ref am21, .ref am22, .ref am23, .ref am24, .ref am25, .int (nI 136), .int (nI ps25), .int (nI 31)])), (am21, .inl (g.2.1 2, 25, .inr (.inl f35))), (am22, .inl (g.2.1 2, 25, .inr (.inl f36))), (am23, .inl (g.2.1 2, 5, .inr (.inl f37))), (am24, .inl (g.2.1 2, 24, .inr (.inl f24))), (am25, .inl (g.2.1 0, 25, .inl f25))] ++ pl) _ := hP
      have hD : va_D _ ([(r21, .inr (9, [.ref am21, .ref am22, .ref am23, .ref am24, .ref am25, .int (nI 136), .int (nI ps25), .int (nI 31)])), (am21, .inl (g.2.1 2, 25, .inr (.inl f35))), (am22, .inl (g.2.1 2, 25, .inr (.inl f36))), (am23, .inl (g.2.1 2, 5, .inr (.inl f37))), (am24, .inl (g.2.1 2, 24, .inr (.inl f24))), (am25, .inl (g.2.1 0, 25, .inl f25))] ++ pl) := hD
      have hq24 : ps25 ≤ 136 := hq24
      refine W.widen (k := 0) (n := 0) (by omega) (by omega) ?_
      refine lv_aload_n hx hb dMH_mask_69 rfl (lv_at hl 2 rfl) ?_
      refine ty_get (ci := 12) (C := "LatticeKeysModel$Hands") (TT := T_MH) (N := 31) (kd := (48, 0)) hx hb hts (wg_ft i_MH) hown hK hO k_h0 (nxg (clo_cons (clo_cons (clo_cons (clo_cons (clo_cons (clo_cons hc0 kr21 (by decide)) km21 (by decide)) km22 (by decide)) km23 (by decide)) km24 (by decide)) km25 (by decide)) k_h0 rfl) hP (fun _ h9 => h9) rfl 0 (by decide) (hts _ (wg_t kw_1432)) (fun _ h9 => h9) (cd := (3, 20, 0)) rfl dMH_mask_70 (fun v29 hv29 => ?_)
      obtain ⟨r26, rfl, kr26⟩ := (show ∃ r : Nat, v29 = .ref r ∧ T r = some (20, 0) from hv29)
      obtain rfl : r21 = r26 := hU _ _ _ (by decide) kr21 kr26
      refine mp_v (cx := [(r21, .inr (9, [.ref am21, .ref am22, .ref am23, .ref am24, .ref am25, .int (nI 136), .int (nI ps25), .int (nI 31)])), (am21, .inl (g.2.1 2, 25, .inr (.inl f35))), (am22, .inl (g.2.1 2, 25, .inr (.inl f36))), (am23, .inl (g.2.1 2, 5, .inr (.inl f37))), (am24, .inl (g.2.1 2, 24, .inr (.inl f24))), (am25, .inl (g.2.1 0, 25, .inl f25))]) (wr := []) hP hD hS hA [0, 1, 2, 3, 4, 5] [] rfl rfl rfl (by decide) (va_runV (As := []) (rest := []) F (t_MS_end l g _ T (am25 :: (am24 :: (am23 :: (am22 :: (am21 :: (r21 :: xs)))))) pl hO hU  r21 am21 am22 am23 am24 am25 136 ps25 (nI 31) f35 f36 f37 f24 f25 (by omega) (by omega)) (cwV 0 hts (wg_app (wg_c kw_1721 (wg_c kw_1634 (wg_c kw_1635 (wg_c kw_10 wg_n)))) kw_1636) rfl rfl rfl (by decide +kernel) ⟨by decide, by decide⟩) (pp_V (en_ok g) (q0 := 0) hK hP hD hS hA hE [0, 1, 2, 3, 4, 5] rfl rfl rfl rfl) rfl rfl hl.1 rfl (lv_room (Nat.le_of_ble_eq_true rfl)) dMH_mask_73 ⟨by omega, by omega⟩) (fun  u29 H locs hu25 hP hD hS => ?_)
      obtain ⟨u30, pl⟩ := u29
      obtain ⟨hq25, hO⟩ := hu25
      obtain ⟨ps26, f38, f39, f40⟩ := u30
      have hP : va_P g.1 vcl ([(r21, .inr (9, [.ref am21, .ref am22, .ref am23, .ref am24, .ref am25, .int (nI 136), .int (nI ps26), .int (nI 31)])), (am21, .inl (g.2.1 2, 25, .inr (.inl f38))), (am22, .inl (g.2.1 2, 25, .inr (.inl f39))), (am23, .inl (g.2.1 2, 5, .inr (.inl f40))), (am24, .inl (g.2.1 2, 24, .inr (.inl f24))), (am25, .inl (g.2.1 0, 25, .inl f25))] ++ pl) _ := hP
      have hD : va_D _ ([(r21, .inr (9, [.ref am21, .ref am22, .ref am23, .ref am24, .ref am25, .int (nI 136), .int (nI ps26), .int (nI 31)])), (am21, .inl (g.2.1 2, 25, .inr (.inl f38))), (am22, .inl (g.2.1 2, 25, .inr (.inl f39))), (am23, .inl (g.2.1 2, 5, .inr (.inl f40))), (am24, .inl (g.2.1 2, 24, .inr (.inl f24))), (am25, .inl (g.2.1 0, 25, .inl f25))] ++ pl) := hD
      have hq25 : ps26 ≤ 136 := hq25
      refine W.widen (k := 0) (n := 0) (by omega) (by omega) ?_
      refine lv_aload_n hx hb dMH_mask_76 rfl (lv_at hl 2 rfl) ?_
      refine ty_get (ci := 12) (C := "LatticeKeysModel$Hands") (TT := T_MH) (N := 31) (kd := (48, 0)) hx hb hts (wg_ft i_MH) hown hK hO k_h0 (nxg (clo_cons (clo_cons (clo_cons (clo_cons (clo_cons (clo_cons hc0 kr21 (by decide)) km21 (by decide)) km22 (by decide)) km23 (by decide)) km24 (by decide)) km25 (by decide)) k_h0 rfl) hP (fun _ h9 => h9) rfl 0 (by decide) (hts _ (wg_t kw_1432)) (fun _ h9 => h9) (cd := (3, 20, 0)) rfl dMH_mask_77 (fun v30 hv30 => ?_)
      obtain ⟨r27, rfl, kr27⟩ := (show ∃ r : Nat, v30 = .ref r ∧ T r = some (20, 0) from hv30)
      obtain rfl : r21 = r27 := hU _ _ _ (by decide) kr21 kr27
      refine lv_aload_n hx hb dMH_mask_80 rfl (lv_at hl 2 rfl) ?_
      refine ty_get (ci := 12) (C := "LatticeKeysModel$Hands") (TT := T_MH) (N := 31) (kd := (48, 0)) hx hb hts (wg_ft i_MH) hown hK hO k_h0 (nxg (clo_cons (clo_cons (clo_cons (clo_cons (clo_cons (clo_cons hc0 kr21 (by decide)) km21 (by decide)) km22 (by decide)) km23 (by decide)) km24 (by decide)) km25 (by decide)) k_h0 rfl) hP (fun _ h9 => h9) rfl 19 (by decide) (hts _ (wg_t kw_1451)) (fun _ h9 => h9) (cd := (3, 1, 640)) rfl dMH_mask_81 (fun v31 hv31 => ?_)
      obtain ⟨r28, rfl, kr28⟩ := (show ∃ r : Nat, v31 = .ref r ∧ T r = some (1, 640) from hv31)
      refine lv_iconst (v := nI 0) hx hb dMH_mask_84 (by decide) ?_
      refine lv_bipush (v := nI 32) hx hb dMH_mask_85 (by decide) ?_
      refine lv_iload_n hx hb dMH_mask_87 rfl (lv_at hl 1 rfl) ?_
      refine mi_imul hx hb dMH_mask_88 ?_
      refine mi_as (show nI (32 * 20) = nI 640 from rfl) ?_
      refine mp_v (cx := [(r21, .inr (9, [.ref am21, .ref am22, .ref am23, .ref am24, .ref am25, .int (nI 136), .int (nI ps26), .int (nI 31)])), (am21, .inl (g.2.1 2, 25, .inr (.inl f38))), (am22, .inl (g.2.1 2, 25, .inr (.inl f39))), (am23, .inl (g.2.1 2, 5, .inr (.inl f40))), (am24, .inl (g.2.1 2, 24, .inr (.inl f24))), (am25, .inl (g.2.1 0, 25, .inl f25))]) (wr := []) hP hD hS hA [0, 1, 2, 3, 4, 5] [] rfl rfl rfl (by decide) (va_runV (As := [.ref r28, .int (nI 0), .int (nI 640)]) (rest := []) F (t_MS_take l g _ T (am25 :: (am24 :: (am23 :: (am22 :: (am21 :: (r21 :: xs)))))) pl hO hU (clo_cons (clo_cons (clo_cons (clo_cons (clo_cons (clo_cons hc0 kr21 (by decide)) km21 (by decide)) km22 (by decide)) km23 (by decide)) km24 (by decide)) km25 (by decide)) r28 640 0 640 r21 am21 am22 am23 am24 am25 136 ps26 (nI 31) f38 f39 f40 f24 f25 kr28 (by omega) (by omega) (by omega) (by omega)) (cwV 3 hts (wg_app (wg_c kw_1722 (wg_c kw_1638 (wg_c kw_1639 (wg_c kw_10 wg_n)))) kw_1640) rfl rfl rfl (by decide +kernel) ⟨by decide, by decide⟩) (pp_V (en_ok g) (q0 := 0) hK hP hD hS hA hE [0, 1, 2, 3, 4, 5] rfl rfl rfl rfl) rfl rfl hl.1 rfl (lv_room (Nat.le_of_ble_eq_true rfl)) dMH_mask_89 ⟨by omega, by omega⟩) (fun  u31 H locs hu26 hP hD hS => ?_)
      obtain ⟨u32, pl⟩ := u31
      obtain ⟨hq26, hO⟩ := hu26
      obtain ⟨ps27, f41, f42, f43⟩ := u32
      have hP : va_P g.1 vcl ([(r21, .inr (9, [.ref am21, .ref am22, .ref am23, .ref am24, .ref am25, .int (nI 136), .int (nI ps27), .int (nI 31)])), (am21, .inl (g.2.1 2, 25, .inr (.inl f41))), (am22, .inl (g.2.1 2, 25, .inr (.inl f42))), (am23, .inl (g.2.1 2, 5, .inr (.inl f43))), (am24, .inl (g.2.1 2, 24, .inr (.inl f24))), (am25, .inl (g.2.1 0, 25, .inl f25))] ++ pl) _ := hP
      have hD : va_D _ ([(r21, .inr (9, [.ref am21, .ref am22, .ref am23, .ref am24, .ref am25, .int (nI 136), .int (nI ps27), .int (nI 31)])), (am21, .inl (g.2.1 2, 25, .inr (.inl f41))), (am22, .inl (g.2.1 2, 25, .inr (.inl f42))), (am23, .inl (g.2.1 2, 5, .inr (.inl f43))), (am24, .inl (g.2.1 2, 24, .inr (.inl f24))), (am25, .inl (g.2.1 0, 25, .inl f25))] ++ pl) := hD
      have hq26 : ps27 ≤ 136 := hq26
      refine W.widen (k := 0) (n := 0) (by omega) (by omega) ?_
      refine lv_iconst (v := nI 0) hx hb dMH_mask_92 (by decide) ?_
      refine lv_istore (lv' := [(4, .int (nI 0)), (3, .int (nI i21)), (2, .int (nI 20)), (0, .ref h0), (1, .int fr)]) hx hb dMH_mask_93 hl (by decide) rfl (fun ls hl => ?_)
      have hO := close1 (e := .inl (g.2.1 0, 25, .inl f25)) hO km25 ⟨_, rfl⟩
      have hO := close1 (e := .inl (g.2.1 2, 24, .inr (.inl f24))) hO km24 ⟨_, rfl⟩
      have hO := close1 (e := .inl (g.2.1 2, 5, .inr (.inl f43))) hO km23 ⟨_, rfl⟩
      have hO := close1 (e := .inl (g.2.1 2, 25, .inr (.inl f42))) hO km22 ⟨_, rfl⟩
      have hO := close1 (e := .inl (g.2.1 2, 25, .inr (.inl f41))) hO km21 ⟨_, rfl⟩
      have hO := close1 (e := .inr (9, [.ref am21, .ref am22, .ref am23, .ref am24, .ref am25, .int (nI 136), .int (nI ps27), .int (nI 31)])) hO kr21 ⟨_, _, _, _, _, _, _, _, rfl, km21, km22, km23, km24, km25, by omega, by omega, by omega⟩
      have hO : okx g T xs ((r21, .inr (9, [.ref am21, .ref am22, .ref am23, .ref am24, .ref am25, .int (nI 136), .int (nI ps27), .int (nI 31)])) :: (am21, .inl (g.2.1 2, 25, .inr (.inl f41))) :: (am22, .inl (g.2.1 2, 25, .inr (.inl f42))) :: (am23, .inl (g.2.1 2, 5, .inr (.inl f43))) :: (am24, .inl (g.2.1 2, 24, .inr (.inl f24))) :: (am25, .inl (g.2.1 0, 25, .inl f25)) :: pl) := hO
      have hP : va_P g.1 vcl ([] ++ ((r21, .inr (9, [.ref am21, .ref am22, .ref am23, .ref am24, .ref am25, .int (nI 136), .int (nI ps27), .int (nI 31)])) :: (am21, .inl (g.2.1 2, 25, .inr (.inl f41))) :: (am22, .inl (g.2.1 2, 25, .inr (.inl f42))) :: (am23, .inl (g.2.1 2, 5, .inr (.inl f43))) :: (am24, .inl (g.2.1 2, 24, .inr (.inl f24))) :: (am25, .inl (g.2.1 0, 25, .inl f25)) :: pl)) _ := hP
      have hD : va_D _ ([] ++ ((r21, .inr (9, [.ref am21, .ref am22, .ref am23, .ref am24, .ref am25, .int (nI 136), .int (nI ps27), .int (nI 31)])) :: (am21, .inl (g.2.1 2, 25, .inr (.inl f41))) :: (am22, .inl (g.2.1 2, 25, .inr (.inl f42))) :: (am23, .inl (g.2.1 2, 5, .inr (.inl f43))) :: (am24, .inl (g.2.1 2, 24, .inr (.inl f24))) :: (am25, .inl (g.2.1 0, 25, .inl f25)) :: pl)) := hD
      generalize ((r21, .inr (9, [.ref am21, .ref am22, .ref am23, .ref am24, .ref am25, .int (nI 136), .int (nI ps27), .int (nI 31)])) :: (am21, .inl (g.2.1 2, 25, .inr (.inl f41))) :: (am22, .inl (g.2.1 2, 25, .inr (.inl f42))) :: (am23, .inl (g.2.1 2, 5, .inr (.inl f43))) :: (am24, .inl (g.2.1 2, 24, .inr (.inl f24))) :: (am25, .inl (g.2.1 0, 25, .inl f25)) :: pl) = pl at hO hP hD
      have lp22 : ∀ (n22 : Nat) (i22 : Nat) (pl : va_W) (ls : Array Slot) (H : Heap) (locs : List Loc), n22 + i22 = 256 → lv_has ls 5 [(4, .int (nI i22)), (3, .int (nI i21)), (2, .int (nI 20)), (0, .ref h0), (1, .int fr)] → okx g T xs pl → va_P g.1 vcl ([] ++ pl) H → va_D A ([] ++ pl) → va_S A s.heap H locs → W p l e ({ frames := 4, cells := 0, slots := 0, locals := 98 } : Room) s m args below meth c H locs 0 0 (MQ below (va_Qv (fun (u : va_W) => (True) ∧ okx g T xs u) (po g.1 vcl A (fun (u : va_W) => [] ++ u)) A) args s 0 0 A) (F0 m 95 ls []) := by
        intro n22
        induction n22 with
        | zero =>
          intro i22 pl ls H locs hm22  hl hO hP hD hS
          refine lv_iload hx hb dMH_mask_95 (lv_at hl 0 rfl) ?_
          refine lv_sipush (v := nI 256) hx hb dMH_mask_97 (by decide) ?_
          refine mi_ge (tgt := 137) hx hb dMH_mask_100 (by decide) (by omega) (by omega) (fun h24 => ?_) (fun h24 => absurd h24 (by omega))
          refine mi_iinc (k := 1) (x := i21) (d := 1) (y := i21 + 1) (lv' := [(3, .int (nI (i21 + 1))), (4, .int (nI i22)), (2, .int (nI 20)), (0, .ref h0), (1, .int fr)]) hx hb dMH_mask_137 hl rfl (by decide) rfl (by decide) rfl (fun ls hl => ?_)
          refine lv_goto (tgt := 17) hx hb dMH_mask_140 (by decide) ?_
          exact ih21 (i21 + 1) pl ls H locs (by omega) (lv_sub hl [0, 2, 3, 4] rfl) hO hP hD hS
        | succ n22 ih22 =>
          intro i22 pl ls H locs hm22  hl hO hP hD hS
          refine lv_iload hx hb dMH_mask_95 (lv_at hl 0 rfl) ?_
          refine lv_sipush (v := nI 256) hx hb dMH_mask_97 (by decide) ?_
          refine mi_ge (tgt := 137) hx hb dMH_mask_100 (by decide) (by omega) (by omega) (fun h25 => absurd h25 (by omega)) (fun h25 => ?_)
          refine lv_aload_n hx hb dMH_mask_103 rfl (lv_at hl 3 rfl) ?_
          refine ty_get (ci := 12) (C := "LatticeKeysModel$Hands") (TT := T_MH) (N := 31) (kd := (48, 0)) hx hb hts (wg_ft i_MH) hown hK hO k_h0 (nxg hc0 k_h0 rfl) hP (fun _ h9 => h9) rfl 7 (by decide) (hts _ (wg_t kw_1439)) (fun _ h9 => h9) (cd := (3, 3, 7)) rfl dMH_mask_104 (fun v32 hv32 => ?_)
          obtain ⟨r29, rfl, kr29⟩ := (show ∃ r : Nat, v32 = .ref r ∧ T r = some (3, 7) from hv32)
          refine lv_iload_n hx hb dMH_mask_107 rfl (lv_at hl 1 rfl) ?_
          refine ty_aald3 hx hb hK hO kr29 (nxg hc0 kr29 rfl) hP (by omega) (by decide) dMH_mask_108 (fun r30 kr30 => ?_)
          refine lv_iload hx hb dMH_mask_109 (lv_at hl 0 rfl) ?_
          refine lv_aload_n hx hb dMH_mask_111 rfl (lv_at hl 3 rfl) ?_
          refine ty_get (ci := 12) (C := "LatticeKeysModel$Hands") (TT := T_MH) (N := 31) (kd := (48, 0)) hx hb hts (wg_ft i_MH) hown hK hO k_h0 (nxg hc0 k_h0 rfl) hP (fun _ h9 => h9) rfl 27 (by decide) (hts _ (wg_t kw_1459)) (fun _ h9 => h9) (cd := (1, 0, 524288)) rfl dMH_mask_112 (fun v33 hv33 => ?_)
          obtain rfl := (show v33 = .int (nI 524288) from hv33)
          refine lv_aload_n hx hb dMH_mask_115 rfl (lv_at hl 3 rfl) ?_
          refine ty_get (ci := 12) (C := "LatticeKeysModel$Hands") (TT := T_MH) (N := 31) (kd := (48, 0)) hx hb hts (wg_ft i_MH) hown hK hO k_h0 (nxg hc0 k_h0 rfl) hP (fun _ h9 => h9) rfl 19 (by decide) (hts _ (wg_t kw_1451)) (fun _ h9 => h9) (cd := (3, 1, 640)) rfl dMH_mask_116 (fun v34 hv34 => ?_)
          obtain ⟨r31, rfl, kr31⟩ := (show ∃ r : Nat, v34 = .ref r ∧ T r = some (1, 640) from hv34)
          refine lv_iload_n hx hb dMH_mask_119 rfl (lv_at hl 2 rfl) ?_
          refine lv_iload hx hb dMH_mask_120 (lv_at hl 0 rfl) ?_
          refine mi_imul hx hb dMH_mask_122 ?_
          refine lv_iload_n hx hb dMH_mask_123 rfl (lv_at hl 2 rfl) ?_
          refine mp_i (cx := []) (wr := []) hP hD hS hA [] [] rfl rfl rfl (by decide) (va_runSN (As := [.ref r31, .int (nI (20 * i22)), .int (nI 20)]) (rest := [.int (nI 524288), .int (nI i22), .ref r30]) F (t_M_unpack l g _ T xs pl hO hU hc0 r31 640 (20 * i22) 20 kr31 (by omega) (by omega) (by omega)) ⟨va_cnB 3 hts (wg_in kw_1667) rfl rfl rfl (hE.2.2.2.2.2.2.2.2.2.2) (hts _ (wg_t kw_9)) (by decide +kernel) ⟨by decide, by decide⟩, hts _ (wg_t kw_1666), trivial⟩ (pp_S (en_ok g) hP hD hS hA hE [] rfl rfl) rfl rfl hl.1 rfl (lv_room (Nat.le_of_ble_eq_true rfl)) dMH_mask_124 ⟨by omega, by omega⟩) (fun r32 pl H locs hu27 hP hD hS => ?_)
          obtain ⟨hq27, hO⟩ := hu27
          have hP : va_P g.1 vcl ([] ++ pl) _ := hP
          have hD : va_D _ ([] ++ pl) := hD
          refine W.widen (k := 0) (n := 0) (by omega) (by omega) ?_
          refine mp_i (cx := []) (wr := []) hP hD hS hA [] [] rfl rfl rfl (by decide) (va_runS (As := [.int (nI 524288), .int r32]) (rest := [.int (nI i22), .ref r30]) F (t_MH_minus l g _ T xs pl hO hU  (nI 524288) r32) (va_cwS 2 hts (wg_app (wg_c kw_1865 (wg_c kw_1866 (wg_c kw_13 wg_n))) kw_1867) rfl rfl rfl (by decide +kernel) ⟨by decide, by decide⟩) (pp_S (en_ok g) hP hD hS hA hE [] rfl rfl) rfl rfl hl.1 rfl (lv_room (Nat.le_of_ble_eq_true rfl)) dMH_mask_127 ⟨by omega, by omega⟩) (fun r33 pl H locs hu28 hP hD hS => ?_)
          obtain ⟨hq28, hO⟩ := hu28
          have hP : va_P g.1 vcl ([] ++ pl) _ := hP
          have hD : va_D _ ([] ++ pl) := hD
          refine W.widen (k := 0) (n := 0) (by omega) (by omega) ?_
          refine ty_iast hx hb hK hO kr30 (nxg hc0 kr30 rfl) hP hD hS (vp_in_nI (by omega) (by decide)) dMH_mask_130 (fun pl H locs hO hP hD hS => ?_)
          refine mi_iinc (k := 0) (x := i22) (d := 1) (y := i22 + 1) (lv' := [(4, .int (nI (i22 + 1))), (3, .int (nI i21)), (2, .int (nI 20)), (0, .ref h0), (1, .int fr)]) hx hb dMH_mask_131 hl rfl (by decide) rfl (by decide) rfl (fun ls hl => ?_)
          refine lv_goto (tgt := 95) hx hb dMH_mask_134 (by decide) ?_
          exact ih22 (i22 + 1) pl ls H locs (by omega) (lv_sub hl [0, 1, 2, 3, 4] rfl) hO hP hD hS
      exact lp22 256 0 pl ls _ _ (by omega) (lv_sub hl [0, 1, 2, 3, 4] rfl) hO hP hD hS
  exact lp21 7 0 pl ls _ _ (by omega) (lv_sub hl [0, 1, 2, 3] rfl) hO hP hD hS
set_option maxHeartbeats 400000 in
set_option maxRecDepth 100000 in
theorem t_MH_marked_0 (l : Launch) (g : Gd) (sz : Nat) (T : Ty) (xs : List Nat) (pl : va_W) (hO : okx g T xs pl) (hU : uni T) (hc0 : clo T xs 0) (hc9 : clo T xs 9) (h0 to : Nat) (hd : Int32) (k_h0 : T h0 = some (46, 0)) (k_to : T to = some (1, 64))  : Met l y_MH_marked w_MH_marked ({ frames := 4, cells := 0, slots := 0, locals := 98 } : Room) (va_Pc [.ref h0, .int hd, .ref to] (pr (en g) g.1 vcl sz ([] ++ pl))) (va_Qv (fun (u : va_W) => (True) ∧ okx g T xs u) (po g.1 vcl (va_A ([] ++ pl) sz) (fun (u : va_W) => [] ++ u)) (va_A ([] ++ pl) sz)) 0 0 (va_A ([] ++ pl) sz) := by
  refine mc_entry (cc := c_MH_marked) (maxL := 6) (ret := none) (by decide) rfl (Nat.le_of_ble_eq_true rfl) ?_
  intro p e s m args below meth c ls F hr hlk hnm hsz hP hD hE hA hl
  obtain ⟨hx, hb, hml, hown, hts⟩ := id F
  have hK := hE.1
  generalize va_A ([] ++ pl) sz = A at hD hE hA ⊢
  have hS : va_S A s.heap s.heap [] := va_S.rf
  have hl : lv_has ls 6 [(0, .ref h0), (1, .int hd), (2, .ref to)] := hl
  refine lv_aload_n hx hb dMH_marked_0 rfl (lv_at hl 0 rfl) ?_
  refine ty_get (ci := 12) (C := "LatticeKeysModel$Hands") (TT := T_MH) (N := 31) (kd := (46, 0)) hx hb hts (wg_ft i_MH) hown hK hO k_h0 (nxg hc0 k_h0 rfl) hP (fun _ h9 => h9) rfl 23 (by decide) (hts _ (wg_t kw_1455)) (fun _ h9 => h9) (cd := (1, 0, 0)) rfl dMH_marked_1 (fun v21 hv21 => ?_)
  obtain rfl := (show v21 = .int (nI 0) from hv21)
  refine lv_if_ne (tgt := 12) hx hb dMH_marked_4 (by decide) (fun h21 => absurd h21 (by decide)) (fun h21 => ?_)
  refine lv_bipush (v := nI 6) hx hb dMH_marked_7 (by decide) ?_
  refine lv_goto (tgt := 13) hx hb dMH_marked_9 (by decide) ?_
  refine lv_istore_n (lv' := [(3, .int (nI 6)), (0, .ref h0), (1, .int hd), (2, .ref to)]) hx hb dMH_marked_13 rfl hl (by decide) rfl (fun ls hl => ?_)
  refine lv_aload_n hx hb dMH_marked_14 rfl (lv_at hl 1 rfl) ?_
  refine ty_get (ci := 12) (C := "LatticeKeysModel$Hands") (TT := T_MH) (N := 31) (kd := (46, 0)) hx hb hts (wg_ft i_MH) hown hK hO k_h0 (nxg hc0 k_h0 rfl) hP (fun _ h9 => h9) rfl 0 (by decide) (hts _ (wg_t kw_1432)) (fun _ h9 => h9) (cd := (3, 20, 0)) rfl dMH_marked_15 (fun v22 hv22 => ?_)
  obtain ⟨r21, rfl, kr21⟩ := (show ∃ r : Nat, v22 = .ref r ∧ T r = some (20, 0) from hv22)
  obtain ⟨e21, pl, hP, hD, hk21, hO⟩ := open1 hP hD hO kr21 (nxg hc9 kr21 rfl)
  obtain ⟨am21, am22, am23, am24, am25, rt21, ps21, x21, rfl, km21, km22, km23, km24, km25, hr21, hr22, hr23⟩ := hk21
  obtain ⟨e22, pl, hP, hD, hk22, hO⟩ := open1 hP hD hO km21 (nmc (knd_ne km21 kr21 (by decide)) (nxg hc9 km21 rfl))
  obtain ⟨f21, rfl⟩ := hk22
  obtain ⟨e23, pl, hP, hD, hk23, hO⟩ := open1 hP hD hO km22 (nmc (knd_ne km22 km21 (by decide)) (nmc (knd_ne km22 kr21 (by decide)) (nxg hc9 km22 rfl)))
  obtain ⟨f22, rfl⟩ := hk23
  obtain ⟨e24, pl, hP, hD, hk24, hO⟩ := open1 hP hD hO km23 (nmc (knd_ne km23 km22 (by decide)) (nmc (knd_ne km23 km21 (by decide)) (nmc (knd_ne km23 kr21 (by decide)) (nxg hc9 km23 rfl))))
  obtain ⟨f23, rfl⟩ := hk24
  obtain ⟨e25, pl, hP, hD, hk25, hO⟩ := open1 hP hD hO km24 (nmc (knd_ne km24 km23 (by decide)) (nmc (knd_ne km24 km22 (by decide)) (nmc (knd_ne km24 km21 (by decide)) (nmc (knd_ne km24 kr21 (by decide)) (nxg hc9 km24 rfl)))))
  obtain ⟨f24, rfl⟩ := hk25
  obtain ⟨e26, pl, hP, hD, hk26, hO⟩ := open1 hP hD hO km25 (nmc (knd_ne km25 km24 (by decide)) (nmc (knd_ne km25 km23 (by decide)) (nmc (knd_ne km25 km22 (by decide)) (nmc (knd_ne km25 km21 (by decide)) (nmc (knd_ne km25 kr21 (by decide)) (nxg hc9 km25 rfl))))))
  obtain ⟨f25, rfl⟩ := hk26
  have hP : va_P g.1 vcl ([(r21, .inr (9, [.ref am21, .ref am22, .ref am23, .ref am24, .ref am25, .int (nI rt21), .int (nI ps21), .int x21])), (am21, .inl (g.2.1 2, 25, .inr (.inl f21))), (am22, .inl (g.2.1 2, 25, .inr (.inl f22))), (am23, .inl (g.2.1 2, 5, .inr (.inl f23))), (am24, .inl (g.2.1 2, 24, .inr (.inl f24))), (am25, .inl (g.2.1 0, 25, .inl f25))] ++ pl) _ := hP
  have hD : va_D _ ([(r21, .inr (9, [.ref am21, .ref am22, .ref am23, .ref am24, .ref am25, .int (nI rt21), .int (nI ps21), .int x21])), (am21, .inl (g.2.1 2, 25, .inr (.inl f21))), (am22, .inl (g.2.1 2, 25, .inr (.inl f22))), (am23, .inl (g.2.1 2, 5, .inr (.inl f23))), (am24, .inl (g.2.1 2, 24, .inr (.inl f24))), (am25, .inl (g.2.1 0, 25, .inl f25))] ++ pl) := hD
  refine mp_v (cx := [(r21, .inr (9, [.ref am21, .ref am22, .ref am23, .ref am24, .ref am25, .int (nI rt21), .int (nI ps21), .int x21])), (am21, .inl (g.2.1 2, 25, .inr (.inl f21))), (am22, .inl (g.2.1 2, 25, .inr (.inl f22))), (am23, .inl (g.2.1 2, 5, .inr (.inl f23))), (am24, .inl (g.2.1 2, 24, .inr (.inl f24))), (am25, .inl (g.2.1 0, 25, .inl f25))]) (wr := []) hP hD hS hA [0, 1, 2, 3, 4, 5] [] rfl rfl rfl (by decide) (va_runV (As := []) (rest := []) F (t_MS_shake l g _ T (am25 :: (am24 :: (am23 :: (am22 :: (am21 :: (r21 :: xs)))))) pl hO hU  r21 am21 am22 am23 am24 am25 rt21 ps21 x21 f21 f22 f23 f24 f25) (cwV 0 hts (wg_app (wg_c kw_1718 (wg_c kw_1661 (wg_c kw_1662 (wg_c kw_10 wg_n)))) kw_1663) rfl rfl rfl (by decide +kernel) ⟨by decide, by decide⟩) (pp_V (en_ok g) (q0 := 0) hK hP hD hS hA hE [0, 1, 2, 3, 4, 5] rfl rfl rfl rfl) rfl rfl hl.1 rfl (lv_room (Nat.le_of_ble_eq_true rfl)) dMH_marked_18 ⟨by omega, by omega⟩) (fun  u21 H locs hu21 hP hD hS => ?_)
  obtain ⟨u22, pl⟩ := u21
  obtain ⟨hq21, hO⟩ := hu21
  obtain ⟨ps22, f26, f27, f28⟩ := u22
  have hP : va_P g.1 vcl ([(r21, .inr (9, [.ref am21, .ref am22, .ref am23, .ref am24, .ref am25, .int (nI 136), .int (nI ps22), .int (nI 31)])), (am21, .inl (g.2.1 2, 25, .inr (.inl f26))), (am22, .inl (g.2.1 2, 25, .inr (.inl f27))), (am23, .inl (g.2.1 2, 5, .inr (.inl f28))), (am24, .inl (g.2.1 2, 24, .inr (.inl f24))), (am25, .inl (g.2.1 0, 25, .inl f25))] ++ pl) _ := hP
  have hD : va_D _ ([(r21, .inr (9, [.ref am21, .ref am22, .ref am23, .ref am24, .ref am25, .int (nI 136), .int (nI ps22), .int (nI 31)])), (am21, .inl (g.2.1 2, 25, .inr (.inl f26))), (am22, .inl (g.2.1 2, 25, .inr (.inl f27))), (am23, .inl (g.2.1 2, 5, .inr (.inl f28))), (am24, .inl (g.2.1 2, 24, .inr (.inl f24))), (am25, .inl (g.2.1 0, 25, .inl f25))] ++ pl) := hD
  have hq21 : ps22 ≤ 136 := hq21
  refine W.widen (k := 0) (n := 0) (by omega) (by omega) ?_
  refine lv_aload_n hx hb dMH_marked_21 rfl (lv_at hl 1 rfl) ?_
  refine ty_get (ci := 12) (C := "LatticeKeysModel$Hands") (TT := T_MH) (N := 31) (kd := (46, 0)) hx hb hts (wg_ft i_MH) hown hK hO k_h0 (nxg (clo_cons (clo_cons (clo_cons (clo_cons (clo_cons (clo_cons hc0 kr21 (by decide)) km21 (by decide)) km22 (by decide)) km23 (by decide)) km24 (by decide)) km25 (by decide)) k_h0 rfl) hP (fun _ h9 => h9) rfl 0 (by decide) (hts _ (wg_t kw_1432)) (fun _ h9 => h9) (cd := (3, 20, 0)) rfl dMH_marked_22 (fun v23 hv23 => ?_)
  obtain ⟨r22, rfl, kr22⟩ := (show ∃ r : Nat, v23 = .ref r ∧ T r = some (20, 0) from hv23)
  obtain rfl : r21 = r22 := hU _ _ _ (by decide) kr21 kr22
  refine lv_aload_n hx hb dMH_marked_25 rfl (lv_at hl 1 rfl) ?_
  refine ty_get (ci := 12) (C := "LatticeKeysModel$Hands") (TT := T_MH) (N := 31) (kd := (46, 0)) hx hb hts (wg_ft i_MH) hown hK hO k_h0 (nxg (clo_cons (clo_cons (clo_cons (clo_cons (clo_cons (clo_cons hc0 kr21 (by decide)) km21 (by decide)) km22 (by decide)) km23 (by decide)) km24 (by decide)) km25 (by decide)) k_h0 rfl) hP (fun _ h9 => h9) rfl 17 (by decide) (hts _ (wg_t kw_1449)) (fun _ h9 => h9) (cd := (3, 1, 64)) rfl dMH_marked_26 (fun v24 hv24 => ?_)
  obtain ⟨r23, rfl, kr23⟩ := (show ∃ r : Nat, v24 = .ref r ∧ T r = some (1, 64) from hv24)
  refine lv_iconst (v := nI 0) hx hb dMH_marked_29 (by decide) ?_
  refine lv_bipush (v := nI 64) hx hb dMH_marked_30 (by decide) ?_
  refine mp_v (cx := [(r21, .inr (9, [.ref am21, .ref am22, .ref am23, .ref am24, .ref am25, .int (nI 136), .int (nI ps22), .int (nI 31)])), (am21, .inl (g.2.1 2, 25, .inr (.inl f26))), (am22, .inl (g.2.1 2, 25, .inr (.inl f27))), (am23, .inl (g.2.1 2, 5, .inr (.inl f28))), (am24, .inl (g.2.1 2, 24, .inr (.inl f24))), (am25, .inl (g.2.1 0, 25, .inl f25))]) (wr := []) hP hD hS hA [0, 1, 2, 3, 4, 5] [] rfl rfl rfl (by decide) (va_runV (As := [.ref r23, .int (nI 0), .int (nI 64)]) (rest := []) F (t_MS_puts l g _ T (am25 :: (am24 :: (am23 :: (am22 :: (am21 :: (r21 :: xs)))))) pl hO hU (clo_cons (clo_cons (clo_cons (clo_cons (clo_cons (clo_cons hc0 kr21 (by decide)) km21 (by decide)) km22 (by decide)) km23 (by decide)) km24 (by decide)) km25 (by decide)) r23 64 0 64 r21 am21 am22 am23 am24 am25 136 ps22 (nI 31) f26 f27 f28 f24 f25 kr23 (by omega) (by omega) (by omega) (by omega)) (cwV 3 hts (wg_app (wg_c kw_1719 (wg_c kw_1612 (wg_c kw_1613 (wg_c kw_10 wg_n)))) kw_1614) rfl rfl rfl (by decide +kernel) ⟨by decide, by decide⟩) (pp_V (en_ok g) (q0 := 0) hK hP hD hS hA hE [0, 1, 2, 3, 4, 5] rfl rfl rfl rfl) rfl rfl hl.1 rfl (lv_room (Nat.le_of_ble_eq_true rfl)) dMH_marked_32 ⟨by omega, by omega⟩) (fun  u23 H locs hu22 hP hD hS => ?_)
  obtain ⟨u24, pl⟩ := u23
  obtain ⟨hq22, hO⟩ := hu22
  obtain ⟨ps23, f29, f30, f31⟩ := u24
  have hP : va_P g.1 vcl ([(r21, .inr (9, [.ref am21, .ref am22, .ref am23, .ref am24, .ref am25, .int (nI 136), .int (nI ps23), .int (nI 31)])), (am21, .inl (g.2.1 2, 25, .inr (.inl f29))), (am22, .inl (g.2.1 2, 25, .inr (.inl f30))), (am23, .inl (g.2.1 2, 5, .inr (.inl f31))), (am24, .inl (g.2.1 2, 24, .inr (.inl f24))), (am25, .inl (g.2.1 0, 25, .inl f25))] ++ pl) _ := hP
  have hD : va_D _ ([(r21, .inr (9, [.ref am21, .ref am22, .ref am23, .ref am24, .ref am25, .int (nI 136), .int (nI ps23), .int (nI 31)])), (am21, .inl (g.2.1 2, 25, .inr (.inl f29))), (am22, .inl (g.2.1 2, 25, .inr (.inl f30))), (am23, .inl (g.2.1 2, 5, .inr (.inl f31))), (am24, .inl (g.2.1 2, 24, .inr (.inl f24))), (am25, .inl (g.2.1 0, 25, .inl f25))] ++ pl) := hD
  have hq22 : ps23 ≤ 136 := hq22
  refine W.widen (k := 0) (n := 0) (by omega) (by omega) ?_
  refine lv_iconst (v := nI 0) hx hb dMH_marked_35 (by decide) ?_
  refine lv_istore (lv' := [(4, .int (nI 0)), (3, .int (nI 6)), (0, .ref h0), (1, .int hd), (2, .ref to)]) hx hb dMH_marked_36 hl (by decide) rfl (fun ls hl => ?_)
  have lp21 : ∀ (n21 : Nat) (i21 : Nat) (ps24 : Nat) (f32 : Nat → Int64) (f33 : Nat → Int64) (f34 : Nat → Int64) (pl : va_W) (ls : Array Slot) (H : Heap) (locs : List Loc), n21 + i21 = 4 → (ps24 ≤ 136) → lv_has ls 6 [(4, .int (nI i21)), (3, .int (nI 6)), (0, .ref h0), (1, .int hd), (2, .ref to)] → okx g T (am25 :: (am24 :: (am23 :: (am22 :: (am21 :: (r21 :: xs)))))) pl → va_P g.1 vcl ([(r21, .inr (9, [.ref am21, .ref am22, .ref am23, .ref am24, .ref am25, .int (nI 136), .int (nI ps24), .int (nI 31)])), (am21, .inl (g.2.1 2, 25, .inr (.inl f32))), (am22, .inl (g.2.1 2, 25, .inr (.inl f33))), (am23, .inl (g.2.1 2, 5, .inr (.inl f34))), (am24, .inl (g.2.1 2, 24, .inr (.inl f24))), (am25, .inl (g.2.1 0, 25, .inl f25))] ++ pl) H → va_D A ([(r21, .inr (9, [.ref am21, .ref am22, .ref am23, .ref am24, .ref am25, .int (nI 136), .int (nI ps24), .int (nI 31)])), (am21, .inl (g.2.1 2, 25, .inr (.inl f32))), (am22, .inl (g.2.1 2, 25, .inr (.inl f33))), (am23, .inl (g.2.1 2, 5, .inr (.inl f34))), (am24, .inl (g.2.1 2, 24, .inr (.inl f24))), (am25, .inl (g.2.1 0, 25, .inl f25))] ++ pl) → va_S A s.heap H locs → W p l e ({ frames := 4, cells := 0, slots := 0, locals := 98 } : Room) s m args below meth c H locs 0 0 (MQ below (va_Qv (fun (u : va_W) => (True) ∧ okx g T xs u) (po g.1 vcl A (fun (u : va_W) => [] ++ u)) A) args s 0 0 A) (F0 m 38 ls []) := by
    intro n21
    induction n21 with
    | zero =>
      intro i21 ps24 f32 f33 f34 pl ls H locs hm21 hi21 hl hO hP hD hS
      refine lv_iload hx hb dMH_marked_38 (lv_at hl 0 rfl) ?_
      refine lv_aload_n hx hb dMH_marked_40 rfl (lv_at hl 2 rfl) ?_
      refine ty_get (ci := 12) (C := "LatticeKeysModel$Hands") (TT := T_MH) (N := 31) (kd := (46, 0)) hx hb hts (wg_ft i_MH) hown hK hO k_h0 (nxg (clo_cons (clo_cons (clo_cons (clo_cons (clo_cons (clo_cons hc0 kr21 (by decide)) km21 (by decide)) km22 (by decide)) km23 (by decide)) km24 (by decide)) km25 (by decide)) k_h0 rfl) hP (fun _ h9 => h9) rfl 24 (by decide) (hts _ (wg_t kw_1456)) (fun _ h9 => h9) (cd := (1, 0, 4)) rfl dMH_marked_41 (fun v25 hv25 => ?_)
      obtain rfl := (show v25 = .int (nI 4) from hv25)
      refine mi_ge (tgt := 143) hx hb dMH_marked_44 (by decide) (by omega) (by omega) (fun h22 => ?_) (fun h22 => absurd h22 (by omega))
      refine lv_aload_n hx hb dMH_marked_143 rfl (lv_at hl 2 rfl) ?_
      refine ty_get (ci := 12) (C := "LatticeKeysModel$Hands") (TT := T_MH) (N := 31) (kd := (46, 0)) hx hb hts (wg_ft i_MH) hown hK hO k_h0 (nxg (clo_cons (clo_cons (clo_cons (clo_cons (clo_cons (clo_cons hc0 kr21 (by decide)) km21 (by decide)) km22 (by decide)) km23 (by decide)) km24 (by decide)) km25 (by decide)) k_h0 rfl) hP (fun _ h9 => h9) rfl 0 (by decide) (hts _ (wg_t kw_1432)) (fun _ h9 => h9) (cd := (3, 20, 0)) rfl dMH_marked_144 (fun v26 hv26 => ?_)
      obtain ⟨r24, rfl, kr24⟩ := (show ∃ r : Nat, v26 = .ref r ∧ T r = some (20, 0) from hv26)
      obtain rfl : r21 = r24 := hU _ _ _ (by decide) kr21 kr24
      refine mp_v (cx := [(r21, .inr (9, [.ref am21, .ref am22, .ref am23, .ref am24, .ref am25, .int (nI 136), .int (nI ps24), .int (nI 31)])), (am21, .inl (g.2.1 2, 25, .inr (.inl f32))), (am22, .inl (g.2.1 2, 25, .inr (.inl f33))), (am23, .inl (g.2.1 2, 5, .inr (.inl f34))), (am24, .inl (g.2.1 2, 24, .inr (.inl f24))), (am25, .inl (g.2.1 0, 25, .inl f25))]) (wr := []) hP hD hS hA [0, 1, 2, 3, 4, 5] [] rfl rfl rfl (by decide) (va_runV (As := []) (rest := []) F (t_MS_end l g _ T (am25 :: (am24 :: (am23 :: (am22 :: (am21 :: (r21 :: xs)))))) pl hO hU  r21 am21 am22 am23 am24 am25 136 ps24 (nI 31) f32 f33 f34 f24 f25 (by omega) (by omega)) (cwV 0 hts (wg_app (wg_c kw_1721 (wg_c kw_1634 (wg_c kw_1635 (wg_c kw_10 wg_n)))) kw_1636) rfl rfl rfl (by decide +kernel) ⟨by decide, by decide⟩) (pp_V (en_ok g) (q0 := 0) hK hP hD hS hA hE [0, 1, 2, 3, 4, 5] rfl rfl rfl rfl) rfl rfl hl.1 rfl (lv_room (Nat.le_of_ble_eq_true rfl)) dMH_marked_147 ⟨by omega, by omega⟩) (fun  u25 H locs hu23 hP hD hS => ?_)
      obtain ⟨u26, pl⟩ := u25
      obtain ⟨hq23, hO⟩ := hu23
      obtain ⟨ps25, f35, f36, f37⟩ := u26
      have hP : va_P g.1 vcl ([(r21, .inr (9, [.ref am21, .ref am22, .ref am23, .ref am24, .ref am25, .int (nI 136), .int (nI ps25), .int (nI 31)])), (am21, .inl (g.2.1 2, 25, .inr (.inl f35))), (am22, .inl (g.2.1 2, 25, .inr (.inl f36))), (am23, .inl (g.2.1 2, 5, .inr (.inl f37))), (am24, .inl (g.2.1 2, 24, .inr (.inl f24))), (am25, .inl (g.2.1 0, 25, .inl f25))] ++ pl) _ := hP
      have hD : va_D _ ([(r21, .inr (9, [.ref am21, .ref am22, .ref am23, .ref am24, .ref am25, .int (nI 136), .int (nI ps25), .int (nI 31)])), (am21, .inl (g.2.1 2, 25, .inr (.inl f35))), (am22, .inl (g.2.1 2, 25, .inr (.inl f36))), (am23, .inl (g.2.1 2, 5, .inr (.inl f37))), (am24, .inl (g.2.1 2, 24, .inr (.inl f24))), (am25, .inl (g.2.1 0, 25, .inl f25))] ++ pl) := hD
      have hq23 : ps25 ≤ 136 := hq23
      refine W.widen (k := 0) (n := 0) (by omega) (by omega) ?_
      refine lv_aload_n hx hb dMH_marked_150 rfl (lv_at hl 2 rfl) ?_
      refine ty_get (ci := 12) (C := "LatticeKeysModel$Hands") (TT := T_MH) (N := 31) (kd := (46, 0)) hx hb hts (wg_ft i_MH) hown hK hO k_h0 (nxg (clo_cons (clo_cons (clo_cons (clo_cons (clo_cons (clo_cons hc0 kr21 (by decide)) km21 (by decide)) km22 (by decide)) km23 (by decide)) km24 (by decide)) km25 (by decide)) k_h0 rfl) hP (fun _ h9 => h9) rfl 0 (by decide) (hts _ (wg_t kw_1432)) (fun _ h9 => h9) (cd := (3, 20, 0)) rfl dMH_marked_151 (fun v27 hv27 => ?_)
      obtain ⟨r25, rfl, kr25⟩ := (show ∃ r : Nat, v27 = .ref r ∧ T r = some (20, 0) from hv27)
      obtain rfl : r21 = r25 := hU _ _ _ (by decide) kr21 kr25
      refine lv_aload_n hx hb dMH_marked_154 rfl (lv_at hl 4 rfl) ?_
      refine lv_iconst (v := nI 0) hx hb dMH_marked_155 (by decide) ?_
      refine lv_aload_n hx hb dMH_marked_156 rfl (lv_at hl 2 rfl) ?_
      refine ty_get (ci := 12) (C := "LatticeKeysModel$Hands") (TT := T_MH) (N := 31) (kd := (46, 0)) hx hb hts (wg_ft i_MH) hown hK hO k_h0 (nxg (clo_cons (clo_cons (clo_cons (clo_cons (clo_cons (clo_cons hc0 kr21 (by decide)) km21 (by decide)) km22 (by decide)) km23 (by decide)) km24 (by decide)) km25 (by decide)) k_h0 rfl) hP (fun _ h9 => h9) rfl 30 (by decide) (hts _ (wg_t kw_1462)) (fun _ h9 => h9) (cd := (1, 0, 32)) rfl dMH_marked_157 (fun v28 hv28 => ?_)
      obtain rfl := (show v28 = .int (nI 32) from hv28)
      refine mp_v (cx := [(r21, .inr (9, [.ref am21, .ref am22, .ref am23, .ref am24, .ref am25, .int (nI 136), .int (nI ps25), .int (nI 31)])), (am21, .inl (g.2.1 2, 25, .inr (.inl f35))), (am22, .inl (g.2.1 2, 25, .inr (.inl f36))), (am23, .inl (g.2.1 2, 5, .inr (.inl f37))), (am24, .inl (g.2.1 2, 24, .inr (.inl f24))), (am25, .inl (g.2.1 0, 25, .inl f25))]) (wr := []) hP hD hS hA [0, 1, 2, 3, 4, 5] [] rfl rfl rfl (by decide) (va_runV (As := [.ref to, .int (nI 0), .int (nI 32)]) (rest := []) F (t_MS_take l g _ T (am25 :: (am24 :: (am23 :: (am22 :: (am21 :: (r21 :: xs)))))) pl hO hU (clo_cons (clo_cons (clo_cons (clo_cons (clo_cons (clo_cons hc0 kr21 (by decide)) km21 (by decide)) km22 (by decide)) km23 (by decide)) km24 (by decide)) km25 (by decide)) to 64 0 32 r21 am21 am22 am23 am24 am25 136 ps25 (nI 31) f35 f36 f37 f24 f25 k_to (by omega) (by omega) (by omega) (by omega)) (cwV 3 hts (wg_app (wg_c kw_1722 (wg_c kw_1638 (wg_c kw_1639 (wg_c kw_10 wg_n)))) kw_1640) rfl rfl rfl (by decide +kernel) ⟨by decide, by decide⟩) (pp_V (en_ok g) (q0 := 0) hK hP hD hS hA hE [0, 1, 2, 3, 4, 5] rfl rfl rfl rfl) rfl rfl hl.1 rfl (lv_room (Nat.le_of_ble_eq_true rfl)) dMH_marked_160 ⟨by omega, by omega⟩) (fun  u27 H locs hu24 hP hD hS => ?_)
      obtain ⟨u28, pl⟩ := u27
      obtain ⟨hq24, hO⟩ := hu24
      obtain ⟨ps26, f38, f39, f40⟩ := u28
      have hP : va_P g.1 vcl ([(r21, .inr (9, [.ref am21, .ref am22, .ref am23, .ref am24, .ref am25, .int (nI 136), .int (nI ps26), .int (nI 31)])), (am21, .inl (g.2.1 2, 25, .inr (.inl f38))), (am22, .inl (g.2.1 2, 25, .inr (.inl f39))), (am23, .inl (g.2.1 2, 5, .inr (.inl f40))), (am24, .inl (g.2.1 2, 24, .inr (.inl f24))), (am25, .inl (g.2.1 0, 25, .inl f25))] ++ pl) _ := hP
      have hD : va_D _ ([(r21, .inr (9, [.ref am21, .ref am22, .ref am23, .ref am24, .ref am25, .int (nI 136), .int (nI ps26), .int (nI 31)])), (am21, .inl (g.2.1 2, 25, .inr (.inl f38))), (am22, .inl (g.2.1 2, 25, .inr (.inl f39))), (am23, .inl (g.2.1 2, 5, .inr (.inl f40))), (am24, .inl (g.2.1 2, 24, .inr (.inl f24))), (am25, .inl (g.2.1 0, 25, .inl f25))] ++ pl) := hD
      have hq24 : ps26 ≤ 136 := hq24
      refine W.widen (k := 0) (n := 0) (by omega) (by omega) ?_
      have hO := close1 (e := .inl (g.2.1 0, 25, .inl f25)) hO km25 ⟨_, rfl⟩
      have hO := close1 (e := .inl (g.2.1 2, 24, .inr (.inl f24))) hO km24 ⟨_, rfl⟩
      have hO := close1 (e := .inl (g.2.1 2, 5, .inr (.inl f40))) hO km23 ⟨_, rfl⟩
      have hO := close1 (e := .inl (g.2.1 2, 25, .inr (.inl f39))) hO km22 ⟨_, rfl⟩
      have hO := close1 (e := .inl (g.2.1 2, 25, .inr (.inl f38))) hO km21 ⟨_, rfl⟩
      have hO := close1 (e := .inr (9, [.ref am21, .ref am22, .ref am23, .ref am24, .ref am25, .int (nI 136), .int (nI ps26), .int (nI 31)])) hO kr21 ⟨_, _, _, _, _, _, _, _, rfl, km21, km22, km23, km24, km25, by omega, by omega, by omega⟩
      have hO : okx g T xs ((r21, .inr (9, [.ref am21, .ref am22, .ref am23, .ref am24, .ref am25, .int (nI 136), .int (nI ps26), .int (nI 31)])) :: (am21, .inl (g.2.1 2, 25, .inr (.inl f38))) :: (am22, .inl (g.2.1 2, 25, .inr (.inl f39))) :: (am23, .inl (g.2.1 2, 5, .inr (.inl f40))) :: (am24, .inl (g.2.1 2, 24, .inr (.inl f24))) :: (am25, .inl (g.2.1 0, 25, .inl f25)) :: pl) := hO
      have hP : va_P g.1 vcl ([] ++ ((r21, .inr (9, [.ref am21, .ref am22, .ref am23, .ref am24, .ref am25, .int (nI 136), .int (nI ps26), .int (nI 31)])) :: (am21, .inl (g.2.1 2, 25, .inr (.inl f38))) :: (am22, .inl (g.2.1 2, 25, .inr (.inl f39))) :: (am23, .inl (g.2.1 2, 5, .inr (.inl f40))) :: (am24, .inl (g.2.1 2, 24, .inr (.inl f24))) :: (am25, .inl (g.2.1 0, 25, .inl f25)) :: pl)) _ := hP
      have hD : va_D _ ([] ++ ((r21, .inr (9, [.ref am21, .ref am22, .ref am23, .ref am24, .ref am25, .int (nI 136), .int (nI ps26), .int (nI 31)])) :: (am21, .inl (g.2.1 2, 25, .inr (.inl f38))) :: (am22, .inl (g.2.1 2, 25, .inr (.inl f39))) :: (am23, .inl (g.2.1 2, 5, .inr (.inl f40))) :: (am24, .inl (g.2.1 2, 24, .inr (.inl f24))) :: (am25, .inl (g.2.1 0, 25, .inl f25)) :: pl)) := hD
      generalize ((r21, .inr (9, [.ref am21, .ref am22, .ref am23, .ref am24, .ref am25, .int (nI 136), .int (nI ps26), .int (nI 31)])) :: (am21, .inl (g.2.1 2, 25, .inr (.inl f38))) :: (am22, .inl (g.2.1 2, 25, .inr (.inl f39))) :: (am23, .inl (g.2.1 2, 5, .inr (.inl f40))) :: (am24, .inl (g.2.1 2, 24, .inr (.inl f24))) :: (am25, .inl (g.2.1 0, 25, .inl f25)) :: pl) = pl at hO hP hD
      exact mp_vret hx hb hr hlk hP hD hS pl ⟨trivial, hO⟩ [] rfl rfl rfl (by omega) (by omega) dMH_marked_163
    | succ n21 ih21 =>
      intro i21 ps24 f32 f33 f34 pl ls H locs hm21 hi21 hl hO hP hD hS
      refine lv_iload hx hb dMH_marked_38 (lv_at hl 0 rfl) ?_
      refine lv_aload_n hx hb dMH_marked_40 rfl (lv_at hl 2 rfl) ?_
      refine ty_get (ci := 12) (C := "LatticeKeysModel$Hands") (TT := T_MH) (N := 31) (kd := (46, 0)) hx hb hts (wg_ft i_MH) hown hK hO k_h0 (nxg (clo_cons (clo_cons (clo_cons (clo_cons (clo_cons (clo_cons hc0 kr21 (by decide)) km21 (by decide)) km22 (by decide)) km23 (by decide)) km24 (by decide)) km25 (by decide)) k_h0 rfl) hP (fun _ h9 => h9) rfl 24 (by decide) (hts _ (wg_t kw_1456)) (fun _ h9 => h9) (cd := (1, 0, 4)) rfl dMH_marked_41 (fun v29 hv29 => ?_)
      obtain rfl := (show v29 = .int (nI 4) from hv29)
      refine mi_ge (tgt := 143) hx hb dMH_marked_44 (by decide) (by omega) (by omega) (fun h23 => absurd h23 (by omega)) (fun h23 => ?_)
      refine lv_iconst (v := nI 0) hx hb dMH_marked_47 (by decide) ?_
      refine lv_istore (lv' := [(5, .int (nI 0)), (4, .int (nI i21)), (3, .int (nI 6)), (0, .ref h0), (1, .int hd), (2, .ref to)]) hx hb dMH_marked_48 hl (by decide) rfl (fun ls hl => ?_)
      have lp22 : ∀ (n22 : Nat) (i22 : Nat) (pl : va_W) (ls : Array Slot) (H : Heap) (locs : List Loc), n22 + i22 = 256 → lv_has ls 6 [(5, .int (nI i22)), (4, .int (nI i21)), (3, .int (nI 6)), (0, .ref h0), (1, .int hd), (2, .ref to)] → okx g T (am25 :: (am24 :: (am23 :: (am22 :: (am21 :: (r21 :: xs)))))) pl → va_P g.1 vcl ([(r21, .inr (9, [.ref am21, .ref am22, .ref am23, .ref am24, .ref am25, .int (nI 136), .int (nI ps24), .int (nI 31)])), (am21, .inl (g.2.1 2, 25, .inr (.inl f32))), (am22, .inl (g.2.1 2, 25, .inr (.inl f33))), (am23, .inl (g.2.1 2, 5, .inr (.inl f34))), (am24, .inl (g.2.1 2, 24, .inr (.inl f24))), (am25, .inl (g.2.1 0, 25, .inl f25))] ++ pl) H → va_D A ([(r21, .inr (9, [.ref am21, .ref am22, .ref am23, .ref am24, .ref am25, .int (nI 136), .int (nI ps24), .int (nI 31)])), (am21, .inl (g.2.1 2, 25, .inr (.inl f32))), (am22, .inl (g.2.1 2, 25, .inr (.inl f33))), (am23, .inl (g.2.1 2, 5, .inr (.inl f34))), (am24, .inl (g.2.1 2, 24, .inr (.inl f24))), (am25, .inl (g.2.1 0, 25, .inl f25))] ++ pl) → va_S A s.heap H locs → W p l e ({ frames := 4, cells := 0, slots := 0, locals := 98 } : Room) s m args below meth c H locs 0 0 (MQ below (va_Qv (fun (u : va_W) => (True) ∧ okx g T xs u) (po g.1 vcl A (fun (u : va_W) => [] ++ u)) A) args s 0 0 A) (F0 m 50 ls []) := by
        intro n22
        induction n22 with
        | zero =>
          intro i22 pl ls H locs hm22  hl hO hP hD hS
          refine lv_iload hx hb dMH_marked_50 (lv_at hl 0 rfl) ?_
          refine lv_sipush (v := nI 256) hx hb dMH_marked_52 (by decide) ?_
          refine mi_ge (tgt := 121) hx hb dMH_marked_55 (by decide) (by omega) (by omega) (fun h24 => ?_) (fun h24 => absurd h24 (by omega))
          refine lv_aload_n hx hb dMH_marked_121 rfl (lv_at hl 3 rfl) ?_
          refine ty_get (ci := 12) (C := "LatticeKeysModel$Hands") (TT := T_MH) (N := 31) (kd := (46, 0)) hx hb hts (wg_ft i_MH) hown hK hO k_h0 (nxg (clo_cons (clo_cons (clo_cons (clo_cons (clo_cons (clo_cons hc0 kr21 (by decide)) km21 (by decide)) km22 (by decide)) km23 (by decide)) km24 (by decide)) km25 (by decide)) k_h0 rfl) hP (fun _ h9 => h9) rfl 0 (by decide) (hts _ (wg_t kw_1432)) (fun _ h9 => h9) (cd := (3, 20, 0)) rfl dMH_marked_122 (fun v30 hv30 => ?_)
          obtain ⟨r26, rfl, kr26⟩ := (show ∃ r : Nat, v30 = .ref r ∧ T r = some (20, 0) from hv30)
          obtain rfl : r21 = r26 := hU _ _ _ (by decide) kr21 kr26
          refine lv_aload_n hx hb dMH_marked_125 rfl (lv_at hl 3 rfl) ?_
          refine ty_get (ci := 12) (C := "LatticeKeysModel$Hands") (TT := T_MH) (N := 31) (kd := (46, 0)) hx hb hts (wg_ft i_MH) hown hK hO k_h0 (nxg (clo_cons (clo_cons (clo_cons (clo_cons (clo_cons (clo_cons hc0 kr21 (by decide)) km21 (by decide)) km22 (by decide)) km23 (by decide)) km24 (by decide)) km25 (by decide)) k_h0 rfl) hP (fun _ h9 => h9) rfl 19 (by decide) (hts _ (wg_t kw_1451)) (fun _ h9 => h9) (cd := (3, 1, 640)) rfl dMH_marked_126 (fun v31 hv31 => ?_)
          obtain ⟨r27, rfl, kr27⟩ := (show ∃ r : Nat, v31 = .ref r ∧ T r = some (1, 640) from hv31)
          refine lv_iconst (v := nI 0) hx hb dMH_marked_129 (by decide) ?_
          refine lv_bipush (v := nI 32) hx hb dMH_marked_130 (by decide) ?_
          refine lv_iload_n hx hb dMH_marked_132 rfl (lv_at hl 2 rfl) ?_
          refine mi_imul hx hb dMH_marked_133 ?_
          refine mi_as (show nI (32 * 6) = nI 192 from rfl) ?_
          refine mp_v (cx := [(r21, .inr (9, [.ref am21, .ref am22, .ref am23, .ref am24, .ref am25, .int (nI 136), .int (nI ps24), .int (nI 31)])), (am21, .inl (g.2.1 2, 25, .inr (.inl f32))), (am22, .inl (g.2.1 2, 25, .inr (.inl f33))), (am23, .inl (g.2.1 2, 5, .inr (.inl f34))), (am24, .inl (g.2.1 2, 24, .inr (.inl f24))), (am25, .inl (g.2.1 0, 25, .inl f25))]) (wr := []) hP hD hS hA [0, 1, 2, 3, 4, 5] [] rfl rfl rfl (by decide) (va_runV (As := [.ref r27, .int (nI 0), .int (nI 192)]) (rest := []) F (t_MS_puts l g _ T (am25 :: (am24 :: (am23 :: (am22 :: (am21 :: (r21 :: xs)))))) pl hO hU (clo_cons (clo_cons (clo_cons (clo_cons (clo_cons (clo_cons hc0 kr21 (by decide)) km21 (by decide)) km22 (by decide)) km23 (by decide)) km24 (by decide)) km25 (by decide)) r27 640 0 192 r21 am21 am22 am23 am24 am25 136 ps24 (nI 31) f32 f33 f34 f24 f25 kr27 (by omega) (by omega) (by omega) (by omega)) (cwV 3 hts (wg_app (wg_c kw_1719 (wg_c kw_1612 (wg_c kw_1613 (wg_c kw_10 wg_n)))) kw_1614) rfl rfl rfl (by decide +kernel) ⟨by decide, by decide⟩) (pp_V (en_ok g) (q0 := 0) hK hP hD hS hA hE [0, 1, 2, 3, 4, 5] rfl rfl rfl rfl) rfl rfl hl.1 rfl (lv_room (Nat.le_of_ble_eq_true rfl)) dMH_marked_134 ⟨by omega, by omega⟩) (fun  u29 H locs hu25 hP hD hS => ?_)
          obtain ⟨u30, pl⟩ := u29
          obtain ⟨hq25, hO⟩ := hu25
          obtain ⟨ps27, f41, f42, f43⟩ := u30
          have hP : va_P g.1 vcl ([(r21, .inr (9, [.ref am21, .ref am22, .ref am23, .ref am24, .ref am25, .int (nI 136), .int (nI ps27), .int (nI 31)])), (am21, .inl (g.2.1 2, 25, .inr (.inl f41))), (am22, .inl (g.2.1 2, 25, .inr (.inl f42))), (am23, .inl (g.2.1 2, 5, .inr (.inl f43))), (am24, .inl (g.2.1 2, 24, .inr (.inl f24))), (am25, .inl (g.2.1 0, 25, .inl f25))] ++ pl) _ := hP
          have hD : va_D _ ([(r21, .inr (9, [.ref am21, .ref am22, .ref am23, .ref am24, .ref am25, .int (nI 136), .int (nI ps27), .int (nI 31)])), (am21, .inl (g.2.1 2, 25, .inr (.inl f41))), (am22, .inl (g.2.1 2, 25, .inr (.inl f42))), (am23, .inl (g.2.1 2, 5, .inr (.inl f43))), (am24, .inl (g.2.1 2, 24, .inr (.inl f24))), (am25, .inl (g.2.1 0, 25, .inl f25))] ++ pl) := hD
          have hq25 : ps27 ≤ 136 := hq25
          refine W.widen (k := 0) (n := 0) (by omega) (by omega) ?_
          refine mi_iinc (k := 1) (x := i21) (d := 1) (y := i21 + 1) (lv' := [(4, .int (nI (i21 + 1))), (5, .int (nI i22)), (3, .int (nI 6)), (0, .ref h0), (1, .int hd), (2, .ref to)]) hx hb dMH_marked_137 hl rfl (by decide) rfl (by decide) rfl (fun ls hl => ?_)
          refine lv_goto (tgt := 38) hx hb dMH_marked_140 (by decide) ?_
          exact ih21 (i21 + 1) ps27 f41 f42 f43 pl ls H locs (by omega) (by omega) (lv_sub hl [0, 2, 3, 4, 5] rfl) hO hP hD hS
        | succ n22 ih22 =>
          intro i22 pl ls H locs hm22  hl hO hP hD hS
          refine lv_iload hx hb dMH_marked_50 (lv_at hl 0 rfl) ?_
          refine lv_sipush (v := nI 256) hx hb dMH_marked_52 (by decide) ?_
          refine mi_ge (tgt := 121) hx hb dMH_marked_55 (by decide) (by omega) (by omega) (fun h25 => absurd h25 (by omega)) (fun h25 => ?_)
          refine lv_aload_n hx hb dMH_marked_58 rfl (lv_at hl 3 rfl) ?_
          refine ty_get (ci := 12) (C := "LatticeKeysModel$Hands") (TT := T_MH) (N := 31) (kd := (46, 0)) hx hb hts (wg_ft i_MH) hown hK hO k_h0 (nxg (clo_cons (clo_cons (clo_cons (clo_cons (clo_cons (clo_cons hc0 kr21 (by decide)) km21 (by decide)) km22 (by decide)) km23 (by decide)) km24 (by decide)) km25 (by decide)) k_h0 rfl) hP (fun _ h9 => h9) rfl 19 (by decide) (hts _ (wg_t kw_1451)) (fun _ h9 => h9) (cd := (3, 1, 640)) rfl dMH_marked_59 (fun v32 hv32 => ?_)
          obtain ⟨r28, rfl, kr28⟩ := (show ∃ r : Nat, v32 = .ref r ∧ T r = some (1, 640) from hv32)
          refine lv_iload_n hx hb dMH_marked_62 rfl (lv_at hl 2 rfl) ?_
          refine lv_iload hx hb dMH_marked_63 (lv_at hl 0 rfl) ?_
          refine mi_imul hx hb dMH_marked_65 ?_
          refine lv_iload_n hx hb dMH_marked_66 rfl (lv_at hl 2 rfl) ?_
          refine lv_iload_n hx hb dMH_marked_67 rfl (lv_at hl 4 rfl) ?_
          refine lv_if_eq (tgt := 98) hx hb dMH_marked_68 (by decide) (fun h26 => ?_) (fun h26 => ?_)
          · refine lv_aload_n hx hb dMH_marked_98 rfl (lv_at hl 3 rfl) ?_
            refine lv_aload_n hx hb dMH_marked_99 rfl (lv_at hl 3 rfl) ?_
            refine ty_get (ci := 12) (C := "LatticeKeysModel$Hands") (TT := T_MH) (N := 31) (kd := (46, 0)) hx hb hts (wg_ft i_MH) hown hK hO k_h0 (nxg (clo_cons (clo_cons (clo_cons (clo_cons (clo_cons (clo_cons hc0 kr21 (by decide)) km21 (by decide)) km22 (by decide)) km23 (by decide)) km24 (by decide)) km25 (by decide)) k_h0 rfl) hP (fun _ h9 => h9) rfl 10 (by decide) (hts _ (wg_t kw_1442)) (fun _ h9 => h9) (cd := (3, 3, 8)) rfl dMH_marked_100 (fun v33 hv33 => ?_)
            obtain ⟨r29, rfl, kr29⟩ := (show ∃ r : Nat, v33 = .ref r ∧ T r = some (3, 8) from hv33)
            refine lv_iload hx hb dMH_marked_103 (lv_at hl 1 rfl) ?_
            refine ty_aald3 hx hb hK hO kr29 (nxg (clo_cons (clo_cons (clo_cons (clo_cons (clo_cons (clo_cons hc0 kr21 (by decide)) km21 (by decide)) km22 (by decide)) km23 (by decide)) km24 (by decide)) km25 (by decide)) kr29 rfl) hP (by omega) (by decide) dMH_marked_105 (fun r30 kr30 => ?_)
            refine lv_iload hx hb dMH_marked_106 (lv_at hl 0 rfl) ?_
            refine ty_iald hx hb hK hO kr30 (nxg (clo_cons (clo_cons (clo_cons (clo_cons (clo_cons (clo_cons hc0 kr21 (by decide)) km21 (by decide)) km22 (by decide)) km23 (by decide)) km24 (by decide)) km25 (by decide)) kr30 rfl) hP (vp_in_nI (by omega) (by decide)) dMH_marked_108 (fun z21 => ?_)
            refine mp_i (cx := []) (wr := [(r21, .inr (9, [.ref am21, .ref am22, .ref am23, .ref am24, .ref am25, .int (nI 136), .int (nI ps24), .int (nI 31)])), (am21, .inl (g.2.1 2, 25, .inr (.inl f32))), (am22, .inl (g.2.1 2, 25, .inr (.inl f33))), (am23, .inl (g.2.1 2, 5, .inr (.inl f34))), (am24, .inl (g.2.1 2, 24, .inr (.inl f24))), (am25, .inl (g.2.1 0, 25, .inl f25))]) hP hD hS hA [] [0, 1, 2, 3, 4, 5] rfl rfl rfl (by decide) (va_runV (As := [.int z21]) (rest := [.int (nI 6), .int (nI (6 * i22)), .ref r28]) F (t_MH_high_0 l g _ T (am25 :: (am24 :: (am23 :: (am22 :: (am21 :: (r21 :: xs)))))) pl hO hU (clo_cons (clo_cons (clo_cons (clo_cons (clo_cons (clo_cons hc0 kr21 (by decide)) km21 (by decide)) km22 (by decide)) km23 (by decide)) km24 (by decide)) km25 (by decide)) h0 z21 k_h0) (cwV 1 hts (wg_app (wg_c kw_1885 (wg_c kw_1887 (wg_c ks_75 (wg_c kw_13 wg_n)))) kw_1888) rfl rfl rfl (by decide +kernel) ⟨by decide, by decide⟩) (pp_VT (en_ok g) (ci := 12) (kd := (46, 0)) hK hO k_h0 (nxg (clo_cons (clo_cons (clo_cons (clo_cons (clo_cons (clo_cons hc0 kr21 (by decide)) km21 (by decide)) km22 (by decide)) km23 (by decide)) km24 (by decide)) km25 (by decide)) k_h0 rfl) (fun _ h9 => ko1 h9) hP hD hS hA hE [] rfl rfl rfl) rfl rfl hl.1 rfl (lv_room (Nat.le_of_ble_eq_true rfl)) dMH_marked_109 ⟨by omega, by omega⟩) (fun r31 pl H locs hu26 hP hD hS => ?_)
            obtain ⟨hq26, hO⟩ := hu26
            have hP : va_P g.1 vcl ([(r21, .inr (9, [.ref am21, .ref am22, .ref am23, .ref am24, .ref am25, .int (nI 136), .int (nI ps24), .int (nI 31)])), (am21, .inl (g.2.1 2, 25, .inr (.inl f32))), (am22, .inl (g.2.1 2, 25, .inr (.inl f33))), (am23, .inl (g.2.1 2, 5, .inr (.inl f34))), (am24, .inl (g.2.1 2, 24, .inr (.inl f24))), (am25, .inl (g.2.1 0, 25, .inl f25))] ++ pl) _ := hP
            have hD : va_D _ ([(r21, .inr (9, [.ref am21, .ref am22, .ref am23, .ref am24, .ref am25, .int (nI 136), .int (nI ps24), .int (nI 31)])), (am21, .inl (g.2.1 2, 25, .inr (.inl f32))), (am22, .inl (g.2.1 2, 25, .inr (.inl f33))), (am23, .inl (g.2.1 2, 5, .inr (.inl f34))), (am24, .inl (g.2.1 2, 24, .inr (.inl f24))), (am25, .inl (g.2.1 0, 25, .inl f25))] ++ pl) := hD
            refine W.widen (k := 0) (n := 0) (by omega) (by omega) ?_
            refine mp_v (cx := []) (wr := [(r21, .inr (9, [.ref am21, .ref am22, .ref am23, .ref am24, .ref am25, .int (nI 136), .int (nI ps24), .int (nI 31)])), (am21, .inl (g.2.1 2, 25, .inr (.inl f32))), (am22, .inl (g.2.1 2, 25, .inr (.inl f33))), (am23, .inl (g.2.1 2, 5, .inr (.inl f34))), (am24, .inl (g.2.1 2, 24, .inr (.inl f24))), (am25, .inl (g.2.1 0, 25, .inl f25))]) hP hD hS hA [] [0, 1, 2, 3, 4, 5] rfl rfl rfl (by decide) (va_runSN (As := [.ref r28, .int (nI (6 * i22)), .int (nI 6), .int r31]) (rest := []) F (t_M_pack l g _ T (am25 :: (am24 :: (am23 :: (am22 :: (am21 :: (r21 :: xs)))))) pl hO hU (clo_cons (clo_cons (clo_cons (clo_cons (clo_cons (clo_cons hc0 kr21 (by decide)) km21 (by decide)) km22 (by decide)) km23 (by decide)) km24 (by decide)) km25 (by decide)) r28 640 (6 * i22) 6 r31 kr28 (by omega) (by omega)) ⟨va_cnB 4 hts (wg_in kw_1690) rfl rfl rfl (hE.2.2.2.2.2.2.2.2.2.1) (hts _ (wg_t kw_9)) (by decide +kernel) ⟨by decide, by decide⟩, hts _ (wg_t kw_1689), trivial⟩ (pp_S (en_ok g) hP hD hS hA hE [] rfl rfl) rfl rfl hl.1 rfl (lv_room (Nat.le_of_ble_eq_true rfl)) dMH_marked_112 ⟨by omega, by omega⟩) (fun  pl H locs hu27 hP hD hS => ?_)
            obtain ⟨hq27, hO⟩ := hu27
            have hP : va_P g.1 vcl ([(r21, .inr (9, [.ref am21, .ref am22, .ref am23, .ref am24, .ref am25, .int (nI 136), .int (nI ps24), .int (nI 31)])), (am21, .inl (g.2.1 2, 25, .inr (.inl f32))), (am22, .inl (g.2.1 2, 25, .inr (.inl f33))), (am23, .inl (g.2.1 2, 5, .inr (.inl f34))), (am24, .inl (g.2.1 2, 24, .inr (.inl f24))), (am25, .inl (g.2.1 0, 25, .inl f25))] ++ pl) _ := hP
            have hD : va_D _ ([(r21, .inr (9, [.ref am21, .ref am22, .ref am23, .ref am24, .ref am25, .int (nI 136), .int (nI ps24), .int (nI 31)])), (am21, .inl (g.2.1 2, 25, .inr (.inl f32))), (am22, .inl (g.2.1 2, 25, .inr (.inl f33))), (am23, .inl (g.2.1 2, 5, .inr (.inl f34))), (am24, .inl (g.2.1 2, 24, .inr (.inl f24))), (am25, .inl (g.2.1 0, 25, .inl f25))] ++ pl) := hD
            refine W.widen (k := 0) (n := 0) (by omega) (by omega) ?_
            refine mi_iinc (k := 0) (x := i22) (d := 1) (y := i22 + 1) (lv' := [(5, .int (nI (i22 + 1))), (4, .int (nI i21)), (3, .int (nI 6)), (0, .ref h0), (1, .int hd), (2, .ref to)]) hx hb dMH_marked_115 hl rfl (by decide) rfl (by decide) rfl (fun ls hl => ?_)
            refine lv_goto (tgt := 50) hx hb dMH_marked_118 (by decide) ?_
            exact ih22 (i22 + 1) pl ls H locs (by omega) (lv_sub hl [0, 1, 2, 3, 4, 5] rfl) hO hP hD hS
          · refine lv_aload_n hx hb dMH_marked_71 rfl (lv_at hl 3 rfl) ?_
            refine lv_aload_n hx hb dMH_marked_72 rfl (lv_at hl 3 rfl) ?_
            refine ty_get (ci := 12) (C := "LatticeKeysModel$Hands") (TT := T_MH) (N := 31) (kd := (46, 0)) hx hb hts (wg_ft i_MH) hown hK hO k_h0 (nxg (clo_cons (clo_cons (clo_cons (clo_cons (clo_cons (clo_cons hc0 kr21 (by decide)) km21 (by decide)) km22 (by decide)) km23 (by decide)) km24 (by decide)) km25 (by decide)) k_h0 rfl) hP (fun _ h9 => h9) rfl 11 (by decide) (hts _ (wg_t kw_1443)) (fun _ h9 => h9) (cd := (3, 3, 8)) rfl dMH_marked_73 (fun v34 hv34 => ?_)
            obtain ⟨r32, rfl, kr31⟩ := (show ∃ r : Nat, v34 = .ref r ∧ T r = some (3, 8) from hv34)
            refine lv_iload hx hb dMH_marked_76 (lv_at hl 1 rfl) ?_
            refine ty_aald3 hx hb hK hO kr31 (nxg (clo_cons (clo_cons (clo_cons (clo_cons (clo_cons (clo_cons hc0 kr21 (by decide)) km21 (by decide)) km22 (by decide)) km23 (by decide)) km24 (by decide)) km25 (by decide)) kr31 rfl) hP (by omega) (by decide) dMH_marked_78 (fun r33 kr32 => ?_)
            refine lv_iload hx hb dMH_marked_79 (lv_at hl 0 rfl) ?_
            refine ty_iald hx hb hK hO kr32 (nxg (clo_cons (clo_cons (clo_cons (clo_cons (clo_cons (clo_cons hc0 kr21 (by decide)) km21 (by decide)) km22 (by decide)) km23 (by decide)) km24 (by decide)) km25 (by decide)) kr32 rfl) hP (vp_in_nI (by omega) (by decide)) dMH_marked_81 (fun z22 => ?_)
            refine lv_aload_n hx hb dMH_marked_82 rfl (lv_at hl 3 rfl) ?_
            refine ty_get (ci := 12) (C := "LatticeKeysModel$Hands") (TT := T_MH) (N := 31) (kd := (46, 0)) hx hb hts (wg_ft i_MH) hown hK hO k_h0 (nxg (clo_cons (clo_cons (clo_cons (clo_cons (clo_cons (clo_cons hc0 kr21 (by decide)) km21 (by decide)) km22 (by decide)) km23 (by decide)) km24 (by decide)) km25 (by decide)) k_h0 rfl) hP (fun _ h9 => h9) rfl 10 (by decide) (hts _ (wg_t kw_1442)) (fun _ h9 => h9) (cd := (3, 3, 8)) rfl dMH_marked_83 (fun v35 hv35 => ?_)
            obtain ⟨r34, rfl, kr33⟩ := (show ∃ r : Nat, v35 = .ref r ∧ T r = some (3, 8) from hv35)
            refine lv_iload hx hb dMH_marked_86 (lv_at hl 1 rfl) ?_
            refine ty_aald3 hx hb hK hO kr33 (nxg (clo_cons (clo_cons (clo_cons (clo_cons (clo_cons (clo_cons hc0 kr21 (by decide)) km21 (by decide)) km22 (by decide)) km23 (by decide)) km24 (by decide)) km25 (by decide)) kr33 rfl) hP (by omega) (by decide) dMH_marked_88 (fun r35 kr34 => ?_)
            refine lv_iload hx hb dMH_marked_89 (lv_at hl 0 rfl) ?_
            refine ty_iald hx hb hK hO kr34 (nxg (clo_cons (clo_cons (clo_cons (clo_cons (clo_cons (clo_cons hc0 kr21 (by decide)) km21 (by decide)) km22 (by decide)) km23 (by decide)) km24 (by decide)) km25 (by decide)) kr34 rfl) hP (vp_in_nI (by omega) (by decide)) dMH_marked_91 (fun z23 => ?_)
            refine mp_i (cx := []) (wr := [(r21, .inr (9, [.ref am21, .ref am22, .ref am23, .ref am24, .ref am25, .int (nI 136), .int (nI ps24), .int (nI 31)])), (am21, .inl (g.2.1 2, 25, .inr (.inl f32))), (am22, .inl (g.2.1 2, 25, .inr (.inl f33))), (am23, .inl (g.2.1 2, 5, .inr (.inl f34))), (am24, .inl (g.2.1 2, 24, .inr (.inl f24))), (am25, .inl (g.2.1 0, 25, .inl f25))]) hP hD hS hA [] [0, 1, 2, 3, 4, 5] rfl rfl rfl (by decide) (va_runV (As := [.int z22, .int z23]) (rest := [.int (nI 6), .int (nI (6 * i22)), .ref r28]) F (t_MH_used_0 l g _ T (am25 :: (am24 :: (am23 :: (am22 :: (am21 :: (r21 :: xs)))))) pl hO hU (clo_cons (clo_cons (clo_cons (clo_cons (clo_cons (clo_cons hc0 kr21 (by decide)) km21 (by decide)) km22 (by decide)) km23 (by decide)) km24 (by decide)) km25 (by decide)) h0 z22 z23 k_h0) (cwV 2 hts (wg_app (wg_c kw_1880 (wg_c kw_1882 (wg_c ks_74 (wg_c kw_13 wg_n)))) kw_1883) rfl rfl rfl (by decide +kernel) ⟨by decide, by decide⟩) (pp_VT (en_ok g) (ci := 12) (kd := (46, 0)) hK hO k_h0 (nxg (clo_cons (clo_cons (clo_cons (clo_cons (clo_cons (clo_cons hc0 kr21 (by decide)) km21 (by decide)) km22 (by decide)) km23 (by decide)) km24 (by decide)) km25 (by decide)) k_h0 rfl) (fun _ h9 => ko1 h9) hP hD hS hA hE [] rfl rfl rfl) rfl rfl hl.1 rfl (lv_room (Nat.le_of_ble_eq_true rfl)) dMH_marked_92 ⟨by omega, by omega⟩) (fun r36 pl H locs hu28 hP hD hS => ?_)
            obtain ⟨hq28, hO⟩ := hu28
            have hP : va_P g.1 vcl ([(r21, .inr (9, [.ref am21, .ref am22, .ref am23, .ref am24, .ref am25, .int (nI 136), .int (nI ps24), .int (nI 31)])), (am21, .inl (g.2.1 2, 25, .inr (.inl f32))), (am22, .inl (g.2.1 2, 25, .inr (.inl f33))), (am23, .inl (g.2.1 2, 5, .inr (.inl f34))), (am24, .inl (g.2.1 2, 24, .inr (.inl f24))), (am25, .inl (g.2.1 0, 25, .inl f25))] ++ pl) _ := hP
            have hD : va_D _ ([(r21, .inr (9, [.ref am21, .ref am22, .ref am23, .ref am24, .ref am25, .int (nI 136), .int (nI ps24), .int (nI 31)])), (am21, .inl (g.2.1 2, 25, .inr (.inl f32))), (am22, .inl (g.2.1 2, 25, .inr (.inl f33))), (am23, .inl (g.2.1 2, 5, .inr (.inl f34))), (am24, .inl (g.2.1 2, 24, .inr (.inl f24))), (am25, .inl (g.2.1 0, 25, .inl f25))] ++ pl) := hD
            refine W.widen (k := 0) (n := 0) (by omega) (by omega) ?_
            refine lv_goto (tgt := 112) hx hb dMH_marked_95 (by decide) ?_
            refine mp_v (cx := []) (wr := [(r21, .inr (9, [.ref am21, .ref am22, .ref am23, .ref am24, .ref am25, .int (nI 136), .int (nI ps24), .int (nI 31)])), (am21, .inl (g.2.1 2, 25, .inr (.inl f32))), (am22, .inl (g.2.1 2, 25, .inr (.inl f33))), (am23, .inl (g.2.1 2, 5, .inr (.inl f34))), (am24, .inl (g.2.1 2, 24, .inr (.inl f24))), (am25, .inl (g.2.1 0, 25, .inl f25))]) hP hD hS hA [] [0, 1, 2, 3, 4, 5] rfl rfl rfl (by decide) (va_runSN (As := [.ref r28, .int (nI (6 * i22)), .int (nI 6), .int r36]) (rest := []) F (t_M_pack l g _ T (am25 :: (am24 :: (am23 :: (am22 :: (am21 :: (r21 :: xs)))))) pl hO hU (clo_cons (clo_cons (clo_cons (clo_cons (clo_cons (clo_cons hc0 kr21 (by decide)) km21 (by decide)) km22 (by decide)) km23 (by decide)) km24 (by decide)) km25 (by decide)) r28 640 (6 * i22) 6 r36 kr28 (by omega) (by omega)) ⟨va_cnB 4 hts (wg_in kw_1690) rfl rfl rfl (hE.2.2.2.2.2.2.2.2.2.1) (hts _ (wg_t kw_9)) (by decide +kernel) ⟨by decide, by decide⟩, hts _ (wg_t kw_1689), trivial⟩ (pp_S (en_ok g) hP hD hS hA hE [] rfl rfl) rfl rfl hl.1 rfl (lv_room (Nat.le_of_ble_eq_true rfl)) dMH_marked_112 ⟨by omega, by omega⟩) (fun  pl H locs hu29 hP hD hS => ?_)
            obtain ⟨hq29, hO⟩ := hu29
            have hP : va_P g.1 vcl ([(r21, .inr (9, [.ref am21, .ref am22, .ref am23, .ref am24, .ref am25, .int (nI 136), .int (nI ps24), .int (nI 31)])), (am21, .inl (g.2.1 2, 25, .inr (.inl f32))), (am22, .inl (g.2.1 2, 25, .inr (.inl f33))), (am23, .inl (g.2.1 2, 5, .inr (.inl f34))), (am24, .inl (g.2.1 2, 24, .inr (.inl f24))), (am25, .inl (g.2.1 0, 25, .inl f25))] ++ pl) _ := hP
            have hD : va_D _ ([(r21, .inr (9, [.ref am21, .ref am22, .ref am23, .ref am24, .ref am25, .int (nI 136), .int (nI ps24), .int (nI 31)])), (am21, .inl (g.2.1 2, 25, .inr (.inl f32))), (am22, .inl (g.2.1 2, 25, .inr (.inl f33))), (am23, .inl (g.2.1 2, 5, .inr (.inl f34))), (am24, .inl (g.2.1 2, 24, .inr (.inl f24))), (am25, .inl (g.2.1 0, 25, .inl f25))] ++ pl) := hD
            refine W.widen (k := 0) (n := 0) (by omega) (by omega) ?_
            refine mi_iinc (k := 0) (x := i22) (d := 1) (y := i22 + 1) (lv' := [(5, .int (nI (i22 + 1))), (4, .int (nI i21)), (3, .int (nI 6)), (0, .ref h0), (1, .int hd), (2, .ref to)]) hx hb dMH_marked_115 hl rfl (by decide) rfl (by decide) rfl (fun ls hl => ?_)
            refine lv_goto (tgt := 50) hx hb dMH_marked_118 (by decide) ?_
            exact ih22 (i22 + 1) pl ls H locs (by omega) (lv_sub hl [0, 1, 2, 3, 4, 5] rfl) hO hP hD hS
      exact lp22 256 0 pl ls _ _ (by omega) (lv_sub hl [0, 1, 2, 3, 4, 5] rfl) hO hP hD hS
  exact lp21 4 0 ps23 f29 f30 f31 pl ls _ _ (by omega) (by omega) (lv_sub hl [0, 1, 2, 3, 4] rfl) hO hP hD hS
set_option maxHeartbeats 400000 in
set_option maxRecDepth 100000 in
theorem t_MH_marked_1 (l : Launch) (g : Gd) (sz : Nat) (T : Ty) (xs : List Nat) (pl : va_W) (hO : okx g T xs pl) (hU : uni T) (hc0 : clo T xs 0) (hc9 : clo T xs 9) (h0 to : Nat) (hd : Int32) (k_h0 : T h0 = some (47, 0)) (k_to : T to = some (1, 64))  : Met l y_MH_marked w_MH_marked ({ frames := 4, cells := 0, slots := 0, locals := 98 } : Room) (va_Pc [.ref h0, .int hd, .ref to] (pr (en g) g.1 vcl sz ([] ++ pl))) (va_Qv (fun (u : va_W) => (True) ∧ okx g T xs u) (po g.1 vcl (va_A ([] ++ pl) sz) (fun (u : va_W) => [] ++ u)) (va_A ([] ++ pl) sz)) 0 0 (va_A ([] ++ pl) sz) := by
  refine mc_entry (cc := c_MH_marked) (maxL := 6) (ret := none) (by decide) rfl (Nat.le_of_ble_eq_true rfl) ?_
  intro p e s m args below meth c ls F hr hlk hnm hsz hP hD hE hA hl
  obtain ⟨hx, hb, hml, hown, hts⟩ := id F
  have hK := hE.1
  generalize va_A ([] ++ pl) sz = A at hD hE hA ⊢
  have hS : va_S A s.heap s.heap [] := va_S.rf
  have hl : lv_has ls 6 [(0, .ref h0), (1, .int hd), (2, .ref to)] := hl
  refine lv_aload_n hx hb dMH_marked_0 rfl (lv_at hl 0 rfl) ?_
  refine ty_get (ci := 12) (C := "LatticeKeysModel$Hands") (TT := T_MH) (N := 31) (kd := (47, 0)) hx hb hts (wg_ft i_MH) hown hK hO k_h0 (nxg hc0 k_h0 rfl) hP (fun _ h9 => h9) rfl 23 (by decide) (hts _ (wg_t kw_1455)) (fun _ h9 => h9) (cd := (1, 0, 1)) rfl dMH_marked_1 (fun v21 hv21 => ?_)
  obtain rfl := (show v21 = .int (nI 1) from hv21)
  refine lv_if_ne (tgt := 12) hx hb dMH_marked_4 (by decide) (fun h21 => ?_) (fun h21 => absurd h21 (by decide))
  refine lv_iconst (v := nI 4) hx hb dMH_marked_12 (by decide) ?_
  refine lv_istore_n (lv' := [(3, .int (nI 4)), (0, .ref h0), (1, .int hd), (2, .ref to)]) hx hb dMH_marked_13 rfl hl (by decide) rfl (fun ls hl => ?_)
  refine lv_aload_n hx hb dMH_marked_14 rfl (lv_at hl 1 rfl) ?_
  refine ty_get (ci := 12) (C := "LatticeKeysModel$Hands") (TT := T_MH) (N := 31) (kd := (47, 0)) hx hb hts (wg_ft i_MH) hown hK hO k_h0 (nxg hc0 k_h0 rfl) hP (fun _ h9 => h9) rfl 0 (by decide) (hts _ (wg_t kw_1432)) (fun _ h9 => h9) (cd := (3, 20, 0)) rfl dMH_marked_15 (fun v22 hv22 => ?_)
  obtain ⟨r21, rfl, kr21⟩ := (show ∃ r : Nat, v22 = .ref r ∧ T r = some (20, 0) from hv22)
  obtain ⟨e21, pl, hP, hD, hk21, hO⟩ := open1 hP hD hO kr21 (nxg hc9 kr21 rfl)
  obtain ⟨am21, am22, am23, am24, am25, rt21, ps21, x21, rfl, km21, km22, km23, km24, km25, hr21, hr22, hr23⟩ := hk21
  obtain ⟨e22, pl, hP, hD, hk22, hO⟩ := open1 hP hD hO km21 (nmc (knd_ne km21 kr21 (by decide)) (nxg hc9 km21 rfl))
  obtain ⟨f21, rfl⟩ := hk22
  obtain ⟨e23, pl, hP, hD, hk23, hO⟩ := open1 hP hD hO km22 (nmc (knd_ne km22 km21 (by decide)) (nmc (knd_ne km22 kr21 (by decide)) (nxg hc9 km22 rfl)))
  obtain ⟨f22, rfl⟩ := hk23
  obtain ⟨e24, pl, hP, hD, hk24, hO⟩ := open1 hP hD hO km23 (nmc (knd_ne km23 km22 (by decide)) (nmc (knd_ne km23 km21 (by decide)) (nmc (knd_ne km23 kr21 (by decide)) (nxg hc9 km23 rfl))))
  obtain ⟨f23, rfl⟩ := hk24
  obtain ⟨e25, pl, hP, hD, hk25, hO⟩ := open1 hP hD hO km24 (nmc (knd_ne km24 km23 (by decide)) (nmc (knd_ne km24 km22 (by decide)) (nmc (knd_ne km24 km21 (by decide)) (nmc (knd_ne km24 kr21 (by decide)) (nxg hc9 km24 rfl)))))
  obtain ⟨f24, rfl⟩ := hk25
  obtain ⟨e26, pl, hP, hD, hk26, hO⟩ := open1 hP hD hO km25 (nmc (knd_ne km25 km24 (by decide)) (nmc (knd_ne km25 km23 (by decide)) (nmc (knd_ne km25 km22 (by decide)) (nmc (knd_ne km25 km21 (by decide)) (nmc (knd_ne km25 kr21 (by decide)) (nxg hc9 km25 rfl))))))
  obtain ⟨f25, rfl⟩ := hk26
  have hP : va_P g.1 vcl ([(r21, .inr (9, [.ref am21, .ref am22, .ref am23, .ref am24, .ref am25, .int (nI rt21), .int (nI ps21), .int x21])), (am21, .inl (g.2.1 2, 25, .inr (.inl f21))), (am22, .inl (g.2.1 2, 25, .inr (.inl f22))), (am23, .inl (g.2.1 2, 5, .inr (.inl f23))), (am24, .inl (g.2.1 2, 24, .inr (.inl f24))), (am25, .inl (g.2.1 0, 25, .inl f25))] ++ pl) _ := hP
  have hD : va_D _ ([(r21, .inr (9, [.ref am21, .ref am22, .ref am23, .ref am24, .ref am25, .int (nI rt21), .int (nI ps21), .int x21])), (am21, .inl (g.2.1 2, 25, .inr (.inl f21))), (am22, .inl (g.2.1 2, 25, .inr (.inl f22))), (am23, .inl (g.2.1 2, 5, .inr (.inl f23))), (am24, .inl (g.2.1 2, 24, .inr (.inl f24))), (am25, .inl (g.2.1 0, 25, .inl f25))] ++ pl) := hD
  refine mp_v (cx := [(r21, .inr (9, [.ref am21, .ref am22, .ref am23, .ref am24, .ref am25, .int (nI rt21), .int (nI ps21), .int x21])), (am21, .inl (g.2.1 2, 25, .inr (.inl f21))), (am22, .inl (g.2.1 2, 25, .inr (.inl f22))), (am23, .inl (g.2.1 2, 5, .inr (.inl f23))), (am24, .inl (g.2.1 2, 24, .inr (.inl f24))), (am25, .inl (g.2.1 0, 25, .inl f25))]) (wr := []) hP hD hS hA [0, 1, 2, 3, 4, 5] [] rfl rfl rfl (by decide) (va_runV (As := []) (rest := []) F (t_MS_shake l g _ T (am25 :: (am24 :: (am23 :: (am22 :: (am21 :: (r21 :: xs)))))) pl hO hU  r21 am21 am22 am23 am24 am25 rt21 ps21 x21 f21 f22 f23 f24 f25) (cwV 0 hts (wg_app (wg_c kw_1718 (wg_c kw_1661 (wg_c kw_1662 (wg_c kw_10 wg_n)))) kw_1663) rfl rfl rfl (by decide +kernel) ⟨by decide, by decide⟩) (pp_V (en_ok g) (q0 := 0) hK hP hD hS hA hE [0, 1, 2, 3, 4, 5] rfl rfl rfl rfl) rfl rfl hl.1 rfl (lv_room (Nat.le_of_ble_eq_true rfl)) dMH_marked_18 ⟨by omega, by omega⟩) (fun  u21 H locs hu21 hP hD hS => ?_)
  obtain ⟨u22, pl⟩ := u21
  obtain ⟨hq21, hO⟩ := hu21
  obtain ⟨ps22, f26, f27, f28⟩ := u22
  have hP : va_P g.1 vcl ([(r21, .inr (9, [.ref am21, .ref am22, .ref am23, .ref am24, .ref am25, .int (nI 136), .int (nI ps22), .int (nI 31)])), (am21, .inl (g.2.1 2, 25, .inr (.inl f26))), (am22, .inl (g.2.1 2, 25, .inr (.inl f27))), (am23, .inl (g.2.1 2, 5, .inr (.inl f28))), (am24, .inl (g.2.1 2, 24, .inr (.inl f24))), (am25, .inl (g.2.1 0, 25, .inl f25))] ++ pl) _ := hP
  have hD : va_D _ ([(r21, .inr (9, [.ref am21, .ref am22, .ref am23, .ref am24, .ref am25, .int (nI 136), .int (nI ps22), .int (nI 31)])), (am21, .inl (g.2.1 2, 25, .inr (.inl f26))), (am22, .inl (g.2.1 2, 25, .inr (.inl f27))), (am23, .inl (g.2.1 2, 5, .inr (.inl f28))), (am24, .inl (g.2.1 2, 24, .inr (.inl f24))), (am25, .inl (g.2.1 0, 25, .inl f25))] ++ pl) := hD
  have hq21 : ps22 ≤ 136 := hq21
  refine W.widen (k := 0) (n := 0) (by omega) (by omega) ?_
  refine lv_aload_n hx hb dMH_marked_21 rfl (lv_at hl 1 rfl) ?_
  refine ty_get (ci := 12) (C := "LatticeKeysModel$Hands") (TT := T_MH) (N := 31) (kd := (47, 0)) hx hb hts (wg_ft i_MH) hown hK hO k_h0 (nxg (clo_cons (clo_cons (clo_cons (clo_cons (clo_cons (clo_cons hc0 kr21 (by decide)) km21 (by decide)) km22 (by decide)) km23 (by decide)) km24 (by decide)) km25 (by decide)) k_h0 rfl) hP (fun _ h9 => h9) rfl 0 (by decide) (hts _ (wg_t kw_1432)) (fun _ h9 => h9) (cd := (3, 20, 0)) rfl dMH_marked_22 (fun v23 hv23 => ?_)
  obtain ⟨r22, rfl, kr22⟩ := (show ∃ r : Nat, v23 = .ref r ∧ T r = some (20, 0) from hv23)
  obtain rfl : r21 = r22 := hU _ _ _ (by decide) kr21 kr22
  refine lv_aload_n hx hb dMH_marked_25 rfl (lv_at hl 1 rfl) ?_
  refine ty_get (ci := 12) (C := "LatticeKeysModel$Hands") (TT := T_MH) (N := 31) (kd := (47, 0)) hx hb hts (wg_ft i_MH) hown hK hO k_h0 (nxg (clo_cons (clo_cons (clo_cons (clo_cons (clo_cons (clo_cons hc0 kr21 (by decide)) km21 (by decide)) km22 (by decide)) km23 (by decide)) km24 (by decide)) km25 (by decide)) k_h0 rfl) hP (fun _ h9 => h9) rfl 17 (by decide) (hts _ (wg_t kw_1449)) (fun _ h9 => h9) (cd := (3, 1, 64)) rfl dMH_marked_26 (fun v24 hv24 => ?_)
  obtain ⟨r23, rfl, kr23⟩ := (show ∃ r : Nat, v24 = .ref r ∧ T r = some (1, 64) from hv24)
  refine lv_iconst (v := nI 0) hx hb dMH_marked_29 (by decide) ?_
  refine lv_bipush (v := nI 64) hx hb dMH_marked_30 (by decide) ?_
  refine mp_v (cx := [(r21, .inr (9, [.ref am21, .ref am22, .ref am23, .ref am24, .ref am25, .int (nI 136), .int (nI ps22), .int (nI 31)])), (am21, .inl (g.2.1 2, 25, .inr (.inl f26))), (am22, .inl (g.2.1 2, 25, .inr (.inl f27))), (am23, .inl (g.2.1 2, 5, .inr (.inl f28))), (am24, .inl (g.2.1 2, 24, .inr (.inl f24))), (am25, .inl (g.2.1 0, 25, .inl f25))]) (wr := []) hP hD hS hA [0, 1, 2, 3, 4, 5] [] rfl rfl rfl (by decide) (va_runV (As := [.ref r23, .int (nI 0), .int (nI 64)]) (rest := []) F (t_MS_puts l g _ T (am25 :: (am24 :: (am23 :: (am22 :: (am21 :: (r21 :: xs)))))) pl hO hU (clo_cons (clo_cons (clo_cons (clo_cons (clo_cons (clo_cons hc0 kr21 (by decide)) km21 (by decide)) km22 (by decide)) km23 (by decide)) km24 (by decide)) km25 (by decide)) r23 64 0 64 r21 am21 am22 am23 am24 am25 136 ps22 (nI 31) f26 f27 f28 f24 f25 kr23 (by omega) (by omega) (by omega) (by omega)) (cwV 3 hts (wg_app (wg_c kw_1719 (wg_c kw_1612 (wg_c kw_1613 (wg_c kw_10 wg_n)))) kw_1614) rfl rfl rfl (by decide +kernel) ⟨by decide, by decide⟩) (pp_V (en_ok g) (q0 := 0) hK hP hD hS hA hE [0, 1, 2, 3, 4, 5] rfl rfl rfl rfl) rfl rfl hl.1 rfl (lv_room (Nat.le_of_ble_eq_true rfl)) dMH_marked_32 ⟨by omega, by omega⟩) (fun  u23 H locs hu22 hP hD hS => ?_)
  obtain ⟨u24, pl⟩ := u23
  obtain ⟨hq22, hO⟩ := hu22
  obtain ⟨ps23, f29, f30, f31⟩ := u24
  have hP : va_P g.1 vcl ([(r21, .inr (9, [.ref am21, .ref am22, .ref am23, .ref am24, .ref am25, .int (nI 136), .int (nI ps23), .int (nI 31)])), (am21, .inl (g.2.1 2, 25, .inr (.inl f29))), (am22, .inl (g.2.1 2, 25, .inr (.inl f30))), (am23, .inl (g.2.1 2, 5, .inr (.inl f31))), (am24, .inl (g.2.1 2, 24, .inr (.inl f24))), (am25, .inl (g.2.1 0, 25, .inl f25))] ++ pl) _ := hP
  have hD : va_D _ ([(r21, .inr (9, [.ref am21, .ref am22, .ref am23, .ref am24, .ref am25, .int (nI 136), .int (nI ps23), .int (nI 31)])), (am21, .inl (g.2.1 2, 25, .inr (.inl f29))), (am22, .inl (g.2.1 2, 25, .inr (.inl f30))), (am23, .inl (g.2.1 2, 5, .inr (.inl f31))), (am24, .inl (g.2.1 2, 24, .inr (.inl f24))), (am25, .inl (g.2.1 0, 25, .inl f25))] ++ pl) := hD
  have hq22 : ps23 ≤ 136 := hq22
  refine W.widen (k := 0) (n := 0) (by omega) (by omega) ?_
  refine lv_iconst (v := nI 0) hx hb dMH_marked_35 (by decide) ?_
  refine lv_istore (lv' := [(4, .int (nI 0)), (3, .int (nI 4)), (0, .ref h0), (1, .int hd), (2, .ref to)]) hx hb dMH_marked_36 hl (by decide) rfl (fun ls hl => ?_)
  have lp21 : ∀ (n21 : Nat) (i21 : Nat) (ps24 : Nat) (f32 : Nat → Int64) (f33 : Nat → Int64) (f34 : Nat → Int64) (pl : va_W) (ls : Array Slot) (H : Heap) (locs : List Loc), n21 + i21 = 6 → (ps24 ≤ 136) → lv_has ls 6 [(4, .int (nI i21)), (3, .int (nI 4)), (0, .ref h0), (1, .int hd), (2, .ref to)] → okx g T (am25 :: (am24 :: (am23 :: (am22 :: (am21 :: (r21 :: xs)))))) pl → va_P g.1 vcl ([(r21, .inr (9, [.ref am21, .ref am22, .ref am23, .ref am24, .ref am25, .int (nI 136), .int (nI ps24), .int (nI 31)])), (am21, .inl (g.2.1 2, 25, .inr (.inl f32))), (am22, .inl (g.2.1 2, 25, .inr (.inl f33))), (am23, .inl (g.2.1 2, 5, .inr (.inl f34))), (am24, .inl (g.2.1 2, 24, .inr (.inl f24))), (am25, .inl (g.2.1 0, 25, .inl f25))] ++ pl) H → va_D A ([(r21, .inr (9, [.ref am21, .ref am22, .ref am23, .ref am24, .ref am25, .int (nI 136), .int (nI ps24), .int (nI 31)])), (am21, .inl (g.2.1 2, 25, .inr (.inl f32))), (am22, .inl (g.2.1 2, 25, .inr (.inl f33))), (am23, .inl (g.2.1 2, 5, .inr (.inl f34))), (am24, .inl (g.2.1 2, 24, .inr (.inl f24))), (am25, .inl (g.2.1 0, 25, .inl f25))] ++ pl) → va_S A s.heap H locs → W p l e ({ frames := 4, cells := 0, slots := 0, locals := 98 } : Room) s m args below meth c H locs 0 0 (MQ below (va_Qv (fun (u : va_W) => (True) ∧ okx g T xs u) (po g.1 vcl A (fun (u : va_W) => [] ++ u)) A) args s 0 0 A) (F0 m 38 ls []) := by
    intro n21
    induction n21 with
    | zero =>
      intro i21 ps24 f32 f33 f34 pl ls H locs hm21 hi21 hl hO hP hD hS
      refine lv_iload hx hb dMH_marked_38 (lv_at hl 0 rfl) ?_
      refine lv_aload_n hx hb dMH_marked_40 rfl (lv_at hl 2 rfl) ?_
      refine ty_get (ci := 12) (C := "LatticeKeysModel$Hands") (TT := T_MH) (N := 31) (kd := (47, 0)) hx hb hts (wg_ft i_MH) hown hK hO k_h0 (nxg (clo_cons (clo_cons (clo_cons (clo_cons (clo_cons (clo_cons hc0 kr21 (by decide)) km21 (by decide)) km22 (by decide)) km23 (by decide)) km24 (by decide)) km25 (by decide)) k_h0 rfl) hP (fun _ h9 => h9) rfl 24 (by decide) (hts _ (wg_t kw_1456)) (fun _ h9 => h9) (cd := (1, 0, 6)) rfl dMH_marked_41 (fun v25 hv25 => ?_)
      obtain rfl := (show v25 = .int (nI 6) from hv25)
      refine mi_ge (tgt := 143) hx hb dMH_marked_44 (by decide) (by omega) (by omega) (fun h22 => ?_) (fun h22 => absurd h22 (by omega))
      refine lv_aload_n hx hb dMH_marked_143 rfl (lv_at hl 2 rfl) ?_
      refine ty_get (ci := 12) (C := "LatticeKeysModel$Hands") (TT := T_MH) (N := 31) (kd := (47, 0)) hx hb hts (wg_ft i_MH) hown hK hO k_h0 (nxg (clo_cons (clo_cons (clo_cons (clo_cons (clo_cons (clo_cons hc0 kr21 (by decide)) km21 (by decide)) km22 (by decide)) km23 (by decide)) km24 (by decide)) km25 (by decide)) k_h0 rfl) hP (fun _ h9 => h9) rfl 0 (by decide) (hts _ (wg_t kw_1432)) (fun _ h9 => h9) (cd := (3, 20, 0)) rfl dMH_marked_144 (fun v26 hv26 => ?_)
      obtain ⟨r24, rfl, kr24⟩ := (show ∃ r : Nat, v26 = .ref r ∧ T r = some (20, 0) from hv26)
      obtain rfl : r21 = r24 := hU _ _ _ (by decide) kr21 kr24
      refine mp_v (cx := [(r21, .inr (9, [.ref am21, .ref am22, .ref am23, .ref am24, .ref am25, .int (nI 136), .int (nI ps24), .int (nI 31)])), (am21, .inl (g.2.1 2, 25, .inr (.inl f32))), (am22, .inl (g.2.1 2, 25, .inr (.inl f33))), (am23, .inl (g.2.1 2, 5, .inr (.inl f34))), (am24, .inl (g.2.1 2, 24, .inr (.inl f24))), (am25, .inl (g.2.1 0, 25, .inl f25))]) (wr := []) hP hD hS hA [0, 1, 2, 3, 4, 5] [] rfl rfl rfl (by decide) (va_runV (As := []) (rest := []) F (t_MS_end l g _ T (am25 :: (am24 :: (am23 :: (am22 :: (am21 :: (r21 :: xs)))))) pl hO hU  r21 am21 am22 am23 am24 am25 136 ps24 (nI 31) f32 f33 f34 f24 f25 (by omega) (by omega)) (cwV 0 hts (wg_app (wg_c kw_1721 (wg_c kw_1634 (wg_c kw_1635 (wg_c kw_10 wg_n)))) kw_1636) rfl rfl rfl (by decide +kernel) ⟨by decide, by decide⟩) (pp_V (en_ok g) (q0 := 0) hK hP hD hS hA hE [0, 1, 2, 3, 4, 5] rfl rfl rfl rfl) rfl rfl hl.1 rfl (lv_room (Nat.le_of_ble_eq_true rfl)) dMH_marked_147 ⟨by omega, by omega⟩) (fun  u25 H locs hu23 hP hD hS => ?_)
      obtain ⟨u26, pl⟩ := u25
      obtain ⟨hq23, hO⟩ := hu23
      obtain ⟨ps25, f35, f36, f37⟩ := u26
      have hP : va_P g.1 vcl ([(r21, .inr (9, [.ref am21, .ref am22, .ref am23, .ref am24, .ref am25, .int (nI 136), .int (nI ps25), .int (nI 31)])), (am21, .inl (g.2.1 2, 25, .inr (.inl f35))), (am22, .inl (g.2.1 2, 25, .inr (.inl f36))), (am23, .inl (g.2.1 2, 5, .inr (.inl f37))), (am24, .inl (g.2.1 2, 24, .inr (.inl f24))), (am25, .inl (g.2.1 0, 25, .inl f25))] ++ pl) _ := hP
      have hD : va_D _ ([(r21, .inr (9, [.ref am21, .ref am22, .ref am23, .ref am24, .ref am25, .int (nI 136), .int (nI ps25), .int (nI 31)])), (am21, .inl (g.2.1 2, 25, .inr (.inl f35))), (am22, .inl (g.2.1 2, 25, .inr (.inl f36))), (am23, .inl (g.2.1 2, 5, .inr (.inl f37))), (am24, .inl (g.2.1 2, 24, .inr (.inl f24))), (am25, .inl (g.2.1 0, 25, .inl f25))] ++ pl) := hD
      have hq23 : ps25 ≤ 136 := hq23
      refine W.widen (k := 0) (n := 0) (by omega) (by omega) ?_
      refine lv_aload_n hx hb dMH_marked_150 rfl (lv_at hl 2 rfl) ?_
      refine ty_get (ci := 12) (C := "LatticeKeysModel$Hands") (TT := T_MH) (N := 31) (kd := (47, 0)) hx hb hts (wg_ft i_MH) hown hK hO k_h0 (nxg (clo_cons (clo_cons (clo_cons (clo_cons (clo_cons (clo_cons hc0 kr21 (by decide)) km21 (by decide)) km22 (by decide)) km23 (by decide)) km24 (by decide)) km25 (by decide)) k_h0 rfl) hP (fun _ h9 => h9) rfl 0 (by decide) (hts _ (wg_t kw_1432)) (fun _ h9 => h9) (cd := (3, 20, 0)) rfl dMH_marked_151 (fun v27 hv27 => ?_)
      obtain ⟨r25, rfl, kr25⟩ := (show ∃ r : Nat, v27 = .ref r ∧ T r = some (20, 0) from hv27)
      obtain rfl : r21 = r25 := hU _ _ _ (by decide) kr21 kr25
      refine lv_aload_n hx hb dMH_marked_154 rfl (lv_at hl 4 rfl) ?_
      refine lv_iconst (v := nI 0) hx hb dMH_marked_155 (by decide) ?_
      refine lv_aload_n hx hb dMH_marked_156 rfl (lv_at hl 2 rfl) ?_
      refine ty_get (ci := 12) (C := "LatticeKeysModel$Hands") (TT := T_MH) (N := 31) (kd := (47, 0)) hx hb hts (wg_ft i_MH) hown hK hO k_h0 (nxg (clo_cons (clo_cons (clo_cons (clo_cons (clo_cons (clo_cons hc0 kr21 (by decide)) km21 (by decide)) km22 (by decide)) km23 (by decide)) km24 (by decide)) km25 (by decide)) k_h0 rfl) hP (fun _ h9 => h9) rfl 30 (by decide) (hts _ (wg_t kw_1462)) (fun _ h9 => h9) (cd := (1, 0, 48)) rfl dMH_marked_157 (fun v28 hv28 => ?_)
      obtain rfl := (show v28 = .int (nI 48) from hv28)
      refine mp_v (cx := [(r21, .inr (9, [.ref am21, .ref am22, .ref am23, .ref am24, .ref am25, .int (nI 136), .int (nI ps25), .int (nI 31)])), (am21, .inl (g.2.1 2, 25, .inr (.inl f35))), (am22, .inl (g.2.1 2, 25, .inr (.inl f36))), (am23, .inl (g.2.1 2, 5, .inr (.inl f37))), (am24, .inl (g.2.1 2, 24, .inr (.inl f24))), (am25, .inl (g.2.1 0, 25, .inl f25))]) (wr := []) hP hD hS hA [0, 1, 2, 3, 4, 5] [] rfl rfl rfl (by decide) (va_runV (As := [.ref to, .int (nI 0), .int (nI 48)]) (rest := []) F (t_MS_take l g _ T (am25 :: (am24 :: (am23 :: (am22 :: (am21 :: (r21 :: xs)))))) pl hO hU (clo_cons (clo_cons (clo_cons (clo_cons (clo_cons (clo_cons hc0 kr21 (by decide)) km21 (by decide)) km22 (by decide)) km23 (by decide)) km24 (by decide)) km25 (by decide)) to 64 0 48 r21 am21 am22 am23 am24 am25 136 ps25 (nI 31) f35 f36 f37 f24 f25 k_to (by omega) (by omega) (by omega) (by omega)) (cwV 3 hts (wg_app (wg_c kw_1722 (wg_c kw_1638 (wg_c kw_1639 (wg_c kw_10 wg_n)))) kw_1640) rfl rfl rfl (by decide +kernel) ⟨by decide, by decide⟩) (pp_V (en_ok g) (q0 := 0) hK hP hD hS hA hE [0, 1, 2, 3, 4, 5] rfl rfl rfl rfl) rfl rfl hl.1 rfl (lv_room (Nat.le_of_ble_eq_true rfl)) dMH_marked_160 ⟨by omega, by omega⟩) (fun  u27 H locs hu24 hP hD hS => ?_)
      obtain ⟨u28, pl⟩ := u27
      obtain ⟨hq24, hO⟩ := hu24
      obtain ⟨ps26, f38, f39, f40⟩ := u28
      have hP : va_P g.1 vcl ([(r21, .inr (9, [.ref am21, .ref am22, .ref am23, .ref am24, .ref am25, .int (nI 136), .int (nI ps26), .int (nI 31)])), (am21, .inl (g.2.1 2, 25, .inr (.inl f38))), (am22, .inl (g.2.1 2, 25, .inr (.inl f39))), (am23, .inl (g.2.1 2, 5, .inr (.inl f40))), (am24, .inl (g.2.1 2, 24, .inr (.inl f24))), (am25, .inl (g.2.1 0, 25, .inl f25))] ++ pl) _ := hP
      have hD : va_D _ ([(r21, .inr (9, [.ref am21, .ref am22, .ref am23, .ref am24, .ref am25, .int (nI 136), .int (nI ps26), .int (nI 31)])), (am21, .inl (g.2.1 2, 25, .inr (.inl f38))), (am22, .inl (g.2.1 2, 25, .inr (.inl f39))), (am23, .inl (g.2.1 2, 5, .inr (.inl f40))), (am24, .inl (g.2.1 2, 24, .inr (.inl f24))), (am25, .inl (g.2.1 0, 25, .inl f25))] ++ pl) := hD
      have hq24 : ps26 ≤ 136 := hq24
      refine W.widen (k := 0) (n := 0) (by omega) (by omega) ?_
      have hO := close1 (e := .inl (g.2.1 0, 25, .inl f25)) hO km25 ⟨_, rfl⟩
      have hO := close1 (e := .inl (g.2.1 2, 24, .inr (.inl f24))) hO km24 ⟨_, rfl⟩
      have hO := close1 (e := .inl (g.2.1 2, 5, .inr (.inl f40))) hO km23 ⟨_, rfl⟩
      have hO := close1 (e := .inl (g.2.1 2, 25, .inr (.inl f39))) hO km22 ⟨_, rfl⟩
      have hO := close1 (e := .inl (g.2.1 2, 25, .inr (.inl f38))) hO km21 ⟨_, rfl⟩
      have hO := close1 (e := .inr (9, [.ref am21, .ref am22, .ref am23, .ref am24, .ref am25, .int (nI 136), .int (nI ps26), .int (nI 31)])) hO kr21 ⟨_, _, _, _, _, _, _, _, rfl, km21, km22, km23, km24, km25, by omega, by omega, by omega⟩
      have hO : okx g T xs ((r21, .inr (9, [.ref am21, .ref am22, .ref am23, .ref am24, .ref am25, .int (nI 136), .int (nI ps26), .int (nI 31)])) :: (am21, .inl (g.2.1 2, 25, .inr (.inl f38))) :: (am22, .inl (g.2.1 2, 25, .inr (.inl f39))) :: (am23, .inl (g.2.1 2, 5, .inr (.inl f40))) :: (am24, .inl (g.2.1 2, 24, .inr (.inl f24))) :: (am25, .inl (g.2.1 0, 25, .inl f25)) :: pl) := hO
      have hP : va_P g.1 vcl ([] ++ ((r21, .inr (9, [.ref am21, .ref am22, .ref am23, .ref am24, .ref am25, .int (nI 136), .int (nI ps26), .int (nI 31)])) :: (am21, .inl (g.2.1 2, 25, .inr (.inl f38))) :: (am22, .inl (g.2.1 2, 25, .inr (.inl f39))) :: (am23, .inl (g.2.1 2, 5, .inr (.inl f40))) :: (am24, .inl (g.2.1 2, 24, .inr (.inl f24))) :: (am25, .inl (g.2.1 0, 25, .inl f25)) :: pl)) _ := hP
      have hD : va_D _ ([] ++ ((r21, .inr (9, [.ref am21, .ref am22, .ref am23, .ref am24, .ref am25, .int (nI 136), .int (nI ps26), .int (nI 31)])) :: (am21, .inl (g.2.1 2, 25, .inr (.inl f38))) :: (am22, .inl (g.2.1 2, 25, .inr (.inl f39))) :: (am23, .inl (g.2.1 2, 5, .inr (.inl f40))) :: (am24, .inl (g.2.1 2, 24, .inr (.inl f24))) :: (am25, .inl (g.2.1 0, 25, .inl f25)) :: pl)) := hD
      generalize ((r21, .inr (9, [.ref am21, .ref am22, .ref am23, .ref am24, .ref am25, .int (nI 136), .int (nI ps26), .int (nI 31)])) :: (am21, .inl (g.2.1 2, 25, .inr (.inl f38))) :: (am22, .inl (g.2.1 2, 25, .inr (.inl f39))) :: (am23, .inl (g.2.1 2, 5, .inr (.inl f40))) :: (am24, .inl (g.2.1 2, 24, .inr (.inl f24))) :: (am25, .inl (g.2.1 0, 25, .inl f25)) :: pl) = pl at hO hP hD
      exact mp_vret hx hb hr hlk hP hD hS pl ⟨trivial, hO⟩ [] rfl rfl rfl (by omega) (by omega) dMH_marked_163
    | succ n21 ih21 =>
      intro i21 ps24 f32 f33 f34 pl ls H locs hm21 hi21 hl hO hP hD hS
      refine lv_iload hx hb dMH_marked_38 (lv_at hl 0 rfl) ?_
      refine lv_aload_n hx hb dMH_marked_40 rfl (lv_at hl 2 rfl) ?_
      refine ty_get (ci := 12) (C := "LatticeKeysModel$Hands") (TT := T_MH) (N := 31) (kd := (47, 0)) hx hb hts (wg_ft i_MH) hown hK hO k_h0 (nxg (clo_cons (clo_cons (clo_cons (clo_cons (clo_cons (clo_cons hc0 kr21 (by decide)) km21 (by decide)) km22 (by decide)) km23 (by decide)) km24 (by decide)) km25 (by decide)) k_h0 rfl) hP (fun _ h9 => h9) rfl 24 (by decide) (hts _ (wg_t kw_1456)) (fun _ h9 => h9) (cd := (1, 0, 6)) rfl dMH_marked_41 (fun v29 hv29 => ?_)
      obtain rfl := (show v29 = .int (nI 6) from hv29)
      refine mi_ge (tgt := 143) hx hb dMH_marked_44 (by decide) (by omega) (by omega) (fun h23 => absurd h23 (by omega)) (fun h23 => ?_)
      refine lv_iconst (v := nI 0) hx hb dMH_marked_47 (by decide) ?_
      refine lv_istore (lv' := [(5, .int (nI 0)), (4, .int (nI i21)), (3, .int (nI 4)), (0, .ref h0), (1, .int hd), (2, .ref to)]) hx hb dMH_marked_48 hl (by decide) rfl (fun ls hl => ?_)
      have lp22 : ∀ (n22 : Nat) (i22 : Nat) (pl : va_W) (ls : Array Slot) (H : Heap) (locs : List Loc), n22 + i22 = 256 → lv_has ls 6 [(5, .int (nI i22)), (4, .int (nI i21)), (3, .int (nI 4)), (0, .ref h0), (1, .int hd), (2, .ref to)] → okx g T (am25 :: (am24 :: (am23 :: (am22 :: (am21 :: (r21 :: xs)))))) pl → va_P g.1 vcl ([(r21, .inr (9, [.ref am21, .ref am22, .ref am23, .ref am24, .ref am25, .int (nI 136), .int (nI ps24), .int (nI 31)])), (am21, .inl (g.2.1 2, 25, .inr (.inl f32))), (am22, .inl (g.2.1 2, 25, .inr (.inl f33))), (am23, .inl (g.2.1 2, 5, .inr (.inl f34))), (am24, .inl (g.2.1 2, 24, .inr (.inl f24))), (am25, .inl (g.2.1 0, 25, .inl f25))] ++ pl) H → va_D A ([(r21, .inr (9, [.ref am21, .ref am22, .ref am23, .ref am24, .ref am25, .int (nI 136), .int (nI ps24), .int (nI 31)])), (am21, .inl (g.2.1 2, 25, .inr (.inl f32))), (am22, .inl (g.2.1 2, 25, .inr (.inl f33))), (am23, .inl (g.2.1 2, 5, .inr (.inl f34))), (am24, .inl (g.2.1 2, 24, .inr (.inl f24))), (am25, .inl (g.2.1 0, 25, .inl f25))] ++ pl) → va_S A s.heap H locs → W p l e ({ frames := 4, cells := 0, slots := 0, locals := 98 } : Room) s m args below meth c H locs 0 0 (MQ below (va_Qv (fun (u : va_W) => (True) ∧ okx g T xs u) (po g.1 vcl A (fun (u : va_W) => [] ++ u)) A) args s 0 0 A) (F0 m 50 ls []) := by
        intro n22
        induction n22 with
        | zero =>
          intro i22 pl ls H locs hm22  hl hO hP hD hS
          refine lv_iload hx hb dMH_marked_50 (lv_at hl 0 rfl) ?_
          refine lv_sipush (v := nI 256) hx hb dMH_marked_52 (by decide) ?_
          refine mi_ge (tgt := 121) hx hb dMH_marked_55 (by decide) (by omega) (by omega) (fun h24 => ?_) (fun h24 => absurd h24 (by omega))
          refine lv_aload_n hx hb dMH_marked_121 rfl (lv_at hl 3 rfl) ?_
          refine ty_get (ci := 12) (C := "LatticeKeysModel$Hands") (TT := T_MH) (N := 31) (kd := (47, 0)) hx hb hts (wg_ft i_MH) hown hK hO k_h0 (nxg (clo_cons (clo_cons (clo_cons (clo_cons (clo_cons (clo_cons hc0 kr21 (by decide)) km21 (by decide)) km22 (by decide)) km23 (by decide)) km24 (by decide)) km25 (by decide)) k_h0 rfl) hP (fun _ h9 => h9) rfl 0 (by decide) (hts _ (wg_t kw_1432)) (fun _ h9 => h9) (cd := (3, 20, 0)) rfl dMH_marked_122 (fun v30 hv30 => ?_)
          obtain ⟨r26, rfl, kr26⟩ := (show ∃ r : Nat, v30 = .ref r ∧ T r = some (20, 0) from hv30)
          obtain rfl : r21 = r26 := hU _ _ _ (by decide) kr21 kr26
          refine lv_aload_n hx hb dMH_marked_125 rfl (lv_at hl 3 rfl) ?_
          refine ty_get (ci := 12) (C := "LatticeKeysModel$Hands") (TT := T_MH) (N := 31) (kd := (47, 0)) hx hb hts (wg_ft i_MH) hown hK hO k_h0 (nxg (clo_cons (clo_cons (clo_cons (clo_cons (clo_cons (clo_cons hc0 kr21 (by decide)) km21 (by decide)) km22 (by decide)) km23 (by decide)) km24 (by decide)) km25 (by decide)) k_h0 rfl) hP (fun _ h9 => h9) rfl 19 (by decide) (hts _ (wg_t kw_1451)) (fun _ h9 => h9) (cd := (3, 1, 640)) rfl dMH_marked_126 (fun v31 hv31 => ?_)
          obtain ⟨r27, rfl, kr27⟩ := (show ∃ r : Nat, v31 = .ref r ∧ T r = some (1, 640) from hv31)
          refine lv_iconst (v := nI 0) hx hb dMH_marked_129 (by decide) ?_
          refine lv_bipush (v := nI 32) hx hb dMH_marked_130 (by decide) ?_
          refine lv_iload_n hx hb dMH_marked_132 rfl (lv_at hl 2 rfl) ?_
          refine mi_imul hx hb dMH_marked_133 ?_
          refine mi_as (show nI (32 * 4) = nI 128 from rfl) ?_
          refine mp_v (cx := [(r21, .inr (9, [.ref am21, .ref am22, .ref am23, .ref am24, .ref am25, .int (nI 136), .int (nI ps24), .int (nI 31)])), (am21, .inl (g.2.1 2, 25, .inr (.inl f32))), (am22, .inl (g.2.1 2, 25, .inr (.inl f33))), (am23, .inl (g.2.1 2, 5, .inr (.inl f34))), (am24, .inl (g.2.1 2, 24, .inr (.inl f24))), (am25, .inl (g.2.1 0, 25, .inl f25))]) (wr := []) hP hD hS hA [0, 1, 2, 3, 4, 5] [] rfl rfl rfl (by decide) (va_runV (As := [.ref r27, .int (nI 0), .int (nI 128)]) (rest := []) F (t_MS_puts l g _ T (am25 :: (am24 :: (am23 :: (am22 :: (am21 :: (r21 :: xs)))))) pl hO hU (clo_cons (clo_cons (clo_cons (clo_cons (clo_cons (clo_cons hc0 kr21 (by decide)) km21 (by decide)) km22 (by decide)) km23 (by decide)) km24 (by decide)) km25 (by decide)) r27 640 0 128 r21 am21 am22 am23 am24 am25 136 ps24 (nI 31) f32 f33 f34 f24 f25 kr27 (by omega) (by omega) (by omega) (by omega)) (cwV 3 hts (wg_app (wg_c kw_1719 (wg_c kw_1612 (wg_c kw_1613 (wg_c kw_10 wg_n)))) kw_1614) rfl rfl rfl (by decide +kernel) ⟨by decide, by decide⟩) (pp_V (en_ok g) (q0 := 0) hK hP hD hS hA hE [0, 1, 2, 3, 4, 5] rfl rfl rfl rfl) rfl rfl hl.1 rfl (lv_room (Nat.le_of_ble_eq_true rfl)) dMH_marked_134 ⟨by omega, by omega⟩) (fun  u29 H locs hu25 hP hD hS => ?_)
          obtain ⟨u30, pl⟩ := u29
          obtain ⟨hq25, hO⟩ := hu25
          obtain ⟨ps27, f41, f42, f43⟩ := u30
          have hP : va_P g.1 vcl ([(r21, .inr (9, [.ref am21, .ref am22, .ref am23, .ref am24, .ref am25, .int (nI 136), .int (nI ps27), .int (nI 31)])), (am21, .inl (g.2.1 2, 25, .inr (.inl f41))), (am22, .inl (g.2.1 2, 25, .inr (.inl f42))), (am23, .inl (g.2.1 2, 5, .inr (.inl f43))), (am24, .inl (g.2.1 2, 24, .inr (.inl f24))), (am25, .inl (g.2.1 0, 25, .inl f25))] ++ pl) _ := hP
          have hD : va_D _ ([(r21, .inr (9, [.ref am21, .ref am22, .ref am23, .ref am24, .ref am25, .int (nI 136), .int (nI ps27), .int (nI 31)])), (am21, .inl (g.2.1 2, 25, .inr (.inl f41))), (am22, .inl (g.2.1 2, 25, .inr (.inl f42))), (am23, .inl (g.2.1 2, 5, .inr (.inl f43))), (am24, .inl (g.2.1 2, 24, .inr (.inl f24))), (am25, .inl (g.2.1 0, 25, .inl f25))] ++ pl) := hD
          have hq25 : ps27 ≤ 136 := hq25
          refine W.widen (k := 0) (n := 0) (by omega) (by omega) ?_
          refine mi_iinc (k := 1) (x := i21) (d := 1) (y := i21 + 1) (lv' := [(4, .int (nI (i21 + 1))), (5, .int (nI i22)), (3, .int (nI 4)), (0, .ref h0), (1, .int hd), (2, .ref to)]) hx hb dMH_marked_137 hl rfl (by decide) rfl (by decide) rfl (fun ls hl => ?_)
          refine lv_goto (tgt := 38) hx hb dMH_marked_140 (by decide) ?_
          exact ih21 (i21 + 1) ps27 f41 f42 f43 pl ls H locs (by omega) (by omega) (lv_sub hl [0, 2, 3, 4, 5] rfl) hO hP hD hS
        | succ n22 ih22 =>
          intro i22 pl ls H locs hm22  hl hO hP hD hS
          refine lv_iload hx hb dMH_marked_50 (lv_at hl 0 rfl) ?_
          refine lv_sipush (v := nI 256) hx hb dMH_marked_52 (by decide) ?_
          refine mi_ge (tgt := 121) hx hb dMH_marked_55 (by decide) (by omega) (by omega) (fun h25 => absurd h25 (by omega)) (fun h25 => ?_)
          refine lv_aload_n hx hb dMH_marked_58 rfl (lv_at hl 3 rfl) ?_
          refine ty_get (ci := 12) (C := "LatticeKeysModel$Hands") (TT := T_MH) (N := 31) (kd := (47, 0)) hx hb hts (wg_ft i_MH) hown hK hO k_h0 (nxg (clo_cons (clo_cons (clo_cons (clo_cons (clo_cons (clo_cons hc0 kr21 (by decide)) km21 (by decide)) km22 (by decide)) km23 (by decide)) km24 (by decide)) km25 (by decide)) k_h0 rfl) hP (fun _ h9 => h9) rfl 19 (by decide) (hts _ (wg_t kw_1451)) (fun _ h9 => h9) (cd := (3, 1, 640)) rfl dMH_marked_59 (fun v32 hv32 => ?_)
          obtain ⟨r28, rfl, kr28⟩ := (show ∃ r : Nat, v32 = .ref r ∧ T r = some (1, 640) from hv32)
          refine lv_iload_n hx hb dMH_marked_62 rfl (lv_at hl 2 rfl) ?_
          refine lv_iload hx hb dMH_marked_63 (lv_at hl 0 rfl) ?_
          refine mi_imul hx hb dMH_marked_65 ?_
          refine lv_iload_n hx hb dMH_marked_66 rfl (lv_at hl 2 rfl) ?_
          refine lv_iload_n hx hb dMH_marked_67 rfl (lv_at hl 4 rfl) ?_
          refine lv_if_eq (tgt := 98) hx hb dMH_marked_68 (by decide) (fun h26 => ?_) (fun h26 => ?_)
          · refine lv_aload_n hx hb dMH_marked_98 rfl (lv_at hl 3 rfl) ?_
            refine lv_aload_n hx hb dMH_marked_99 rfl (lv_at hl 3 rfl) ?_
            refine ty_get (ci := 12) (C := "LatticeKeysModel$Hands") (TT := T_MH) (N := 31) (kd := (47, 0)) hx hb hts (wg_ft i_MH) hown hK hO k_h0 (nxg (clo_cons (clo_cons (clo_cons (clo_cons (clo_cons (clo_cons hc0 kr21 (by decide)) km21 (by decide)) km22 (by decide)) km23 (by decide)) km24 (by decide)) km25 (by decide)) k_h0 rfl) hP (fun _ h9 => h9) rfl 10 (by decide) (hts _ (wg_t kw_1442)) (fun _ h9 => h9) (cd := (3, 3, 8)) rfl dMH_marked_100 (fun v33 hv33 => ?_)
            obtain ⟨r29, rfl, kr29⟩ := (show ∃ r : Nat, v33 = .ref r ∧ T r = some (3, 8) from hv33)
            refine lv_iload hx hb dMH_marked_103 (lv_at hl 1 rfl) ?_
            refine ty_aald3 hx hb hK hO kr29 (nxg (clo_cons (clo_cons (clo_cons (clo_cons (clo_cons (clo_cons hc0 kr21 (by decide)) km21 (by decide)) km22 (by decide)) km23 (by decide)) km24 (by decide)) km25 (by decide)) kr29 rfl) hP (by omega) (by decide) dMH_marked_105 (fun r30 kr30 => ?_)
            refine lv_iload hx hb dMH_marked_106 (lv_at hl 0 rfl) ?_
            refine ty_iald hx hb hK hO kr30 (nxg (clo_cons (clo_cons (clo_cons (clo_cons (clo_cons (clo_cons hc0 kr21 (by decide)) km21 (by decide)) km22 (by decide)) km23 (by decide)) km24 (by decide)) km25 (by decide)) kr30 rfl) hP (vp_in_nI (by omega) (by decide)) dMH_marked_108 (fun z21 => ?_)
            refine mp_i (cx := []) (wr := [(r21, .inr (9, [.ref am21, .ref am22, .ref am23, .ref am24, .ref am25, .int (nI 136), .int (nI ps24), .int (nI 31)])), (am21, .inl (g.2.1 2, 25, .inr (.inl f32))), (am22, .inl (g.2.1 2, 25, .inr (.inl f33))), (am23, .inl (g.2.1 2, 5, .inr (.inl f34))), (am24, .inl (g.2.1 2, 24, .inr (.inl f24))), (am25, .inl (g.2.1 0, 25, .inl f25))]) hP hD hS hA [] [0, 1, 2, 3, 4, 5] rfl rfl rfl (by decide) (va_runV (As := [.int z21]) (rest := [.int (nI 4), .int (nI (4 * i22)), .ref r28]) F (t_MH_high_1 l g _ T (am25 :: (am24 :: (am23 :: (am22 :: (am21 :: (r21 :: xs)))))) pl hO hU (clo_cons (clo_cons (clo_cons (clo_cons (clo_cons (clo_cons hc0 kr21 (by decide)) km21 (by decide)) km22 (by decide)) km23 (by decide)) km24 (by decide)) km25 (by decide)) h0 z21 k_h0) (cwV 1 hts (wg_app (wg_c kw_1885 (wg_c kw_1887 (wg_c ks_75 (wg_c kw_13 wg_n)))) kw_1888) rfl rfl rfl (by decide +kernel) ⟨by decide, by decide⟩) (pp_VT (en_ok g) (ci := 12) (kd := (47, 0)) hK hO k_h0 (nxg (clo_cons (clo_cons (clo_cons (clo_cons (clo_cons (clo_cons hc0 kr21 (by decide)) km21 (by decide)) km22 (by decide)) km23 (by decide)) km24 (by decide)) km25 (by decide)) k_h0 rfl) (fun _ h9 => ko1 h9) hP hD hS hA hE [] rfl rfl rfl) rfl rfl hl.1 rfl (lv_room (Nat.le_of_ble_eq_true rfl)) dMH_marked_109 ⟨by omega, by omega⟩) (fun r31 pl H locs hu26 hP hD hS => ?_)
            obtain ⟨hq26, hO⟩ := hu26
            have hP : va_P g.1 vcl ([(r21, .inr (9, [.ref am21, .ref am22, .ref am23, .ref am24, .ref am25, .int (nI 136), .int (nI ps24), .int (nI 31)])), (am21, .inl (g.2.1 2, 25, .inr (.inl f32))), (am22, .inl (g.2.1 2, 25, .inr (.inl f33))), (am23, .inl (g.2.1 2, 5, .inr (.inl f34))), (am24, .inl (g.2.1 2, 24, .inr (.inl f24))), (am25, .inl (g.2.1 0, 25, .inl f25))] ++ pl) _ := hP
            have hD : va_D _ ([(r21, .inr (9, [.ref am21, .ref am22, .ref am23, .ref am24, .ref am25, .int (nI 136), .int (nI ps24), .int (nI 31)])), (am21, .inl (g.2.1 2, 25, .inr (.inl f32))), (am22, .inl (g.2.1 2, 25, .inr (.inl f33))), (am23, .inl (g.2.1 2, 5, .inr (.inl f34))), (am24, .inl (g.2.1 2, 24, .inr (.inl f24))), (am25, .inl (g.2.1 0, 25, .inl f25))] ++ pl) := hD
            refine W.widen (k := 0) (n := 0) (by omega) (by omega) ?_
            refine mp_v (cx := []) (wr := [(r21, .inr (9, [.ref am21, .ref am22, .ref am23, .ref am24, .ref am25, .int (nI 136), .int (nI ps24), .int (nI 31)])), (am21, .inl (g.2.1 2, 25, .inr (.inl f32))), (am22, .inl (g.2.1 2, 25, .inr (.inl f33))), (am23, .inl (g.2.1 2, 5, .inr (.inl f34))), (am24, .inl (g.2.1 2, 24, .inr (.inl f24))), (am25, .inl (g.2.1 0, 25, .inl f25))]) hP hD hS hA [] [0, 1, 2, 3, 4, 5] rfl rfl rfl (by decide) (va_runSN (As := [.ref r28, .int (nI (4 * i22)), .int (nI 4), .int r31]) (rest := []) F (t_M_pack l g _ T (am25 :: (am24 :: (am23 :: (am22 :: (am21 :: (r21 :: xs)))))) pl hO hU (clo_cons (clo_cons (clo_cons (clo_cons (clo_cons (clo_cons hc0 kr21 (by decide)) km21 (by decide)) km22 (by decide)) km23 (by decide)) km24 (by decide)) km25 (by decide)) r28 640 (4 * i22) 4 r31 kr28 (by omega) (by omega)) ⟨va_cnB 4 hts (wg_in kw_1690) rfl rfl rfl (hE.2.2.2.2.2.2.2.2.2.1) (hts _ (wg_t kw_9)) (by decide +kernel) ⟨by decide, by decide⟩, hts _ (wg_t kw_1689), trivial⟩ (pp_S (en_ok g) hP hD hS hA hE [] rfl rfl) rfl rfl hl.1 rfl (lv_room (Nat.le_of_ble_eq_true rfl)) dMH_marked_112 ⟨by omega, by omega⟩) (fun  pl H locs hu27 hP hD hS => ?_)
            obtain ⟨hq27, hO⟩ := hu27
            have hP : va_P g.1 vcl ([(r21, .inr (9, [.ref am21, .ref am22, .ref am23, .ref am24, .ref am25, .int (nI 136), .int (nI ps24), .int (nI 31)])), (am21, .inl (g.2.1 2, 25, .inr (.inl f32))), (am22, .inl (g.2.1 2, 25, .inr (.inl f33))), (am23, .inl (g.2.1 2, 5, .inr (.inl f34))), (am24, .inl (g.2.1 2, 24, .inr (.inl f24))), (am25, .inl (g.2.1 0, 25, .inl f25))] ++ pl) _ := hP
            have hD : va_D _ ([(r21, .inr (9, [.ref am21, .ref am22, .ref am23, .ref am24, .ref am25, .int (nI 136), .int (nI ps24), .int (nI 31)])), (am21, .inl (g.2.1 2, 25, .inr (.inl f32))), (am22, .inl (g.2.1 2, 25, .inr (.inl f33))), (am23, .inl (g.2.1 2, 5, .inr (.inl f34))), (am24, .inl (g.2.1 2, 24, .inr (.inl f24))), (am25, .inl (g.2.1 0, 25, .inl f25))] ++ pl) := hD
            refine W.widen (k := 0) (n := 0) (by omega) (by omega) ?_
            refine mi_iinc (k := 0) (x := i22) (d := 1) (y := i22 + 1) (lv' := [(5, .int (nI (i22 + 1))), (4, .int (nI i21)), (3, .int (nI 4)), (0, .ref h0), (1, .int hd), (2, .ref to)]) hx hb dMH_marked_115 hl rfl (by decide) rfl (by decide) rfl (fun ls hl => ?_)
            refine lv_goto (tgt := 50) hx hb dMH_marked_118 (by decide) ?_
            exact ih22 (i22 + 1) pl ls H locs (by omega) (lv_sub hl [0, 1, 2, 3, 4, 5] rfl) hO hP hD hS
          · refine lv_aload_n hx hb dMH_marked_71 rfl (lv_at hl 3 rfl) ?_
            refine lv_aload_n hx hb dMH_marked_72 rfl (lv_at hl 3 rfl) ?_
            refine ty_get (ci := 12) (C := "LatticeKeysModel$Hands") (TT := T_MH) (N := 31) (kd := (47, 0)) hx hb hts (wg_ft i_MH) hown hK hO k_h0 (nxg (clo_cons (clo_cons (clo_cons (clo_cons (clo_cons (clo_cons hc0 kr21 (by decide)) km21 (by decide)) km22 (by decide)) km23 (by decide)) km24 (by decide)) km25 (by decide)) k_h0 rfl) hP (fun _ h9 => h9) rfl 11 (by decide) (hts _ (wg_t kw_1443)) (fun _ h9 => h9) (cd := (3, 3, 8)) rfl dMH_marked_73 (fun v34 hv34 => ?_)
            obtain ⟨r32, rfl, kr31⟩ := (show ∃ r : Nat, v34 = .ref r ∧ T r = some (3, 8) from hv34)
            refine lv_iload hx hb dMH_marked_76 (lv_at hl 1 rfl) ?_
            refine ty_aald3 hx hb hK hO kr31 (nxg (clo_cons (clo_cons (clo_cons (clo_cons (clo_cons (clo_cons hc0 kr21 (by decide)) km21 (by decide)) km22 (by decide)) km23 (by decide)) km24 (by decide)) km25 (by decide)) kr31 rfl) hP (by omega) (by decide) dMH_marked_78 (fun r33 kr32 => ?_)
            refine lv_iload hx hb dMH_marked_79 (lv_at hl 0 rfl) ?_
            refine ty_iald hx hb hK hO kr32 (nxg (clo_cons (clo_cons (clo_cons (clo_cons (clo_cons (clo_cons hc0 kr21 (by decide)) km21 (by decide)) km22 (by decide)) km23 (by decide)) km24 (by decide)) km25 (by decide)) kr32 rfl) hP (vp_in_nI (by omega) (by decide)) dMH_marked_81 (fun z22 => ?_)
            refine lv_aload_n hx hb dMH_marked_82 rfl (lv_at hl 3 rfl) ?_
            refine ty_get (ci := 12) (C := "LatticeKeysModel$Hands") (TT := T_MH) (N := 31) (kd := (47, 0)) hx hb hts (wg_ft i_MH) hown hK hO k_h0 (nxg (clo_cons (clo_cons (clo_cons (clo_cons (clo_cons (clo_cons hc0 kr21 (by decide)) km21 (by decide)) km22 (by decide)) km23 (by decide)) km24 (by decide)) km25 (by decide)) k_h0 rfl) hP (fun _ h9 => h9) rfl 10 (by decide) (hts _ (wg_t kw_1442)) (fun _ h9 => h9) (cd := (3, 3, 8)) rfl dMH_marked_83 (fun v35 hv35 => ?_)
            obtain ⟨r34, rfl, kr33⟩ := (show ∃ r : Nat, v35 = .ref r ∧ T r = some (3, 8) from hv35)
            refine lv_iload hx hb dMH_marked_86 (lv_at hl 1 rfl) ?_
            refine ty_aald3 hx hb hK hO kr33 (nxg (clo_cons (clo_cons (clo_cons (clo_cons (clo_cons (clo_cons hc0 kr21 (by decide)) km21 (by decide)) km22 (by decide)) km23 (by decide)) km24 (by decide)) km25 (by decide)) kr33 rfl) hP (by omega) (by decide) dMH_marked_88 (fun r35 kr34 => ?_)
            refine lv_iload hx hb dMH_marked_89 (lv_at hl 0 rfl) ?_
            refine ty_iald hx hb hK hO kr34 (nxg (clo_cons (clo_cons (clo_cons (clo_cons (clo_cons (clo_cons hc0 kr21 (by decide)) km21 (by decide)) km22 (by decide)) km23 (by decide)) km24 (by decide)) km25 (by decide)) kr34 rfl) hP (vp_in_nI (by omega) (by decide)) dMH_marked_91 (fun z23 => ?_)
            refine mp_i (cx := []) (wr := [(r21, .inr (9, [.ref am21, .ref am22, .ref am23, .ref am24, .ref am25, .int (nI 136), .int (nI ps24), .int (nI 31)])), (am21, .inl (g.2.1 2, 25, .inr (.inl f32))), (am22, .inl (g.2.1 2, 25, .inr (.inl f33))), (am23, .inl (g.2.1 2, 5, .inr (.inl f34))), (am24, .inl (g.2.1 2, 24, .inr (.inl f24))), (am25, .inl (g.2.1 0, 25, .inl f25))]) hP hD hS hA [] [0, 1, 2, 3, 4, 5] rfl rfl rfl (by decide) (va_runV (As := [.int z22, .int z23]) (rest := [.int (nI 4), .int (nI (4 * i22)), .ref r28]) F (t_MH_used_1 l g _ T (am25 :: (am24 :: (am23 :: (am22 :: (am21 :: (r21 :: xs)))))) pl hO hU (clo_cons (clo_cons (clo_cons (clo_cons (clo_cons (clo_cons hc0 kr21 (by decide)) km21 (by decide)) km22 (by decide)) km23 (by decide)) km24 (by decide)) km25 (by decide)) h0 z22 z23 k_h0) (cwV 2 hts (wg_app (wg_c kw_1880 (wg_c kw_1882 (wg_c ks_74 (wg_c kw_13 wg_n)))) kw_1883) rfl rfl rfl (by decide +kernel) ⟨by decide, by decide⟩) (pp_VT (en_ok g) (ci := 12) (kd := (47, 0)) hK hO k_h0 (nxg (clo_cons (clo_cons (clo_cons (clo_cons (clo_cons (clo_cons hc0 kr21 (by decide)) km21 (by decide)) km22 (by decide)) km23 (by decide)) km24 (by decide)) km25 (by decide)) k_h0 rfl) (fun _ h9 => ko1 h9) hP hD hS hA hE [] rfl rfl rfl) rfl rfl hl.1 rfl (lv_room (Nat.le_of_ble_eq_true rfl)) dMH_marked_92 ⟨by omega, by omega⟩) (fun r36 pl H locs hu28 hP hD hS => ?_)
            obtain ⟨hq28, hO⟩ := hu28
            have hP : va_P g.1 vcl ([(r21, .inr (9, [.ref am21, .ref am22, .ref am23, .ref am24, .ref am25, .int (nI 136), .int (nI ps24), .int (nI 31)])), (am21, .inl (g.2.1 2, 25, .inr (.inl f32))), (am22, .inl (g.2.1 2, 25, .inr (.inl f33))), (am23, .inl (g.2.1 2, 5, .inr (.inl f34))), (am24, .inl (g.2.1 2, 24, .inr (.inl f24))), (am25, .inl (g.2.1 0, 25, .inl f25))] ++ pl) _ := hP
            have hD : va_D _ ([(r21, .inr (9, [.ref am21, .ref am22, .ref am23, .ref am24, .ref am25, .int (nI 136), .int (nI ps24), .int (nI 31)])), (am21, .inl (g.2.1 2, 25, .inr (.inl f32))), (am22, .inl (g.2.1 2, 25, .inr (.inl f33))), (am23, .inl (g.2.1 2, 5, .inr (.inl f34))), (am24, .inl (g.2.1 2, 24, .inr (.inl f24))), (am25, .inl (g.2.1 0, 25, .inl f25))] ++ pl) := hD
            refine W.widen (k := 0) (n := 0) (by omega) (by omega) ?_
            refine lv_goto (tgt := 112) hx hb dMH_marked_95 (by decide) ?_
            refine mp_v (cx := []) (wr := [(r21, .inr (9, [.ref am21, .ref am22, .ref am23, .ref am24, .ref am25, .int (nI 136), .int (nI ps24), .int (nI 31)])), (am21, .inl (g.2.1 2, 25, .inr (.inl f32))), (am22, .inl (g.2.1 2, 25, .inr (.inl f33))), (am23, .inl (g.2.1 2, 5, .inr (.inl f34))), (am24, .inl (g.2.1 2, 24, .inr (.inl f24))), (am25, .inl (g.2.1 0, 25, .inl f25))]) hP hD hS hA [] [0, 1, 2, 3, 4, 5] rfl rfl rfl (by decide) (va_runSN (As := [.ref r28, .int (nI (4 * i22)), .int (nI 4), .int r36]) (rest := []) F (t_M_pack l g _ T (am25 :: (am24 :: (am23 :: (am22 :: (am21 :: (r21 :: xs)))))) pl hO hU (clo_cons (clo_cons (clo_cons (clo_cons (clo_cons (clo_cons hc0 kr21 (by decide)) km21 (by decide)) km22 (by decide)) km23 (by decide)) km24 (by decide)) km25 (by decide)) r28 640 (4 * i22) 4 r36 kr28 (by omega) (by omega)) ⟨va_cnB 4 hts (wg_in kw_1690) rfl rfl rfl (hE.2.2.2.2.2.2.2.2.2.1) (hts _ (wg_t kw_9)) (by decide +kernel) ⟨by decide, by decide⟩, hts _ (wg_t kw_1689), trivial⟩ (pp_S (en_ok g) hP hD hS hA hE [] rfl rfl) rfl rfl hl.1 rfl (lv_room (Nat.le_of_ble_eq_true rfl)) dMH_marked_112 ⟨by omega, by omega⟩) (fun  pl H locs hu29 hP hD hS => ?_)
            obtain ⟨hq29, hO⟩ := hu29
            have hP : va_P g.1 vcl ([(r21, .inr (9, [.ref am21, .ref am22, .ref am23, .ref am24, .ref am25, .int (nI 136), .int (nI ps24), .int (nI 31)])), (am21, .inl (g.2.1 2, 25, .inr (.inl f32))), (am22, .inl (g.2.1 2, 25, .inr (.inl f33))), (am23, .inl (g.2.1 2, 5, .inr (.inl f34))), (am24, .inl (g.2.1 2, 24, .inr (.inl f24))), (am25, .inl (g.2.1 0, 25, .inl f25))] ++ pl) _ := hP
            have hD : va_D _ ([(r21, .inr (9, [.ref am21, .ref am22, .ref am23, .ref am24, .ref am25, .int (nI 136), .int (nI ps24), .int (nI 31)])), (am21, .inl (g.2.1 2, 25, .inr (.inl f32))), (am22, .inl (g.2.1 2, 25, .inr (.inl f33))), (am23, .inl (g.2.1 2, 5, .inr (.inl f34))), (am24, .inl (g.2.1 2, 24, .inr (.inl f24))), (am25, .inl (g.2.1 0, 25, .inl f25))] ++ pl) := hD
            refine W.widen (k := 0) (n := 0) (by omega) (by omega) ?_
            refine mi_iinc (k := 0) (x := i22) (d := 1) (y := i22 + 1) (lv' := [(5, .int (nI (i22 + 1))), (4, .int (nI i21)), (3, .int (nI 4)), (0, .ref h0), (1, .int hd), (2, .ref to)]) hx hb dMH_marked_115 hl rfl (by decide) rfl (by decide) rfl (fun ls hl => ?_)
            refine lv_goto (tgt := 50) hx hb dMH_marked_118 (by decide) ?_
            exact ih22 (i22 + 1) pl ls H locs (by omega) (lv_sub hl [0, 1, 2, 3, 4, 5] rfl) hO hP hD hS
      exact lp22 256 0 pl ls _ _ (by omega) (lv_sub hl [0, 1, 2, 3, 4, 5] rfl) hO hP hD hS
  exact lp21 6 0 ps23 f29 f30 f31 pl ls _ _ (by omega) (by omega) (lv_sub hl [0, 1, 2, 3, 4] rfl) hO hP hD hS
set_option maxHeartbeats 400000 in
set_option maxRecDepth 100000 in
theorem t_MH_marked_2 (l : Launch) (g : Gd) (sz : Nat) (T : Ty) (xs : List Nat) (pl : va_W) (hO : okx g T xs pl) (hU : uni T) (hc0 : clo T xs 0) (hc9 : clo T xs 9) (h0 to : Nat) (hd : Int32) (k_h0 : T h0 = some (48, 0)) (k_to : T to = some (1, 64))  : Met l y_MH_marked w_MH_marked ({ frames := 4, cells := 0, slots := 0, locals := 98 } : Room) (va_Pc [.ref h0, .int hd, .ref to] (pr (en g) g.1 vcl sz ([] ++ pl))) (va_Qv (fun (u : va_W) => (True) ∧ okx g T xs u) (po g.1 vcl (va_A ([] ++ pl) sz) (fun (u : va_W) => [] ++ u)) (va_A ([] ++ pl) sz)) 0 0 (va_A ([] ++ pl) sz) := by
  refine mc_entry (cc := c_MH_marked) (maxL := 6) (ret := none) (by decide) rfl (Nat.le_of_ble_eq_true rfl) ?_
  intro p e s m args below meth c ls F hr hlk hnm hsz hP hD hE hA hl
  obtain ⟨hx, hb, hml, hown, hts⟩ := id F
  have hK := hE.1
  generalize va_A ([] ++ pl) sz = A at hD hE hA ⊢
  have hS : va_S A s.heap s.heap [] := va_S.rf
  have hl : lv_has ls 6 [(0, .ref h0), (1, .int hd), (2, .ref to)] := hl
  refine lv_aload_n hx hb dMH_marked_0 rfl (lv_at hl 0 rfl) ?_
  refine ty_get (ci := 12) (C := "LatticeKeysModel$Hands") (TT := T_MH) (N := 31) (kd := (48, 0)) hx hb hts (wg_ft i_MH) hown hK hO k_h0 (nxg hc0 k_h0 rfl) hP (fun _ h9 => h9) rfl 23 (by decide) (hts _ (wg_t kw_1455)) (fun _ h9 => h9) (cd := (1, 0, 2)) rfl dMH_marked_1 (fun v21 hv21 => ?_)
  obtain rfl := (show v21 = .int (nI 2) from hv21)
  refine lv_if_ne (tgt := 12) hx hb dMH_marked_4 (by decide) (fun h21 => ?_) (fun h21 => absurd h21 (by decide))
  refine lv_iconst (v := nI 4) hx hb dMH_marked_12 (by decide) ?_
  refine lv_istore_n (lv' := [(3, .int (nI 4)), (0, .ref h0), (1, .int hd), (2, .ref to)]) hx hb dMH_marked_13 rfl hl (by decide) rfl (fun ls hl => ?_)
  refine lv_aload_n hx hb dMH_marked_14 rfl (lv_at hl 1 rfl) ?_
  refine ty_get (ci := 12) (C := "LatticeKeysModel$Hands") (TT := T_MH) (N := 31) (kd := (48, 0)) hx hb hts (wg_ft i_MH) hown hK hO k_h0 (nxg hc0 k_h0 rfl) hP (fun _ h9 => h9) rfl 0 (by decide) (hts _ (wg_t kw_1432)) (fun _ h9 => h9) (cd := (3, 20, 0)) rfl dMH_marked_15 (fun v22 hv22 => ?_)
  obtain ⟨r21, rfl, kr21⟩ := (show ∃ r : Nat, v22 = .ref r ∧ T r = some (20, 0) from hv22)
  obtain ⟨e21, pl, hP, hD, hk21, hO⟩ := open1 hP hD hO kr21 (nxg hc9 kr21 rfl)
  obtain ⟨am21, am22, am23, am24, am25, rt21, ps21, x21, rfl, km21, km22, km23, km24, km25, hr21, hr22, hr23⟩ := hk21
  obtain ⟨e22, pl, hP, hD, hk22, hO⟩ := open1 hP hD hO km21 (nmc (knd_ne km21 kr21 (by decide)) (nxg hc9 km21 rfl))
  obtain ⟨f21, rfl⟩ := hk22
  obtain ⟨e23, pl, hP, hD, hk23, hO⟩ := open1 hP hD hO km22 (nmc (knd_ne km22 km21 (by decide)) (nmc (knd_ne km22 kr21 (by decide)) (nxg hc9 km22 rfl)))
  obtain ⟨f22, rfl⟩ := hk23
  obtain ⟨e24, pl, hP, hD, hk24, hO⟩ := open1 hP hD hO km23 (nmc (knd_ne km23 km22 (by decide)) (nmc (knd_ne km23 km21 (by decide)) (nmc (knd_ne km23 kr21 (by decide)) (nxg hc9 km23 rfl))))
  obtain ⟨f23, rfl⟩ := hk24
  obtain ⟨e25, pl, hP, hD, hk25, hO⟩ := open1 hP hD hO km24 (nmc (knd_ne km24 km23 (by decide)) (nmc (knd_ne km24 km22 (by decide)) (nmc (knd_ne km24 km21 (by decide)) (nmc (knd_ne km24 kr21 (by decide)) (nxg hc9 km24 rfl)))))
  obtain ⟨f24, rfl⟩ := hk25
  obtain ⟨e26, pl, hP, hD, hk26, hO⟩ := open1 hP hD hO km25 (nmc (knd_ne km25 km24 (by decide)) (nmc (knd_ne km25 km23 (by decide)) (nmc (knd_ne km25 km22 (by decide)) (nmc (knd_ne km25 km21 (by decide)) (nmc (knd_ne km25 kr21 (by decide)) (nxg hc9 km25 rfl))))))
  obtain ⟨f25, rfl⟩ := hk26
  have hP : va_P g.1 vcl ([(r21, .inr (9, [.ref am21, .ref am22, .ref am23, .ref am24, .ref am25, .int (nI rt21), .int (nI ps21), .int x21])), (am21, .inl (g.2.1 2, 25, .inr (.inl f21))), (am22, .inl (g.2.1 2, 25, .inr (.inl f22))), (am23, .inl (g.2.1 2, 5, .inr (.inl f23))), (am24, .inl (g.2.1 2, 24, .inr (.inl f24))), (am25, .inl (g.2.1 0, 25, .inl f25))] ++ pl) _ := hP
  have hD : va_D _ ([(r21, .inr (9, [.ref am21, .ref am22, .ref am23, .ref am24, .ref am25, .int (nI rt21), .int (nI ps21), .int x21])), (am21, .inl (g.2.1 2, 25, .inr (.inl f21))), (am22, .inl (g.2.1 2, 25, .inr (.inl f22))), (am23, .inl (g.2.1 2, 5, .inr (.inl f23))), (am24, .inl (g.2.1 2, 24, .inr (.inl f24))), (am25, .inl (g.2.1 0, 25, .inl f25))] ++ pl) := hD
  refine mp_v (cx := [(r21, .inr (9, [.ref am21, .ref am22, .ref am23, .ref am24, .ref am25, .int (nI rt21), .int (nI ps21), .int x21])), (am21, .inl (g.2.1 2, 25, .inr (.inl f21))), (am22, .inl (g.2.1 2, 25, .inr (.inl f22))), (am23, .inl (g.2.1 2, 5, .inr (.inl f23))), (am24, .inl (g.2.1 2, 24, .inr (.inl f24))), (am25, .inl (g.2.1 0, 25, .inl f25))]) (wr := []) hP hD hS hA [0, 1, 2, 3, 4, 5] [] rfl rfl rfl (by decide) (va_runV (As := []) (rest := []) F (t_MS_shake l g _ T (am25 :: (am24 :: (am23 :: (am22 :: (am21 :: (r21 :: xs)))))) pl hO hU  r21 am21 am22 am23 am24 am25 rt21 ps21 x21 f21 f22 f23 f24 f25) (cwV 0 hts (wg_app (wg_c kw_1718 (wg_c kw_1661 (wg_c kw_1662 (wg_c kw_10 wg_n)))) kw_1663) rfl rfl rfl (by decide +kernel) ⟨by decide, by decide⟩) (pp_V (en_ok g) (q0 := 0) hK hP hD hS hA hE [0, 1, 2, 3, 4, 5] rfl rfl rfl rfl) rfl rfl hl.1 rfl (lv_room (Nat.le_of_ble_eq_true rfl)) dMH_marked_18 ⟨by omega, by omega⟩) (fun  u21 H locs hu21 hP hD hS => ?_)
  obtain ⟨u22, pl⟩ := u21
  obtain ⟨hq21, hO⟩ := hu21
  obtain ⟨ps22, f26, f27, f28⟩ := u22
  have hP : va_P g.1 vcl ([(r21, .inr (9, [.ref am21, .ref am22, .ref am23, .ref am24, .ref am25, .int (nI 136), .int (nI ps22), .int (nI 31)])), (am21, .inl (g.2.1 2, 25, .inr (.inl f26))), (am22, .inl (g.2.1 2, 25, .inr (.inl f27))), (am23, .inl (g.2.1 2, 5, .inr (.inl f28))), (am24, .inl (g.2.1 2, 24, .inr (.inl f24))), (am25, .inl (g.2.1 0, 25, .inl f25))] ++ pl) _ := hP
  have hD : va_D _ ([(r21, .inr (9, [.ref am21, .ref am22, .ref am23, .ref am24, .ref am25, .int (nI 136), .int (nI ps22), .int (nI 31)])), (am21, .inl (g.2.1 2, 25, .inr (.inl f26))), (am22, .inl (g.2.1 2, 25, .inr (.inl f27))), (am23, .inl (g.2.1 2, 5, .inr (.inl f28))), (am24, .inl (g.2.1 2, 24, .inr (.inl f24))), (am25, .inl (g.2.1 0, 25, .inl f25))] ++ pl) := hD
  have hq21 : ps22 ≤ 136 := hq21
  refine W.widen (k := 0) (n := 0) (by omega) (by omega) ?_
  refine lv_aload_n hx hb dMH_marked_21 rfl (lv_at hl 1 rfl) ?_
  refine ty_get (ci := 12) (C := "LatticeKeysModel$Hands") (TT := T_MH) (N := 31) (kd := (48, 0)) hx hb hts (wg_ft i_MH) hown hK hO k_h0 (nxg (clo_cons (clo_cons (clo_cons (clo_cons (clo_cons (clo_cons hc0 kr21 (by decide)) km21 (by decide)) km22 (by decide)) km23 (by decide)) km24 (by decide)) km25 (by decide)) k_h0 rfl) hP (fun _ h9 => h9) rfl 0 (by decide) (hts _ (wg_t kw_1432)) (fun _ h9 => h9) (cd := (3, 20, 0)) rfl dMH_marked_22 (fun v23 hv23 => ?_)
  obtain ⟨r22, rfl, kr22⟩ := (show ∃ r : Nat, v23 = .ref r ∧ T r = some (20, 0) from hv23)
  obtain rfl : r21 = r22 := hU _ _ _ (by decide) kr21 kr22
  refine lv_aload_n hx hb dMH_marked_25 rfl (lv_at hl 1 rfl) ?_
  refine ty_get (ci := 12) (C := "LatticeKeysModel$Hands") (TT := T_MH) (N := 31) (kd := (48, 0)) hx hb hts (wg_ft i_MH) hown hK hO k_h0 (nxg (clo_cons (clo_cons (clo_cons (clo_cons (clo_cons (clo_cons hc0 kr21 (by decide)) km21 (by decide)) km22 (by decide)) km23 (by decide)) km24 (by decide)) km25 (by decide)) k_h0 rfl) hP (fun _ h9 => h9) rfl 17 (by decide) (hts _ (wg_t kw_1449)) (fun _ h9 => h9) (cd := (3, 1, 64)) rfl dMH_marked_26 (fun v24 hv24 => ?_)
  obtain ⟨r23, rfl, kr23⟩ := (show ∃ r : Nat, v24 = .ref r ∧ T r = some (1, 64) from hv24)
  refine lv_iconst (v := nI 0) hx hb dMH_marked_29 (by decide) ?_
  refine lv_bipush (v := nI 64) hx hb dMH_marked_30 (by decide) ?_
  refine mp_v (cx := [(r21, .inr (9, [.ref am21, .ref am22, .ref am23, .ref am24, .ref am25, .int (nI 136), .int (nI ps22), .int (nI 31)])), (am21, .inl (g.2.1 2, 25, .inr (.inl f26))), (am22, .inl (g.2.1 2, 25, .inr (.inl f27))), (am23, .inl (g.2.1 2, 5, .inr (.inl f28))), (am24, .inl (g.2.1 2, 24, .inr (.inl f24))), (am25, .inl (g.2.1 0, 25, .inl f25))]) (wr := []) hP hD hS hA [0, 1, 2, 3, 4, 5] [] rfl rfl rfl (by decide) (va_runV (As := [.ref r23, .int (nI 0), .int (nI 64)]) (rest := []) F (t_MS_puts l g _ T (am25 :: (am24 :: (am23 :: (am22 :: (am21 :: (r21 :: xs)))))) pl hO hU (clo_cons (clo_cons (clo_cons (clo_cons (clo_cons (clo_cons hc0 kr21 (by decide)) km21 (by decide)) km22 (by decide)) km23 (by decide)) km24 (by decide)) km25 (by decide)) r23 64 0 64 r21 am21 am22 am23 am24 am25 136 ps22 (nI 31) f26 f27 f28 f24 f25 kr23 (by omega) (by omega) (by omega) (by omega)) (cwV 3 hts (wg_app (wg_c kw_1719 (wg_c kw_1612 (wg_c kw_1613 (wg_c kw_10 wg_n)))) kw_1614) rfl rfl rfl (by decide +kernel) ⟨by decide, by decide⟩) (pp_V (en_ok g) (q0 := 0) hK hP hD hS hA hE [0, 1, 2, 3, 4, 5] rfl rfl rfl rfl) rfl rfl hl.1 rfl (lv_room (Nat.le_of_ble_eq_true rfl)) dMH_marked_32 ⟨by omega, by omega⟩) (fun  u23 H locs hu22 hP hD hS => ?_)
  obtain ⟨u24, pl⟩ := u23
  obtain ⟨hq22, hO⟩ := hu22
  obtain ⟨ps23, f29, f30, f31⟩ := u24
  have hP : va_P g.1 vcl ([(r21, .inr (9, [.ref am21, .ref am22, .ref am23, .ref am24, .ref am25, .int (nI 136), .int (nI ps23), .int (nI 31)])), (am21, .inl (g.2.1 2, 25, .inr (.inl f29))), (am22, .inl (g.2.1 2, 25, .inr (.inl f30))), (am23, .inl (g.2.1 2, 5, .inr (.inl f31))), (am24, .inl (g.2.1 2, 24, .inr (.inl f24))), (am25, .inl (g.2.1 0, 25, .inl f25))] ++ pl) _ := hP
  have hD : va_D _ ([(r21, .inr (9, [.ref am21, .ref am22, .ref am23, .ref am24, .ref am25, .int (nI 136), .int (nI ps23), .int (nI 31)])), (am21, .inl (g.2.1 2, 25, .inr (.inl f29))), (am22, .inl (g.2.1 2, 25, .inr (.inl f30))), (am23, .inl (g.2.1 2, 5, .inr (.inl f31))), (am24, .inl (g.2.1 2, 24, .inr (.inl f24))), (am25, .inl (g.2.1 0, 25, .inl f25))] ++ pl) := hD
  have hq22 : ps23 ≤ 136 := hq22
  refine W.widen (k := 0) (n := 0) (by omega) (by omega) ?_
  refine lv_iconst (v := nI 0) hx hb dMH_marked_35 (by decide) ?_
  refine lv_istore (lv' := [(4, .int (nI 0)), (3, .int (nI 4)), (0, .ref h0), (1, .int hd), (2, .ref to)]) hx hb dMH_marked_36 hl (by decide) rfl (fun ls hl => ?_)
  have lp21 : ∀ (n21 : Nat) (i21 : Nat) (ps24 : Nat) (f32 : Nat → Int64) (f33 : Nat → Int64) (f34 : Nat → Int64) (pl : va_W) (ls : Array Slot) (H : Heap) (locs : List Loc), n21 + i21 = 8 → (ps24 ≤ 136) → lv_has ls 6 [(4, .int (nI i21)), (3, .int (nI 4)), (0, .ref h0), (1, .int hd), (2, .ref to)] → okx g T (am25 :: (am24 :: (am23 :: (am22 :: (am21 :: (r21 :: xs)))))) pl → va_P g.1 vcl ([(r21, .inr (9, [.ref am21, .ref am22, .ref am23, .ref am24, .ref am25, .int (nI 136), .int (nI ps24), .int (nI 31)])), (am21, .inl (g.2.1 2, 25, .inr (.inl f32))), (am22, .inl (g.2.1 2, 25, .inr (.inl f33))), (am23, .inl (g.2.1 2, 5, .inr (.inl f34))), (am24, .inl (g.2.1 2, 24, .inr (.inl f24))), (am25, .inl (g.2.1 0, 25, .inl f25))] ++ pl) H → va_D A ([(r21, .inr (9, [.ref am21, .ref am22, .ref am23, .ref am24, .ref am25, .int (nI 136), .int (nI ps24), .int (nI 31)])), (am21, .inl (g.2.1 2, 25, .inr (.inl f32))), (am22, .inl (g.2.1 2, 25, .inr (.inl f33))), (am23, .inl (g.2.1 2, 5, .inr (.inl f34))), (am24, .inl (g.2.1 2, 24, .inr (.inl f24))), (am25, .inl (g.2.1 0, 25, .inl f25))] ++ pl) → va_S A s.heap H locs → W p l e ({ frames := 4, cells := 0, slots := 0, locals := 98 } : Room) s m args below meth c H locs 0 0 (MQ below (va_Qv (fun (u : va_W) => (True) ∧ okx g T xs u) (po g.1 vcl A (fun (u : va_W) => [] ++ u)) A) args s 0 0 A) (F0 m 38 ls []) := by
    intro n21
    induction n21 with
    | zero =>
      intro i21 ps24 f32 f33 f34 pl ls H locs hm21 hi21 hl hO hP hD hS
      refine lv_iload hx hb dMH_marked_38 (lv_at hl 0 rfl) ?_
      refine lv_aload_n hx hb dMH_marked_40 rfl (lv_at hl 2 rfl) ?_
      refine ty_get (ci := 12) (C := "LatticeKeysModel$Hands") (TT := T_MH) (N := 31) (kd := (48, 0)) hx hb hts (wg_ft i_MH) hown hK hO k_h0 (nxg (clo_cons (clo_cons (clo_cons (clo_cons (clo_cons (clo_cons hc0 kr21 (by decide)) km21 (by decide)) km22 (by decide)) km23 (by decide)) km24 (by decide)) km25 (by decide)) k_h0 rfl) hP (fun _ h9 => h9) rfl 24 (by decide) (hts _ (wg_t kw_1456)) (fun _ h9 => h9) (cd := (1, 0, 8)) rfl dMH_marked_41 (fun v25 hv25 => ?_)
      obtain rfl := (show v25 = .int (nI 8) from hv25)
      refine mi_ge (tgt := 143) hx hb dMH_marked_44 (by decide) (by omega) (by omega) (fun h22 => ?_) (fun h22 => absurd h22 (by omega))
      refine lv_aload_n hx hb dMH_marked_143 rfl (lv_at hl 2 rfl) ?_
      refine ty_get (ci := 12) (C := "LatticeKeysModel$Hands") (TT := T_MH) (N := 31) (kd := (48, 0)) hx hb hts (wg_ft i_MH) hown hK hO k_h0 (nxg (clo_cons (clo_cons (clo_cons (clo_cons (clo_cons (clo_cons hc0 kr21 (by decide)) km21 (by decide)) km22 (by decide)) km23 (by decide)) km24 (by decide)) km25 (by decide)) k_h0 rfl) hP (fun _ h9 => h9) rfl 0 (by decide) (hts _ (wg_t kw_1432)) (fun _ h9 => h9) (cd := (3, 20, 0)) rfl dMH_marked_144 (fun v26 hv26 => ?_)
      obtain ⟨r24, rfl, kr24⟩ := (show ∃ r : Nat, v26 = .ref r ∧ T r = some (20, 0) from hv26)
      obtain rfl : r21 = r24 := hU _ _ _ (by decide) kr21 kr24
      refine mp_v (cx := [(r21, .inr (9, [.ref am21, .ref am22, .ref am23, .ref am24, .ref am25, .int (nI 136), .int (nI ps24), .int (nI 31)])), (am21, .inl (g.2.1 2, 25, .inr (.inl f32))), (am22, .inl (g.2.1 2, 25, .inr (.inl f33))), (am23, .inl (g.2.1 2, 5, .inr (.inl f34))), (am24, .inl (g.2.1 2, 24, .inr (.inl f24))), (am25, .inl (g.2.1 0, 25, .inl f25))]) (wr := []) hP hD hS hA [0, 1, 2, 3, 4, 5] [] rfl rfl rfl (by decide) (va_runV (As := []) (rest := []) F (t_MS_end l g _ T (am25 :: (am24 :: (am23 :: (am22 :: (am21 :: (r21 :: xs)))))) pl hO hU  r21 am21 am22 am23 am24 am25 136 ps24 (nI 31) f32 f33 f34 f24 f25 (by omega) (by omega)) (cwV 0 hts (wg_app (wg_c kw_1721 (wg_c kw_1634 (wg_c kw_1635 (wg_c kw_10 wg_n)))) kw_1636) rfl rfl rfl (by decide +kernel) ⟨by decide, by decide⟩) (pp_V (en_ok g) (q0 := 0) hK hP hD hS hA hE [0, 1, 2, 3, 4, 5] rfl rfl rfl rfl) rfl rfl hl.1 rfl (lv_room (Nat.le_of_ble_eq_true rfl)) dMH_marked_147 ⟨by omega, by omega⟩) (fun  u25 H locs hu23 hP hD hS => ?_)
      obtain ⟨u26, pl⟩ := u25
      obtain ⟨hq23, hO⟩ := hu23
      obtain ⟨ps25, f35, f36, f37⟩ := u26
      have hP : va_P g.1 vcl ([(r21, .inr (9, [.ref am21, .ref am22, .ref am23, .ref am24, .ref am25, .int (nI 136), .int (nI ps25), .int (nI 31)])), (am21, .inl (g.2.1 2, 25, .inr (.inl f35))), (am22, .inl (g.2.1 2, 25, .inr (.inl f36))), (am23, .inl (g.2.1 2, 5, .inr (.inl f37))), (am24, .inl (g.2.1 2, 24, .inr (.inl f24))), (am25, .inl (g.2.1 0, 25, .inl f25))] ++ pl) _ := hP
      have hD : va_D _ ([(r21, .inr (9, [.ref am21, .ref am22, .ref am23, .ref am24, .ref am25, .int (nI 136), .int (nI ps25), .int (nI 31)])), (am21, .inl (g.2.1 2, 25, .inr (.inl f35))), (am22, .inl (g.2.1 2, 25, .inr (.inl f36))), (am23, .inl (g.2.1 2, 5, .inr (.inl f37))), (am24, .inl (g.2.1 2, 24, .inr (.inl f24))), (am25, .inl (g.2.1 0, 25, .inl f25))] ++ pl) := hD
      have hq23 : ps25 ≤ 136 := hq23
      refine W.widen (k := 0) (n := 0) (by omega) (by omega) ?_
      refine lv_aload_n hx hb dMH_marked_150 rfl (lv_at hl 2 rfl) ?_
      refine ty_get (ci := 12) (C := "LatticeKeysModel$Hands") (TT := T_MH) (N := 31) (kd := (48, 0)) hx hb hts (wg_ft i_MH) hown hK hO k_h0 (nxg (clo_cons (clo_cons (clo_cons (clo_cons (clo_cons (clo_cons hc0 kr21 (by decide)) km21 (by decide)) km22 (by decide)) km23 (by decide)) km24 (by decide)) km25 (by decide)) k_h0 rfl) hP (fun _ h9 => h9) rfl 0 (by decide) (hts _ (wg_t kw_1432)) (fun _ h9 => h9) (cd := (3, 20, 0)) rfl dMH_marked_151 (fun v27 hv27 => ?_)
      obtain ⟨r25, rfl, kr25⟩ := (show ∃ r : Nat, v27 = .ref r ∧ T r = some (20, 0) from hv27)
      obtain rfl : r21 = r25 := hU _ _ _ (by decide) kr21 kr25
      refine lv_aload_n hx hb dMH_marked_154 rfl (lv_at hl 4 rfl) ?_
      refine lv_iconst (v := nI 0) hx hb dMH_marked_155 (by decide) ?_
      refine lv_aload_n hx hb dMH_marked_156 rfl (lv_at hl 2 rfl) ?_
      refine ty_get (ci := 12) (C := "LatticeKeysModel$Hands") (TT := T_MH) (N := 31) (kd := (48, 0)) hx hb hts (wg_ft i_MH) hown hK hO k_h0 (nxg (clo_cons (clo_cons (clo_cons (clo_cons (clo_cons (clo_cons hc0 kr21 (by decide)) km21 (by decide)) km22 (by decide)) km23 (by decide)) km24 (by decide)) km25 (by decide)) k_h0 rfl) hP (fun _ h9 => h9) rfl 30 (by decide) (hts _ (wg_t kw_1462)) (fun _ h9 => h9) (cd := (1, 0, 64)) rfl dMH_marked_157 (fun v28 hv28 => ?_)
      obtain rfl := (show v28 = .int (nI 64) from hv28)
      refine mp_v (cx := [(r21, .inr (9, [.ref am21, .ref am22, .ref am23, .ref am24, .ref am25, .int (nI 136), .int (nI ps25), .int (nI 31)])), (am21, .inl (g.2.1 2, 25, .inr (.inl f35))), (am22, .inl (g.2.1 2, 25, .inr (.inl f36))), (am23, .inl (g.2.1 2, 5, .inr (.inl f37))), (am24, .inl (g.2.1 2, 24, .inr (.inl f24))), (am25, .inl (g.2.1 0, 25, .inl f25))]) (wr := []) hP hD hS hA [0, 1, 2, 3, 4, 5] [] rfl rfl rfl (by decide) (va_runV (As := [.ref to, .int (nI 0), .int (nI 64)]) (rest := []) F (t_MS_take l g _ T (am25 :: (am24 :: (am23 :: (am22 :: (am21 :: (r21 :: xs)))))) pl hO hU (clo_cons (clo_cons (clo_cons (clo_cons (clo_cons (clo_cons hc0 kr21 (by decide)) km21 (by decide)) km22 (by decide)) km23 (by decide)) km24 (by decide)) km25 (by decide)) to 64 0 64 r21 am21 am22 am23 am24 am25 136 ps25 (nI 31) f35 f36 f37 f24 f25 k_to (by omega) (by omega) (by omega) (by omega)) (cwV 3 hts (wg_app (wg_c kw_1722 (wg_c kw_1638 (wg_c kw_1639 (wg_c kw_10 wg_n)))) kw_1640) rfl rfl rfl (by decide +kernel) ⟨by decide, by decide⟩) (pp_V (en_ok g) (q0 := 0) hK hP hD hS hA hE [0, 1, 2, 3, 4, 5] rfl rfl rfl rfl) rfl rfl hl.1 rfl (lv_room (Nat.le_of_ble_eq_true rfl)) dMH_marked_160 ⟨by omega, by omega⟩) (fun  u27 H locs hu24 hP hD hS => ?_)
      obtain ⟨u28, pl⟩ := u27
      obtain ⟨hq24, hO⟩ := hu24
      obtain ⟨ps26, f38, f39, f40⟩ := u28
      have hP : va_P g.1 vcl ([(r21, .inr (9, [.ref am21, .ref am22, .ref am23, .ref am24, .ref am25, .int (nI 136), .int (nI ps26), .int (nI 31)])), (am21, .inl (g.2.1 2, 25, .inr (.inl f38))), (am22, .inl (g.2.1 2, 25, .inr (.inl f39))), (am23, .inl (g.2.1 2, 5, .inr (.inl f40))), (am24, .inl (g.2.1 2, 24, .inr (.inl f24))), (am25, .inl (g.2.1 0, 25, .inl f25))] ++ pl) _ := hP
      have hD : va_D _ ([(r21, .inr (9, [.ref am21, .ref am22, .ref am23, .ref am24, .ref am25, .int (nI 136), .int (nI ps26), .int (nI 31)])), (am21, .inl (g.2.1 2, 25, .inr (.inl f38))), (am22, .inl (g.2.1 2, 25, .inr (.inl f39))), (am23, .inl (g.2.1 2, 5, .inr (.inl f40))), (am24, .inl (g.2.1 2, 24, .inr (.inl f24))), (am25, .inl (g.2.1 0, 25, .inl f25))] ++ pl) := hD
      have hq24 : ps26 ≤ 136 := hq24
      refine W.widen (k := 0) (n := 0) (by omega) (by omega) ?_
      have hO := close1 (e := .inl (g.2.1 0, 25, .inl f25)) hO km25 ⟨_, rfl⟩
      have hO := close1 (e := .inl (g.2.1 2, 24, .inr (.inl f24))) hO km24 ⟨_, rfl⟩
      have hO := close1 (e := .inl (g.2.1 2, 5, .inr (.inl f40))) hO km23 ⟨_, rfl⟩
      have hO := close1 (e := .inl (g.2.1 2, 25, .inr (.inl f39))) hO km22 ⟨_, rfl⟩
      have hO := close1 (e := .inl (g.2.1 2, 25, .inr (.inl f38))) hO km21 ⟨_, rfl⟩
      have hO := close1 (e := .inr (9, [.ref am21, .ref am22, .ref am23, .ref am24, .ref am25, .int (nI 136), .int (nI ps26), .int (nI 31)])) hO kr21 ⟨_, _, _, _, _, _, _, _, rfl, km21, km22, km23, km24, km25, by omega, by omega, by omega⟩
      have hO : okx g T xs ((r21, .inr (9, [.ref am21, .ref am22, .ref am23, .ref am24, .ref am25, .int (nI 136), .int (nI ps26), .int (nI 31)])) :: (am21, .inl (g.2.1 2, 25, .inr (.inl f38))) :: (am22, .inl (g.2.1 2, 25, .inr (.inl f39))) :: (am23, .inl (g.2.1 2, 5, .inr (.inl f40))) :: (am24, .inl (g.2.1 2, 24, .inr (.inl f24))) :: (am25, .inl (g.2.1 0, 25, .inl f25)) :: pl) := hO
      have hP : va_P g.1 vcl ([] ++ ((r21, .inr (9, [.ref am21, .ref am22, .ref am23, .ref am24, .ref am25, .int (nI 136), .int (nI ps26), .int (nI 31)])) :: (am21, .inl (g.2.1 2, 25, .inr (.inl f38))) :: (am22, .inl (g.2.1 2, 25, .inr (.inl f39))) :: (am23, .inl (g.2.1 2, 5, .inr (.inl f40))) :: (am24, .inl (g.2.1 2, 24, .inr (.inl f24))) :: (am25, .inl (g.2.1 0, 25, .inl f25)) :: pl)) _ := hP
      have hD : va_D _ ([] ++ ((r21, .inr (9, [.ref am21, .ref am22, .ref am23, .ref am24, .ref am25, .int (nI 136), .int (nI ps26), .int (nI 31)])) :: (am21, .inl (g.2.1 2, 25, .inr (.inl f38))) :: (am22, .inl (g.2.1 2, 25, .inr (.inl f39))) :: (am23, .inl (g.2.1 2, 5, .inr (.inl f40))) :: (am24, .inl (g.2.1 2, 24, .inr (.inl f24))) :: (am25, .inl (g.2.1 0, 25, .inl f25)) :: pl)) := hD
      generalize ((r21, .inr (9, [.ref am21, .ref am22, .ref am23, .ref am24, .ref am25, .int (nI 136), .int (nI ps26), .int (nI 31)])) :: (am21, .inl (g.2.1 2, 25, .inr (.inl f38))) :: (am22, .inl (g.2.1 2, 25, .inr (.inl f39))) :: (am23, .inl (g.2.1 2, 5, .inr (.inl f40))) :: (am24, .inl (g.2.1 2, 24, .inr (.inl f24))) :: (am25, .inl (g.2.1 0, 25, .inl f25)) :: pl) = pl at hO hP hD
      exact mp_vret hx hb hr hlk hP hD hS pl ⟨trivial, hO⟩ [] rfl rfl rfl (by omega) (by omega) dMH_marked_163
    | succ n21 ih21 =>
      intro i21 ps24 f32 f33 f34 pl ls H locs hm21 hi21 hl hO hP hD hS
      refine lv_iload hx hb dMH_marked_38 (lv_at hl 0 rfl) ?_
      refine lv_aload_n hx hb dMH_marked_40 rfl (lv_at hl 2 rfl) ?_
      refine ty_get (ci := 12) (C := "LatticeKeysModel$Hands") (TT := T_MH) (N := 31) (kd := (48, 0)) hx hb hts (wg_ft i_MH) hown hK hO k_h0 (nxg (clo_cons (clo_cons (clo_cons (clo_cons (clo_cons (clo_cons hc0 kr21 (by decide)) km21 (by decide)) km22 (by decide)) km23 (by decide)) km24 (by decide)) km25 (by decide)) k_h0 rfl) hP (fun _ h9 => h9) rfl 24 (by decide) (hts _ (wg_t kw_1456)) (fun _ h9 => h9) (cd := (1, 0, 8)) rfl dMH_marked_41 (fun v29 hv29 => ?_)
      obtain rfl := (show v29 = .int (nI 8) from hv29)
      refine mi_ge (tgt := 143) hx hb dMH_marked_44 (by decide) (by omega) (by omega) (fun h23 => absurd h23 (by omega)) (fun h23 => ?_)
      refine lv_iconst (v := nI 0) hx hb dMH_marked_47 (by decide) ?_
      refine lv_istore (lv' := [(5, .int (nI 0)), (4, .int (nI i21)), (3, .int (nI 4)), (0, .ref h0), (1, .int hd), (2, .ref to)]) hx hb dMH_marked_48 hl (by decide) rfl (fun ls hl => ?_)
      have lp22 : ∀ (n22 : Nat) (i22 : Nat) (pl : va_W) (ls : Array Slot) (H : Heap) (locs : List Loc), n22 + i22 = 256 → lv_has ls 6 [(5, .int (nI i22)), (4, .int (nI i21)), (3, .int (nI 4)), (0, .ref h0), (1, .int hd), (2, .ref to)] → okx g T (am25 :: (am24 :: (am23 :: (am22 :: (am21 :: (r21 :: xs)))))) pl → va_P g.1 vcl ([(r21, .inr (9, [.ref am21, .ref am22, .ref am23, .ref am24, .ref am25, .int (nI 136), .int (nI ps24), .int (nI 31)])), (am21, .inl (g.2.1 2, 25, .inr (.inl f32))), (am22, .inl (g.2.1 2, 25, .inr (.inl f33))), (am23, .inl (g.2.1 2, 5, .inr (.inl f34))), (am24, .inl (g.2.1 2, 24, .inr (.inl f24))), (am25, .inl (g.2.1 0, 25, .inl f25))] ++ pl) H → va_D A ([(r21, .inr (9, [.ref am21, .ref am22, .ref am23, .ref am24, .ref am25, .int (nI 136), .int (nI ps24), .int (nI 31)])), (am21, .inl (g.2.1 2, 25, .inr (.inl f32))), (am22, .inl (g.2.1 2, 25, .inr (.inl f33))), (am23, .inl (g.2.1 2, 5, .inr (.inl f34))), (am24, .inl (g.2.1 2, 24, .inr (.inl f24))), (am25, .inl (g.2.1 0, 25, .inl f25))] ++ pl) → va_S A s.heap H locs → W p l e ({ frames := 4, cells := 0, slots := 0, locals := 98 } : Room) s m args below meth c H locs 0 0 (MQ below (va_Qv (fun (u : va_W) => (True) ∧ okx g T xs u) (po g.1 vcl A (fun (u : va_W) => [] ++ u)) A) args s 0 0 A) (F0 m 50 ls []) := by
        intro n22
        induction n22 with
        | zero =>
          intro i22 pl ls H locs hm22  hl hO hP hD hS
          refine lv_iload hx hb dMH_marked_50 (lv_at hl 0 rfl) ?_
          refine lv_sipush (v := nI 256) hx hb dMH_marked_52 (by decide) ?_
          refine mi_ge (tgt := 121) hx hb dMH_marked_55 (by decide) (by omega) (by omega) (fun h24 => ?_) (fun h24 => absurd h24 (by omega))
          refine lv_aload_n hx hb dMH_marked_121 rfl (lv_at hl 3 rfl) ?_
          refine ty_get (ci := 12) (C := "LatticeKeysModel$Hands") (TT := T_MH) (N := 31) (kd := (48, 0)) hx hb hts (wg_ft i_MH) hown hK hO k_h0 (nxg (clo_cons (clo_cons (clo_cons (clo_cons (clo_cons (clo_cons hc0 kr21 (by decide)) km21 (by decide)) km22 (by decide)) km23 (by decide)) km24 (by decide)) km25 (by decide)) k_h0 rfl) hP (fun _ h9 => h9) rfl 0 (by decide) (hts _ (wg_t kw_1432)) (fun _ h9 => h9) (cd := (3, 20, 0)) rfl dMH_marked_122 (fun v30 hv30 => ?_)
          obtain ⟨r26, rfl, kr26⟩ := (show ∃ r : Nat, v30 = .ref r ∧ T r = some (20, 0) from hv30)
          obtain rfl : r21 = r26 := hU _ _ _ (by decide) kr21 kr26
          refine lv_aload_n hx hb dMH_marked_125 rfl (lv_at hl 3 rfl) ?_
          refine ty_get (ci := 12) (C := "LatticeKeysModel$Hands") (TT := T_MH) (N := 31) (kd := (48, 0)) hx hb hts (wg_ft i_MH) hown hK hO k_h0 (nxg (clo_cons (clo_cons (clo_cons (clo_cons (clo_cons (clo_cons hc0 kr21 (by decide)) km21 (by decide)) km22 (by decide)) km23 (by decide)) km24 (by decide)) km25 (by decide)) k_h0 rfl) hP (fun _ h9 => h9) rfl 19 (by decide) (hts _ (wg_t kw_1451)) (fun _ h9 => h9) (cd := (3, 1, 640)) rfl dMH_marked_126 (fun v31 hv31 => ?_)
          obtain ⟨r27, rfl, kr27⟩ := (show ∃ r : Nat, v31 = .ref r ∧ T r = some (1, 640) from hv31)
          refine lv_iconst (v := nI 0) hx hb dMH_marked_129 (by decide) ?_
          refine lv_bipush (v := nI 32) hx hb dMH_marked_130 (by decide) ?_
          refine lv_iload_n hx hb dMH_marked_132 rfl (lv_at hl 2 rfl) ?_
          refine mi_imul hx hb dMH_marked_133 ?_
          refine mi_as (show nI (32 * 4) = nI 128 from rfl) ?_
          refine mp_v (cx := [(r21, .inr (9, [.ref am21, .ref am22, .ref am23, .ref am24, .ref am25, .int (nI 136), .int (nI ps24), .int (nI 31)])), (am21, .inl (g.2.1 2, 25, .inr (.inl f32))), (am22, .inl (g.2.1 2, 25, .inr (.inl f33))), (am23, .inl (g.2.1 2, 5, .inr (.inl f34))), (am24, .inl (g.2.1 2, 24, .inr (.inl f24))), (am25, .inl (g.2.1 0, 25, .inl f25))]) (wr := []) hP hD hS hA [0, 1, 2, 3, 4, 5] [] rfl rfl rfl (by decide) (va_runV (As := [.ref r27, .int (nI 0), .int (nI 128)]) (rest := []) F (t_MS_puts l g _ T (am25 :: (am24 :: (am23 :: (am22 :: (am21 :: (r21 :: xs)))))) pl hO hU (clo_cons (clo_cons (clo_cons (clo_cons (clo_cons (clo_cons hc0 kr21 (by decide)) km21 (by decide)) km22 (by decide)) km23 (by decide)) km24 (by decide)) km25 (by decide)) r27 640 0 128 r21 am21 am22 am23 am24 am25 136 ps24 (nI 31) f32 f33 f34 f24 f25 kr27 (by omega) (by omega) (by omega) (by omega)) (cwV 3 hts (wg_app (wg_c kw_1719 (wg_c kw_1612 (wg_c kw_1613 (wg_c kw_10 wg_n)))) kw_1614) rfl rfl rfl (by decide +kernel) ⟨by decide, by decide⟩) (pp_V (en_ok g) (q0 := 0) hK hP hD hS hA hE [0, 1, 2, 3, 4, 5] rfl rfl rfl rfl) rfl rfl hl.1 rfl (lv_room (Nat.le_of_ble_eq_true rfl)) dMH_marked_134 ⟨by omega, by omega⟩) (fun  u29 H locs hu25 hP hD hS => ?_)
          obtain ⟨u30, pl⟩ := u29
          obtain ⟨hq25, hO⟩ := hu25
          obtain ⟨ps27, f41, f42, f43⟩ := u30
          have hP : va_P g.1 vcl ([(r21, .inr (9, [.ref am21, .ref am22, .ref am23, .ref am24, .ref am25, .int (nI 136), .int (nI ps27), .int (nI 31)])), (am21, .inl (g.2.1 2, 25, .inr (.inl f41))), (am22, .inl (g.2.1 2, 25, .inr (.inl f42))), (am23, .inl (g.2.1 2, 5, .inr (.inl f43))), (am24, .inl (g.2.1 2, 24, .inr (.inl f24))), (am25, .inl (g.2.1 0, 25, .inl f25))] ++ pl) _ := hP
          have hD : va_D _ ([(r21, .inr (9, [.ref am21, .ref am22, .ref am23, .ref am24, .ref am25, .int (nI 136), .int (nI ps27), .int (nI 31)])), (am21, .inl (g.2.1 2, 25, .inr (.inl f41))), (am22, .inl (g.2.1 2, 25, .inr (.inl f42))), (am23, .inl (g.2.1 2, 5, .inr (.inl f43))), (am24, .inl (g.2.1 2, 24, .inr (.inl f24))), (am25, .inl (g.2.1 0, 25, .inl f25))] ++ pl) := hD
          have hq25 : ps27 ≤ 136 := hq25
          refine W.widen (k := 0) (n := 0) (by omega) (by omega) ?_
          refine mi_iinc (k := 1) (x := i21) (d := 1) (y := i21 + 1) (lv' := [(4, .int (nI (i21 + 1))), (5, .int (nI i22)), (3, .int (nI 4)), (0, .ref h0), (1, .int hd), (2, .ref to)]) hx hb dMH_marked_137 hl rfl (by decide) rfl (by decide) rfl (fun ls hl => ?_)
          refine lv_goto (tgt := 38) hx hb dMH_marked_140 (by decide) ?_
          exact ih21 (i21 + 1) ps27 f41 f42 f43 pl ls H locs (by omega) (by omega) (lv_sub hl [0, 2, 3, 4, 5] rfl) hO hP hD hS
        | succ n22 ih22 =>
          intro i22 pl ls H locs hm22  hl hO hP hD hS
          refine lv_iload hx hb dMH_marked_50 (lv_at hl 0 rfl) ?_
          refine lv_sipush (v := nI 256) hx hb dMH_marked_52 (by decide) ?_
          refine mi_ge (tgt := 121) hx hb dMH_marked_55 (by decide) (by omega) (by omega) (fun h25 => absurd h25 (by omega)) (fun h25 => ?_)
          refine lv_aload_n hx hb dMH_marked_58 rfl (lv_at hl 3 rfl) ?_
          refine ty_get (ci := 12) (C := "LatticeKeysModel$Hands") (TT := T_MH) (N := 31) (kd := (48, 0)) hx hb hts (wg_ft i_MH) hown hK hO k_h0 (nxg (clo_cons (clo_cons (clo_cons (clo_cons (clo_cons (clo_cons hc0 kr21 (by decide)) km21 (by decide)) km22 (by decide)) km23 (by decide)) km24 (by decide)) km25 (by decide)) k_h0 rfl) hP (fun _ h9 => h9) rfl 19 (by decide) (hts _ (wg_t kw_1451)) (fun _ h9 => h9) (cd := (3, 1, 640)) rfl dMH_marked_59 (fun v32 hv32 => ?_)
          obtain ⟨r28, rfl, kr28⟩ := (show ∃ r : Nat, v32 = .ref r ∧ T r = some (1, 640) from hv32)
          refine lv_iload_n hx hb dMH_marked_62 rfl (lv_at hl 2 rfl) ?_
          refine lv_iload hx hb dMH_marked_63 (lv_at hl 0 rfl) ?_
          refine mi_imul hx hb dMH_marked_65 ?_
          refine lv_iload_n hx hb dMH_marked_66 rfl (lv_at hl 2 rfl) ?_
          refine lv_iload_n hx hb dMH_marked_67 rfl (lv_at hl 4 rfl) ?_
          refine lv_if_eq (tgt := 98) hx hb dMH_marked_68 (by decide) (fun h26 => ?_) (fun h26 => ?_)
          · refine lv_aload_n hx hb dMH_marked_98 rfl (lv_at hl 3 rfl) ?_
            refine lv_aload_n hx hb dMH_marked_99 rfl (lv_at hl 3 rfl) ?_
            refine ty_get (ci := 12) (C := "LatticeKeysModel$Hands") (TT := T_MH) (N := 31) (kd := (48, 0)) hx hb hts (wg_ft i_MH) hown hK hO k_h0 (nxg (clo_cons (clo_cons (clo_cons (clo_cons (clo_cons (clo_cons hc0 kr21 (by decide)) km21 (by decide)) km22 (by decide)) km23 (by decide)) km24 (by decide)) km25 (by decide)) k_h0 rfl) hP (fun _ h9 => h9) rfl 10 (by decide) (hts _ (wg_t kw_1442)) (fun _ h9 => h9) (cd := (3, 3, 8)) rfl dMH_marked_100 (fun v33 hv33 => ?_)
            obtain ⟨r29, rfl, kr29⟩ := (show ∃ r : Nat, v33 = .ref r ∧ T r = some (3, 8) from hv33)
            refine lv_iload hx hb dMH_marked_103 (lv_at hl 1 rfl) ?_
            refine ty_aald3 hx hb hK hO kr29 (nxg (clo_cons (clo_cons (clo_cons (clo_cons (clo_cons (clo_cons hc0 kr21 (by decide)) km21 (by decide)) km22 (by decide)) km23 (by decide)) km24 (by decide)) km25 (by decide)) kr29 rfl) hP (by omega) (by decide) dMH_marked_105 (fun r30 kr30 => ?_)
            refine lv_iload hx hb dMH_marked_106 (lv_at hl 0 rfl) ?_
            refine ty_iald hx hb hK hO kr30 (nxg (clo_cons (clo_cons (clo_cons (clo_cons (clo_cons (clo_cons hc0 kr21 (by decide)) km21 (by decide)) km22 (by decide)) km23 (by decide)) km24 (by decide)) km25 (by decide)) kr30 rfl) hP (vp_in_nI (by omega) (by decide)) dMH_marked_108 (fun z21 => ?_)
            refine mp_i (cx := []) (wr := [(r21, .inr (9, [.ref am21, .ref am22, .ref am23, .ref am24, .ref am25, .int (nI 136), .int (nI ps24), .int (nI 31)])), (am21, .inl (g.2.1 2, 25, .inr (.inl f32))), (am22, .inl (g.2.1 2, 25, .inr (.inl f33))), (am23, .inl (g.2.1 2, 5, .inr (.inl f34))), (am24, .inl (g.2.1 2, 24, .inr (.inl f24))), (am25, .inl (g.2.1 0, 25, .inl f25))]) hP hD hS hA [] [0, 1, 2, 3, 4, 5] rfl rfl rfl (by decide) (va_runV (As := [.int z21]) (rest := [.int (nI 4), .int (nI (4 * i22)), .ref r28]) F (t_MH_high_2 l g _ T (am25 :: (am24 :: (am23 :: (am22 :: (am21 :: (r21 :: xs)))))) pl hO hU (clo_cons (clo_cons (clo_cons (clo_cons (clo_cons (clo_cons hc0 kr21 (by decide)) km21 (by decide)) km22 (by decide)) km23 (by decide)) km24 (by decide)) km25 (by decide)) h0 z21 k_h0) (cwV 1 hts (wg_app (wg_c kw_1885 (wg_c kw_1887 (wg_c ks_75 (wg_c kw_13 wg_n)))) kw_1888) rfl rfl rfl (by decide +kernel) ⟨by decide, by decide⟩) (pp_VT (en_ok g) (ci := 12) (kd := (48, 0)) hK hO k_h0 (nxg (clo_cons (clo_cons (clo_cons (clo_cons (clo_cons (clo_cons hc0 kr21 (by decide)) km21 (by decide)) km22 (by decide)) km23 (by decide)) km24 (by decide)) km25 (by decide)) k_h0 rfl) (fun _ h9 => ko1 h9) hP hD hS hA hE [] rfl rfl rfl) rfl rfl hl.1 rfl (lv_room (Nat.le_of_ble_eq_true rfl)) dMH_marked_109 ⟨by omega, by omega⟩) (fun r31 pl H locs hu26 hP hD hS => ?_)
            obtain ⟨hq26, hO⟩ := hu26
            have hP : va_P g.1 vcl ([(r21, .inr (9, [.ref am21, .ref am22, .ref am23, .ref am24, .ref am25, .int (nI 136), .int (nI ps24), .int (nI 31)])), (am21, .inl (g.2.1 2, 25, .inr (.inl f32))), (am22, .inl (g.2.1 2, 25, .inr (.inl f33))), (am23, .inl (g.2.1 2, 5, .inr (.inl f34))), (am24, .inl (g.2.1 2, 24, .inr (.inl f24))), (am25, .inl (g.2.1 0, 25, .inl f25))] ++ pl) _ := hP
            have hD : va_D _ ([(r21, .inr (9, [.ref am21, .ref am22, .ref am23, .ref am24, .ref am25, .int (nI 136), .int (nI ps24), .int (nI 31)])), (am21, .inl (g.2.1 2, 25, .inr (.inl f32))), (am22, .inl (g.2.1 2, 25, .inr (.inl f33))), (am23, .inl (g.2.1 2, 5, .inr (.inl f34))), (am24, .inl (g.2.1 2, 24, .inr (.inl f24))), (am25, .inl (g.2.1 0, 25, .inl f25))] ++ pl) := hD
            refine W.widen (k := 0) (n := 0) (by omega) (by omega) ?_
            refine mp_v (cx := []) (wr := [(r21, .inr (9, [.ref am21, .ref am22, .ref am23, .ref am24, .ref am25, .int (nI 136), .int (nI ps24), .int (nI 31)])), (am21, .inl (g.2.1 2, 25, .inr (.inl f32))), (am22, .inl (g.2.1 2, 25, .inr (.inl f33))), (am23, .inl (g.2.1 2, 5, .inr (.inl f34))), (am24, .inl (g.2.1 2, 24, .inr (.inl f24))), (am25, .inl (g.2.1 0, 25, .inl f25))]) hP hD hS hA [] [0, 1, 2, 3, 4, 5] rfl rfl rfl (by decide) (va_runSN (As := [.ref r28, .int (nI (4 * i22)), .int (nI 4), .int r31]) (rest := []) F (t_M_pack l g _ T (am25 :: (am24 :: (am23 :: (am22 :: (am21 :: (r21 :: xs)))))) pl hO hU (clo_cons (clo_cons (clo_cons (clo_cons (clo_cons (clo_cons hc0 kr21 (by decide)) km21 (by decide)) km22 (by decide)) km23 (by decide)) km24 (by decide)) km25 (by decide)) r28 640 (4 * i22) 4 r31 kr28 (by omega) (by omega)) ⟨va_cnB 4 hts (wg_in kw_1690) rfl rfl rfl (hE.2.2.2.2.2.2.2.2.2.1) (hts _ (wg_t kw_9)) (by decide +kernel) ⟨by decide, by decide⟩, hts _ (wg_t kw_1689), trivial⟩ (pp_S (en_ok g) hP hD hS hA hE [] rfl rfl) rfl rfl hl.1 rfl (lv_room (Nat.le_of_ble_eq_true rfl)) dMH_marked_112 ⟨by omega, by omega⟩) (fun  pl H locs hu27 hP hD hS => ?_)
            obtain ⟨hq27, hO⟩ := hu27
            have hP : va_P g.1 vcl ([(r21, .inr (9, [.ref am21, .ref am22, .ref am23, .ref am24, .ref am25, .int (nI 136), .int (nI ps24), .int (nI 31)])), (am21, .inl (g.2.1 2, 25, .inr (.inl f32))), (am22, .inl (g.2.1 2, 25, .inr (.inl f33))), (am23, .inl (g.2.1 2, 5, .inr (.inl f34))), (am24, .inl (g.2.1 2, 24, .inr (.inl f24))), (am25, .inl (g.2.1 0, 25, .inl f25))] ++ pl) _ := hP
            have hD : va_D _ ([(r21, .inr (9, [.ref am21, .ref am22, .ref am23, .ref am24, .ref am25, .int (nI 136), .int (nI ps24), .int (nI 31)])), (am21, .inl (g.2.1 2, 25, .inr (.inl f32))), (am22, .inl (g.2.1 2, 25, .inr (.inl f33))), (am23, .inl (g.2.1 2, 5, .inr (.inl f34))), (am24, .inl (g.2.1 2, 24, .inr (.inl f24))), (am25, .inl (g.2.1 0, 25, .inl f25))] ++ pl) := hD
            refine W.widen (k := 0) (n := 0) (by omega) (by omega) ?_
            refine mi_iinc (k := 0) (x := i22) (d := 1) (y := i22 + 1) (lv' := [(5, .int (nI (i22 + 1))), (4, .int (nI i21)), (3, .int (nI 4)), (0, .ref h0), (1, .int hd), (2, .ref to)]) hx hb dMH_marked_115 hl rfl (by decide) rfl (by decide) rfl (fun ls hl => ?_)
            refine lv_goto (tgt := 50) hx hb dMH_marked_118 (by decide) ?_
            exact ih22 (i22 + 1) pl ls H locs (by omega) (lv_sub hl [0, 1, 2, 3, 4, 5] rfl) hO hP hD hS
          · refine lv_aload_n hx hb dMH_marked_71 rfl (lv_at hl 3 rfl) ?_
            refine lv_aload_n hx hb dMH_marked_72 rfl (lv_at hl 3 rfl) ?_
            refine ty_get (ci := 12) (C := "LatticeKeysModel$Hands") (TT := T_MH) (N := 31) (kd := (48, 0)) hx hb hts (wg_ft i_MH) hown hK hO k_h0 (nxg (clo_cons (clo_cons (clo_cons (clo_cons (clo_cons (clo_cons hc0 kr21 (by decide)) km21 (by decide)) km22 (by decide)) km23 (by decide)) km24 (by decide)) km25 (by decide)) k_h0 rfl) hP (fun _ h9 => h9) rfl 11 (by decide) (hts _ (wg_t kw_1443)) (fun _ h9 => h9) (cd := (3, 3, 8)) rfl dMH_marked_73 (fun v34 hv34 => ?_)
            obtain ⟨r32, rfl, kr31⟩ := (show ∃ r : Nat, v34 = .ref r ∧ T r = some (3, 8) from hv34)
            refine lv_iload hx hb dMH_marked_76 (lv_at hl 1 rfl) ?_
            refine ty_aald3 hx hb hK hO kr31 (nxg (clo_cons (clo_cons (clo_cons (clo_cons (clo_cons (clo_cons hc0 kr21 (by decide)) km21 (by decide)) km22 (by decide)) km23 (by decide)) km24 (by decide)) km25 (by decide)) kr31 rfl) hP (by omega) (by decide) dMH_marked_78 (fun r33 kr32 => ?_)
            refine lv_iload hx hb dMH_marked_79 (lv_at hl 0 rfl) ?_
            refine ty_iald hx hb hK hO kr32 (nxg (clo_cons (clo_cons (clo_cons (clo_cons (clo_cons (clo_cons hc0 kr21 (by decide)) km21 (by decide)) km22 (by decide)) km23 (by decide)) km24 (by decide)) km25 (by decide)) kr32 rfl) hP (vp_in_nI (by omega) (by decide)) dMH_marked_81 (fun z22 => ?_)
            refine lv_aload_n hx hb dMH_marked_82 rfl (lv_at hl 3 rfl) ?_
            refine ty_get (ci := 12) (C := "LatticeKeysModel$Hands") (TT := T_MH) (N := 31) (kd := (48, 0)) hx hb hts (wg_ft i_MH) hown hK hO k_h0 (nxg (clo_cons (clo_cons (clo_cons (clo_cons (clo_cons (clo_cons hc0 kr21 (by decide)) km21 (by decide)) km22 (by decide)) km23 (by decide)) km24 (by decide)) km25 (by decide)) k_h0 rfl) hP (fun _ h9 => h9) rfl 10 (by decide) (hts _ (wg_t kw_1442)) (fun _ h9 => h9) (cd := (3, 3, 8)) rfl dMH_marked_83 (fun v35 hv35 => ?_)
            obtain ⟨r34, rfl, kr33⟩ := (show ∃ r : Nat, v35 = .ref r ∧ T r = some (3, 8) from hv35)
            refine lv_iload hx hb dMH_marked_86 (lv_at hl 1 rfl) ?_
            refine ty_aald3 hx hb hK hO kr33 (nxg (clo_cons (clo_cons (clo_cons (clo_cons (clo_cons (clo_cons hc0 kr21 (by decide)) km21 (by decide)) km22 (by decide)) km23 (by decide)) km24 (by decide)) km25 (by decide)) kr33 rfl) hP (by omega) (by decide) dMH_marked_88 (fun r35 kr34 => ?_)
            refine lv_iload hx hb dMH_marked_89 (lv_at hl 0 rfl) ?_
            refine ty_iald hx hb hK hO kr34 (nxg (clo_cons (clo_cons (clo_cons (clo_cons (clo_cons (clo_cons hc0 kr21 (by decide)) km21 (by decide)) km22 (by decide)) km23 (by decide)) km24 (by decide)) km25 (by decide)) kr34 rfl) hP (vp_in_nI (by omega) (by decide)) dMH_marked_91 (fun z23 => ?_)
            refine mp_i (cx := []) (wr := [(r21, .inr (9, [.ref am21, .ref am22, .ref am23, .ref am24, .ref am25, .int (nI 136), .int (nI ps24), .int (nI 31)])), (am21, .inl (g.2.1 2, 25, .inr (.inl f32))), (am22, .inl (g.2.1 2, 25, .inr (.inl f33))), (am23, .inl (g.2.1 2, 5, .inr (.inl f34))), (am24, .inl (g.2.1 2, 24, .inr (.inl f24))), (am25, .inl (g.2.1 0, 25, .inl f25))]) hP hD hS hA [] [0, 1, 2, 3, 4, 5] rfl rfl rfl (by decide) (va_runV (As := [.int z22, .int z23]) (rest := [.int (nI 4), .int (nI (4 * i22)), .ref r28]) F (t_MH_used_2 l g _ T (am25 :: (am24 :: (am23 :: (am22 :: (am21 :: (r21 :: xs)))))) pl hO hU (clo_cons (clo_cons (clo_cons (clo_cons (clo_cons (clo_cons hc0 kr21 (by decide)) km21 (by decide)) km22 (by decide)) km23 (by decide)) km24 (by decide)) km25 (by decide)) h0 z22 z23 k_h0) (cwV 2 hts (wg_app (wg_c kw_1880 (wg_c kw_1882 (wg_c ks_74 (wg_c kw_13 wg_n)))) kw_1883) rfl rfl rfl (by decide +kernel) ⟨by decide, by decide⟩) (pp_VT (en_ok g) (ci := 12) (kd := (48, 0)) hK hO k_h0 (nxg (clo_cons (clo_cons (clo_cons (clo_cons (clo_cons (clo_cons hc0 kr21 (by decide)) km21 (by decide)) km22 (by decide)) km23 (by decide)) km24 (by decide)) km25 (by decide)) k_h0 rfl) (fun _ h9 => ko1 h9) hP hD hS hA hE [] rfl rfl rfl) rfl rfl hl.1 rfl (lv_room (Nat.le_of_ble_eq_true rfl)) dMH_marked_92 ⟨by omega, by omega⟩) (fun r36 pl H locs hu28 hP hD hS => ?_)
            obtain ⟨hq28, hO⟩ := hu28
            have hP : va_P g.1 vcl ([(r21, .inr (9, [.ref am21, .ref am22, .ref am23, .ref am24, .ref am25, .int (nI 136), .int (nI ps24), .int (nI 31)])), (am21, .inl (g.2.1 2, 25, .inr (.inl f32))), (am22, .inl (g.2.1 2, 25, .inr (.inl f33))), (am23, .inl (g.2.1 2, 5, .inr (.inl f34))), (am24, .inl (g.2.1 2, 24, .inr (.inl f24))), (am25, .inl (g.2.1 0, 25, .inl f25))] ++ pl) _ := hP
            have hD : va_D _ ([(r21, .inr (9, [.ref am21, .ref am22, .ref am23, .ref am24, .ref am25, .int (nI 136), .int (nI ps24), .int (nI 31)])), (am21, .inl (g.2.1 2, 25, .inr (.inl f32))), (am22, .inl (g.2.1 2, 25, .inr (.inl f33))), (am23, .inl (g.2.1 2, 5, .inr (.inl f34))), (am24, .inl (g.2.1 2, 24, .inr (.inl f24))), (am25, .inl (g.2.1 0, 25, .inl f25))] ++ pl) := hD
            refine W.widen (k := 0) (n := 0) (by omega) (by omega) ?_
            refine lv_goto (tgt := 112) hx hb dMH_marked_95 (by decide) ?_
            refine mp_v (cx := []) (wr := [(r21, .inr (9, [.ref am21, .ref am22, .ref am23, .ref am24, .ref am25, .int (nI 136), .int (nI ps24), .int (nI 31)])), (am21, .inl (g.2.1 2, 25, .inr (.inl f32))), (am22, .inl (g.2.1 2, 25, .inr (.inl f33))), (am23, .inl (g.2.1 2, 5, .inr (.inl f34))), (am24, .inl (g.2.1 2, 24, .inr (.inl f24))), (am25, .inl (g.2.1 0, 25, .inl f25))]) hP hD hS hA [] [0, 1, 2, 3, 4, 5] rfl rfl rfl (by decide) (va_runSN (As := [.ref r28, .int (nI (4 * i22)), .int (nI 4), .int r36]) (rest := []) F (t_M_pack l g _ T (am25 :: (am24 :: (am23 :: (am22 :: (am21 :: (r21 :: xs)))))) pl hO hU (clo_cons (clo_cons (clo_cons (clo_cons (clo_cons (clo_cons hc0 kr21 (by decide)) km21 (by decide)) km22 (by decide)) km23 (by decide)) km24 (by decide)) km25 (by decide)) r28 640 (4 * i22) 4 r36 kr28 (by omega) (by omega)) ⟨va_cnB 4 hts (wg_in kw_1690) rfl rfl rfl (hE.2.2.2.2.2.2.2.2.2.1) (hts _ (wg_t kw_9)) (by decide +kernel) ⟨by decide, by decide⟩, hts _ (wg_t kw_1689), trivial⟩ (pp_S (en_ok g) hP hD hS hA hE [] rfl rfl) rfl rfl hl.1 rfl (lv_room (Nat.le_of_ble_eq_true rfl)) dMH_marked_112 ⟨by omega, by omega⟩) (fun  pl H locs hu29 hP hD hS => ?_)
            obtain ⟨hq29, hO⟩ := hu29
            have hP : va_P g.1 vcl ([(r21, .inr (9, [.ref am21, .ref am22, .ref am23, .ref am24, .ref am25, .int (nI 136), .int (nI ps24), .int (nI 31)])), (am21, .inl (g.2.1 2, 25, .inr (.inl f32))), (am22, .inl (g.2.1 2, 25, .inr (.inl f33))), (am23, .inl (g.2.1 2, 5, .inr (.inl f34))), (am24, .inl (g.2.1 2, 24, .inr (.inl f24))), (am25, .inl (g.2.1 0, 25, .inl f25))] ++ pl) _ := hP
            have hD : va_D _ ([(r21, .inr (9, [.ref am21, .ref am22, .ref am23, .ref am24, .ref am25, .int (nI 136), .int (nI ps24), .int (nI 31)])), (am21, .inl (g.2.1 2, 25, .inr (.inl f32))), (am22, .inl (g.2.1 2, 25, .inr (.inl f33))), (am23, .inl (g.2.1 2, 5, .inr (.inl f34))), (am24, .inl (g.2.1 2, 24, .inr (.inl f24))), (am25, .inl (g.2.1 0, 25, .inl f25))] ++ pl) := hD
            refine W.widen (k := 0) (n := 0) (by omega) (by omega) ?_
            refine mi_iinc (k := 0) (x := i22) (d := 1) (y := i22 + 1) (lv' := [(5, .int (nI (i22 + 1))), (4, .int (nI i21)), (3, .int (nI 4)), (0, .ref h0), (1, .int hd), (2, .ref to)]) hx hb dMH_marked_115 hl rfl (by decide) rfl (by decide) rfl (fun ls hl => ?_)
            refine lv_goto (tgt := 50) hx hb dMH_marked_118 (by decide) ?_
            exact ih22 (i22 + 1) pl ls H locs (by omega) (lv_sub hl [0, 1, 2, 3, 4, 5] rfl) hO hP hD hS
      exact lp22 256 0 pl ls _ _ (by omega) (lv_sub hl [0, 1, 2, 3, 4, 5] rfl) hO hP hD hS
  exact lp21 8 0 ps23 f29 f30 f31 pl ls _ _ (by omega) (by omega) (lv_sub hl [0, 1, 2, 3, 4] rfl) hO hP hD hS
set_option maxHeartbeats 400000 in
set_option maxRecDepth 100000 in
theorem t_MH_fits_0 (l : Launch) (g : Gd) (sz : Nat) (T : Ty) (xs : List Nat) (pl : va_W) (hO : okx g T xs pl) (hU : uni T) (hc0 : clo T xs 0) (h0 : Nat) (k_h0 : T h0 = some (46, 0))  : Met l y_MH_fits w_MH_fits ({ frames := 1, cells := 0, slots := 0, locals := 60 } : Room) (va_Pc [.ref h0] (pr (en g) g.1 vcl sz ([] ++ pl))) (va_Qi (fun (r : Int32) (u : va_W) => (r = nI 0 ∨ r = nI 1) ∧ okx g T xs u) (po g.1 vcl (va_A ([] ++ pl) sz) (fun (u : va_W) => [] ++ u)) (va_A ([] ++ pl) sz)) 0 0 (va_A ([] ++ pl) sz) := by
  refine mc_entry (cc := c_MH_fits) (maxL := 4) (ret := (some .boolean)) (by decide) rfl (Nat.le_of_ble_eq_true rfl) ?_
  intro p e s m args below meth c ls F hr hlk hnm hsz hP hD hE hA hl
  obtain ⟨hx, hb, hml, hown, hts⟩ := id F
  have hK := hE.1
  generalize va_A ([] ++ pl) sz = A at hD hE hA ⊢
  have hS : va_S A s.heap s.heap [] := va_S.rf
  have hl : lv_has ls 4 [(0, .ref h0)] := hl
  refine lv_iconst (v := nI 0) hx hb dMH_fits_0 (by decide) ?_
  refine lv_istore_n (lv' := [(1, .int (nI 0)), (0, .ref h0)]) hx hb dMH_fits_1 rfl hl (by decide) rfl (fun ls hl => ?_)
  have lp21 : ∀ (n21 : Nat) (i21 : Nat) (pl : va_W) (ls : Array Slot) (H : Heap) (locs : List Loc), n21 + i21 = 4 → lv_has ls 4 [(1, .int (nI i21)), (0, .ref h0)] → okx g T xs pl → va_P g.1 vcl ([] ++ pl) H → va_D A ([] ++ pl) → va_S A s.heap H locs → W p l e ({ frames := 1, cells := 0, slots := 0, locals := 60 } : Room) s m args below meth c H locs 0 0 (MQ below (va_Qi (fun (r : Int32) (u : va_W) => (r = nI 0 ∨ r = nI 1) ∧ okx g T xs u) (po g.1 vcl A (fun (u : va_W) => [] ++ u)) A) args s 0 0 A) (F0 m 2 ls []) := by
    intro n21
    induction n21 with
    | zero =>
      intro i21 pl ls H locs hm21  hl hO hP hD hS
      refine lv_iload_n hx hb dMH_fits_2 rfl (lv_at hl 0 rfl) ?_
      refine lv_aload_n hx hb dMH_fits_3 rfl (lv_at hl 1 rfl) ?_
      refine ty_get (ci := 12) (C := "LatticeKeysModel$Hands") (TT := T_MH) (N := 31) (kd := (46, 0)) hx hb hts (wg_ft i_MH) hown hK hO k_h0 (nxg hc0 k_h0 rfl) hP (fun _ h9 => h9) rfl 25 (by decide) (hts _ (wg_t kw_1457)) (fun _ h9 => h9) (cd := (1, 0, 4)) rfl dMH_fits_4 (fun v21 hv21 => ?_)
      obtain rfl := (show v21 = .int (nI 4) from hv21)
      refine mi_ge (tgt := 96) hx hb dMH_fits_7 (by decide) (by omega) (by omega) (fun h21 => ?_) (fun h21 => absurd h21 (by omega))
      refine lv_iconst (v := nI 0) hx hb dMH_fits_96 (by decide) ?_
      refine lv_istore_n (lv' := [(1, .int (nI 0)), (0, .ref h0)]) hx hb dMH_fits_97 rfl hl (by decide) rfl (fun ls hl => ?_)
      have lp22 : ∀ (n22 : Nat) (i22 : Nat) (pl : va_W) (ls : Array Slot) (H : Heap) (locs : List Loc), n22 + i22 = 4 → lv_has ls 4 [(1, .int (nI i22)), (0, .ref h0)] → okx g T xs pl → va_P g.1 vcl ([] ++ pl) H → va_D A ([] ++ pl) → va_S A s.heap H locs → W p l e ({ frames := 1, cells := 0, slots := 0, locals := 60 } : Room) s m args below meth c H locs 0 0 (MQ below (va_Qi (fun (r : Int32) (u : va_W) => (r = nI 0 ∨ r = nI 1) ∧ okx g T xs u) (po g.1 vcl A (fun (u : va_W) => [] ++ u)) A) args s 0 0 A) (F0 m 98 ls []) := by
        intro n22
        induction n22 with
        | zero =>
          intro i22 pl ls H locs hm22  hl hO hP hD hS
          refine lv_iload_n hx hb dMH_fits_98 rfl (lv_at hl 0 rfl) ?_
          refine lv_aload_n hx hb dMH_fits_99 rfl (lv_at hl 1 rfl) ?_
          refine ty_get (ci := 12) (C := "LatticeKeysModel$Hands") (TT := T_MH) (N := 31) (kd := (46, 0)) hx hb hts (wg_ft i_MH) hown hK hO k_h0 (nxg hc0 k_h0 rfl) hP (fun _ h9 => h9) rfl 24 (by decide) (hts _ (wg_t kw_1456)) (fun _ h9 => h9) (cd := (1, 0, 4)) rfl dMH_fits_100 (fun v22 hv22 => ?_)
          obtain rfl := (show v22 = .int (nI 4) from hv22)
          refine mi_ge (tgt := 195) hx hb dMH_fits_103 (by decide) (by omega) (by omega) (fun h22 => ?_) (fun h22 => absurd h22 (by omega))
          refine lv_iconst (v := nI 0) hx hb dMH_fits_195 (by decide) ?_
          refine lv_istore_n (lv' := [(1, .int (nI 0)), (0, .ref h0)]) hx hb dMH_fits_196 rfl hl (by decide) rfl (fun ls hl => ?_)
          refine lv_iconst (v := nI 0) hx hb dMH_fits_197 (by decide) ?_
          refine lv_istore_n (lv' := [(2, .int (nI 0)), (1, .int (nI 0)), (0, .ref h0)]) hx hb dMH_fits_198 rfl hl (by decide) rfl (fun ls hl => ?_)
          have lp23 : ∀ (n23 : Nat) (i23 : Nat) (z21 : Int32) (pl : va_W) (ls : Array Slot) (H : Heap) (locs : List Loc), n23 + i23 = 4 → lv_has ls 4 [(2, .int (nI i23)), (1, .int z21), (0, .ref h0)] → okx g T xs pl → va_P g.1 vcl ([] ++ pl) H → va_D A ([] ++ pl) → va_S A s.heap H locs → W p l e ({ frames := 1, cells := 0, slots := 0, locals := 60 } : Room) s m args below meth c H locs 0 0 (MQ below (va_Qi (fun (r : Int32) (u : va_W) => (r = nI 0 ∨ r = nI 1) ∧ okx g T xs u) (po g.1 vcl A (fun (u : va_W) => [] ++ u)) A) args s 0 0 A) (F0 m 199 ls []) := by
            intro n23
            induction n23 with
            | zero =>
              intro i23 z21 pl ls H locs hm23  hl hO hP hD hS
              refine lv_iload_n hx hb dMH_fits_199 rfl (lv_at hl 0 rfl) ?_
              refine lv_aload_n hx hb dMH_fits_200 rfl (lv_at hl 2 rfl) ?_
              refine ty_get (ci := 12) (C := "LatticeKeysModel$Hands") (TT := T_MH) (N := 31) (kd := (46, 0)) hx hb hts (wg_ft i_MH) hown hK hO k_h0 (nxg hc0 k_h0 rfl) hP (fun _ h9 => h9) rfl 24 (by decide) (hts _ (wg_t kw_1456)) (fun _ h9 => h9) (cd := (1, 0, 4)) rfl dMH_fits_201 (fun v23 hv23 => ?_)
              obtain rfl := (show v23 = .int (nI 4) from hv23)
              refine mi_ge (tgt := 321) hx hb dMH_fits_204 (by decide) (by omega) (by omega) (fun h23 => ?_) (fun h23 => absurd h23 (by omega))
              refine lv_iload_n hx hb dMH_fits_321 rfl (lv_at hl 1 rfl) ?_
              refine va_gets hx hb (hE.2.1 27 _ rfl).1 hS hown (hts _ (wg_t kw_1912)) (fun _ h9 => h9) dMH_fits_322 ?_
              refine lv_aload_n hx hb dMH_fits_325 rfl (lv_at hl 2 rfl) ?_
              refine ty_get (ci := 12) (C := "LatticeKeysModel$Hands") (TT := T_MH) (N := 31) (kd := (46, 0)) hx hb hts (wg_ft i_MH) hown hK hO k_h0 (nxg hc0 k_h0 rfl) hP (fun _ h9 => h9) rfl 23 (by decide) (hts _ (wg_t kw_1455)) (fun _ h9 => h9) (cd := (1, 0, 0)) rfl dMH_fits_326 (fun v24 hv24 => ?_)
              obtain rfl := (show v24 = .int (nI 0) from hv24)
              refine va_ti (v := .int (nI 80)) hx hb (hE.2.1 27 _ rfl).2 hS (vp_in_nI (by decide) (by decide)) (by decide +kernel) dMH_fits_329 ?_
              refine lv_icmp_gt (tgt := 337) hx hb dMH_fits_330 (by decide) (fun h24 => ?_) (fun h24 => ?_)
              · refine lv_iconst (v := nI 0) hx hb dMH_fits_337 (by decide) ?_
                exact mp_zret hx hb hr hlk rfl hP hD hS pl ⟨(Or.inl rfl), hO⟩ [] rfl rfl rfl (by omega) (by omega) dMH_fits_338
              · refine lv_iconst (v := nI 1) hx hb dMH_fits_333 (by decide) ?_
                refine lv_goto (tgt := 338) hx hb dMH_fits_334 (by decide) ?_
                exact mp_zret hx hb hr hlk rfl hP hD hS pl ⟨(Or.inr rfl), hO⟩ [] rfl rfl rfl (by omega) (by omega) dMH_fits_338
            | succ n23 ih23 =>
              intro i23 z21 pl ls H locs hm23  hl hO hP hD hS
              refine lv_iload_n hx hb dMH_fits_199 rfl (lv_at hl 0 rfl) ?_
              refine lv_aload_n hx hb dMH_fits_200 rfl (lv_at hl 2 rfl) ?_
              refine ty_get (ci := 12) (C := "LatticeKeysModel$Hands") (TT := T_MH) (N := 31) (kd := (46, 0)) hx hb hts (wg_ft i_MH) hown hK hO k_h0 (nxg hc0 k_h0 rfl) hP (fun _ h9 => h9) rfl 24 (by decide) (hts _ (wg_t kw_1456)) (fun _ h9 => h9) (cd := (1, 0, 4)) rfl dMH_fits_201 (fun v25 hv25 => ?_)
              obtain rfl := (show v25 = .int (nI 4) from hv25)
              refine mi_ge (tgt := 321) hx hb dMH_fits_204 (by decide) (by omega) (by omega) (fun h25 => absurd h25 (by omega)) (fun h25 => ?_)
              refine lv_aload_n hx hb dMH_fits_207 rfl (lv_at hl 2 rfl) ?_
              refine lv_aload_n hx hb dMH_fits_208 rfl (lv_at hl 2 rfl) ?_
              refine ty_get (ci := 12) (C := "LatticeKeysModel$Hands") (TT := T_MH) (N := 31) (kd := (46, 0)) hx hb hts (wg_ft i_MH) hown hK hO k_h0 (nxg hc0 k_h0 rfl) hP (fun _ h9 => h9) rfl 5 (by decide) (hts _ (wg_t kw_1437)) (fun _ h9 => h9) (cd := (3, 3, 8)) rfl dMH_fits_209 (fun v26 hv26 => ?_)
              obtain ⟨r21, rfl, kr21⟩ := (show ∃ r : Nat, v26 = .ref r ∧ T r = some (3, 8) from hv26)
              refine lv_iload_n hx hb dMH_fits_212 rfl (lv_at hl 0 rfl) ?_
              refine ty_aald3 hx hb hK hO kr21 (nxg hc0 kr21 rfl) hP (by omega) (by decide) dMH_fits_213 (fun r22 kr22 => ?_)
              refine lv_aload_n hx hb dMH_fits_214 rfl (lv_at hl 2 rfl) ?_
              refine ty_get (ci := 12) (C := "LatticeKeysModel$Hands") (TT := T_MH) (N := 31) (kd := (46, 0)) hx hb hts (wg_ft i_MH) hown hK hO k_h0 (nxg hc0 k_h0 rfl) hP (fun _ h9 => h9) rfl 13 (by decide) (hts _ (wg_t kw_1445)) (fun _ h9 => h9) (cd := (3, 0, 256)) rfl dMH_fits_215 (fun v27 hv27 => ?_)
              obtain ⟨r23, rfl, kr23⟩ := (show ∃ r : Nat, v27 = .ref r ∧ T r = some (0, 256) from hv27)
              refine mp_v (cx := []) (wr := []) hP hD hS hA [] [] rfl rfl rfl (by decide) (va_runV (As := [.ref r22, .ref r23]) (rest := []) F (t_MH_turned_0 l g _ T xs pl hO hU hc0 h0 r22 r23 k_h0 kr22 kr23) (cwV 2 hts (wg_app (wg_c kw_1901 (wg_c kw_1903 (wg_c ks_79 (wg_c kw_13 wg_n)))) kw_1904) rfl rfl rfl (by decide +kernel) ⟨by decide, by decide⟩) (pp_VT (en_ok g) (ci := 12) (kd := (46, 0)) hK hO k_h0 (nxg hc0 k_h0 rfl) (fun _ h9 => ko1 h9) hP hD hS hA hE [] rfl rfl rfl) rfl rfl hl.1 rfl (lv_room (Nat.le_of_ble_eq_true rfl)) dMH_fits_218 ⟨by omega, by omega⟩) (fun  pl H locs hu21 hP hD hS => ?_)
              obtain ⟨hq21, hO⟩ := hu21
              have hP : va_P g.1 vcl ([] ++ pl) _ := hP
              have hD : va_D _ ([] ++ pl) := hD
              refine W.widen (k := 0) (n := 0) (by omega) (by omega) ?_
              refine lv_iconst (v := nI 0) hx hb dMH_fits_221 (by decide) ?_
              refine lv_istore_n (lv' := [(3, .int (nI 0)), (2, .int (nI i23)), (1, .int z21), (0, .ref h0)]) hx hb dMH_fits_222 rfl hl (by decide) rfl (fun ls hl => ?_)
              have lp24 : ∀ (n24 : Nat) (i24 : Nat) (z22 : Int32) (pl : va_W) (ls : Array Slot) (H : Heap) (locs : List Loc), n24 + i24 = 256 → lv_has ls 4 [(3, .int (nI i24)), (2, .int (nI i23)), (1, .int z22), (0, .ref h0)] → okx g T xs pl → va_P g.1 vcl ([] ++ pl) H → va_D A ([] ++ pl) → va_S A s.heap H locs → W p l e ({ frames := 1, cells := 0, slots := 0, locals := 60 } : Room) s m args below meth c H locs 0 0 (MQ below (va_Qi (fun (r : Int32) (u : va_W) => (r = nI 0 ∨ r = nI 1) ∧ okx g T xs u) (po g.1 vcl A (fun (u : va_W) => [] ++ u)) A) args s 0 0 A) (F0 m 223 ls []) := by
                intro n24
                induction n24 with
                | zero =>
                  intro i24 z22 pl ls H locs hm24  hl hO hP hD hS
                  refine lv_iload_n hx hb dMH_fits_223 rfl (lv_at hl 0 rfl) ?_
                  refine lv_sipush (v := nI 256) hx hb dMH_fits_224 (by decide) ?_
                  refine mi_ge (tgt := 315) hx hb dMH_fits_227 (by decide) (by omega) (by omega) (fun h26 => ?_) (fun h26 => absurd h26 (by omega))
                  refine mi_iinc (k := 1) (x := i23) (d := 1) (y := i23 + 1) (lv' := [(2, .int (nI (i23 + 1))), (3, .int (nI i24)), (1, .int z22), (0, .ref h0)]) hx hb dMH_fits_315 hl rfl (by decide) rfl (by decide) rfl (fun ls hl => ?_)
                  refine lv_goto (tgt := 199) hx hb dMH_fits_318 (by decide) ?_
                  exact ih23 (i23 + 1) z22 pl ls H locs (by omega) (lv_sub hl [0, 2, 3] rfl) hO hP hD hS
                | succ n24 ih24 =>
                  intro i24 z22 pl ls H locs hm24  hl hO hP hD hS
                  refine lv_iload_n hx hb dMH_fits_223 rfl (lv_at hl 0 rfl) ?_
                  refine lv_sipush (v := nI 256) hx hb dMH_fits_224 (by decide) ?_
                  refine mi_ge (tgt := 315) hx hb dMH_fits_227 (by decide) (by omega) (by omega) (fun h27 => absurd h27 (by omega)) (fun h27 => ?_)
                  refine lv_aload_n hx hb dMH_fits_230 rfl (lv_at hl 3 rfl) ?_
                  refine ty_get (ci := 12) (C := "LatticeKeysModel$Hands") (TT := T_MH) (N := 31) (kd := (46, 0)) hx hb hts (wg_ft i_MH) hown hK hO k_h0 (nxg hc0 k_h0 rfl) hP (fun _ h9 => h9) rfl 13 (by decide) (hts _ (wg_t kw_1445)) (fun _ h9 => h9) (cd := (3, 0, 256)) rfl dMH_fits_231 (fun v28 hv28 => ?_)
                  obtain ⟨r24, rfl, kr24⟩ := (show ∃ r : Nat, v28 = .ref r ∧ T r = some (0, 256) from hv28)
                  refine lv_iload_n hx hb dMH_fits_234 rfl (lv_at hl 0 rfl) ?_
                  refine ty_iald hx hb hK hO kr24 (nxg hc0 kr24 rfl) hP (vp_in_nI (by omega) (by decide)) dMH_fits_235 (fun z23 => ?_)
                  refine mp_i (cx := []) (wr := []) hP hD hS hA [] [] rfl rfl rfl (by decide) (va_runS (As := [.int z23]) (rest := []) F (t_MH_norm l g _ T xs pl hO hU  z23) (va_cwS 1 hts (wg_app (wg_c kw_1905 (wg_c kw_1906 (wg_c kw_13 wg_n))) kw_1907) rfl rfl rfl (by decide +kernel) ⟨by decide, by decide⟩) (pp_S (en_ok g) hP hD hS hA hE [] rfl rfl) rfl rfl hl.1 rfl (lv_room (Nat.le_of_ble_eq_true rfl)) dMH_fits_236 ⟨by omega, by omega⟩) (fun r25 pl H locs hu22 hP hD hS => ?_)
                  obtain ⟨hq22, hO⟩ := hu22
                  have hP : va_P g.1 vcl ([] ++ pl) _ := hP
                  have hD : va_D _ ([] ++ pl) := hD
                  refine W.widen (k := 0) (n := 0) (by omega) (by omega) ?_
                  refine lv_aload_n hx hb dMH_fits_239 rfl (lv_at hl 3 rfl) ?_
                  refine ty_get (ci := 12) (C := "LatticeKeysModel$Hands") (TT := T_MH) (N := 31) (kd := (46, 0)) hx hb hts (wg_ft i_MH) hown hK hO k_h0 (nxg hc0 k_h0 rfl) hP (fun _ h9 => h9) rfl 28 (by decide) (hts _ (wg_t kw_1460)) (fun _ h9 => h9) (cd := (1, 0, 95232)) rfl dMH_fits_240 (fun v29 hv29 => ?_)
                  obtain rfl := (show v29 = .int (nI 95232) from hv29)
                  refine lv_icmp_lt (tgt := 248) hx hb dMH_fits_243 (by decide) (fun h28 => ?_) (fun h28 => ?_)
                  · refine lv_aload_n hx hb dMH_fits_248 rfl (lv_at hl 3 rfl) ?_
                    refine ty_get (ci := 12) (C := "LatticeKeysModel$Hands") (TT := T_MH) (N := 31) (kd := (46, 0)) hx hb hts (wg_ft i_MH) hown hK hO k_h0 (nxg hc0 k_h0 rfl) hP (fun _ h9 => h9) rfl 11 (by decide) (hts _ (wg_t kw_1443)) (fun _ h9 => h9) (cd := (3, 3, 8)) rfl dMH_fits_249 (fun v30 hv30 => ?_)
                    obtain ⟨r26, rfl, kr25⟩ := (show ∃ r : Nat, v30 = .ref r ∧ T r = some (3, 8) from hv30)
                    refine lv_iload_n hx hb dMH_fits_252 rfl (lv_at hl 1 rfl) ?_
                    refine ty_aald3 hx hb hK hO kr25 (nxg hc0 kr25 rfl) hP (by omega) (by decide) dMH_fits_253 (fun r27 kr26 => ?_)
                    refine lv_iload_n hx hb dMH_fits_254 rfl (lv_at hl 0 rfl) ?_
                    refine lv_aload_n hx hb dMH_fits_255 rfl (lv_at hl 3 rfl) ?_
                    refine lv_aload_n hx hb dMH_fits_256 rfl (lv_at hl 3 rfl) ?_
                    refine ty_get (ci := 12) (C := "LatticeKeysModel$Hands") (TT := T_MH) (N := 31) (kd := (46, 0)) hx hb hts (wg_ft i_MH) hown hK hO k_h0 (nxg hc0 k_h0 rfl) hP (fun _ h9 => h9) rfl 10 (by decide) (hts _ (wg_t kw_1442)) (fun _ h9 => h9) (cd := (3, 3, 8)) rfl dMH_fits_257 (fun v31 hv31 => ?_)
                    obtain ⟨r28, rfl, kr27⟩ := (show ∃ r : Nat, v31 = .ref r ∧ T r = some (3, 8) from hv31)
                    refine lv_iload_n hx hb dMH_fits_260 rfl (lv_at hl 1 rfl) ?_
                    refine ty_aald3 hx hb hK hO kr27 (nxg hc0 kr27 rfl) hP (by omega) (by decide) dMH_fits_261 (fun r29 kr28 => ?_)
                    refine lv_iload_n hx hb dMH_fits_262 rfl (lv_at hl 0 rfl) ?_
                    refine ty_iald hx hb hK hO kr28 (nxg hc0 kr28 rfl) hP (vp_in_nI (by omega) (by decide)) dMH_fits_263 (fun z24 => ?_)
                    refine lv_aload_n hx hb dMH_fits_264 rfl (lv_at hl 3 rfl) ?_
                    refine ty_get (ci := 12) (C := "LatticeKeysModel$Hands") (TT := T_MH) (N := 31) (kd := (46, 0)) hx hb hts (wg_ft i_MH) hown hK hO k_h0 (nxg hc0 k_h0 rfl) hP (fun _ h9 => h9) rfl 13 (by decide) (hts _ (wg_t kw_1445)) (fun _ h9 => h9) (cd := (3, 0, 256)) rfl dMH_fits_265 (fun v32 hv32 => ?_)
                    obtain ⟨r30, rfl, kr29⟩ := (show ∃ r : Nat, v32 = .ref r ∧ T r = some (0, 256) from hv32)
                    refine lv_iload_n hx hb dMH_fits_268 rfl (lv_at hl 0 rfl) ?_
                    refine ty_iald hx hb hK hO kr29 (nxg hc0 kr29 rfl) hP (vp_in_nI (by omega) (by decide)) dMH_fits_269 (fun z25 => ?_)
                    refine lv_iadd hx hb dMH_fits_270 ?_
                    refine mi_any (fun z26 => ?_)
                    refine lv_ldc (v := 8380417) hx hb hown (hts _ (wg_t kw_1429)) dMH_fits_271 ?_
                    refine mi_as (show (8380417 : Int32) = nI 8380417 by decide) ?_
                    refine lv_irem hx hb dMH_fits_273 (nI_ne0 (by omega) (by omega)) ?_
                    refine mi_any (fun z27 => ?_)
                    refine mp_i (cx := []) (wr := []) hP hD hS hA [] [] rfl rfl rfl (by decide) (va_runV (As := [.int z27]) (rest := [.int (nI i24), .ref r27]) F (t_MH_high_0 l g _ T xs pl hO hU hc0 h0 z27 k_h0) (cwV 1 hts (wg_app (wg_c kw_1885 (wg_c kw_1887 (wg_c ks_75 (wg_c kw_13 wg_n)))) kw_1888) rfl rfl rfl (by decide +kernel) ⟨by decide, by decide⟩) (pp_VT (en_ok g) (ci := 12) (kd := (46, 0)) hK hO k_h0 (nxg hc0 k_h0 rfl) (fun _ h9 => ko1 h9) hP hD hS hA hE [] rfl rfl rfl) rfl rfl hl.1 rfl (lv_room (Nat.le_of_ble_eq_true rfl)) dMH_fits_274 ⟨by omega, by omega⟩) (fun r31 pl H locs hu23 hP hD hS => ?_)
                    obtain ⟨hq23, hO⟩ := hu23
                    have hP : va_P g.1 vcl ([] ++ pl) _ := hP
                    have hD : va_D _ ([] ++ pl) := hD
                    refine W.widen (k := 0) (n := 0) (by omega) (by omega) ?_
                    refine lv_aload_n hx hb dMH_fits_277 rfl (lv_at hl 3 rfl) ?_
                    refine lv_aload_n hx hb dMH_fits_278 rfl (lv_at hl 3 rfl) ?_
                    refine ty_get (ci := 12) (C := "LatticeKeysModel$Hands") (TT := T_MH) (N := 31) (kd := (46, 0)) hx hb hts (wg_ft i_MH) hown hK hO k_h0 (nxg hc0 k_h0 rfl) hP (fun _ h9 => h9) rfl 10 (by decide) (hts _ (wg_t kw_1442)) (fun _ h9 => h9) (cd := (3, 3, 8)) rfl dMH_fits_279 (fun v33 hv33 => ?_)
                    obtain ⟨r32, rfl, kr30⟩ := (show ∃ r : Nat, v33 = .ref r ∧ T r = some (3, 8) from hv33)
                    refine lv_iload_n hx hb dMH_fits_282 rfl (lv_at hl 1 rfl) ?_
                    refine ty_aald3 hx hb hK hO kr30 (nxg hc0 kr30 rfl) hP (by omega) (by decide) dMH_fits_283 (fun r33 kr31 => ?_)
                    refine lv_iload_n hx hb dMH_fits_284 rfl (lv_at hl 0 rfl) ?_
                    refine ty_iald hx hb hK hO kr31 (nxg hc0 kr31 rfl) hP (vp_in_nI (by omega) (by decide)) dMH_fits_285 (fun z28 => ?_)
                    refine mp_i (cx := []) (wr := []) hP hD hS hA [] [] rfl rfl rfl (by decide) (va_runV (As := [.int z28]) (rest := [.int r31, .int (nI i24), .ref r27]) F (t_MH_high_0 l g _ T xs pl hO hU hc0 h0 z28 k_h0) (cwV 1 hts (wg_app (wg_c kw_1885 (wg_c kw_1887 (wg_c ks_75 (wg_c kw_13 wg_n)))) kw_1888) rfl rfl rfl (by decide +kernel) ⟨by decide, by decide⟩) (pp_VT (en_ok g) (ci := 12) (kd := (46, 0)) hK hO k_h0 (nxg hc0 k_h0 rfl) (fun _ h9 => ko1 h9) hP hD hS hA hE [] rfl rfl rfl) rfl rfl hl.1 rfl (lv_room (Nat.le_of_ble_eq_true rfl)) dMH_fits_286 ⟨by omega, by omega⟩) (fun r34 pl H locs hu24 hP hD hS => ?_)
                    obtain ⟨hq24, hO⟩ := hu24
                    have hP : va_P g.1 vcl ([] ++ pl) _ := hP
                    have hD : va_D _ ([] ++ pl) := hD
                    refine W.widen (k := 0) (n := 0) (by omega) (by omega) ?_
                    refine lv_icmp_ne (tgt := 296) hx hb dMH_fits_289 (by decide) (fun h29 => ?_) (fun h29 => ?_)
                    · refine lv_iconst (v := nI 1) hx hb dMH_fits_296 (by decide) ?_
                      refine ty_iast hx hb hK hO kr26 (nxg hc0 kr26 rfl) hP hD hS (vp_in_nI (by omega) (by decide)) dMH_fits_297 (fun pl H locs hO hP hD hS => ?_)
                      refine lv_iload_n hx hb dMH_fits_298 rfl (lv_at hl 2 rfl) ?_
                      refine lv_aload_n hx hb dMH_fits_299 rfl (lv_at hl 3 rfl) ?_
                      refine ty_get (ci := 12) (C := "LatticeKeysModel$Hands") (TT := T_MH) (N := 31) (kd := (46, 0)) hx hb hts (wg_ft i_MH) hown hK hO k_h0 (nxg hc0 k_h0 rfl) hP (fun _ h9 => h9) rfl 11 (by decide) (hts _ (wg_t kw_1443)) (fun _ h9 => h9) (cd := (3, 3, 8)) rfl dMH_fits_300 (fun v34 hv34 => ?_)
                      obtain ⟨r35, rfl, kr32⟩ := (show ∃ r : Nat, v34 = .ref r ∧ T r = some (3, 8) from hv34)
                      refine lv_iload_n hx hb dMH_fits_303 rfl (lv_at hl 1 rfl) ?_
                      refine ty_aald3 hx hb hK hO kr32 (nxg hc0 kr32 rfl) hP (by omega) (by decide) dMH_fits_304 (fun r36 kr33 => ?_)
                      refine lv_iload_n hx hb dMH_fits_305 rfl (lv_at hl 0 rfl) ?_
                      refine ty_iald hx hb hK hO kr33 (nxg hc0 kr33 rfl) hP (vp_in_nI (by omega) (by decide)) dMH_fits_306 (fun z29 => ?_)
                      refine lv_iadd hx hb dMH_fits_307 ?_
                      refine mi_any (fun z30 => ?_)
                      refine lv_istore_n (lv' := [(1, .int z30), (3, .int (nI i24)), (2, .int (nI i23)), (0, .ref h0)]) hx hb dMH_fits_308 rfl hl (by decide) rfl (fun ls hl => ?_)
                      refine mi_iinc (k := 1) (x := i24) (d := 1) (y := i24 + 1) (lv' := [(3, .int (nI (i24 + 1))), (1, .int z30), (2, .int (nI i23)), (0, .ref h0)]) hx hb dMH_fits_309 hl rfl (by decide) rfl (by decide) rfl (fun ls hl => ?_)
                      refine lv_goto (tgt := 223) hx hb dMH_fits_312 (by decide) ?_
                      exact ih24 (i24 + 1) z30 pl ls H locs (by omega) (lv_sub hl [0, 2, 1, 3] rfl) hO hP hD hS
                    · refine lv_iconst (v := nI 0) hx hb dMH_fits_292 (by decide) ?_
                      refine lv_goto (tgt := 297) hx hb dMH_fits_293 (by decide) ?_
                      refine ty_iast hx hb hK hO kr26 (nxg hc0 kr26 rfl) hP hD hS (vp_in_nI (by omega) (by decide)) dMH_fits_297 (fun pl H locs hO hP hD hS => ?_)
                      refine lv_iload_n hx hb dMH_fits_298 rfl (lv_at hl 2 rfl) ?_
                      refine lv_aload_n hx hb dMH_fits_299 rfl (lv_at hl 3 rfl) ?_
                      refine ty_get (ci := 12) (C := "LatticeKeysModel$Hands") (TT := T_MH) (N := 31) (kd := (46, 0)) hx hb hts (wg_ft i_MH) hown hK hO k_h0 (nxg hc0 k_h0 rfl) hP (fun _ h9 => h9) rfl 11 (by decide) (hts _ (wg_t kw_1443)) (fun _ h9 => h9) (cd := (3, 3, 8)) rfl dMH_fits_300 (fun v35 hv35 => ?_)
                      obtain ⟨r37, rfl, kr34⟩ := (show ∃ r : Nat, v35 = .ref r ∧ T r = some (3, 8) from hv35)
                      refine lv_iload_n hx hb dMH_fits_303 rfl (lv_at hl 1 rfl) ?_
                      refine ty_aald3 hx hb hK hO kr34 (nxg hc0 kr34 rfl) hP (by omega) (by decide) dMH_fits_304 (fun r38 kr35 => ?_)
                      refine lv_iload_n hx hb dMH_fits_305 rfl (lv_at hl 0 rfl) ?_
                      refine ty_iald hx hb hK hO kr35 (nxg hc0 kr35 rfl) hP (vp_in_nI (by omega) (by decide)) dMH_fits_306 (fun z31 => ?_)
                      refine lv_iadd hx hb dMH_fits_307 ?_
                      refine mi_any (fun z32 => ?_)
                      refine lv_istore_n (lv' := [(1, .int z32), (3, .int (nI i24)), (2, .int (nI i23)), (0, .ref h0)]) hx hb dMH_fits_308 rfl hl (by decide) rfl (fun ls hl => ?_)
                      refine mi_iinc (k := 1) (x := i24) (d := 1) (y := i24 + 1) (lv' := [(3, .int (nI (i24 + 1))), (1, .int z32), (2, .int (nI i23)), (0, .ref h0)]) hx hb dMH_fits_309 hl rfl (by decide) rfl (by decide) rfl (fun ls hl => ?_)
                      refine lv_goto (tgt := 223) hx hb dMH_fits_312 (by decide) ?_
                      exact ih24 (i24 + 1) z32 pl ls H locs (by omega) (lv_sub hl [0, 2, 1, 3] rfl) hO hP hD hS
                  · refine lv_iconst (v := nI 0) hx hb dMH_fits_246 (by decide) ?_
                    exact mp_zret hx hb hr hlk rfl hP hD hS pl ⟨(Or.inl rfl), hO⟩ [] rfl rfl rfl (by omega) (by omega) dMH_fits_247
              exact lp24 256 0 z21 pl ls _ _ (by omega) (lv_sub hl [0, 1, 2, 3] rfl) hO hP hD hS
          exact lp23 4 0 (nI 0) pl ls _ _ (by omega) (lv_sub hl [0, 1, 2] rfl) hO hP hD hS
        | succ n22 ih22 =>
          intro i22 pl ls H locs hm22  hl hO hP hD hS
          refine lv_iload_n hx hb dMH_fits_98 rfl (lv_at hl 0 rfl) ?_
          refine lv_aload_n hx hb dMH_fits_99 rfl (lv_at hl 1 rfl) ?_
          refine ty_get (ci := 12) (C := "LatticeKeysModel$Hands") (TT := T_MH) (N := 31) (kd := (46, 0)) hx hb hts (wg_ft i_MH) hown hK hO k_h0 (nxg hc0 k_h0 rfl) hP (fun _ h9 => h9) rfl 24 (by decide) (hts _ (wg_t kw_1456)) (fun _ h9 => h9) (cd := (1, 0, 4)) rfl dMH_fits_100 (fun v36 hv36 => ?_)
          obtain rfl := (show v36 = .int (nI 4) from hv36)
          refine mi_ge (tgt := 195) hx hb dMH_fits_103 (by decide) (by omega) (by omega) (fun h30 => absurd h30 (by omega)) (fun h30 => ?_)
          refine lv_aload_n hx hb dMH_fits_106 rfl (lv_at hl 1 rfl) ?_
          refine lv_aload_n hx hb dMH_fits_107 rfl (lv_at hl 1 rfl) ?_
          refine ty_get (ci := 12) (C := "LatticeKeysModel$Hands") (TT := T_MH) (N := 31) (kd := (46, 0)) hx hb hts (wg_ft i_MH) hown hK hO k_h0 (nxg hc0 k_h0 rfl) hP (fun _ h9 => h9) rfl 4 (by decide) (hts _ (wg_t kw_1436)) (fun _ h9 => h9) (cd := (3, 3, 8)) rfl dMH_fits_108 (fun v37 hv37 => ?_)
          obtain ⟨r39, rfl, kr36⟩ := (show ∃ r : Nat, v37 = .ref r ∧ T r = some (3, 8) from hv37)
          refine lv_iload_n hx hb dMH_fits_111 rfl (lv_at hl 0 rfl) ?_
          refine ty_aald3 hx hb hK hO kr36 (nxg hc0 kr36 rfl) hP (by omega) (by decide) dMH_fits_112 (fun r40 kr37 => ?_)
          refine lv_aload_n hx hb dMH_fits_113 rfl (lv_at hl 1 rfl) ?_
          refine ty_get (ci := 12) (C := "LatticeKeysModel$Hands") (TT := T_MH) (N := 31) (kd := (46, 0)) hx hb hts (wg_ft i_MH) hown hK hO k_h0 (nxg hc0 k_h0 rfl) hP (fun _ h9 => h9) rfl 13 (by decide) (hts _ (wg_t kw_1445)) (fun _ h9 => h9) (cd := (3, 0, 256)) rfl dMH_fits_114 (fun v38 hv38 => ?_)
          obtain ⟨r41, rfl, kr38⟩ := (show ∃ r : Nat, v38 = .ref r ∧ T r = some (0, 256) from hv38)
          refine mp_v (cx := []) (wr := []) hP hD hS hA [] [] rfl rfl rfl (by decide) (va_runV (As := [.ref r40, .ref r41]) (rest := []) F (t_MH_turned_0 l g _ T xs pl hO hU hc0 h0 r40 r41 k_h0 kr37 kr38) (cwV 2 hts (wg_app (wg_c kw_1901 (wg_c kw_1903 (wg_c ks_79 (wg_c kw_13 wg_n)))) kw_1904) rfl rfl rfl (by decide +kernel) ⟨by decide, by decide⟩) (pp_VT (en_ok g) (ci := 12) (kd := (46, 0)) hK hO k_h0 (nxg hc0 k_h0 rfl) (fun _ h9 => ko1 h9) hP hD hS hA hE [] rfl rfl rfl) rfl rfl hl.1 rfl (lv_room (Nat.le_of_ble_eq_true rfl)) dMH_fits_117 ⟨by omega, by omega⟩) (fun  pl H locs hu25 hP hD hS => ?_)
          obtain ⟨hq25, hO⟩ := hu25
          have hP : va_P g.1 vcl ([] ++ pl) _ := hP
          have hD : va_D _ ([] ++ pl) := hD
          refine W.widen (k := 0) (n := 0) (by omega) (by omega) ?_
          refine lv_iconst (v := nI 0) hx hb dMH_fits_120 (by decide) ?_
          refine lv_istore_n (lv' := [(2, .int (nI 0)), (1, .int (nI i22)), (0, .ref h0)]) hx hb dMH_fits_121 rfl hl (by decide) rfl (fun ls hl => ?_)
          have lp25 : ∀ (n25 : Nat) (i25 : Nat) (pl : va_W) (ls : Array Slot) (H : Heap) (locs : List Loc), n25 + i25 = 256 → lv_has ls 4 [(2, .int (nI i25)), (1, .int (nI i22)), (0, .ref h0)] → okx g T xs pl → va_P g.1 vcl ([] ++ pl) H → va_D A ([] ++ pl) → va_S A s.heap H locs → W p l e ({ frames := 1, cells := 0, slots := 0, locals := 60 } : Room) s m args below meth c H locs 0 0 (MQ below (va_Qi (fun (r : Int32) (u : va_W) => (r = nI 0 ∨ r = nI 1) ∧ okx g T xs u) (po g.1 vcl A (fun (u : va_W) => [] ++ u)) A) args s 0 0 A) (F0 m 122 ls []) := by
            intro n25
            induction n25 with
            | zero =>
              intro i25 pl ls H locs hm25  hl hO hP hD hS
              refine lv_iload_n hx hb dMH_fits_122 rfl (lv_at hl 0 rfl) ?_
              refine lv_sipush (v := nI 256) hx hb dMH_fits_123 (by decide) ?_
              refine mi_ge (tgt := 189) hx hb dMH_fits_126 (by decide) (by omega) (by omega) (fun h31 => ?_) (fun h31 => absurd h31 (by omega))
              refine mi_iinc (k := 1) (x := i22) (d := 1) (y := i22 + 1) (lv' := [(1, .int (nI (i22 + 1))), (2, .int (nI i25)), (0, .ref h0)]) hx hb dMH_fits_189 hl rfl (by decide) rfl (by decide) rfl (fun ls hl => ?_)
              refine lv_goto (tgt := 98) hx hb dMH_fits_192 (by decide) ?_
              exact ih22 (i22 + 1) pl ls H locs (by omega) (lv_sub hl [0, 2] rfl) hO hP hD hS
            | succ n25 ih25 =>
              intro i25 pl ls H locs hm25  hl hO hP hD hS
              refine lv_iload_n hx hb dMH_fits_122 rfl (lv_at hl 0 rfl) ?_
              refine lv_sipush (v := nI 256) hx hb dMH_fits_123 (by decide) ?_
              refine mi_ge (tgt := 189) hx hb dMH_fits_126 (by decide) (by omega) (by omega) (fun h32 => absurd h32 (by omega)) (fun h32 => ?_)
              refine lv_aload_n hx hb dMH_fits_129 rfl (lv_at hl 2 rfl) ?_
              refine ty_get (ci := 12) (C := "LatticeKeysModel$Hands") (TT := T_MH) (N := 31) (kd := (46, 0)) hx hb hts (wg_ft i_MH) hown hK hO k_h0 (nxg hc0 k_h0 rfl) hP (fun _ h9 => h9) rfl 10 (by decide) (hts _ (wg_t kw_1442)) (fun _ h9 => h9) (cd := (3, 3, 8)) rfl dMH_fits_130 (fun v39 hv39 => ?_)
              obtain ⟨r42, rfl, kr39⟩ := (show ∃ r : Nat, v39 = .ref r ∧ T r = some (3, 8) from hv39)
              refine lv_iload_n hx hb dMH_fits_133 rfl (lv_at hl 1 rfl) ?_
              refine ty_aald3 hx hb hK hO kr39 (nxg hc0 kr39 rfl) hP (by omega) (by decide) dMH_fits_134 (fun r43 kr40 => ?_)
              refine lv_iload_n hx hb dMH_fits_135 rfl (lv_at hl 0 rfl) ?_
              refine lv_aload_n hx hb dMH_fits_136 rfl (lv_at hl 2 rfl) ?_
              refine ty_get (ci := 12) (C := "LatticeKeysModel$Hands") (TT := T_MH) (N := 31) (kd := (46, 0)) hx hb hts (wg_ft i_MH) hown hK hO k_h0 (nxg hc0 k_h0 rfl) hP (fun _ h9 => h9) rfl 10 (by decide) (hts _ (wg_t kw_1442)) (fun _ h9 => h9) (cd := (3, 3, 8)) rfl dMH_fits_137 (fun v40 hv40 => ?_)
              obtain ⟨r44, rfl, kr41⟩ := (show ∃ r : Nat, v40 = .ref r ∧ T r = some (3, 8) from hv40)
              refine lv_iload_n hx hb dMH_fits_140 rfl (lv_at hl 1 rfl) ?_
              refine ty_aald3 hx hb hK hO kr41 (nxg hc0 kr41 rfl) hP (by omega) (by decide) dMH_fits_141 (fun r45 kr42 => ?_)
              refine lv_iload_n hx hb dMH_fits_142 rfl (lv_at hl 0 rfl) ?_
              refine ty_iald hx hb hK hO kr42 (nxg hc0 kr42 rfl) hP (vp_in_nI (by omega) (by decide)) dMH_fits_143 (fun z33 => ?_)
              refine lv_aload_n hx hb dMH_fits_144 rfl (lv_at hl 2 rfl) ?_
              refine ty_get (ci := 12) (C := "LatticeKeysModel$Hands") (TT := T_MH) (N := 31) (kd := (46, 0)) hx hb hts (wg_ft i_MH) hown hK hO k_h0 (nxg hc0 k_h0 rfl) hP (fun _ h9 => h9) rfl 13 (by decide) (hts _ (wg_t kw_1445)) (fun _ h9 => h9) (cd := (3, 0, 256)) rfl dMH_fits_145 (fun v41 hv41 => ?_)
              obtain ⟨r46, rfl, kr43⟩ := (show ∃ r : Nat, v41 = .ref r ∧ T r = some (0, 256) from hv41)
              refine lv_iload_n hx hb dMH_fits_148 rfl (lv_at hl 0 rfl) ?_
              refine ty_iald hx hb hK hO kr43 (nxg hc0 kr43 rfl) hP (vp_in_nI (by omega) (by decide)) dMH_fits_149 (fun z34 => ?_)
              refine mp_i (cx := []) (wr := []) hP hD hS hA [] [] rfl rfl rfl (by decide) (va_runS (As := [.int z33, .int z34]) (rest := [.int (nI i25), .ref r43]) F (t_MH_minus l g _ T xs pl hO hU  z33 z34) (va_cwS 2 hts (wg_app (wg_c kw_1865 (wg_c kw_1866 (wg_c kw_13 wg_n))) kw_1867) rfl rfl rfl (by decide +kernel) ⟨by decide, by decide⟩) (pp_S (en_ok g) hP hD hS hA hE [] rfl rfl) rfl rfl hl.1 rfl (lv_room (Nat.le_of_ble_eq_true rfl)) dMH_fits_150 ⟨by omega, by omega⟩) (fun r47 pl H locs hu26 hP hD hS => ?_)
              obtain ⟨hq26, hO⟩ := hu26
              have hP : va_P g.1 vcl ([] ++ pl) _ := hP
              have hD : va_D _ ([] ++ pl) := hD
              refine W.widen (k := 0) (n := 0) (by omega) (by omega) ?_
              refine ty_iast hx hb hK hO kr40 (nxg hc0 kr40 rfl) hP hD hS (vp_in_nI (by omega) (by decide)) dMH_fits_153 (fun pl H locs hO hP hD hS => ?_)
              refine lv_aload_n hx hb dMH_fits_154 rfl (lv_at hl 2 rfl) ?_
              refine lv_aload_n hx hb dMH_fits_155 rfl (lv_at hl 2 rfl) ?_
              refine ty_get (ci := 12) (C := "LatticeKeysModel$Hands") (TT := T_MH) (N := 31) (kd := (46, 0)) hx hb hts (wg_ft i_MH) hown hK hO k_h0 (nxg hc0 k_h0 rfl) hP (fun _ h9 => h9) rfl 10 (by decide) (hts _ (wg_t kw_1442)) (fun _ h9 => h9) (cd := (3, 3, 8)) rfl dMH_fits_156 (fun v42 hv42 => ?_)
              obtain ⟨r48, rfl, kr44⟩ := (show ∃ r : Nat, v42 = .ref r ∧ T r = some (3, 8) from hv42)
              refine lv_iload_n hx hb dMH_fits_159 rfl (lv_at hl 1 rfl) ?_
              refine ty_aald3 hx hb hK hO kr44 (nxg hc0 kr44 rfl) hP (by omega) (by decide) dMH_fits_160 (fun r49 kr45 => ?_)
              refine lv_iload_n hx hb dMH_fits_161 rfl (lv_at hl 0 rfl) ?_
              refine ty_iald hx hb hK hO kr45 (nxg hc0 kr45 rfl) hP (vp_in_nI (by omega) (by decide)) dMH_fits_162 (fun z35 => ?_)
              refine mp_i (cx := []) (wr := []) hP hD hS hA [] [] rfl rfl rfl (by decide) (va_runV (As := [.int z35]) (rest := []) F (t_MH_low_0 l g _ T xs pl hO hU hc0 h0 z35 k_h0) (cwV 1 hts (wg_app (wg_c kw_1889 (wg_c kw_1891 (wg_c ks_76 (wg_c kw_13 wg_n)))) kw_1892) rfl rfl rfl (by decide +kernel) ⟨by decide, by decide⟩) (pp_VT (en_ok g) (ci := 12) (kd := (46, 0)) hK hO k_h0 (nxg hc0 k_h0 rfl) (fun _ h9 => ko1 h9) hP hD hS hA hE [] rfl rfl rfl) rfl rfl hl.1 rfl (lv_room (Nat.le_of_ble_eq_true rfl)) dMH_fits_163 ⟨by omega, by omega⟩) (fun r50 pl H locs hu27 hP hD hS => ?_)
              obtain ⟨hq27, hO⟩ := hu27
              have hP : va_P g.1 vcl ([] ++ pl) _ := hP
              have hD : va_D _ ([] ++ pl) := hD
              refine W.widen (k := 0) (n := 0) (by omega) (by omega) ?_
              refine va_mabs (own := "LatticeKeysModel$Hands") (index := 221) hx hb (hml.trans hl.1.symm) hown (hts _ (wg_t kw_1909)) (hts _ (wg_t kw_1910)) (hts _ (wg_t kw_31)) (hts _ (wg_t kw_1911)) (Nat.le_of_ble_eq_true rfl) (Nat.le_of_ble_eq_true rfl) (by omega) (by omega) dMH_fits_166 ?_
              refine mi_any (fun z36 => ?_)
              refine lv_aload_n hx hb dMH_fits_169 rfl (lv_at hl 2 rfl) ?_
              refine ty_get (ci := 12) (C := "LatticeKeysModel$Hands") (TT := T_MH) (N := 31) (kd := (46, 0)) hx hb hts (wg_ft i_MH) hown hK hO k_h0 (nxg hc0 k_h0 rfl) hP (fun _ h9 => h9) rfl 28 (by decide) (hts _ (wg_t kw_1460)) (fun _ h9 => h9) (cd := (1, 0, 95232)) rfl dMH_fits_170 (fun v43 hv43 => ?_)
              obtain rfl := (show v43 = .int (nI 95232) from hv43)
              refine lv_aload_n hx hb dMH_fits_173 rfl (lv_at hl 2 rfl) ?_
              refine ty_get (ci := 12) (C := "LatticeKeysModel$Hands") (TT := T_MH) (N := 31) (kd := (46, 0)) hx hb hts (wg_ft i_MH) hown hK hO k_h0 (nxg hc0 k_h0 rfl) hP (fun _ h9 => h9) rfl 29 (by decide) (hts _ (wg_t kw_1461)) (fun _ h9 => h9) (cd := (1, 0, 78)) rfl dMH_fits_174 (fun v44 hv44 => ?_)
              obtain rfl := (show v44 = .int (nI 78) from hv44)
              refine mi_isub hx hb dMH_fits_177 (by omega) ?_
              refine mi_as (show nI (95232 - 78) = nI 95154 from rfl) ?_
              refine lv_icmp_lt (tgt := 183) hx hb dMH_fits_178 (by decide) (fun h33 => ?_) (fun h33 => ?_)
              · refine mi_iinc (k := 0) (x := i25) (d := 1) (y := i25 + 1) (lv' := [(2, .int (nI (i25 + 1))), (1, .int (nI i22)), (0, .ref h0)]) hx hb dMH_fits_183 hl rfl (by decide) rfl (by decide) rfl (fun ls hl => ?_)
                refine lv_goto (tgt := 122) hx hb dMH_fits_186 (by decide) ?_
                exact ih25 (i25 + 1) pl ls H locs (by omega) (lv_sub hl [0, 1, 2] rfl) hO hP hD hS
              · refine lv_iconst (v := nI 0) hx hb dMH_fits_181 (by decide) ?_
                exact mp_zret hx hb hr hlk rfl hP hD hS pl ⟨(Or.inl rfl), hO⟩ [] rfl rfl rfl (by omega) (by omega) dMH_fits_182
          exact lp25 256 0 pl ls _ _ (by omega) (lv_sub hl [0, 1, 2] rfl) hO hP hD hS
      exact lp22 4 0 pl ls _ _ (by omega) (lv_sub hl [0, 1] rfl) hO hP hD hS
    | succ n21 ih21 =>
      intro i21 pl ls H locs hm21  hl hO hP hD hS
      refine lv_iload_n hx hb dMH_fits_2 rfl (lv_at hl 0 rfl) ?_
      refine lv_aload_n hx hb dMH_fits_3 rfl (lv_at hl 1 rfl) ?_
      refine ty_get (ci := 12) (C := "LatticeKeysModel$Hands") (TT := T_MH) (N := 31) (kd := (46, 0)) hx hb hts (wg_ft i_MH) hown hK hO k_h0 (nxg hc0 k_h0 rfl) hP (fun _ h9 => h9) rfl 25 (by decide) (hts _ (wg_t kw_1457)) (fun _ h9 => h9) (cd := (1, 0, 4)) rfl dMH_fits_4 (fun v45 hv45 => ?_)
      obtain rfl := (show v45 = .int (nI 4) from hv45)
      refine mi_ge (tgt := 96) hx hb dMH_fits_7 (by decide) (by omega) (by omega) (fun h34 => absurd h34 (by omega)) (fun h34 => ?_)
      refine lv_aload_n hx hb dMH_fits_10 rfl (lv_at hl 1 rfl) ?_
      refine lv_aload_n hx hb dMH_fits_11 rfl (lv_at hl 1 rfl) ?_
      refine ty_get (ci := 12) (C := "LatticeKeysModel$Hands") (TT := T_MH) (N := 31) (kd := (46, 0)) hx hb hts (wg_ft i_MH) hown hK hO k_h0 (nxg hc0 k_h0 rfl) hP (fun _ h9 => h9) rfl 3 (by decide) (hts _ (wg_t kw_1435)) (fun _ h9 => h9) (cd := (3, 3, 7)) rfl dMH_fits_12 (fun v46 hv46 => ?_)
      obtain ⟨r51, rfl, kr46⟩ := (show ∃ r : Nat, v46 = .ref r ∧ T r = some (3, 7) from hv46)
      refine lv_iload_n hx hb dMH_fits_15 rfl (lv_at hl 0 rfl) ?_
      refine ty_aald3 hx hb hK hO kr46 (nxg hc0 kr46 rfl) hP (by omega) (by decide) dMH_fits_16 (fun r52 kr47 => ?_)
      refine lv_aload_n hx hb dMH_fits_17 rfl (lv_at hl 1 rfl) ?_
      refine ty_get (ci := 12) (C := "LatticeKeysModel$Hands") (TT := T_MH) (N := 31) (kd := (46, 0)) hx hb hts (wg_ft i_MH) hown hK hO k_h0 (nxg hc0 k_h0 rfl) hP (fun _ h9 => h9) rfl 13 (by decide) (hts _ (wg_t kw_1445)) (fun _ h9 => h9) (cd := (3, 0, 256)) rfl dMH_fits_18 (fun v47 hv47 => ?_)
      obtain ⟨r53, rfl, kr48⟩ := (show ∃ r : Nat, v47 = .ref r ∧ T r = some (0, 256) from hv47)
      refine mp_v (cx := []) (wr := []) hP hD hS hA [] [] rfl rfl rfl (by decide) (va_runV (As := [.ref r52, .ref r53]) (rest := []) F (t_MH_turned_0 l g _ T xs pl hO hU hc0 h0 r52 r53 k_h0 kr47 kr48) (cwV 2 hts (wg_app (wg_c kw_1901 (wg_c kw_1903 (wg_c ks_79 (wg_c kw_13 wg_n)))) kw_1904) rfl rfl rfl (by decide +kernel) ⟨by decide, by decide⟩) (pp_VT (en_ok g) (ci := 12) (kd := (46, 0)) hK hO k_h0 (nxg hc0 k_h0 rfl) (fun _ h9 => ko1 h9) hP hD hS hA hE [] rfl rfl rfl) rfl rfl hl.1 rfl (lv_room (Nat.le_of_ble_eq_true rfl)) dMH_fits_21 ⟨by omega, by omega⟩) (fun  pl H locs hu28 hP hD hS => ?_)
      obtain ⟨hq28, hO⟩ := hu28
      have hP : va_P g.1 vcl ([] ++ pl) _ := hP
      have hD : va_D _ ([] ++ pl) := hD
      refine W.widen (k := 0) (n := 0) (by omega) (by omega) ?_
      refine lv_iconst (v := nI 0) hx hb dMH_fits_24 (by decide) ?_
      refine lv_istore_n (lv' := [(2, .int (nI 0)), (1, .int (nI i21)), (0, .ref h0)]) hx hb dMH_fits_25 rfl hl (by decide) rfl (fun ls hl => ?_)
      have lp26 : ∀ (n26 : Nat) (i26 : Nat) (pl : va_W) (ls : Array Slot) (H : Heap) (locs : List Loc), n26 + i26 = 256 → lv_has ls 4 [(2, .int (nI i26)), (1, .int (nI i21)), (0, .ref h0)] → okx g T xs pl → va_P g.1 vcl ([] ++ pl) H → va_D A ([] ++ pl) → va_S A s.heap H locs → W p l e ({ frames := 1, cells := 0, slots := 0, locals := 60 } : Room) s m args below meth c H locs 0 0 (MQ below (va_Qi (fun (r : Int32) (u : va_W) => (r = nI 0 ∨ r = nI 1) ∧ okx g T xs u) (po g.1 vcl A (fun (u : va_W) => [] ++ u)) A) args s 0 0 A) (F0 m 26 ls []) := by
        intro n26
        induction n26 with
        | zero =>
          intro i26 pl ls H locs hm26  hl hO hP hD hS
          refine lv_iload_n hx hb dMH_fits_26 rfl (lv_at hl 0 rfl) ?_
          refine lv_sipush (v := nI 256) hx hb dMH_fits_27 (by decide) ?_
          refine mi_ge (tgt := 90) hx hb dMH_fits_30 (by decide) (by omega) (by omega) (fun h35 => ?_) (fun h35 => absurd h35 (by omega))
          refine mi_iinc (k := 1) (x := i21) (d := 1) (y := i21 + 1) (lv' := [(1, .int (nI (i21 + 1))), (2, .int (nI i26)), (0, .ref h0)]) hx hb dMH_fits_90 hl rfl (by decide) rfl (by decide) rfl (fun ls hl => ?_)
          refine lv_goto (tgt := 2) hx hb dMH_fits_93 (by decide) ?_
          exact ih21 (i21 + 1) pl ls H locs (by omega) (lv_sub hl [0, 2] rfl) hO hP hD hS
        | succ n26 ih26 =>
          intro i26 pl ls H locs hm26  hl hO hP hD hS
          refine lv_iload_n hx hb dMH_fits_26 rfl (lv_at hl 0 rfl) ?_
          refine lv_sipush (v := nI 256) hx hb dMH_fits_27 (by decide) ?_
          refine mi_ge (tgt := 90) hx hb dMH_fits_30 (by decide) (by omega) (by omega) (fun h36 => absurd h36 (by omega)) (fun h36 => ?_)
          refine lv_aload_n hx hb dMH_fits_33 rfl (lv_at hl 2 rfl) ?_
          refine ty_get (ci := 12) (C := "LatticeKeysModel$Hands") (TT := T_MH) (N := 31) (kd := (46, 0)) hx hb hts (wg_ft i_MH) hown hK hO k_h0 (nxg hc0 k_h0 rfl) hP (fun _ h9 => h9) rfl 8 (by decide) (hts _ (wg_t kw_1440)) (fun _ h9 => h9) (cd := (3, 3, 7)) rfl dMH_fits_34 (fun v48 hv48 => ?_)
          obtain ⟨r54, rfl, kr49⟩ := (show ∃ r : Nat, v48 = .ref r ∧ T r = some (3, 7) from hv48)
          refine lv_iload_n hx hb dMH_fits_37 rfl (lv_at hl 1 rfl) ?_
          refine ty_aald3 hx hb hK hO kr49 (nxg hc0 kr49 rfl) hP (by omega) (by decide) dMH_fits_38 (fun r55 kr50 => ?_)
          refine lv_iload_n hx hb dMH_fits_39 rfl (lv_at hl 0 rfl) ?_
          refine lv_aload_n hx hb dMH_fits_40 rfl (lv_at hl 2 rfl) ?_
          refine ty_get (ci := 12) (C := "LatticeKeysModel$Hands") (TT := T_MH) (N := 31) (kd := (46, 0)) hx hb hts (wg_ft i_MH) hown hK hO k_h0 (nxg hc0 k_h0 rfl) hP (fun _ h9 => h9) rfl 7 (by decide) (hts _ (wg_t kw_1439)) (fun _ h9 => h9) (cd := (3, 3, 7)) rfl dMH_fits_41 (fun v49 hv49 => ?_)
          obtain ⟨r56, rfl, kr51⟩ := (show ∃ r : Nat, v49 = .ref r ∧ T r = some (3, 7) from hv49)
          refine lv_iload_n hx hb dMH_fits_44 rfl (lv_at hl 1 rfl) ?_
          refine ty_aald3 hx hb hK hO kr51 (nxg hc0 kr51 rfl) hP (by omega) (by decide) dMH_fits_45 (fun r57 kr52 => ?_)
          refine lv_iload_n hx hb dMH_fits_46 rfl (lv_at hl 0 rfl) ?_
          refine ty_iald hx hb hK hO kr52 (nxg hc0 kr52 rfl) hP (vp_in_nI (by omega) (by decide)) dMH_fits_47 (fun z37 => ?_)
          refine lv_aload_n hx hb dMH_fits_48 rfl (lv_at hl 2 rfl) ?_
          refine ty_get (ci := 12) (C := "LatticeKeysModel$Hands") (TT := T_MH) (N := 31) (kd := (46, 0)) hx hb hts (wg_ft i_MH) hown hK hO k_h0 (nxg hc0 k_h0 rfl) hP (fun _ h9 => h9) rfl 13 (by decide) (hts _ (wg_t kw_1445)) (fun _ h9 => h9) (cd := (3, 0, 256)) rfl dMH_fits_49 (fun v50 hv50 => ?_)
          obtain ⟨r58, rfl, kr53⟩ := (show ∃ r : Nat, v50 = .ref r ∧ T r = some (0, 256) from hv50)
          refine lv_iload_n hx hb dMH_fits_52 rfl (lv_at hl 0 rfl) ?_
          refine ty_iald hx hb hK hO kr53 (nxg hc0 kr53 rfl) hP (vp_in_nI (by omega) (by decide)) dMH_fits_53 (fun z38 => ?_)
          refine lv_iadd hx hb dMH_fits_54 ?_
          refine mi_any (fun z39 => ?_)
          refine lv_ldc (v := 8380417) hx hb hown (hts _ (wg_t kw_1429)) dMH_fits_55 ?_
          refine mi_as (show (8380417 : Int32) = nI 8380417 by decide) ?_
          refine lv_irem hx hb dMH_fits_57 (nI_ne0 (by omega) (by omega)) ?_
          refine mi_any (fun z40 => ?_)
          refine ty_iast hx hb hK hO kr50 (nxg hc0 kr50 rfl) hP hD hS (vp_in_nI (by omega) (by decide)) dMH_fits_58 (fun pl H locs hO hP hD hS => ?_)
          refine lv_aload_n hx hb dMH_fits_59 rfl (lv_at hl 2 rfl) ?_
          refine ty_get (ci := 12) (C := "LatticeKeysModel$Hands") (TT := T_MH) (N := 31) (kd := (46, 0)) hx hb hts (wg_ft i_MH) hown hK hO k_h0 (nxg hc0 k_h0 rfl) hP (fun _ h9 => h9) rfl 8 (by decide) (hts _ (wg_t kw_1440)) (fun _ h9 => h9) (cd := (3, 3, 7)) rfl dMH_fits_60 (fun v51 hv51 => ?_)
          obtain ⟨r59, rfl, kr54⟩ := (show ∃ r : Nat, v51 = .ref r ∧ T r = some (3, 7) from hv51)
          refine lv_iload_n hx hb dMH_fits_63 rfl (lv_at hl 1 rfl) ?_
          refine ty_aald3 hx hb hK hO kr54 (nxg hc0 kr54 rfl) hP (by omega) (by decide) dMH_fits_64 (fun r60 kr55 => ?_)
          refine lv_iload_n hx hb dMH_fits_65 rfl (lv_at hl 0 rfl) ?_
          refine ty_iald hx hb hK hO kr55 (nxg hc0 kr55 rfl) hP (vp_in_nI (by omega) (by decide)) dMH_fits_66 (fun z41 => ?_)
          refine mp_i (cx := []) (wr := []) hP hD hS hA [] [] rfl rfl rfl (by decide) (va_runS (As := [.int z41]) (rest := []) F (t_MH_norm l g _ T xs pl hO hU  z41) (va_cwS 1 hts (wg_app (wg_c kw_1905 (wg_c kw_1906 (wg_c kw_13 wg_n))) kw_1907) rfl rfl rfl (by decide +kernel) ⟨by decide, by decide⟩) (pp_S (en_ok g) hP hD hS hA hE [] rfl rfl) rfl rfl hl.1 rfl (lv_room (Nat.le_of_ble_eq_true rfl)) dMH_fits_67 ⟨by omega, by omega⟩) (fun r61 pl H locs hu29 hP hD hS => ?_)
          obtain ⟨hq29, hO⟩ := hu29
          have hP : va_P g.1 vcl ([] ++ pl) _ := hP
          have hD : va_D _ ([] ++ pl) := hD
          refine W.widen (k := 0) (n := 0) (by omega) (by omega) ?_
          refine lv_aload_n hx hb dMH_fits_70 rfl (lv_at hl 2 rfl) ?_
          refine ty_get (ci := 12) (C := "LatticeKeysModel$Hands") (TT := T_MH) (N := 31) (kd := (46, 0)) hx hb hts (wg_ft i_MH) hown hK hO k_h0 (nxg hc0 k_h0 rfl) hP (fun _ h9 => h9) rfl 27 (by decide) (hts _ (wg_t kw_1459)) (fun _ h9 => h9) (cd := (1, 0, 131072)) rfl dMH_fits_71 (fun v52 hv52 => ?_)
          obtain rfl := (show v52 = .int (nI 131072) from hv52)
          refine lv_aload_n hx hb dMH_fits_74 rfl (lv_at hl 2 rfl) ?_
          refine ty_get (ci := 12) (C := "LatticeKeysModel$Hands") (TT := T_MH) (N := 31) (kd := (46, 0)) hx hb hts (wg_ft i_MH) hown hK hO k_h0 (nxg hc0 k_h0 rfl) hP (fun _ h9 => h9) rfl 29 (by decide) (hts _ (wg_t kw_1461)) (fun _ h9 => h9) (cd := (1, 0, 78)) rfl dMH_fits_75 (fun v53 hv53 => ?_)
          obtain rfl := (show v53 = .int (nI 78) from hv53)
          refine mi_isub hx hb dMH_fits_78 (by omega) ?_
          refine mi_as (show nI (131072 - 78) = nI 130994 from rfl) ?_
          refine lv_icmp_lt (tgt := 84) hx hb dMH_fits_79 (by decide) (fun h37 => ?_) (fun h37 => ?_)
          · refine mi_iinc (k := 0) (x := i26) (d := 1) (y := i26 + 1) (lv' := [(2, .int (nI (i26 + 1))), (1, .int (nI i21)), (0, .ref h0)]) hx hb dMH_fits_84 hl rfl (by decide) rfl (by decide) rfl (fun ls hl => ?_)
            refine lv_goto (tgt := 26) hx hb dMH_fits_87 (by decide) ?_
            exact ih26 (i26 + 1) pl ls H locs (by omega) (lv_sub hl [0, 1, 2] rfl) hO hP hD hS
          · refine lv_iconst (v := nI 0) hx hb dMH_fits_82 (by decide) ?_
            exact mp_zret hx hb hr hlk rfl hP hD hS pl ⟨(Or.inl rfl), hO⟩ [] rfl rfl rfl (by omega) (by omega) dMH_fits_83
      exact lp26 256 0 pl ls _ _ (by omega) (lv_sub hl [0, 1, 2] rfl) hO hP hD hS
  exact lp21 4 0 pl ls _ _ (by omega) (lv_sub hl [0, 1] rfl) hO hP hD hS
set_option maxHeartbeats 400000 in
set_option maxRecDepth 100000 in
theorem t_MH_fits_1 (l : Launch) (g : Gd) (sz : Nat) (T : Ty) (xs : List Nat) (pl : va_W) (hO : okx g T xs pl) (hU : uni T) (hc0 : clo T xs 0) (h0 : Nat) (k_h0 : T h0 = some (47, 0))  : Met l y_MH_fits w_MH_fits ({ frames := 1, cells := 0, slots := 0, locals := 60 } : Room) (va_Pc [.ref h0] (pr (en g) g.1 vcl sz ([] ++ pl))) (va_Qi (fun (r : Int32) (u : va_W) => (r = nI 0 ∨ r = nI 1) ∧ okx g T xs u) (po g.1 vcl (va_A ([] ++ pl) sz) (fun (u : va_W) => [] ++ u)) (va_A ([] ++ pl) sz)) 0 0 (va_A ([] ++ pl) sz) := by
  refine mc_entry (cc := c_MH_fits) (maxL := 4) (ret := (some .boolean)) (by decide) rfl (Nat.le_of_ble_eq_true rfl) ?_
  intro p e s m args below meth c ls F hr hlk hnm hsz hP hD hE hA hl
  obtain ⟨hx, hb, hml, hown, hts⟩ := id F
  have hK := hE.1
  generalize va_A ([] ++ pl) sz = A at hD hE hA ⊢
  have hS : va_S A s.heap s.heap [] := va_S.rf
  have hl : lv_has ls 4 [(0, .ref h0)] := hl
  refine lv_iconst (v := nI 0) hx hb dMH_fits_0 (by decide) ?_
  refine lv_istore_n (lv' := [(1, .int (nI 0)), (0, .ref h0)]) hx hb dMH_fits_1 rfl hl (by decide) rfl (fun ls hl => ?_)
  have lp21 : ∀ (n21 : Nat) (i21 : Nat) (pl : va_W) (ls : Array Slot) (H : Heap) (locs : List Loc), n21 + i21 = 5 → lv_has ls 4 [(1, .int (nI i21)), (0, .ref h0)] → okx g T xs pl → va_P g.1 vcl ([] ++ pl) H → va_D A ([] ++ pl) → va_S A s.heap H locs → W p l e ({ frames := 1, cells := 0, slots := 0, locals := 60 } : Room) s m args below meth c H locs 0 0 (MQ below (va_Qi (fun (r : Int32) (u : va_W) => (r = nI 0 ∨ r = nI 1) ∧ okx g T xs u) (po g.1 vcl A (fun (u : va_W) => [] ++ u)) A) args s 0 0 A) (F0 m 2 ls []) := by
    intro n21
    induction n21 with
    | zero =>
      intro i21 pl ls H locs hm21  hl hO hP hD hS
      refine lv_iload_n hx hb dMH_fits_2 rfl (lv_at hl 0 rfl) ?_
      refine lv_aload_n hx hb dMH_fits_3 rfl (lv_at hl 1 rfl) ?_
      refine ty_get (ci := 12) (C := "LatticeKeysModel$Hands") (TT := T_MH) (N := 31) (kd := (47, 0)) hx hb hts (wg_ft i_MH) hown hK hO k_h0 (nxg hc0 k_h0 rfl) hP (fun _ h9 => h9) rfl 25 (by decide) (hts _ (wg_t kw_1457)) (fun _ h9 => h9) (cd := (1, 0, 5)) rfl dMH_fits_4 (fun v21 hv21 => ?_)
      obtain rfl := (show v21 = .int (nI 5) from hv21)
      refine mi_ge (tgt := 96) hx hb dMH_fits_7 (by decide) (by omega) (by omega) (fun h21 => ?_) (fun h21 => absurd h21 (by omega))
      refine lv_iconst (v := nI 0) hx hb dMH_fits_96 (by decide) ?_
      refine lv_istore_n (lv' := [(1, .int (nI 0)), (0, .ref h0)]) hx hb dMH_fits_97 rfl hl (by decide) rfl (fun ls hl => ?_)
      have lp22 : ∀ (n22 : Nat) (i22 : Nat) (pl : va_W) (ls : Array Slot) (H : Heap) (locs : List Loc), n22 + i22 = 6 → lv_has ls 4 [(1, .int (nI i22)), (0, .ref h0)] → okx g T xs pl → va_P g.1 vcl ([] ++ pl) H → va_D A ([] ++ pl) → va_S A s.heap H locs → W p l e ({ frames := 1, cells := 0, slots := 0, locals := 60 } : Room) s m args below meth c H locs 0 0 (MQ below (va_Qi (fun (r : Int32) (u : va_W) => (r = nI 0 ∨ r = nI 1) ∧ okx g T xs u) (po g.1 vcl A (fun (u : va_W) => [] ++ u)) A) args s 0 0 A) (F0 m 98 ls []) := by
        intro n22
        induction n22 with
        | zero =>
          intro i22 pl ls H locs hm22  hl hO hP hD hS
          refine lv_iload_n hx hb dMH_fits_98 rfl (lv_at hl 0 rfl) ?_
          refine lv_aload_n hx hb dMH_fits_99 rfl (lv_at hl 1 rfl) ?_
          refine ty_get (ci := 12) (C := "LatticeKeysModel$Hands") (TT := T_MH) (N := 31) (kd := (47, 0)) hx hb hts (wg_ft i_MH) hown hK hO k_h0 (nxg hc0 k_h0 rfl) hP (fun _ h9 => h9) rfl 24 (by decide) (hts _ (wg_t kw_1456)) (fun _ h9 => h9) (cd := (1, 0, 6)) rfl dMH_fits_100 (fun v22 hv22 => ?_)
          obtain rfl := (show v22 = .int (nI 6) from hv22)
          refine mi_ge (tgt := 195) hx hb dMH_fits_103 (by decide) (by omega) (by omega) (fun h22 => ?_) (fun h22 => absurd h22 (by omega))
          refine lv_iconst (v := nI 0) hx hb dMH_fits_195 (by decide) ?_
          refine lv_istore_n (lv' := [(1, .int (nI 0)), (0, .ref h0)]) hx hb dMH_fits_196 rfl hl (by decide) rfl (fun ls hl => ?_)
          refine lv_iconst (v := nI 0) hx hb dMH_fits_197 (by decide) ?_
          refine lv_istore_n (lv' := [(2, .int (nI 0)), (1, .int (nI 0)), (0, .ref h0)]) hx hb dMH_fits_198 rfl hl (by decide) rfl (fun ls hl => ?_)
          have lp23 : ∀ (n23 : Nat) (i23 : Nat) (z21 : Int32) (pl : va_W) (ls : Array Slot) (H : Heap) (locs : List Loc), n23 + i23 = 6 → lv_has ls 4 [(2, .int (nI i23)), (1, .int z21), (0, .ref h0)] → okx g T xs pl → va_P g.1 vcl ([] ++ pl) H → va_D A ([] ++ pl) → va_S A s.heap H locs → W p l e ({ frames := 1, cells := 0, slots := 0, locals := 60 } : Room) s m args below meth c H locs 0 0 (MQ below (va_Qi (fun (r : Int32) (u : va_W) => (r = nI 0 ∨ r = nI 1) ∧ okx g T xs u) (po g.1 vcl A (fun (u : va_W) => [] ++ u)) A) args s 0 0 A) (F0 m 199 ls []) := by
            intro n23
            induction n23 with
            | zero =>
              intro i23 z21 pl ls H locs hm23  hl hO hP hD hS
              refine lv_iload_n hx hb dMH_fits_199 rfl (lv_at hl 0 rfl) ?_
              refine lv_aload_n hx hb dMH_fits_200 rfl (lv_at hl 2 rfl) ?_
              refine ty_get (ci := 12) (C := "LatticeKeysModel$Hands") (TT := T_MH) (N := 31) (kd := (47, 0)) hx hb hts (wg_ft i_MH) hown hK hO k_h0 (nxg hc0 k_h0 rfl) hP (fun _ h9 => h9) rfl 24 (by decide) (hts _ (wg_t kw_1456)) (fun _ h9 => h9) (cd := (1, 0, 6)) rfl dMH_fits_201 (fun v23 hv23 => ?_)
              obtain rfl := (show v23 = .int (nI 6) from hv23)
              refine mi_ge (tgt := 321) hx hb dMH_fits_204 (by decide) (by omega) (by omega) (fun h23 => ?_) (fun h23 => absurd h23 (by omega))
              refine lv_iload_n hx hb dMH_fits_321 rfl (lv_at hl 1 rfl) ?_
              refine va_gets hx hb (hE.2.1 27 _ rfl).1 hS hown (hts _ (wg_t kw_1912)) (fun _ h9 => h9) dMH_fits_322 ?_
              refine lv_aload_n hx hb dMH_fits_325 rfl (lv_at hl 2 rfl) ?_
              refine ty_get (ci := 12) (C := "LatticeKeysModel$Hands") (TT := T_MH) (N := 31) (kd := (47, 0)) hx hb hts (wg_ft i_MH) hown hK hO k_h0 (nxg hc0 k_h0 rfl) hP (fun _ h9 => h9) rfl 23 (by decide) (hts _ (wg_t kw_1455)) (fun _ h9 => h9) (cd := (1, 0, 1)) rfl dMH_fits_326 (fun v24 hv24 => ?_)
              obtain rfl := (show v24 = .int (nI 1) from hv24)
              refine va_ti (v := .int (nI 55)) hx hb (hE.2.1 27 _ rfl).2 hS (vp_in_nI (by decide) (by decide)) (by decide +kernel) dMH_fits_329 ?_
              refine lv_icmp_gt (tgt := 337) hx hb dMH_fits_330 (by decide) (fun h24 => ?_) (fun h24 => ?_)
              · refine lv_iconst (v := nI 0) hx hb dMH_fits_337 (by decide) ?_
                exact mp_zret hx hb hr hlk rfl hP hD hS pl ⟨(Or.inl rfl), hO⟩ [] rfl rfl rfl (by omega) (by omega) dMH_fits_338
              · refine lv_iconst (v := nI 1) hx hb dMH_fits_333 (by decide) ?_
                refine lv_goto (tgt := 338) hx hb dMH_fits_334 (by decide) ?_
                exact mp_zret hx hb hr hlk rfl hP hD hS pl ⟨(Or.inr rfl), hO⟩ [] rfl rfl rfl (by omega) (by omega) dMH_fits_338
            | succ n23 ih23 =>
              intro i23 z21 pl ls H locs hm23  hl hO hP hD hS
              refine lv_iload_n hx hb dMH_fits_199 rfl (lv_at hl 0 rfl) ?_
              refine lv_aload_n hx hb dMH_fits_200 rfl (lv_at hl 2 rfl) ?_
              refine ty_get (ci := 12) (C := "LatticeKeysModel$Hands") (TT := T_MH) (N := 31) (kd := (47, 0)) hx hb hts (wg_ft i_MH) hown hK hO k_h0 (nxg hc0 k_h0 rfl) hP (fun _ h9 => h9) rfl 24 (by decide) (hts _ (wg_t kw_1456)) (fun _ h9 => h9) (cd := (1, 0, 6)) rfl dMH_fits_201 (fun v25 hv25 => ?_)
              obtain rfl := (show v25 = .int (nI 6) from hv25)
              refine mi_ge (tgt := 321) hx hb dMH_fits_204 (by decide) (by omega) (by omega) (fun h25 => absurd h25 (by omega)) (fun h25 => ?_)
              refine lv_aload_n hx hb dMH_fits_207 rfl (lv_at hl 2 rfl) ?_
              refine lv_aload_n hx hb dMH_fits_208 rfl (lv_at hl 2 rfl) ?_
              refine ty_get (ci := 12) (C := "LatticeKeysModel$Hands") (TT := T_MH) (N := 31) (kd := (47, 0)) hx hb hts (wg_ft i_MH) hown hK hO k_h0 (nxg hc0 k_h0 rfl) hP (fun _ h9 => h9) rfl 5 (by decide) (hts _ (wg_t kw_1437)) (fun _ h9 => h9) (cd := (3, 3, 8)) rfl dMH_fits_209 (fun v26 hv26 => ?_)
              obtain ⟨r21, rfl, kr21⟩ := (show ∃ r : Nat, v26 = .ref r ∧ T r = some (3, 8) from hv26)
              refine lv_iload_n hx hb dMH_fits_212 rfl (lv_at hl 0 rfl) ?_
              refine ty_aald3 hx hb hK hO kr21 (nxg hc0 kr21 rfl) hP (by omega) (by decide) dMH_fits_213 (fun r22 kr22 => ?_)
              refine lv_aload_n hx hb dMH_fits_214 rfl (lv_at hl 2 rfl) ?_
              refine ty_get (ci := 12) (C := "LatticeKeysModel$Hands") (TT := T_MH) (N := 31) (kd := (47, 0)) hx hb hts (wg_ft i_MH) hown hK hO k_h0 (nxg hc0 k_h0 rfl) hP (fun _ h9 => h9) rfl 13 (by decide) (hts _ (wg_t kw_1445)) (fun _ h9 => h9) (cd := (3, 0, 256)) rfl dMH_fits_215 (fun v27 hv27 => ?_)
              obtain ⟨r23, rfl, kr23⟩ := (show ∃ r : Nat, v27 = .ref r ∧ T r = some (0, 256) from hv27)
              refine mp_v (cx := []) (wr := []) hP hD hS hA [] [] rfl rfl rfl (by decide) (va_runV (As := [.ref r22, .ref r23]) (rest := []) F (t_MH_turned_1 l g _ T xs pl hO hU hc0 h0 r22 r23 k_h0 kr22 kr23) (cwV 2 hts (wg_app (wg_c kw_1901 (wg_c kw_1903 (wg_c ks_79 (wg_c kw_13 wg_n)))) kw_1904) rfl rfl rfl (by decide +kernel) ⟨by decide, by decide⟩) (pp_VT (en_ok g) (ci := 12) (kd := (47, 0)) hK hO k_h0 (nxg hc0 k_h0 rfl) (fun _ h9 => ko1 h9) hP hD hS hA hE [] rfl rfl rfl) rfl rfl hl.1 rfl (lv_room (Nat.le_of_ble_eq_true rfl)) dMH_fits_218 ⟨by omega, by omega⟩) (fun  pl H locs hu21 hP hD hS => ?_)
              obtain ⟨hq21, hO⟩ := hu21
              have hP : va_P g.1 vcl ([] ++ pl) _ := hP
              have hD : va_D _ ([] ++ pl) := hD
              refine W.widen (k := 0) (n := 0) (by omega) (by omega) ?_
              refine lv_iconst (v := nI 0) hx hb dMH_fits_221 (by decide) ?_
              refine lv_istore_n (lv' := [(3, .int (nI 0)), (2, .int (nI i23)), (1, .int z21), (0, .ref h0)]) hx hb dMH_fits_222 rfl hl (by decide) rfl (fun ls hl => ?_)
              have lp24 : ∀ (n24 : Nat) (i24 : Nat) (z22 : Int32) (pl : va_W) (ls : Array Slot) (H : Heap) (locs : List Loc), n24 + i24 = 256 → lv_has ls 4 [(3, .int (nI i24)), (2, .int (nI i23)), (1, .int z22), (0, .ref h0)] → okx g T xs pl → va_P g.1 vcl ([] ++ pl) H → va_D A ([] ++ pl) → va_S A s.heap H locs → W p l e ({ frames := 1, cells := 0, slots := 0, locals := 60 } : Room) s m args below meth c H locs 0 0 (MQ below (va_Qi (fun (r : Int32) (u : va_W) => (r = nI 0 ∨ r = nI 1) ∧ okx g T xs u) (po g.1 vcl A (fun (u : va_W) => [] ++ u)) A) args s 0 0 A) (F0 m 223 ls []) := by
                intro n24
                induction n24 with
                | zero =>
                  intro i24 z22 pl ls H locs hm24  hl hO hP hD hS
                  refine lv_iload_n hx hb dMH_fits_223 rfl (lv_at hl 0 rfl) ?_
                  refine lv_sipush (v := nI 256) hx hb dMH_fits_224 (by decide) ?_
                  refine mi_ge (tgt := 315) hx hb dMH_fits_227 (by decide) (by omega) (by omega) (fun h26 => ?_) (fun h26 => absurd h26 (by omega))
                  refine mi_iinc (k := 1) (x := i23) (d := 1) (y := i23 + 1) (lv' := [(2, .int (nI (i23 + 1))), (3, .int (nI i24)), (1, .int z22), (0, .ref h0)]) hx hb dMH_fits_315 hl rfl (by decide) rfl (by decide) rfl (fun ls hl => ?_)
                  refine lv_goto (tgt := 199) hx hb dMH_fits_318 (by decide) ?_
                  exact ih23 (i23 + 1) z22 pl ls H locs (by omega) (lv_sub hl [0, 2, 3] rfl) hO hP hD hS
                | succ n24 ih24 =>
                  intro i24 z22 pl ls H locs hm24  hl hO hP hD hS
                  refine lv_iload_n hx hb dMH_fits_223 rfl (lv_at hl 0 rfl) ?_
                  refine lv_sipush (v := nI 256) hx hb dMH_fits_224 (by decide) ?_
                  refine mi_ge (tgt := 315) hx hb dMH_fits_227 (by decide) (by omega) (by omega) (fun h27 => absurd h27 (by omega)) (fun h27 => ?_)
                  refine lv_aload_n hx hb dMH_fits_230 rfl (lv_at hl 3 rfl) ?_
                  refine ty_get (ci := 12) (C := "LatticeKeysModel$Hands") (TT := T_MH) (N := 31) (kd := (47, 0)) hx hb hts (wg_ft i_MH) hown hK hO k_h0 (nxg hc0 k_h0 rfl) hP (fun _ h9 => h9) rfl 13 (by decide) (hts _ (wg_t kw_1445)) (fun _ h9 => h9) (cd := (3, 0, 256)) rfl dMH_fits_231 (fun v28 hv28 => ?_)
                  obtain ⟨r24, rfl, kr24⟩ := (show ∃ r : Nat, v28 = .ref r ∧ T r = some (0, 256) from hv28)
                  refine lv_iload_n hx hb dMH_fits_234 rfl (lv_at hl 0 rfl) ?_
                  refine ty_iald hx hb hK hO kr24 (nxg hc0 kr24 rfl) hP (vp_in_nI (by omega) (by decide)) dMH_fits_235 (fun z23 => ?_)
                  refine mp_i (cx := []) (wr := []) hP hD hS hA [] [] rfl rfl rfl (by decide) (va_runS (As := [.int z23]) (rest := []) F (t_MH_norm l g _ T xs pl hO hU  z23) (va_cwS 1 hts (wg_app (wg_c kw_1905 (wg_c kw_1906 (wg_c kw_13 wg_n))) kw_1907) rfl rfl rfl (by decide +kernel) ⟨by decide, by decide⟩) (pp_S (en_ok g) hP hD hS hA hE [] rfl rfl) rfl rfl hl.1 rfl (lv_room (Nat.le_of_ble_eq_true rfl)) dMH_fits_236 ⟨by omega, by omega⟩) (fun r25 pl H locs hu22 hP hD hS => ?_)
                  obtain ⟨hq22, hO⟩ := hu22
                  have hP : va_P g.1 vcl ([] ++ pl) _ := hP
                  have hD : va_D _ ([] ++ pl) := hD
                  refine W.widen (k := 0) (n := 0) (by omega) (by omega) ?_
                  refine lv_aload_n hx hb dMH_fits_239 rfl (lv_at hl 3 rfl) ?_
                  refine ty_get (ci := 12) (C := "LatticeKeysModel$Hands") (TT := T_MH) (N := 31) (kd := (47, 0)) hx hb hts (wg_ft i_MH) hown hK hO k_h0 (nxg hc0 k_h0 rfl) hP (fun _ h9 => h9) rfl 28 (by decide) (hts _ (wg_t kw_1460)) (fun _ h9 => h9) (cd := (1, 0, 261888)) rfl dMH_fits_240 (fun v29 hv29 => ?_)
                  obtain rfl := (show v29 = .int (nI 261888) from hv29)
                  refine lv_icmp_lt (tgt := 248) hx hb dMH_fits_243 (by decide) (fun h28 => ?_) (fun h28 => ?_)
                  · refine lv_aload_n hx hb dMH_fits_248 rfl (lv_at hl 3 rfl) ?_
                    refine ty_get (ci := 12) (C := "LatticeKeysModel$Hands") (TT := T_MH) (N := 31) (kd := (47, 0)) hx hb hts (wg_ft i_MH) hown hK hO k_h0 (nxg hc0 k_h0 rfl) hP (fun _ h9 => h9) rfl 11 (by decide) (hts _ (wg_t kw_1443)) (fun _ h9 => h9) (cd := (3, 3, 8)) rfl dMH_fits_249 (fun v30 hv30 => ?_)
                    obtain ⟨r26, rfl, kr25⟩ := (show ∃ r : Nat, v30 = .ref r ∧ T r = some (3, 8) from hv30)
                    refine lv_iload_n hx hb dMH_fits_252 rfl (lv_at hl 1 rfl) ?_
                    refine ty_aald3 hx hb hK hO kr25 (nxg hc0 kr25 rfl) hP (by omega) (by decide) dMH_fits_253 (fun r27 kr26 => ?_)
                    refine lv_iload_n hx hb dMH_fits_254 rfl (lv_at hl 0 rfl) ?_
                    refine lv_aload_n hx hb dMH_fits_255 rfl (lv_at hl 3 rfl) ?_
                    refine lv_aload_n hx hb dMH_fits_256 rfl (lv_at hl 3 rfl) ?_
                    refine ty_get (ci := 12) (C := "LatticeKeysModel$Hands") (TT := T_MH) (N := 31) (kd := (47, 0)) hx hb hts (wg_ft i_MH) hown hK hO k_h0 (nxg hc0 k_h0 rfl) hP (fun _ h9 => h9) rfl 10 (by decide) (hts _ (wg_t kw_1442)) (fun _ h9 => h9) (cd := (3, 3, 8)) rfl dMH_fits_257 (fun v31 hv31 => ?_)
                    obtain ⟨r28, rfl, kr27⟩ := (show ∃ r : Nat, v31 = .ref r ∧ T r = some (3, 8) from hv31)
                    refine lv_iload_n hx hb dMH_fits_260 rfl (lv_at hl 1 rfl) ?_
                    refine ty_aald3 hx hb hK hO kr27 (nxg hc0 kr27 rfl) hP (by omega) (by decide) dMH_fits_261 (fun r29 kr28 => ?_)
                    refine lv_iload_n hx hb dMH_fits_262 rfl (lv_at hl 0 rfl) ?_
                    refine ty_iald hx hb hK hO kr28 (nxg hc0 kr28 rfl) hP (vp_in_nI (by omega) (by decide)) dMH_fits_263 (fun z24 => ?_)
                    refine lv_aload_n hx hb dMH_fits_264 rfl (lv_at hl 3 rfl) ?_
                    refine ty_get (ci := 12) (C := "LatticeKeysModel$Hands") (TT := T_MH) (N := 31) (kd := (47, 0)) hx hb hts (wg_ft i_MH) hown hK hO k_h0 (nxg hc0 k_h0 rfl) hP (fun _ h9 => h9) rfl 13 (by decide) (hts _ (wg_t kw_1445)) (fun _ h9 => h9) (cd := (3, 0, 256)) rfl dMH_fits_265 (fun v32 hv32 => ?_)
                    obtain ⟨r30, rfl, kr29⟩ := (show ∃ r : Nat, v32 = .ref r ∧ T r = some (0, 256) from hv32)
                    refine lv_iload_n hx hb dMH_fits_268 rfl (lv_at hl 0 rfl) ?_
                    refine ty_iald hx hb hK hO kr29 (nxg hc0 kr29 rfl) hP (vp_in_nI (by omega) (by decide)) dMH_fits_269 (fun z25 => ?_)
                    refine lv_iadd hx hb dMH_fits_270 ?_
                    refine mi_any (fun z26 => ?_)
                    refine lv_ldc (v := 8380417) hx hb hown (hts _ (wg_t kw_1429)) dMH_fits_271 ?_
                    refine mi_as (show (8380417 : Int32) = nI 8380417 by decide) ?_
                    refine lv_irem hx hb dMH_fits_273 (nI_ne0 (by omega) (by omega)) ?_
                    refine mi_any (fun z27 => ?_)
                    refine mp_i (cx := []) (wr := []) hP hD hS hA [] [] rfl rfl rfl (by decide) (va_runV (As := [.int z27]) (rest := [.int (nI i24), .ref r27]) F (t_MH_high_1 l g _ T xs pl hO hU hc0 h0 z27 k_h0) (cwV 1 hts (wg_app (wg_c kw_1885 (wg_c kw_1887 (wg_c ks_75 (wg_c kw_13 wg_n)))) kw_1888) rfl rfl rfl (by decide +kernel) ⟨by decide, by decide⟩) (pp_VT (en_ok g) (ci := 12) (kd := (47, 0)) hK hO k_h0 (nxg hc0 k_h0 rfl) (fun _ h9 => ko1 h9) hP hD hS hA hE [] rfl rfl rfl) rfl rfl hl.1 rfl (lv_room (Nat.le_of_ble_eq_true rfl)) dMH_fits_274 ⟨by omega, by omega⟩) (fun r31 pl H locs hu23 hP hD hS => ?_)
                    obtain ⟨hq23, hO⟩ := hu23
                    have hP : va_P g.1 vcl ([] ++ pl) _ := hP
                    have hD : va_D _ ([] ++ pl) := hD
                    refine W.widen (k := 0) (n := 0) (by omega) (by omega) ?_
                    refine lv_aload_n hx hb dMH_fits_277 rfl (lv_at hl 3 rfl) ?_
                    refine lv_aload_n hx hb dMH_fits_278 rfl (lv_at hl 3 rfl) ?_
                    refine ty_get (ci := 12) (C := "LatticeKeysModel$Hands") (TT := T_MH) (N := 31) (kd := (47, 0)) hx hb hts (wg_ft i_MH) hown hK hO k_h0 (nxg hc0 k_h0 rfl) hP (fun _ h9 => h9) rfl 10 (by decide) (hts _ (wg_t kw_1442)) (fun _ h9 => h9) (cd := (3, 3, 8)) rfl dMH_fits_279 (fun v33 hv33 => ?_)
                    obtain ⟨r32, rfl, kr30⟩ := (show ∃ r : Nat, v33 = .ref r ∧ T r = some (3, 8) from hv33)
                    refine lv_iload_n hx hb dMH_fits_282 rfl (lv_at hl 1 rfl) ?_
                    refine ty_aald3 hx hb hK hO kr30 (nxg hc0 kr30 rfl) hP (by omega) (by decide) dMH_fits_283 (fun r33 kr31 => ?_)
                    refine lv_iload_n hx hb dMH_fits_284 rfl (lv_at hl 0 rfl) ?_
                    refine ty_iald hx hb hK hO kr31 (nxg hc0 kr31 rfl) hP (vp_in_nI (by omega) (by decide)) dMH_fits_285 (fun z28 => ?_)
                    refine mp_i (cx := []) (wr := []) hP hD hS hA [] [] rfl rfl rfl (by decide) (va_runV (As := [.int z28]) (rest := [.int r31, .int (nI i24), .ref r27]) F (t_MH_high_1 l g _ T xs pl hO hU hc0 h0 z28 k_h0) (cwV 1 hts (wg_app (wg_c kw_1885 (wg_c kw_1887 (wg_c ks_75 (wg_c kw_13 wg_n)))) kw_1888) rfl rfl rfl (by decide +kernel) ⟨by decide, by decide⟩) (pp_VT (en_ok g) (ci := 12) (kd := (47, 0)) hK hO k_h0 (nxg hc0 k_h0 rfl) (fun _ h9 => ko1 h9) hP hD hS hA hE [] rfl rfl rfl) rfl rfl hl.1 rfl (lv_room (Nat.le_of_ble_eq_true rfl)) dMH_fits_286 ⟨by omega, by omega⟩) (fun r34 pl H locs hu24 hP hD hS => ?_)
                    obtain ⟨hq24, hO⟩ := hu24
                    have hP : va_P g.1 vcl ([] ++ pl) _ := hP
                    have hD : va_D _ ([] ++ pl) := hD
                    refine W.widen (k := 0) (n := 0) (by omega) (by omega) ?_
                    refine lv_icmp_ne (tgt := 296) hx hb dMH_fits_289 (by decide) (fun h29 => ?_) (fun h29 => ?_)
                    · refine lv_iconst (v := nI 1) hx hb dMH_fits_296 (by decide) ?_
                      refine ty_iast hx hb hK hO kr26 (nxg hc0 kr26 rfl) hP hD hS (vp_in_nI (by omega) (by decide)) dMH_fits_297 (fun pl H locs hO hP hD hS => ?_)
                      refine lv_iload_n hx hb dMH_fits_298 rfl (lv_at hl 2 rfl) ?_
                      refine lv_aload_n hx hb dMH_fits_299 rfl (lv_at hl 3 rfl) ?_
                      refine ty_get (ci := 12) (C := "LatticeKeysModel$Hands") (TT := T_MH) (N := 31) (kd := (47, 0)) hx hb hts (wg_ft i_MH) hown hK hO k_h0 (nxg hc0 k_h0 rfl) hP (fun _ h9 => h9) rfl 11 (by decide) (hts _ (wg_t kw_1443)) (fun _ h9 => h9) (cd := (3, 3, 8)) rfl dMH_fits_300 (fun v34 hv34 => ?_)
                      obtain ⟨r35, rfl, kr32⟩ := (show ∃ r : Nat, v34 = .ref r ∧ T r = some (3, 8) from hv34)
                      refine lv_iload_n hx hb dMH_fits_303 rfl (lv_at hl 1 rfl) ?_
                      refine ty_aald3 hx hb hK hO kr32 (nxg hc0 kr32 rfl) hP (by omega) (by decide) dMH_fits_304 (fun r36 kr33 => ?_)
                      refine lv_iload_n hx hb dMH_fits_305 rfl (lv_at hl 0 rfl) ?_
                      refine ty_iald hx hb hK hO kr33 (nxg hc0 kr33 rfl) hP (vp_in_nI (by omega) (by decide)) dMH_fits_306 (fun z29 => ?_)
                      refine lv_iadd hx hb dMH_fits_307 ?_
                      refine mi_any (fun z30 => ?_)
                      refine lv_istore_n (lv' := [(1, .int z30), (3, .int (nI i24)), (2, .int (nI i23)), (0, .ref h0)]) hx hb dMH_fits_308 rfl hl (by decide) rfl (fun ls hl => ?_)
                      refine mi_iinc (k := 1) (x := i24) (d := 1) (y := i24 + 1) (lv' := [(3, .int (nI (i24 + 1))), (1, .int z30), (2, .int (nI i23)), (0, .ref h0)]) hx hb dMH_fits_309 hl rfl (by decide) rfl (by decide) rfl (fun ls hl => ?_)
                      refine lv_goto (tgt := 223) hx hb dMH_fits_312 (by decide) ?_
                      exact ih24 (i24 + 1) z30 pl ls H locs (by omega) (lv_sub hl [0, 2, 1, 3] rfl) hO hP hD hS
                    · refine lv_iconst (v := nI 0) hx hb dMH_fits_292 (by decide) ?_
                      refine lv_goto (tgt := 297) hx hb dMH_fits_293 (by decide) ?_
                      refine ty_iast hx hb hK hO kr26 (nxg hc0 kr26 rfl) hP hD hS (vp_in_nI (by omega) (by decide)) dMH_fits_297 (fun pl H locs hO hP hD hS => ?_)
                      refine lv_iload_n hx hb dMH_fits_298 rfl (lv_at hl 2 rfl) ?_
                      refine lv_aload_n hx hb dMH_fits_299 rfl (lv_at hl 3 rfl) ?_
                      refine ty_get (ci := 12) (C := "LatticeKeysModel$Hands") (TT := T_MH) (N := 31) (kd := (47, 0)) hx hb hts (wg_ft i_MH) hown hK hO k_h0 (nxg hc0 k_h0 rfl) hP (fun _ h9 => h9) rfl 11 (by decide) (hts _ (wg_t kw_1443)) (fun _ h9 => h9) (cd := (3, 3, 8)) rfl dMH_fits_300 (fun v35 hv35 => ?_)
                      obtain ⟨r37, rfl, kr34⟩ := (show ∃ r : Nat, v35 = .ref r ∧ T r = some (3, 8) from hv35)
                      refine lv_iload_n hx hb dMH_fits_303 rfl (lv_at hl 1 rfl) ?_
                      refine ty_aald3 hx hb hK hO kr34 (nxg hc0 kr34 rfl) hP (by omega) (by decide) dMH_fits_304 (fun r38 kr35 => ?_)
                      refine lv_iload_n hx hb dMH_fits_305 rfl (lv_at hl 0 rfl) ?_
                      refine ty_iald hx hb hK hO kr35 (nxg hc0 kr35 rfl) hP (vp_in_nI (by omega) (by decide)) dMH_fits_306 (fun z31 => ?_)
                      refine lv_iadd hx hb dMH_fits_307 ?_
                      refine mi_any (fun z32 => ?_)
                      refine lv_istore_n (lv' := [(1, .int z32), (3, .int (nI i24)), (2, .int (nI i23)), (0, .ref h0)]) hx hb dMH_fits_308 rfl hl (by decide) rfl (fun ls hl => ?_)
                      refine mi_iinc (k := 1) (x := i24) (d := 1) (y := i24 + 1) (lv' := [(3, .int (nI (i24 + 1))), (1, .int z32), (2, .int (nI i23)), (0, .ref h0)]) hx hb dMH_fits_309 hl rfl (by decide) rfl (by decide) rfl (fun ls hl => ?_)
                      refine lv_goto (tgt := 223) hx hb dMH_fits_312 (by decide) ?_
                      exact ih24 (i24 + 1) z32 pl ls H locs (by omega) (lv_sub hl [0, 2, 1, 3] rfl) hO hP hD hS
                  · refine lv_iconst (v := nI 0) hx hb dMH_fits_246 (by decide) ?_
                    exact mp_zret hx hb hr hlk rfl hP hD hS pl ⟨(Or.inl rfl), hO⟩ [] rfl rfl rfl (by omega) (by omega) dMH_fits_247
              exact lp24 256 0 z21 pl ls _ _ (by omega) (lv_sub hl [0, 1, 2, 3] rfl) hO hP hD hS
          exact lp23 6 0 (nI 0) pl ls _ _ (by omega) (lv_sub hl [0, 1, 2] rfl) hO hP hD hS
        | succ n22 ih22 =>
          intro i22 pl ls H locs hm22  hl hO hP hD hS
          refine lv_iload_n hx hb dMH_fits_98 rfl (lv_at hl 0 rfl) ?_
          refine lv_aload_n hx hb dMH_fits_99 rfl (lv_at hl 1 rfl) ?_
          refine ty_get (ci := 12) (C := "LatticeKeysModel$Hands") (TT := T_MH) (N := 31) (kd := (47, 0)) hx hb hts (wg_ft i_MH) hown hK hO k_h0 (nxg hc0 k_h0 rfl) hP (fun _ h9 => h9) rfl 24 (by decide) (hts _ (wg_t kw_1456)) (fun _ h9 => h9) (cd := (1, 0, 6)) rfl dMH_fits_100 (fun v36 hv36 => ?_)
          obtain rfl := (show v36 = .int (nI 6) from hv36)
          refine mi_ge (tgt := 195) hx hb dMH_fits_103 (by decide) (by omega) (by omega) (fun h30 => absurd h30 (by omega)) (fun h30 => ?_)
          refine lv_aload_n hx hb dMH_fits_106 rfl (lv_at hl 1 rfl) ?_
          refine lv_aload_n hx hb dMH_fits_107 rfl (lv_at hl 1 rfl) ?_
          refine ty_get (ci := 12) (C := "LatticeKeysModel$Hands") (TT := T_MH) (N := 31) (kd := (47, 0)) hx hb hts (wg_ft i_MH) hown hK hO k_h0 (nxg hc0 k_h0 rfl) hP (fun _ h9 => h9) rfl 4 (by decide) (hts _ (wg_t kw_1436)) (fun _ h9 => h9) (cd := (3, 3, 8)) rfl dMH_fits_108 (fun v37 hv37 => ?_)
          obtain ⟨r39, rfl, kr36⟩ := (show ∃ r : Nat, v37 = .ref r ∧ T r = some (3, 8) from hv37)
          refine lv_iload_n hx hb dMH_fits_111 rfl (lv_at hl 0 rfl) ?_
          refine ty_aald3 hx hb hK hO kr36 (nxg hc0 kr36 rfl) hP (by omega) (by decide) dMH_fits_112 (fun r40 kr37 => ?_)
          refine lv_aload_n hx hb dMH_fits_113 rfl (lv_at hl 1 rfl) ?_
          refine ty_get (ci := 12) (C := "LatticeKeysModel$Hands") (TT := T_MH) (N := 31) (kd := (47, 0)) hx hb hts (wg_ft i_MH) hown hK hO k_h0 (nxg hc0 k_h0 rfl) hP (fun _ h9 => h9) rfl 13 (by decide) (hts _ (wg_t kw_1445)) (fun _ h9 => h9) (cd := (3, 0, 256)) rfl dMH_fits_114 (fun v38 hv38 => ?_)
          obtain ⟨r41, rfl, kr38⟩ := (show ∃ r : Nat, v38 = .ref r ∧ T r = some (0, 256) from hv38)
          refine mp_v (cx := []) (wr := []) hP hD hS hA [] [] rfl rfl rfl (by decide) (va_runV (As := [.ref r40, .ref r41]) (rest := []) F (t_MH_turned_1 l g _ T xs pl hO hU hc0 h0 r40 r41 k_h0 kr37 kr38) (cwV 2 hts (wg_app (wg_c kw_1901 (wg_c kw_1903 (wg_c ks_79 (wg_c kw_13 wg_n)))) kw_1904) rfl rfl rfl (by decide +kernel) ⟨by decide, by decide⟩) (pp_VT (en_ok g) (ci := 12) (kd := (47, 0)) hK hO k_h0 (nxg hc0 k_h0 rfl) (fun _ h9 => ko1 h9) hP hD hS hA hE [] rfl rfl rfl) rfl rfl hl.1 rfl (lv_room (Nat.le_of_ble_eq_true rfl)) dMH_fits_117 ⟨by omega, by omega⟩) (fun  pl H locs hu25 hP hD hS => ?_)
          obtain ⟨hq25, hO⟩ := hu25
          have hP : va_P g.1 vcl ([] ++ pl) _ := hP
          have hD : va_D _ ([] ++ pl) := hD
          refine W.widen (k := 0) (n := 0) (by omega) (by omega) ?_
          refine lv_iconst (v := nI 0) hx hb dMH_fits_120 (by decide) ?_
          refine lv_istore_n (lv' := [(2, .int (nI 0)), (1, .int (nI i22)), (0, .ref h0)]) hx hb dMH_fits_121 rfl hl (by decide) rfl (fun ls hl => ?_)
          have lp25 : ∀ (n25 : Nat) (i25 : Nat) (pl : va_W) (ls : Array Slot) (H : Heap) (locs : List Loc), n25 + i25 = 256 → lv_has ls 4 [(2, .int (nI i25)), (1, .int (nI i22)), (0, .ref h0)] → okx g T xs pl → va_P g.1 vcl ([] ++ pl) H → va_D A ([] ++ pl) → va_S A s.heap H locs → W p l e ({ frames := 1, cells := 0, slots := 0, locals := 60 } : Room) s m args below meth c H locs 0 0 (MQ below (va_Qi (fun (r : Int32) (u : va_W) => (r = nI 0 ∨ r = nI 1) ∧ okx g T xs u) (po g.1 vcl A (fun (u : va_W) => [] ++ u)) A) args s 0 0 A) (F0 m 122 ls []) := by
            intro n25
            induction n25 with
            | zero =>
              intro i25 pl ls H locs hm25  hl hO hP hD hS
              refine lv_iload_n hx hb dMH_fits_122 rfl (lv_at hl 0 rfl) ?_
              refine lv_sipush (v := nI 256) hx hb dMH_fits_123 (by decide) ?_
              refine mi_ge (tgt := 189) hx hb dMH_fits_126 (by decide) (by omega) (by omega) (fun h31 => ?_) (fun h31 => absurd h31 (by omega))
              refine mi_iinc (k := 1) (x := i22) (d := 1) (y := i22 + 1) (lv' := [(1, .int (nI (i22 + 1))), (2, .int (nI i25)), (0, .ref h0)]) hx hb dMH_fits_189 hl rfl (by decide) rfl (by decide) rfl (fun ls hl => ?_)
              refine lv_goto (tgt := 98) hx hb dMH_fits_192 (by decide) ?_
              exact ih22 (i22 + 1) pl ls H locs (by omega) (lv_sub hl [0, 2] rfl) hO hP hD hS
            | succ n25 ih25 =>
              intro i25 pl ls H locs hm25  hl hO hP hD hS
              refine lv_iload_n hx hb dMH_fits_122 rfl (lv_at hl 0 rfl) ?_
              refine lv_sipush (v := nI 256) hx hb dMH_fits_123 (by decide) ?_
              refine mi_ge (tgt := 189) hx hb dMH_fits_126 (by decide) (by omega) (by omega) (fun h32 => absurd h32 (by omega)) (fun h32 => ?_)
              refine lv_aload_n hx hb dMH_fits_129 rfl (lv_at hl 2 rfl) ?_
              refine ty_get (ci := 12) (C := "LatticeKeysModel$Hands") (TT := T_MH) (N := 31) (kd := (47, 0)) hx hb hts (wg_ft i_MH) hown hK hO k_h0 (nxg hc0 k_h0 rfl) hP (fun _ h9 => h9) rfl 10 (by decide) (hts _ (wg_t kw_1442)) (fun _ h9 => h9) (cd := (3, 3, 8)) rfl dMH_fits_130 (fun v39 hv39 => ?_)
              obtain ⟨r42, rfl, kr39⟩ := (show ∃ r : Nat, v39 = .ref r ∧ T r = some (3, 8) from hv39)
              refine lv_iload_n hx hb dMH_fits_133 rfl (lv_at hl 1 rfl) ?_
              refine ty_aald3 hx hb hK hO kr39 (nxg hc0 kr39 rfl) hP (by omega) (by decide) dMH_fits_134 (fun r43 kr40 => ?_)
              refine lv_iload_n hx hb dMH_fits_135 rfl (lv_at hl 0 rfl) ?_
              refine lv_aload_n hx hb dMH_fits_136 rfl (lv_at hl 2 rfl) ?_
              refine ty_get (ci := 12) (C := "LatticeKeysModel$Hands") (TT := T_MH) (N := 31) (kd := (47, 0)) hx hb hts (wg_ft i_MH) hown hK hO k_h0 (nxg hc0 k_h0 rfl) hP (fun _ h9 => h9) rfl 10 (by decide) (hts _ (wg_t kw_1442)) (fun _ h9 => h9) (cd := (3, 3, 8)) rfl dMH_fits_137 (fun v40 hv40 => ?_)
              obtain ⟨r44, rfl, kr41⟩ := (show ∃ r : Nat, v40 = .ref r ∧ T r = some (3, 8) from hv40)
              refine lv_iload_n hx hb dMH_fits_140 rfl (lv_at hl 1 rfl) ?_
              refine ty_aald3 hx hb hK hO kr41 (nxg hc0 kr41 rfl) hP (by omega) (by decide) dMH_fits_141 (fun r45 kr42 => ?_)
              refine lv_iload_n hx hb dMH_fits_142 rfl (lv_at hl 0 rfl) ?_
              refine ty_iald hx hb hK hO kr42 (nxg hc0 kr42 rfl) hP (vp_in_nI (by omega) (by decide)) dMH_fits_143 (fun z33 => ?_)
              refine lv_aload_n hx hb dMH_fits_144 rfl (lv_at hl 2 rfl) ?_
              refine ty_get (ci := 12) (C := "LatticeKeysModel$Hands") (TT := T_MH) (N := 31) (kd := (47, 0)) hx hb hts (wg_ft i_MH) hown hK hO k_h0 (nxg hc0 k_h0 rfl) hP (fun _ h9 => h9) rfl 13 (by decide) (hts _ (wg_t kw_1445)) (fun _ h9 => h9) (cd := (3, 0, 256)) rfl dMH_fits_145 (fun v41 hv41 => ?_)
              obtain ⟨r46, rfl, kr43⟩ := (show ∃ r : Nat, v41 = .ref r ∧ T r = some (0, 256) from hv41)
              refine lv_iload_n hx hb dMH_fits_148 rfl (lv_at hl 0 rfl) ?_
              refine ty_iald hx hb hK hO kr43 (nxg hc0 kr43 rfl) hP (vp_in_nI (by omega) (by decide)) dMH_fits_149 (fun z34 => ?_)
              refine mp_i (cx := []) (wr := []) hP hD hS hA [] [] rfl rfl rfl (by decide) (va_runS (As := [.int z33, .int z34]) (rest := [.int (nI i25), .ref r43]) F (t_MH_minus l g _ T xs pl hO hU  z33 z34) (va_cwS 2 hts (wg_app (wg_c kw_1865 (wg_c kw_1866 (wg_c kw_13 wg_n))) kw_1867) rfl rfl rfl (by decide +kernel) ⟨by decide, by decide⟩) (pp_S (en_ok g) hP hD hS hA hE [] rfl rfl) rfl rfl hl.1 rfl (lv_room (Nat.le_of_ble_eq_true rfl)) dMH_fits_150 ⟨by omega, by omega⟩) (fun r47 pl H locs hu26 hP hD hS => ?_)
              obtain ⟨hq26, hO⟩ := hu26
              have hP : va_P g.1 vcl ([] ++ pl) _ := hP
              have hD : va_D _ ([] ++ pl) := hD
              refine W.widen (k := 0) (n := 0) (by omega) (by omega) ?_
              refine ty_iast hx hb hK hO kr40 (nxg hc0 kr40 rfl) hP hD hS (vp_in_nI (by omega) (by decide)) dMH_fits_153 (fun pl H locs hO hP hD hS => ?_)
              refine lv_aload_n hx hb dMH_fits_154 rfl (lv_at hl 2 rfl) ?_
              refine lv_aload_n hx hb dMH_fits_155 rfl (lv_at hl 2 rfl) ?_
              refine ty_get (ci := 12) (C := "LatticeKeysModel$Hands") (TT := T_MH) (N := 31) (kd := (47, 0)) hx hb hts (wg_ft i_MH) hown hK hO k_h0 (nxg hc0 k_h0 rfl) hP (fun _ h9 => h9) rfl 10 (by decide) (hts _ (wg_t kw_1442)) (fun _ h9 => h9) (cd := (3, 3, 8)) rfl dMH_fits_156 (fun v42 hv42 => ?_)
              obtain ⟨r48, rfl, kr44⟩ := (show ∃ r : Nat, v42 = .ref r ∧ T r = some (3, 8) from hv42)
              refine lv_iload_n hx hb dMH_fits_159 rfl (lv_at hl 1 rfl) ?_
              refine ty_aald3 hx hb hK hO kr44 (nxg hc0 kr44 rfl) hP (by omega) (by decide) dMH_fits_160 (fun r49 kr45 => ?_)
              refine lv_iload_n hx hb dMH_fits_161 rfl (lv_at hl 0 rfl) ?_
              refine ty_iald hx hb hK hO kr45 (nxg hc0 kr45 rfl) hP (vp_in_nI (by omega) (by decide)) dMH_fits_162 (fun z35 => ?_)
              refine mp_i (cx := []) (wr := []) hP hD hS hA [] [] rfl rfl rfl (by decide) (va_runV (As := [.int z35]) (rest := []) F (t_MH_low_1 l g _ T xs pl hO hU hc0 h0 z35 k_h0) (cwV 1 hts (wg_app (wg_c kw_1889 (wg_c kw_1891 (wg_c ks_76 (wg_c kw_13 wg_n)))) kw_1892) rfl rfl rfl (by decide +kernel) ⟨by decide, by decide⟩) (pp_VT (en_ok g) (ci := 12) (kd := (47, 0)) hK hO k_h0 (nxg hc0 k_h0 rfl) (fun _ h9 => ko1 h9) hP hD hS hA hE [] rfl rfl rfl) rfl rfl hl.1 rfl (lv_room (Nat.le_of_ble_eq_true rfl)) dMH_fits_163 ⟨by omega, by omega⟩) (fun r50 pl H locs hu27 hP hD hS => ?_)
              obtain ⟨hq27, hO⟩ := hu27
              have hP : va_P g.1 vcl ([] ++ pl) _ := hP
              have hD : va_D _ ([] ++ pl) := hD
              refine W.widen (k := 0) (n := 0) (by omega) (by omega) ?_
              refine va_mabs (own := "LatticeKeysModel$Hands") (index := 221) hx hb (hml.trans hl.1.symm) hown (hts _ (wg_t kw_1909)) (hts _ (wg_t kw_1910)) (hts _ (wg_t kw_31)) (hts _ (wg_t kw_1911)) (Nat.le_of_ble_eq_true rfl) (Nat.le_of_ble_eq_true rfl) (by omega) (by omega) dMH_fits_166 ?_
              refine mi_any (fun z36 => ?_)
              refine lv_aload_n hx hb dMH_fits_169 rfl (lv_at hl 2 rfl) ?_
              refine ty_get (ci := 12) (C := "LatticeKeysModel$Hands") (TT := T_MH) (N := 31) (kd := (47, 0)) hx hb hts (wg_ft i_MH) hown hK hO k_h0 (nxg hc0 k_h0 rfl) hP (fun _ h9 => h9) rfl 28 (by decide) (hts _ (wg_t kw_1460)) (fun _ h9 => h9) (cd := (1, 0, 261888)) rfl dMH_fits_170 (fun v43 hv43 => ?_)
              obtain rfl := (show v43 = .int (nI 261888) from hv43)
              refine lv_aload_n hx hb dMH_fits_173 rfl (lv_at hl 2 rfl) ?_
              refine ty_get (ci := 12) (C := "LatticeKeysModel$Hands") (TT := T_MH) (N := 31) (kd := (47, 0)) hx hb hts (wg_ft i_MH) hown hK hO k_h0 (nxg hc0 k_h0 rfl) hP (fun _ h9 => h9) rfl 29 (by decide) (hts _ (wg_t kw_1461)) (fun _ h9 => h9) (cd := (1, 0, 196)) rfl dMH_fits_174 (fun v44 hv44 => ?_)
              obtain rfl := (show v44 = .int (nI 196) from hv44)
              refine mi_isub hx hb dMH_fits_177 (by omega) ?_
              refine mi_as (show nI (261888 - 196) = nI 261692 from rfl) ?_
              refine lv_icmp_lt (tgt := 183) hx hb dMH_fits_178 (by decide) (fun h33 => ?_) (fun h33 => ?_)
              · refine mi_iinc (k := 0) (x := i25) (d := 1) (y := i25 + 1) (lv' := [(2, .int (nI (i25 + 1))), (1, .int (nI i22)), (0, .ref h0)]) hx hb dMH_fits_183 hl rfl (by decide) rfl (by decide) rfl (fun ls hl => ?_)
                refine lv_goto (tgt := 122) hx hb dMH_fits_186 (by decide) ?_
                exact ih25 (i25 + 1) pl ls H locs (by omega) (lv_sub hl [0, 1, 2] rfl) hO hP hD hS
              · refine lv_iconst (v := nI 0) hx hb dMH_fits_181 (by decide) ?_
                exact mp_zret hx hb hr hlk rfl hP hD hS pl ⟨(Or.inl rfl), hO⟩ [] rfl rfl rfl (by omega) (by omega) dMH_fits_182
          exact lp25 256 0 pl ls _ _ (by omega) (lv_sub hl [0, 1, 2] rfl) hO hP hD hS
      exact lp22 6 0 pl ls _ _ (by omega) (lv_sub hl [0, 1] rfl) hO hP hD hS
    | succ n21 ih21 =>
      intro i21 pl ls H locs hm21  hl hO hP hD hS
      refine lv_iload_n hx hb dMH_fits_2 rfl (lv_at hl 0 rfl) ?_
      refine lv_aload_n hx hb dMH_fits_3 rfl (lv_at hl 1 rfl) ?_
      refine ty_get (ci := 12) (C := "LatticeKeysModel$Hands") (TT := T_MH) (N := 31) (kd := (47, 0)) hx hb hts (wg_ft i_MH) hown hK hO k_h0 (nxg hc0 k_h0 rfl) hP (fun _ h9 => h9) rfl 25 (by decide) (hts _ (wg_t kw_1457)) (fun _ h9 => h9) (cd := (1, 0, 5)) rfl dMH_fits_4 (fun v45 hv45 => ?_)
      obtain rfl := (show v45 = .int (nI 5) from hv45)
      refine mi_ge (tgt := 96) hx hb dMH_fits_7 (by decide) (by omega) (by omega) (fun h34 => absurd h34 (by omega)) (fun h34 => ?_)
      refine lv_aload_n hx hb dMH_fits_10 rfl (lv_at hl 1 rfl) ?_
      refine lv_aload_n hx hb dMH_fits_11 rfl (lv_at hl 1 rfl) ?_
      refine ty_get (ci := 12) (C := "LatticeKeysModel$Hands") (TT := T_MH) (N := 31) (kd := (47, 0)) hx hb hts (wg_ft i_MH) hown hK hO k_h0 (nxg hc0 k_h0 rfl) hP (fun _ h9 => h9) rfl 3 (by decide) (hts _ (wg_t kw_1435)) (fun _ h9 => h9) (cd := (3, 3, 7)) rfl dMH_fits_12 (fun v46 hv46 => ?_)
      obtain ⟨r51, rfl, kr46⟩ := (show ∃ r : Nat, v46 = .ref r ∧ T r = some (3, 7) from hv46)
      refine lv_iload_n hx hb dMH_fits_15 rfl (lv_at hl 0 rfl) ?_
      refine ty_aald3 hx hb hK hO kr46 (nxg hc0 kr46 rfl) hP (by omega) (by decide) dMH_fits_16 (fun r52 kr47 => ?_)
      refine lv_aload_n hx hb dMH_fits_17 rfl (lv_at hl 1 rfl) ?_
      refine ty_get (ci := 12) (C := "LatticeKeysModel$Hands") (TT := T_MH) (N := 31) (kd := (47, 0)) hx hb hts (wg_ft i_MH) hown hK hO k_h0 (nxg hc0 k_h0 rfl) hP (fun _ h9 => h9) rfl 13 (by decide) (hts _ (wg_t kw_1445)) (fun _ h9 => h9) (cd := (3, 0, 256)) rfl dMH_fits_18 (fun v47 hv47 => ?_)
      obtain ⟨r53, rfl, kr48⟩ := (show ∃ r : Nat, v47 = .ref r ∧ T r = some (0, 256) from hv47)
      refine mp_v (cx := []) (wr := []) hP hD hS hA [] [] rfl rfl rfl (by decide) (va_runV (As := [.ref r52, .ref r53]) (rest := []) F (t_MH_turned_1 l g _ T xs pl hO hU hc0 h0 r52 r53 k_h0 kr47 kr48) (cwV 2 hts (wg_app (wg_c kw_1901 (wg_c kw_1903 (wg_c ks_79 (wg_c kw_13 wg_n)))) kw_1904) rfl rfl rfl (by decide +kernel) ⟨by decide, by decide⟩) (pp_VT (en_ok g) (ci := 12) (kd := (47, 0)) hK hO k_h0 (nxg hc0 k_h0 rfl) (fun _ h9 => ko1 h9) hP hD hS hA hE [] rfl rfl rfl) rfl rfl hl.1 rfl (lv_room (Nat.le_of_ble_eq_true rfl)) dMH_fits_21 ⟨by omega, by omega⟩) (fun  pl H locs hu28 hP hD hS => ?_)
      obtain ⟨hq28, hO⟩ := hu28
      have hP : va_P g.1 vcl ([] ++ pl) _ := hP
      have hD : va_D _ ([] ++ pl) := hD
      refine W.widen (k := 0) (n := 0) (by omega) (by omega) ?_
      refine lv_iconst (v := nI 0) hx hb dMH_fits_24 (by decide) ?_
      refine lv_istore_n (lv' := [(2, .int (nI 0)), (1, .int (nI i21)), (0, .ref h0)]) hx hb dMH_fits_25 rfl hl (by decide) rfl (fun ls hl => ?_)
      have lp26 : ∀ (n26 : Nat) (i26 : Nat) (pl : va_W) (ls : Array Slot) (H : Heap) (locs : List Loc), n26 + i26 = 256 → lv_has ls 4 [(2, .int (nI i26)), (1, .int (nI i21)), (0, .ref h0)] → okx g T xs pl → va_P g.1 vcl ([] ++ pl) H → va_D A ([] ++ pl) → va_S A s.heap H locs → W p l e ({ frames := 1, cells := 0, slots := 0, locals := 60 } : Room) s m args below meth c H locs 0 0 (MQ below (va_Qi (fun (r : Int32) (u : va_W) => (r = nI 0 ∨ r = nI 1) ∧ okx g T xs u) (po g.1 vcl A (fun (u : va_W) => [] ++ u)) A) args s 0 0 A) (F0 m 26 ls []) := by
        intro n26
        induction n26 with
        | zero =>
          intro i26 pl ls H locs hm26  hl hO hP hD hS
          refine lv_iload_n hx hb dMH_fits_26 rfl (lv_at hl 0 rfl) ?_
          refine lv_sipush (v := nI 256) hx hb dMH_fits_27 (by decide) ?_
          refine mi_ge (tgt := 90) hx hb dMH_fits_30 (by decide) (by omega) (by omega) (fun h35 => ?_) (fun h35 => absurd h35 (by omega))
          refine mi_iinc (k := 1) (x := i21) (d := 1) (y := i21 + 1) (lv' := [(1, .int (nI (i21 + 1))), (2, .int (nI i26)), (0, .ref h0)]) hx hb dMH_fits_90 hl rfl (by decide) rfl (by decide) rfl (fun ls hl => ?_)
          refine lv_goto (tgt := 2) hx hb dMH_fits_93 (by decide) ?_
          exact ih21 (i21 + 1) pl ls H locs (by omega) (lv_sub hl [0, 2] rfl) hO hP hD hS
        | succ n26 ih26 =>
          intro i26 pl ls H locs hm26  hl hO hP hD hS
          refine lv_iload_n hx hb dMH_fits_26 rfl (lv_at hl 0 rfl) ?_
          refine lv_sipush (v := nI 256) hx hb dMH_fits_27 (by decide) ?_
          refine mi_ge (tgt := 90) hx hb dMH_fits_30 (by decide) (by omega) (by omega) (fun h36 => absurd h36 (by omega)) (fun h36 => ?_)
          refine lv_aload_n hx hb dMH_fits_33 rfl (lv_at hl 2 rfl) ?_
          refine ty_get (ci := 12) (C := "LatticeKeysModel$Hands") (TT := T_MH) (N := 31) (kd := (47, 0)) hx hb hts (wg_ft i_MH) hown hK hO k_h0 (nxg hc0 k_h0 rfl) hP (fun _ h9 => h9) rfl 8 (by decide) (hts _ (wg_t kw_1440)) (fun _ h9 => h9) (cd := (3, 3, 7)) rfl dMH_fits_34 (fun v48 hv48 => ?_)
          obtain ⟨r54, rfl, kr49⟩ := (show ∃ r : Nat, v48 = .ref r ∧ T r = some (3, 7) from hv48)
          refine lv_iload_n hx hb dMH_fits_37 rfl (lv_at hl 1 rfl) ?_
          refine ty_aald3 hx hb hK hO kr49 (nxg hc0 kr49 rfl) hP (by omega) (by decide) dMH_fits_38 (fun r55 kr50 => ?_)
          refine lv_iload_n hx hb dMH_fits_39 rfl (lv_at hl 0 rfl) ?_
          refine lv_aload_n hx hb dMH_fits_40 rfl (lv_at hl 2 rfl) ?_
          refine ty_get (ci := 12) (C := "LatticeKeysModel$Hands") (TT := T_MH) (N := 31) (kd := (47, 0)) hx hb hts (wg_ft i_MH) hown hK hO k_h0 (nxg hc0 k_h0 rfl) hP (fun _ h9 => h9) rfl 7 (by decide) (hts _ (wg_t kw_1439)) (fun _ h9 => h9) (cd := (3, 3, 7)) rfl dMH_fits_41 (fun v49 hv49 => ?_)
          obtain ⟨r56, rfl, kr51⟩ := (show ∃ r : Nat, v49 = .ref r ∧ T r = some (3, 7) from hv49)
          refine lv_iload_n hx hb dMH_fits_44 rfl (lv_at hl 1 rfl) ?_
          refine ty_aald3 hx hb hK hO kr51 (nxg hc0 kr51 rfl) hP (by omega) (by decide) dMH_fits_45 (fun r57 kr52 => ?_)
          refine lv_iload_n hx hb dMH_fits_46 rfl (lv_at hl 0 rfl) ?_
          refine ty_iald hx hb hK hO kr52 (nxg hc0 kr52 rfl) hP (vp_in_nI (by omega) (by decide)) dMH_fits_47 (fun z37 => ?_)
          refine lv_aload_n hx hb dMH_fits_48 rfl (lv_at hl 2 rfl) ?_
          refine ty_get (ci := 12) (C := "LatticeKeysModel$Hands") (TT := T_MH) (N := 31) (kd := (47, 0)) hx hb hts (wg_ft i_MH) hown hK hO k_h0 (nxg hc0 k_h0 rfl) hP (fun _ h9 => h9) rfl 13 (by decide) (hts _ (wg_t kw_1445)) (fun _ h9 => h9) (cd := (3, 0, 256)) rfl dMH_fits_49 (fun v50 hv50 => ?_)
          obtain ⟨r58, rfl, kr53⟩ := (show ∃ r : Nat, v50 = .ref r ∧ T r = some (0, 256) from hv50)
          refine lv_iload_n hx hb dMH_fits_52 rfl (lv_at hl 0 rfl) ?_
          refine ty_iald hx hb hK hO kr53 (nxg hc0 kr53 rfl) hP (vp_in_nI (by omega) (by decide)) dMH_fits_53 (fun z38 => ?_)
          refine lv_iadd hx hb dMH_fits_54 ?_
          refine mi_any (fun z39 => ?_)
          refine lv_ldc (v := 8380417) hx hb hown (hts _ (wg_t kw_1429)) dMH_fits_55 ?_
          refine mi_as (show (8380417 : Int32) = nI 8380417 by decide) ?_
          refine lv_irem hx hb dMH_fits_57 (nI_ne0 (by omega) (by omega)) ?_
          refine mi_any (fun z40 => ?_)
          refine ty_iast hx hb hK hO kr50 (nxg hc0 kr50 rfl) hP hD hS (vp_in_nI (by omega) (by decide)) dMH_fits_58 (fun pl H locs hO hP hD hS => ?_)
          refine lv_aload_n hx hb dMH_fits_59 rfl (lv_at hl 2 rfl) ?_
          refine ty_get (ci := 12) (C := "LatticeKeysModel$Hands") (TT := T_MH) (N := 31) (kd := (47, 0)) hx hb hts (wg_ft i_MH) hown hK hO k_h0 (nxg hc0 k_h0 rfl) hP (fun _ h9 => h9) rfl 8 (by decide) (hts _ (wg_t kw_1440)) (fun _ h9 => h9) (cd := (3, 3, 7)) rfl dMH_fits_60 (fun v51 hv51 => ?_)
          obtain ⟨r59, rfl, kr54⟩ := (show ∃ r : Nat, v51 = .ref r ∧ T r = some (3, 7) from hv51)
          refine lv_iload_n hx hb dMH_fits_63 rfl (lv_at hl 1 rfl) ?_
          refine ty_aald3 hx hb hK hO kr54 (nxg hc0 kr54 rfl) hP (by omega) (by decide) dMH_fits_64 (fun r60 kr55 => ?_)
          refine lv_iload_n hx hb dMH_fits_65 rfl (lv_at hl 0 rfl) ?_
          refine ty_iald hx hb hK hO kr55 (nxg hc0 kr55 rfl) hP (vp_in_nI (by omega) (by decide)) dMH_fits_66 (fun z41 => ?_)
          refine mp_i (cx := []) (wr := []) hP hD hS hA [] [] rfl rfl rfl (by decide) (va_runS (As := [.int z41]) (rest := []) F (t_MH_norm l g _ T xs pl hO hU  z41) (va_cwS 1 hts (wg_app (wg_c kw_1905 (wg_c kw_1906 (wg_c kw_13 wg_n))) kw_1907) rfl rfl rfl (by decide +kernel) ⟨by decide, by decide⟩) (pp_S (en_ok g) hP hD hS hA hE [] rfl rfl) rfl rfl hl.1 rfl (lv_room (Nat.le_of_ble_eq_true rfl)) dMH_fits_67 ⟨by omega, by omega⟩) (fun r61 pl H locs hu29 hP hD hS => ?_)
          obtain ⟨hq29, hO⟩ := hu29
          have hP : va_P g.1 vcl ([] ++ pl) _ := hP
          have hD : va_D _ ([] ++ pl) := hD
          refine W.widen (k := 0) (n := 0) (by omega) (by omega) ?_
          refine lv_aload_n hx hb dMH_fits_70 rfl (lv_at hl 2 rfl) ?_
          refine ty_get (ci := 12) (C := "LatticeKeysModel$Hands") (TT := T_MH) (N := 31) (kd := (47, 0)) hx hb hts (wg_ft i_MH) hown hK hO k_h0 (nxg hc0 k_h0 rfl) hP (fun _ h9 => h9) rfl 27 (by decide) (hts _ (wg_t kw_1459)) (fun _ h9 => h9) (cd := (1, 0, 524288)) rfl dMH_fits_71 (fun v52 hv52 => ?_)
          obtain rfl := (show v52 = .int (nI 524288) from hv52)
          refine lv_aload_n hx hb dMH_fits_74 rfl (lv_at hl 2 rfl) ?_
          refine ty_get (ci := 12) (C := "LatticeKeysModel$Hands") (TT := T_MH) (N := 31) (kd := (47, 0)) hx hb hts (wg_ft i_MH) hown hK hO k_h0 (nxg hc0 k_h0 rfl) hP (fun _ h9 => h9) rfl 29 (by decide) (hts _ (wg_t kw_1461)) (fun _ h9 => h9) (cd := (1, 0, 196)) rfl dMH_fits_75 (fun v53 hv53 => ?_)
          obtain rfl := (show v53 = .int (nI 196) from hv53)
          refine mi_isub hx hb dMH_fits_78 (by omega) ?_
          refine mi_as (show nI (524288 - 196) = nI 524092 from rfl) ?_
          refine lv_icmp_lt (tgt := 84) hx hb dMH_fits_79 (by decide) (fun h37 => ?_) (fun h37 => ?_)
          · refine mi_iinc (k := 0) (x := i26) (d := 1) (y := i26 + 1) (lv' := [(2, .int (nI (i26 + 1))), (1, .int (nI i21)), (0, .ref h0)]) hx hb dMH_fits_84 hl rfl (by decide) rfl (by decide) rfl (fun ls hl => ?_)
            refine lv_goto (tgt := 26) hx hb dMH_fits_87 (by decide) ?_
            exact ih26 (i26 + 1) pl ls H locs (by omega) (lv_sub hl [0, 1, 2] rfl) hO hP hD hS
          · refine lv_iconst (v := nI 0) hx hb dMH_fits_82 (by decide) ?_
            exact mp_zret hx hb hr hlk rfl hP hD hS pl ⟨(Or.inl rfl), hO⟩ [] rfl rfl rfl (by omega) (by omega) dMH_fits_83
      exact lp26 256 0 pl ls _ _ (by omega) (lv_sub hl [0, 1, 2] rfl) hO hP hD hS
  exact lp21 5 0 pl ls _ _ (by omega) (lv_sub hl [0, 1] rfl) hO hP hD hS
set_option maxHeartbeats 400000 in
set_option maxRecDepth 100000 in
theorem t_MH_fits_2 (l : Launch) (g : Gd) (sz : Nat) (T : Ty) (xs : List Nat) (pl : va_W) (hO : okx g T xs pl) (hU : uni T) (hc0 : clo T xs 0) (h0 : Nat) (k_h0 : T h0 = some (48, 0))  : Met l y_MH_fits w_MH_fits ({ frames := 1, cells := 0, slots := 0, locals := 60 } : Room) (va_Pc [.ref h0] (pr (en g) g.1 vcl sz ([] ++ pl))) (va_Qi (fun (r : Int32) (u : va_W) => (r = nI 0 ∨ r = nI 1) ∧ okx g T xs u) (po g.1 vcl (va_A ([] ++ pl) sz) (fun (u : va_W) => [] ++ u)) (va_A ([] ++ pl) sz)) 0 0 (va_A ([] ++ pl) sz) := by
  refine mc_entry (cc := c_MH_fits) (maxL := 4) (ret := (some .boolean)) (by decide) rfl (Nat.le_of_ble_eq_true rfl) ?_
  intro p e s m args below meth c ls F hr hlk hnm hsz hP hD hE hA hl
  obtain ⟨hx, hb, hml, hown, hts⟩ := id F
  have hK := hE.1
  generalize va_A ([] ++ pl) sz = A at hD hE hA ⊢
  have hS : va_S A s.heap s.heap [] := va_S.rf
  have hl : lv_has ls 4 [(0, .ref h0)] := hl
  refine lv_iconst (v := nI 0) hx hb dMH_fits_0 (by decide) ?_
  refine lv_istore_n (lv' := [(1, .int (nI 0)), (0, .ref h0)]) hx hb dMH_fits_1 rfl hl (by decide) rfl (fun ls hl => ?_)
  have lp21 : ∀ (n21 : Nat) (i21 : Nat) (pl : va_W) (ls : Array Slot) (H : Heap) (locs : List Loc), n21 + i21 = 7 → lv_has ls 4 [(1, .int (nI i21)), (0, .ref h0)] → okx g T xs pl → va_P g.1 vcl ([] ++ pl) H → va_D A ([] ++ pl) → va_S A s.heap H locs → W p l e ({ frames := 1, cells := 0, slots := 0, locals := 60 } : Room) s m args below meth c H locs 0 0 (MQ below (va_Qi (fun (r : Int32) (u : va_W) => (r = nI 0 ∨ r = nI 1) ∧ okx g T xs u) (po g.1 vcl A (fun (u : va_W) => [] ++ u)) A) args s 0 0 A) (F0 m 2 ls []) := by
    intro n21
    induction n21 with
    | zero =>
      intro i21 pl ls H locs hm21  hl hO hP hD hS
      refine lv_iload_n hx hb dMH_fits_2 rfl (lv_at hl 0 rfl) ?_
      refine lv_aload_n hx hb dMH_fits_3 rfl (lv_at hl 1 rfl) ?_
      refine ty_get (ci := 12) (C := "LatticeKeysModel$Hands") (TT := T_MH) (N := 31) (kd := (48, 0)) hx hb hts (wg_ft i_MH) hown hK hO k_h0 (nxg hc0 k_h0 rfl) hP (fun _ h9 => h9) rfl 25 (by decide) (hts _ (wg_t kw_1457)) (fun _ h9 => h9) (cd := (1, 0, 7)) rfl dMH_fits_4 (fun v21 hv21 => ?_)
      obtain rfl := (show v21 = .int (nI 7) from hv21)
      refine mi_ge (tgt := 96) hx hb dMH_fits_7 (by decide) (by omega) (by omega) (fun h21 => ?_) (fun h21 => absurd h21 (by omega))
      refine lv_iconst (v := nI 0) hx hb dMH_fits_96 (by decide) ?_
      refine lv_istore_n (lv' := [(1, .int (nI 0)), (0, .ref h0)]) hx hb dMH_fits_97 rfl hl (by decide) rfl (fun ls hl => ?_)
      have lp22 : ∀ (n22 : Nat) (i22 : Nat) (pl : va_W) (ls : Array Slot) (H : Heap) (locs : List Loc), n22 + i22 = 8 → lv_has ls 4 [(1, .int (nI i22)), (0, .ref h0)] → okx g T xs pl → va_P g.1 vcl ([] ++ pl) H → va_D A ([] ++ pl) → va_S A s.heap H locs → W p l e ({ frames := 1, cells := 0, slots := 0, locals := 60 } : Room) s m args below meth c H locs 0 0 (MQ below (va_Qi (fun (r : Int32) (u : va_W) => (r = nI 0 ∨ r = nI 1) ∧ okx g T xs u) (po g.1 vcl A (fun (u : va_W) => [] ++ u)) A) args s 0 0 A) (F0 m 98 ls []) := by
        intro n22
        induction n22 with
        | zero =>
          intro i22 pl ls H locs hm22  hl hO hP hD hS
          refine lv_iload_n hx hb dMH_fits_98 rfl (lv_at hl 0 rfl) ?_
          refine lv_aload_n hx hb dMH_fits_99 rfl (lv_at hl 1 rfl) ?_
          refine ty_get (ci := 12) (C := "LatticeKeysModel$Hands") (TT := T_MH) (N := 31) (kd := (48, 0)) hx hb hts (wg_ft i_MH) hown hK hO k_h0 (nxg hc0 k_h0 rfl) hP (fun _ h9 => h9) rfl 24 (by decide) (hts _ (wg_t kw_1456)) (fun _ h9 => h9) (cd := (1, 0, 8)) rfl dMH_fits_100 (fun v22 hv22 => ?_)
          obtain rfl := (show v22 = .int (nI 8) from hv22)
          refine mi_ge (tgt := 195) hx hb dMH_fits_103 (by decide) (by omega) (by omega) (fun h22 => ?_) (fun h22 => absurd h22 (by omega))
          refine lv_iconst (v := nI 0) hx hb dMH_fits_195 (by decide) ?_
          refine lv_istore_n (lv' := [(1, .int (nI 0)), (0, .ref h0)]) hx hb dMH_fits_196 rfl hl (by decide) rfl (fun ls hl => ?_)
          refine lv_iconst (v := nI 0) hx hb dMH_fits_197 (by decide) ?_
          refine lv_istore_n (lv' := [(2, .int (nI 0)), (1, .int (nI 0)), (0, .ref h0)]) hx hb dMH_fits_198 rfl hl (by decide) rfl (fun ls hl => ?_)
          have lp23 : ∀ (n23 : Nat) (i23 : Nat) (z21 : Int32) (pl : va_W) (ls : Array Slot) (H : Heap) (locs : List Loc), n23 + i23 = 8 → lv_has ls 4 [(2, .int (nI i23)), (1, .int z21), (0, .ref h0)] → okx g T xs pl → va_P g.1 vcl ([] ++ pl) H → va_D A ([] ++ pl) → va_S A s.heap H locs → W p l e ({ frames := 1, cells := 0, slots := 0, locals := 60 } : Room) s m args below meth c H locs 0 0 (MQ below (va_Qi (fun (r : Int32) (u : va_W) => (r = nI 0 ∨ r = nI 1) ∧ okx g T xs u) (po g.1 vcl A (fun (u : va_W) => [] ++ u)) A) args s 0 0 A) (F0 m 199 ls []) := by
            intro n23
            induction n23 with
            | zero =>
              intro i23 z21 pl ls H locs hm23  hl hO hP hD hS
              refine lv_iload_n hx hb dMH_fits_199 rfl (lv_at hl 0 rfl) ?_
              refine lv_aload_n hx hb dMH_fits_200 rfl (lv_at hl 2 rfl) ?_
              refine ty_get (ci := 12) (C := "LatticeKeysModel$Hands") (TT := T_MH) (N := 31) (kd := (48, 0)) hx hb hts (wg_ft i_MH) hown hK hO k_h0 (nxg hc0 k_h0 rfl) hP (fun _ h9 => h9) rfl 24 (by decide) (hts _ (wg_t kw_1456)) (fun _ h9 => h9) (cd := (1, 0, 8)) rfl dMH_fits_201 (fun v23 hv23 => ?_)
              obtain rfl := (show v23 = .int (nI 8) from hv23)
              refine mi_ge (tgt := 321) hx hb dMH_fits_204 (by decide) (by omega) (by omega) (fun h23 => ?_) (fun h23 => absurd h23 (by omega))
              refine lv_iload_n hx hb dMH_fits_321 rfl (lv_at hl 1 rfl) ?_
              refine va_gets hx hb (hE.2.1 27 _ rfl).1 hS hown (hts _ (wg_t kw_1912)) (fun _ h9 => h9) dMH_fits_322 ?_
              refine lv_aload_n hx hb dMH_fits_325 rfl (lv_at hl 2 rfl) ?_
              refine ty_get (ci := 12) (C := "LatticeKeysModel$Hands") (TT := T_MH) (N := 31) (kd := (48, 0)) hx hb hts (wg_ft i_MH) hown hK hO k_h0 (nxg hc0 k_h0 rfl) hP (fun _ h9 => h9) rfl 23 (by decide) (hts _ (wg_t kw_1455)) (fun _ h9 => h9) (cd := (1, 0, 2)) rfl dMH_fits_326 (fun v24 hv24 => ?_)
              obtain rfl := (show v24 = .int (nI 2) from hv24)
              refine va_ti (v := .int (nI 75)) hx hb (hE.2.1 27 _ rfl).2 hS (vp_in_nI (by decide) (by decide)) (by decide +kernel) dMH_fits_329 ?_
              refine lv_icmp_gt (tgt := 337) hx hb dMH_fits_330 (by decide) (fun h24 => ?_) (fun h24 => ?_)
              · refine lv_iconst (v := nI 0) hx hb dMH_fits_337 (by decide) ?_
                exact mp_zret hx hb hr hlk rfl hP hD hS pl ⟨(Or.inl rfl), hO⟩ [] rfl rfl rfl (by omega) (by omega) dMH_fits_338
              · refine lv_iconst (v := nI 1) hx hb dMH_fits_333 (by decide) ?_
                refine lv_goto (tgt := 338) hx hb dMH_fits_334 (by decide) ?_
                exact mp_zret hx hb hr hlk rfl hP hD hS pl ⟨(Or.inr rfl), hO⟩ [] rfl rfl rfl (by omega) (by omega) dMH_fits_338
            | succ n23 ih23 =>
              intro i23 z21 pl ls H locs hm23  hl hO hP hD hS
              refine lv_iload_n hx hb dMH_fits_199 rfl (lv_at hl 0 rfl) ?_
              refine lv_aload_n hx hb dMH_fits_200 rfl (lv_at hl 2 rfl) ?_
              refine ty_get (ci := 12) (C := "LatticeKeysModel$Hands") (TT := T_MH) (N := 31) (kd := (48, 0)) hx hb hts (wg_ft i_MH) hown hK hO k_h0 (nxg hc0 k_h0 rfl) hP (fun _ h9 => h9) rfl 24 (by decide) (hts _ (wg_t kw_1456)) (fun _ h9 => h9) (cd := (1, 0, 8)) rfl dMH_fits_201 (fun v25 hv25 => ?_)
              obtain rfl := (show v25 = .int (nI 8) from hv25)
              refine mi_ge (tgt := 321) hx hb dMH_fits_204 (by decide) (by omega) (by omega) (fun h25 => absurd h25 (by omega)) (fun h25 => ?_)
              refine lv_aload_n hx hb dMH_fits_207 rfl (lv_at hl 2 rfl) ?_
              refine lv_aload_n hx hb dMH_fits_208 rfl (lv_at hl 2 rfl) ?_
              refine ty_get (ci := 12) (C := "LatticeKeysModel$Hands") (TT := T_MH) (N := 31) (kd := (48, 0)) hx hb hts (wg_ft i_MH) hown hK hO k_h0 (nxg hc0 k_h0 rfl) hP (fun _ h9 => h9) rfl 5 (by decide) (hts _ (wg_t kw_1437)) (fun _ h9 => h9) (cd := (3, 3, 8)) rfl dMH_fits_209 (fun v26 hv26 => ?_)
              obtain ⟨r21, rfl, kr21⟩ := (show ∃ r : Nat, v26 = .ref r ∧ T r = some (3, 8) from hv26)
              refine lv_iload_n hx hb dMH_fits_212 rfl (lv_at hl 0 rfl) ?_
              refine ty_aald3 hx hb hK hO kr21 (nxg hc0 kr21 rfl) hP (by omega) (by decide) dMH_fits_213 (fun r22 kr22 => ?_)
              refine lv_aload_n hx hb dMH_fits_214 rfl (lv_at hl 2 rfl) ?_
              refine ty_get (ci := 12) (C := "LatticeKeysModel$Hands") (TT := T_MH) (N := 31) (kd := (48, 0)) hx hb hts (wg_ft i_MH) hown hK hO k_h0 (nxg hc0 k_h0 rfl) hP (fun _ h9 => h9) rfl 13 (by decide) (hts _ (wg_t kw_1445)) (fun _ h9 => h9) (cd := (3, 0, 256)) rfl dMH_fits_215 (fun v27 hv27 => ?_)
              obtain ⟨r23, rfl, kr23⟩ := (show ∃ r : Nat, v27 = .ref r ∧ T r = some (0, 256) from hv27)
              refine mp_v (cx := []) (wr := []) hP hD hS hA [] [] rfl rfl rfl (by decide) (va_runV (As := [.ref r22, .ref r23]) (rest := []) F (t_MH_turned_2 l g _ T xs pl hO hU hc0 h0 r22 r23 k_h0 kr22 kr23) (cwV 2 hts (wg_app (wg_c kw_1901 (wg_c kw_1903 (wg_c ks_79 (wg_c kw_13 wg_n)))) kw_1904) rfl rfl rfl (by decide +kernel) ⟨by decide, by decide⟩) (pp_VT (en_ok g) (ci := 12) (kd := (48, 0)) hK hO k_h0 (nxg hc0 k_h0 rfl) (fun _ h9 => ko1 h9) hP hD hS hA hE [] rfl rfl rfl) rfl rfl hl.1 rfl (lv_room (Nat.le_of_ble_eq_true rfl)) dMH_fits_218 ⟨by omega, by omega⟩) (fun  pl H locs hu21 hP hD hS => ?_)
              obtain ⟨hq21, hO⟩ := hu21
              have hP : va_P g.1 vcl ([] ++ pl) _ := hP
              have hD : va_D _ ([] ++ pl) := hD
              refine W.widen (k := 0) (n := 0) (by omega) (by omega) ?_
              refine lv_iconst (v := nI 0) hx hb dMH_fits_221 (by decide) ?_
              refine lv_istore_n (lv' := [(3, .int (nI 0)), (2, .int (nI i23)), (1, .int z21), (0, .ref h0)]) hx hb dMH_fits_222 rfl hl (by decide) rfl (fun ls hl => ?_)
              have lp24 : ∀ (n24 : Nat) (i24 : Nat) (z22 : Int32) (pl : va_W) (ls : Array Slot) (H : Heap) (locs : List Loc), n24 + i24 = 256 → lv_has ls 4 [(3, .int (nI i24)), (2, .int (nI i23)), (1, .int z22), (0, .ref h0)] → okx g T xs pl → va_P g.1 vcl ([] ++ pl) H → va_D A ([] ++ pl) → va_S A s.heap H locs → W p l e ({ frames := 1, cells := 0, slots := 0, locals := 60 } : Room) s m args below meth c H locs 0 0 (MQ below (va_Qi (fun (r : Int32) (u : va_W) => (r = nI 0 ∨ r = nI 1) ∧ okx g T xs u) (po g.1 vcl A (fun (u : va_W) => [] ++ u)) A) args s 0 0 A) (F0 m 223 ls []) := by
                intro n24
                induction n24 with
                | zero =>
                  intro i24 z22 pl ls H locs hm24  hl hO hP hD hS
                  refine lv_iload_n hx hb dMH_fits_223 rfl (lv_at hl 0 rfl) ?_
                  refine lv_sipush (v := nI 256) hx hb dMH_fits_224 (by decide) ?_
                  refine mi_ge (tgt := 315) hx hb dMH_fits_227 (by decide) (by omega) (by omega) (fun h26 => ?_) (fun h26 => absurd h26 (by omega))
                  refine mi_iinc (k := 1) (x := i23) (d := 1) (y := i23 + 1) (lv' := [(2, .int (nI (i23 + 1))), (3, .int (nI i24)), (1, .int z22), (0, .ref h0)]) hx hb dMH_fits_315 hl rfl (by decide) rfl (by decide) rfl (fun ls hl => ?_)
                  refine lv_goto (tgt := 199) hx hb dMH_fits_318 (by decide) ?_
                  exact ih23 (i23 + 1) z22 pl ls H locs (by omega) (lv_sub hl [0, 2, 3] rfl) hO hP hD hS
                | succ n24 ih24 =>
                  intro i24 z22 pl ls H locs hm24  hl hO hP hD hS
                  refine lv_iload_n hx hb dMH_fits_223 rfl (lv_at hl 0 rfl) ?_
                  refine lv_sipush (v := nI 256) hx hb dMH_fits_224 (by decide) ?_
                  refine mi_ge (tgt := 315) hx hb dMH_fits_227 (by decide) (by omega) (by omega) (fun h27 => absurd h27 (by omega)) (fun h27 => ?_)
                  refine lv_aload_n hx hb dMH_fits_230 rfl (lv_at hl 3 rfl) ?_
                  refine ty_get (ci := 12) (C := "LatticeKeysModel$Hands") (TT := T_MH) (N := 31) (kd := (48, 0)) hx hb hts (wg_ft i_MH) hown hK hO k_h0 (nxg hc0 k_h0 rfl) hP (fun _ h9 => h9) rfl 13 (by decide) (hts _ (wg_t kw_1445)) (fun _ h9 => h9) (cd := (3, 0, 256)) rfl dMH_fits_231 (fun v28 hv28 => ?_)
                  obtain ⟨r24, rfl, kr24⟩ := (show ∃ r : Nat, v28 = .ref r ∧ T r = some (0, 256) from hv28)
                  refine lv_iload_n hx hb dMH_fits_234 rfl (lv_at hl 0 rfl) ?_
                  refine ty_iald hx hb hK hO kr24 (nxg hc0 kr24 rfl) hP (vp_in_nI (by omega) (by decide)) dMH_fits_235 (fun z23 => ?_)
                  refine mp_i (cx := []) (wr := []) hP hD hS hA [] [] rfl rfl rfl (by decide) (va_runS (As := [.int z23]) (rest := []) F (t_MH_norm l g _ T xs pl hO hU  z23) (va_cwS 1 hts (wg_app (wg_c kw_1905 (wg_c kw_1906 (wg_c kw_13 wg_n))) kw_1907) rfl rfl rfl (by decide +kernel) ⟨by decide, by decide⟩) (pp_S (en_ok g) hP hD hS hA hE [] rfl rfl) rfl rfl hl.1 rfl (lv_room (Nat.le_of_ble_eq_true rfl)) dMH_fits_236 ⟨by omega, by omega⟩) (fun r25 pl H locs hu22 hP hD hS => ?_)
                  obtain ⟨hq22, hO⟩ := hu22
                  have hP : va_P g.1 vcl ([] ++ pl) _ := hP
                  have hD : va_D _ ([] ++ pl) := hD
                  refine W.widen (k := 0) (n := 0) (by omega) (by omega) ?_
                  refine lv_aload_n hx hb dMH_fits_239 rfl (lv_at hl 3 rfl) ?_
                  refine ty_get (ci := 12) (C := "LatticeKeysModel$Hands") (TT := T_MH) (N := 31) (kd := (48, 0)) hx hb hts (wg_ft i_MH) hown hK hO k_h0 (nxg hc0 k_h0 rfl) hP (fun _ h9 => h9) rfl 28 (by decide) (hts _ (wg_t kw_1460)) (fun _ h9 => h9) (cd := (1, 0, 261888)) rfl dMH_fits_240 (fun v29 hv29 => ?_)
                  obtain rfl := (show v29 = .int (nI 261888) from hv29)
                  refine lv_icmp_lt (tgt := 248) hx hb dMH_fits_243 (by decide) (fun h28 => ?_) (fun h28 => ?_)
                  · refine lv_aload_n hx hb dMH_fits_248 rfl (lv_at hl 3 rfl) ?_
                    refine ty_get (ci := 12) (C := "LatticeKeysModel$Hands") (TT := T_MH) (N := 31) (kd := (48, 0)) hx hb hts (wg_ft i_MH) hown hK hO k_h0 (nxg hc0 k_h0 rfl) hP (fun _ h9 => h9) rfl 11 (by decide) (hts _ (wg_t kw_1443)) (fun _ h9 => h9) (cd := (3, 3, 8)) rfl dMH_fits_249 (fun v30 hv30 => ?_)
                    obtain ⟨r26, rfl, kr25⟩ := (show ∃ r : Nat, v30 = .ref r ∧ T r = some (3, 8) from hv30)
                    refine lv_iload_n hx hb dMH_fits_252 rfl (lv_at hl 1 rfl) ?_
                    refine ty_aald3 hx hb hK hO kr25 (nxg hc0 kr25 rfl) hP (by omega) (by decide) dMH_fits_253 (fun r27 kr26 => ?_)
                    refine lv_iload_n hx hb dMH_fits_254 rfl (lv_at hl 0 rfl) ?_
                    refine lv_aload_n hx hb dMH_fits_255 rfl (lv_at hl 3 rfl) ?_
                    refine lv_aload_n hx hb dMH_fits_256 rfl (lv_at hl 3 rfl) ?_
                    refine ty_get (ci := 12) (C := "LatticeKeysModel$Hands") (TT := T_MH) (N := 31) (kd := (48, 0)) hx hb hts (wg_ft i_MH) hown hK hO k_h0 (nxg hc0 k_h0 rfl) hP (fun _ h9 => h9) rfl 10 (by decide) (hts _ (wg_t kw_1442)) (fun _ h9 => h9) (cd := (3, 3, 8)) rfl dMH_fits_257 (fun v31 hv31 => ?_)
                    obtain ⟨r28, rfl, kr27⟩ := (show ∃ r : Nat, v31 = .ref r ∧ T r = some (3, 8) from hv31)
                    refine lv_iload_n hx hb dMH_fits_260 rfl (lv_at hl 1 rfl) ?_
                    refine ty_aald3 hx hb hK hO kr27 (nxg hc0 kr27 rfl) hP (by omega) (by decide) dMH_fits_261 (fun r29 kr28 => ?_)
                    refine lv_iload_n hx hb dMH_fits_262 rfl (lv_at hl 0 rfl) ?_
                    refine ty_iald hx hb hK hO kr28 (nxg hc0 kr28 rfl) hP (vp_in_nI (by omega) (by decide)) dMH_fits_263 (fun z24 => ?_)
                    refine lv_aload_n hx hb dMH_fits_264 rfl (lv_at hl 3 rfl) ?_
                    refine ty_get (ci := 12) (C := "LatticeKeysModel$Hands") (TT := T_MH) (N := 31) (kd := (48, 0)) hx hb hts (wg_ft i_MH) hown hK hO k_h0 (nxg hc0 k_h0 rfl) hP (fun _ h9 => h9) rfl 13 (by decide) (hts _ (wg_t kw_1445)) (fun _ h9 => h9) (cd := (3, 0, 256)) rfl dMH_fits_265 (fun v32 hv32 => ?_)
                    obtain ⟨r30, rfl, kr29⟩ := (show ∃ r : Nat, v32 = .ref r ∧ T r = some (0, 256) from hv32)
                    refine lv_iload_n hx hb dMH_fits_268 rfl (lv_at hl 0 rfl) ?_
                    refine ty_iald hx hb hK hO kr29 (nxg hc0 kr29 rfl) hP (vp_in_nI (by omega) (by decide)) dMH_fits_269 (fun z25 => ?_)
                    refine lv_iadd hx hb dMH_fits_270 ?_
                    refine mi_any (fun z26 => ?_)
                    refine lv_ldc (v := 8380417) hx hb hown (hts _ (wg_t kw_1429)) dMH_fits_271 ?_
                    refine mi_as (show (8380417 : Int32) = nI 8380417 by decide) ?_
                    refine lv_irem hx hb dMH_fits_273 (nI_ne0 (by omega) (by omega)) ?_
                    refine mi_any (fun z27 => ?_)
                    refine mp_i (cx := []) (wr := []) hP hD hS hA [] [] rfl rfl rfl (by decide) (va_runV (As := [.int z27]) (rest := [.int (nI i24), .ref r27]) F (t_MH_high_2 l g _ T xs pl hO hU hc0 h0 z27 k_h0) (cwV 1 hts (wg_app (wg_c kw_1885 (wg_c kw_1887 (wg_c ks_75 (wg_c kw_13 wg_n)))) kw_1888) rfl rfl rfl (by decide +kernel) ⟨by decide, by decide⟩) (pp_VT (en_ok g) (ci := 12) (kd := (48, 0)) hK hO k_h0 (nxg hc0 k_h0 rfl) (fun _ h9 => ko1 h9) hP hD hS hA hE [] rfl rfl rfl) rfl rfl hl.1 rfl (lv_room (Nat.le_of_ble_eq_true rfl)) dMH_fits_274 ⟨by omega, by omega⟩) (fun r31 pl H locs hu23 hP hD hS => ?_)
                    obtain ⟨hq23, hO⟩ := hu23
                    have hP : va_P g.1 vcl ([] ++ pl) _ := hP
                    have hD : va_D _ ([] ++ pl) := hD
                    refine W.widen (k := 0) (n := 0) (by omega) (by omega) ?_
                    refine lv_aload_n hx hb dMH_fits_277 rfl (lv_at hl 3 rfl) ?_
                    refine lv_aload_n hx hb dMH_fits_278 rfl (lv_at hl 3 rfl) ?_
                    refine ty_get (ci := 12) (C := "LatticeKeysModel$Hands") (TT := T_MH) (N := 31) (kd := (48, 0)) hx hb hts (wg_ft i_MH) hown hK hO k_h0 (nxg hc0 k_h0 rfl) hP (fun _ h9 => h9) rfl 10 (by decide) (hts _ (wg_t kw_1442)) (fun _ h9 => h9) (cd := (3, 3, 8)) rfl dMH_fits_279 (fun v33 hv33 => ?_)
                    obtain ⟨r32, rfl, kr30⟩ := (show ∃ r : Nat, v33 = .ref r ∧ T r = some (3, 8) from hv33)
                    refine lv_iload_n hx hb dMH_fits_282 rfl (lv_at hl 1 rfl) ?_
                    refine ty_aald3 hx hb hK hO kr30 (nxg hc0 kr30 rfl) hP (by omega) (by decide) dMH_fits_283 (fun r33 kr31 => ?_)
                    refine lv_iload_n hx hb dMH_fits_284 rfl (lv_at hl 0 rfl) ?_
                    refine ty_iald hx hb hK hO kr31 (nxg hc0 kr31 rfl) hP (vp_in_nI (by omega) (by decide)) dMH_fits_285 (fun z28 => ?_)
                    refine mp_i (cx := []) (wr := []) hP hD hS hA [] [] rfl rfl rfl (by decide) (va_runV (As := [.int z28]) (rest := [.int r31, .int (nI i24), .ref r27]) F (t_MH_high_2 l g _ T xs pl hO hU hc0 h0 z28 k_h0) (cwV 1 hts (wg_app (wg_c kw_1885 (wg_c kw_1887 (wg_c ks_75 (wg_c kw_13 wg_n)))) kw_1888) rfl rfl rfl (by decide +kernel) ⟨by decide, by decide⟩) (pp_VT (en_ok g) (ci := 12) (kd := (48, 0)) hK hO k_h0 (nxg hc0 k_h0 rfl) (fun _ h9 => ko1 h9) hP hD hS hA hE [] rfl rfl rfl) rfl rfl hl.1 rfl (lv_room (Nat.le_of_ble_eq_true rfl)) dMH_fits_286 ⟨by omega, by omega⟩) (fun r34 pl H locs hu24 hP hD hS => ?_)
                    obtain ⟨hq24, hO⟩ := hu24
                    have hP : va_P g.1 vcl ([] ++ pl) _ := hP
                    have hD : va_D _ ([] ++ pl) := hD
                    refine W.widen (k := 0) (n := 0) (by omega) (by omega) ?_
                    refine lv_icmp_ne (tgt := 296) hx hb dMH_fits_289 (by decide) (fun h29 => ?_) (fun h29 => ?_)
                    · refine lv_iconst (v := nI 1) hx hb dMH_fits_296 (by decide) ?_
                      refine ty_iast hx hb hK hO kr26 (nxg hc0 kr26 rfl) hP hD hS (vp_in_nI (by omega) (by decide)) dMH_fits_297 (fun pl H locs hO hP hD hS => ?_)
                      refine lv_iload_n hx hb dMH_fits_298 rfl (lv_at hl 2 rfl) ?_
                      refine lv_aload_n hx hb dMH_fits_299 rfl (lv_at hl 3 rfl) ?_
                      refine ty_get (ci := 12) (C := "LatticeKeysModel$Hands") (TT := T_MH) (N := 31) (kd := (48, 0)) hx hb hts (wg_ft i_MH) hown hK hO k_h0 (nxg hc0 k_h0 rfl) hP (fun _ h9 => h9) rfl 11 (by decide) (hts _ (wg_t kw_1443)) (fun _ h9 => h9) (cd := (3, 3, 8)) rfl dMH_fits_300 (fun v34 hv34 => ?_)
                      obtain ⟨r35, rfl, kr32⟩ := (show ∃ r : Nat, v34 = .ref r ∧ T r = some (3, 8) from hv34)
                      refine lv_iload_n hx hb dMH_fits_303 rfl (lv_at hl 1 rfl) ?_
                      refine ty_aald3 hx hb hK hO kr32 (nxg hc0 kr32 rfl) hP (by omega) (by decide) dMH_fits_304 (fun r36 kr33 => ?_)
                      refine lv_iload_n hx hb dMH_fits_305 rfl (lv_at hl 0 rfl) ?_
                      refine ty_iald hx hb hK hO kr33 (nxg hc0 kr33 rfl) hP (vp_in_nI (by omega) (by decide)) dMH_fits_306 (fun z29 => ?_)
                      refine lv_iadd hx hb dMH_fits_307 ?_
                      refine mi_any (fun z30 => ?_)
                      refine lv_istore_n (lv' := [(1, .int z30), (3, .int (nI i24)), (2, .int (nI i23)), (0, .ref h0)]) hx hb dMH_fits_308 rfl hl (by decide) rfl (fun ls hl => ?_)
                      refine mi_iinc (k := 1) (x := i24) (d := 1) (y := i24 + 1) (lv' := [(3, .int (nI (i24 + 1))), (1, .int z30), (2, .int (nI i23)), (0, .ref h0)]) hx hb dMH_fits_309 hl rfl (by decide) rfl (by decide) rfl (fun ls hl => ?_)
                      refine lv_goto (tgt := 223) hx hb dMH_fits_312 (by decide) ?_
                      exact ih24 (i24 + 1) z30 pl ls H locs (by omega) (lv_sub hl [0, 2, 1, 3] rfl) hO hP hD hS
                    · refine lv_iconst (v := nI 0) hx hb dMH_fits_292 (by decide) ?_
                      refine lv_goto (tgt := 297) hx hb dMH_fits_293 (by decide) ?_
                      refine ty_iast hx hb hK hO kr26 (nxg hc0 kr26 rfl) hP hD hS (vp_in_nI (by omega) (by decide)) dMH_fits_297 (fun pl H locs hO hP hD hS => ?_)
                      refine lv_iload_n hx hb dMH_fits_298 rfl (lv_at hl 2 rfl) ?_
                      refine lv_aload_n hx hb dMH_fits_299 rfl (lv_at hl 3 rfl) ?_
                      refine ty_get (ci := 12) (C := "LatticeKeysModel$Hands") (TT := T_MH) (N := 31) (kd := (48, 0)) hx hb hts (wg_ft i_MH) hown hK hO k_h0 (nxg hc0 k_h0 rfl) hP (fun _ h9 => h9) rfl 11 (by decide) (hts _ (wg_t kw_1443)) (fun _ h9 => h9) (cd := (3, 3, 8)) rfl dMH_fits_300 (fun v35 hv35 => ?_)
                      obtain ⟨r37, rfl, kr34⟩ := (show ∃ r : Nat, v35 = .ref r ∧ T r = some (3, 8) from hv35)
                      refine lv_iload_n hx hb dMH_fits_303 rfl (lv_at hl 1 rfl) ?_
                      refine ty_aald3 hx hb hK hO kr34 (nxg hc0 kr34 rfl) hP (by omega) (by decide) dMH_fits_304 (fun r38 kr35 => ?_)
                      refine lv_iload_n hx hb dMH_fits_305 rfl (lv_at hl 0 rfl) ?_
                      refine ty_iald hx hb hK hO kr35 (nxg hc0 kr35 rfl) hP (vp_in_nI (by omega) (by decide)) dMH_fits_306 (fun z31 => ?_)
                      refine lv_iadd hx hb dMH_fits_307 ?_
                      refine mi_any (fun z32 => ?_)
                      refine lv_istore_n (lv' := [(1, .int z32), (3, .int (nI i24)), (2, .int (nI i23)), (0, .ref h0)]) hx hb dMH_fits_308 rfl hl (by decide) rfl (fun ls hl => ?_)
                      refine mi_iinc (k := 1) (x := i24) (d := 1) (y := i24 + 1) (lv' := [(3, .int (nI (i24 + 1))), (1, .int z32), (2, .int (nI i23)), (0, .ref h0)]) hx hb dMH_fits_309 hl rfl (by decide) rfl (by decide) rfl (fun ls hl => ?_)
                      refine lv_goto (tgt := 223) hx hb dMH_fits_312 (by decide) ?_
                      exact ih24 (i24 + 1) z32 pl ls H locs (by omega) (lv_sub hl [0, 2, 1, 3] rfl) hO hP hD hS
                  · refine lv_iconst (v := nI 0) hx hb dMH_fits_246 (by decide) ?_
                    exact mp_zret hx hb hr hlk rfl hP hD hS pl ⟨(Or.inl rfl), hO⟩ [] rfl rfl rfl (by omega) (by omega) dMH_fits_247
              exact lp24 256 0 z21 pl ls _ _ (by omega) (lv_sub hl [0, 1, 2, 3] rfl) hO hP hD hS
          exact lp23 8 0 (nI 0) pl ls _ _ (by omega) (lv_sub hl [0, 1, 2] rfl) hO hP hD hS
        | succ n22 ih22 =>
          intro i22 pl ls H locs hm22  hl hO hP hD hS
          refine lv_iload_n hx hb dMH_fits_98 rfl (lv_at hl 0 rfl) ?_
          refine lv_aload_n hx hb dMH_fits_99 rfl (lv_at hl 1 rfl) ?_
          refine ty_get (ci := 12) (C := "LatticeKeysModel$Hands") (TT := T_MH) (N := 31) (kd := (48, 0)) hx hb hts (wg_ft i_MH) hown hK hO k_h0 (nxg hc0 k_h0 rfl) hP (fun _ h9 => h9) rfl 24 (by decide) (hts _ (wg_t kw_1456)) (fun _ h9 => h9) (cd := (1, 0, 8)) rfl dMH_fits_100 (fun v36 hv36 => ?_)
          obtain rfl := (show v36 = .int (nI 8) from hv36)
          refine mi_ge (tgt := 195) hx hb dMH_fits_103 (by decide) (by omega) (by omega) (fun h30 => absurd h30 (by omega)) (fun h30 => ?_)
          refine lv_aload_n hx hb dMH_fits_106 rfl (lv_at hl 1 rfl) ?_
          refine lv_aload_n hx hb dMH_fits_107 rfl (lv_at hl 1 rfl) ?_
          refine ty_get (ci := 12) (C := "LatticeKeysModel$Hands") (TT := T_MH) (N := 31) (kd := (48, 0)) hx hb hts (wg_ft i_MH) hown hK hO k_h0 (nxg hc0 k_h0 rfl) hP (fun _ h9 => h9) rfl 4 (by decide) (hts _ (wg_t kw_1436)) (fun _ h9 => h9) (cd := (3, 3, 8)) rfl dMH_fits_108 (fun v37 hv37 => ?_)
          obtain ⟨r39, rfl, kr36⟩ := (show ∃ r : Nat, v37 = .ref r ∧ T r = some (3, 8) from hv37)
          refine lv_iload_n hx hb dMH_fits_111 rfl (lv_at hl 0 rfl) ?_
          refine ty_aald3 hx hb hK hO kr36 (nxg hc0 kr36 rfl) hP (by omega) (by decide) dMH_fits_112 (fun r40 kr37 => ?_)
          refine lv_aload_n hx hb dMH_fits_113 rfl (lv_at hl 1 rfl) ?_
          refine ty_get (ci := 12) (C := "LatticeKeysModel$Hands") (TT := T_MH) (N := 31) (kd := (48, 0)) hx hb hts (wg_ft i_MH) hown hK hO k_h0 (nxg hc0 k_h0 rfl) hP (fun _ h9 => h9) rfl 13 (by decide) (hts _ (wg_t kw_1445)) (fun _ h9 => h9) (cd := (3, 0, 256)) rfl dMH_fits_114 (fun v38 hv38 => ?_)
          obtain ⟨r41, rfl, kr38⟩ := (show ∃ r : Nat, v38 = .ref r ∧ T r = some (0, 256) from hv38)
          refine mp_v (cx := []) (wr := []) hP hD hS hA [] [] rfl rfl rfl (by decide) (va_runV (As := [.ref r40, .ref r41]) (rest := []) F (t_MH_turned_2 l g _ T xs pl hO hU hc0 h0 r40 r41 k_h0 kr37 kr38) (cwV 2 hts (wg_app (wg_c kw_1901 (wg_c kw_1903 (wg_c ks_79 (wg_c kw_13 wg_n)))) kw_1904) rfl rfl rfl (by decide +kernel) ⟨by decide, by decide⟩) (pp_VT (en_ok g) (ci := 12) (kd := (48, 0)) hK hO k_h0 (nxg hc0 k_h0 rfl) (fun _ h9 => ko1 h9) hP hD hS hA hE [] rfl rfl rfl) rfl rfl hl.1 rfl (lv_room (Nat.le_of_ble_eq_true rfl)) dMH_fits_117 ⟨by omega, by omega⟩) (fun  pl H locs hu25 hP hD hS => ?_)
          obtain ⟨hq25, hO⟩ := hu25
          have hP : va_P g.1 vcl ([] ++ pl) _ := hP
          have hD : va_D _ ([] ++ pl) := hD
          refine W.widen (k := 0) (n := 0) (by omega) (by omega) ?_
          refine lv_iconst (v := nI 0) hx hb dMH_fits_120 (by decide) ?_
          refine lv_istore_n (lv' := [(2, .int (nI 0)), (1, .int (nI i22)), (0, .ref h0)]) hx hb dMH_fits_121 rfl hl (by decide) rfl (fun ls hl => ?_)
          have lp25 : ∀ (n25 : Nat) (i25 : Nat) (pl : va_W) (ls : Array Slot) (H : Heap) (locs : List Loc), n25 + i25 = 256 → lv_has ls 4 [(2, .int (nI i25)), (1, .int (nI i22)), (0, .ref h0)] → okx g T xs pl → va_P g.1 vcl ([] ++ pl) H → va_D A ([] ++ pl) → va_S A s.heap H locs → W p l e ({ frames := 1, cells := 0, slots := 0, locals := 60 } : Room) s m args below meth c H locs 0 0 (MQ below (va_Qi (fun (r : Int32) (u : va_W) => (r = nI 0 ∨ r = nI 1) ∧ okx g T xs u) (po g.1 vcl A (fun (u : va_W) => [] ++ u)) A) args s 0 0 A) (F0 m 122 ls []) := by
            intro n25
            induction n25 with
            | zero =>
              intro i25 pl ls H locs hm25  hl hO hP hD hS
              refine lv_iload_n hx hb dMH_fits_122 rfl (lv_at hl 0 rfl) ?_
              refine lv_sipush (v := nI 256) hx hb dMH_fits_123 (by decide) ?_
              refine mi_ge (tgt := 189) hx hb dMH_fits_126 (by decide) (by omega) (by omega) (fun h31 => ?_) (fun h31 => absurd h31 (by omega))
              refine mi_iinc (k := 1) (x := i22) (d := 1) (y := i22 + 1) (lv' := [(1, .int (nI (i22 + 1))), (2, .int (nI i25)), (0, .ref h0)]) hx hb dMH_fits_189 hl rfl (by decide) rfl (by decide) rfl (fun ls hl => ?_)
              refine lv_goto (tgt := 98) hx hb dMH_fits_192 (by decide) ?_
              exact ih22 (i22 + 1) pl ls H locs (by omega) (lv_sub hl [0, 2] rfl) hO hP hD hS
            | succ n25 ih25 =>
              intro i25 pl ls H locs hm25  hl hO hP hD hS
              refine lv_iload_n hx hb dMH_fits_122 rfl (lv_at hl 0 rfl) ?_
              refine lv_sipush (v := nI 256) hx hb dMH_fits_123 (by decide) ?_
              refine mi_ge (tgt := 189) hx hb dMH_fits_126 (by decide) (by omega) (by omega) (fun h32 => absurd h32 (by omega)) (fun h32 => ?_)
              refine lv_aload_n hx hb dMH_fits_129 rfl (lv_at hl 2 rfl) ?_
              refine ty_get (ci := 12) (C := "LatticeKeysModel$Hands") (TT := T_MH) (N := 31) (kd := (48, 0)) hx hb hts (wg_ft i_MH) hown hK hO k_h0 (nxg hc0 k_h0 rfl) hP (fun _ h9 => h9) rfl 10 (by decide) (hts _ (wg_t kw_1442)) (fun _ h9 => h9) (cd := (3, 3, 8)) rfl dMH_fits_130 (fun v39 hv39 => ?_)
              obtain ⟨r42, rfl, kr39⟩ := (show ∃ r : Nat, v39 = .ref r ∧ T r = some (3, 8) from hv39)
              refine lv_iload_n hx hb dMH_fits_133 rfl (lv_at hl 1 rfl) ?_
              refine ty_aald3 hx hb hK hO kr39 (nxg hc0 kr39 rfl) hP (by omega) (by decide) dMH_fits_134 (fun r43 kr40 => ?_)
              refine lv_iload_n hx hb dMH_fits_135 rfl (lv_at hl 0 rfl) ?_
              refine lv_aload_n hx hb dMH_fits_136 rfl (lv_at hl 2 rfl) ?_
              refine ty_get (ci := 12) (C := "LatticeKeysModel$Hands") (TT := T_MH) (N := 31) (kd := (48, 0)) hx hb hts (wg_ft i_MH) hown hK hO k_h0 (nxg hc0 k_h0 rfl) hP (fun _ h9 => h9) rfl 10 (by decide) (hts _ (wg_t kw_1442)) (fun _ h9 => h9) (cd := (3, 3, 8)) rfl dMH_fits_137 (fun v40 hv40 => ?_)
              obtain ⟨r44, rfl, kr41⟩ := (show ∃ r : Nat, v40 = .ref r ∧ T r = some (3, 8) from hv40)
              refine lv_iload_n hx hb dMH_fits_140 rfl (lv_at hl 1 rfl) ?_
              refine ty_aald3 hx hb hK hO kr41 (nxg hc0 kr41 rfl) hP (by omega) (by decide) dMH_fits_141 (fun r45 kr42 => ?_)
              refine lv_iload_n hx hb dMH_fits_142 rfl (lv_at hl 0 rfl) ?_
              refine ty_iald hx hb hK hO kr42 (nxg hc0 kr42 rfl) hP (vp_in_nI (by omega) (by decide)) dMH_fits_143 (fun z33 => ?_)
              refine lv_aload_n hx hb dMH_fits_144 rfl (lv_at hl 2 rfl) ?_
              refine ty_get (ci := 12) (C := "LatticeKeysModel$Hands") (TT := T_MH) (N := 31) (kd := (48, 0)) hx hb hts (wg_ft i_MH) hown hK hO k_h0 (nxg hc0 k_h0 rfl) hP (fun _ h9 => h9) rfl 13 (by decide) (hts _ (wg_t kw_1445)) (fun _ h9 => h9) (cd := (3, 0, 256)) rfl dMH_fits_145 (fun v41 hv41 => ?_)
              obtain ⟨r46, rfl, kr43⟩ := (show ∃ r : Nat, v41 = .ref r ∧ T r = some (0, 256) from hv41)
              refine lv_iload_n hx hb dMH_fits_148 rfl (lv_at hl 0 rfl) ?_
              refine ty_iald hx hb hK hO kr43 (nxg hc0 kr43 rfl) hP (vp_in_nI (by omega) (by decide)) dMH_fits_149 (fun z34 => ?_)
              refine mp_i (cx := []) (wr := []) hP hD hS hA [] [] rfl rfl rfl (by decide) (va_runS (As := [.int z33, .int z34]) (rest := [.int (nI i25), .ref r43]) F (t_MH_minus l g _ T xs pl hO hU  z33 z34) (va_cwS 2 hts (wg_app (wg_c kw_1865 (wg_c kw_1866 (wg_c kw_13 wg_n))) kw_1867) rfl rfl rfl (by decide +kernel) ⟨by decide, by decide⟩) (pp_S (en_ok g) hP hD hS hA hE [] rfl rfl) rfl rfl hl.1 rfl (lv_room (Nat.le_of_ble_eq_true rfl)) dMH_fits_150 ⟨by omega, by omega⟩) (fun r47 pl H locs hu26 hP hD hS => ?_)
              obtain ⟨hq26, hO⟩ := hu26
              have hP : va_P g.1 vcl ([] ++ pl) _ := hP
              have hD : va_D _ ([] ++ pl) := hD
              refine W.widen (k := 0) (n := 0) (by omega) (by omega) ?_
              refine ty_iast hx hb hK hO kr40 (nxg hc0 kr40 rfl) hP hD hS (vp_in_nI (by omega) (by decide)) dMH_fits_153 (fun pl H locs hO hP hD hS => ?_)
              refine lv_aload_n hx hb dMH_fits_154 rfl (lv_at hl 2 rfl) ?_
              refine lv_aload_n hx hb dMH_fits_155 rfl (lv_at hl 2 rfl) ?_
              refine ty_get (ci := 12) (C := "LatticeKeysModel$Hands") (TT := T_MH) (N := 31) (kd := (48, 0)) hx hb hts (wg_ft i_MH) hown hK hO k_h0 (nxg hc0 k_h0 rfl) hP (fun _ h9 => h9) rfl 10 (by decide) (hts _ (wg_t kw_1442)) (fun _ h9 => h9) (cd := (3, 3, 8)) rfl dMH_fits_156 (fun v42 hv42 => ?_)
              obtain ⟨r48, rfl, kr44⟩ := (show ∃ r : Nat, v42 = .ref r ∧ T r = some (3, 8) from hv42)
              refine lv_iload_n hx hb dMH_fits_159 rfl (lv_at hl 1 rfl) ?_
              refine ty_aald3 hx hb hK hO kr44 (nxg hc0 kr44 rfl) hP (by omega) (by decide) dMH_fits_160 (fun r49 kr45 => ?_)
              refine lv_iload_n hx hb dMH_fits_161 rfl (lv_at hl 0 rfl) ?_
              refine ty_iald hx hb hK hO kr45 (nxg hc0 kr45 rfl) hP (vp_in_nI (by omega) (by decide)) dMH_fits_162 (fun z35 => ?_)
              refine mp_i (cx := []) (wr := []) hP hD hS hA [] [] rfl rfl rfl (by decide) (va_runV (As := [.int z35]) (rest := []) F (t_MH_low_2 l g _ T xs pl hO hU hc0 h0 z35 k_h0) (cwV 1 hts (wg_app (wg_c kw_1889 (wg_c kw_1891 (wg_c ks_76 (wg_c kw_13 wg_n)))) kw_1892) rfl rfl rfl (by decide +kernel) ⟨by decide, by decide⟩) (pp_VT (en_ok g) (ci := 12) (kd := (48, 0)) hK hO k_h0 (nxg hc0 k_h0 rfl) (fun _ h9 => ko1 h9) hP hD hS hA hE [] rfl rfl rfl) rfl rfl hl.1 rfl (lv_room (Nat.le_of_ble_eq_true rfl)) dMH_fits_163 ⟨by omega, by omega⟩) (fun r50 pl H locs hu27 hP hD hS => ?_)
              obtain ⟨hq27, hO⟩ := hu27
              have hP : va_P g.1 vcl ([] ++ pl) _ := hP
              have hD : va_D _ ([] ++ pl) := hD
              refine W.widen (k := 0) (n := 0) (by omega) (by omega) ?_
              refine va_mabs (own := "LatticeKeysModel$Hands") (index := 221) hx hb (hml.trans hl.1.symm) hown (hts _ (wg_t kw_1909)) (hts _ (wg_t kw_1910)) (hts _ (wg_t kw_31)) (hts _ (wg_t kw_1911)) (Nat.le_of_ble_eq_true rfl) (Nat.le_of_ble_eq_true rfl) (by omega) (by omega) dMH_fits_166 ?_
              refine mi_any (fun z36 => ?_)
              refine lv_aload_n hx hb dMH_fits_169 rfl (lv_at hl 2 rfl) ?_
              refine ty_get (ci := 12) (C := "LatticeKeysModel$Hands") (TT := T_MH) (N := 31) (kd := (48, 0)) hx hb hts (wg_ft i_MH) hown hK hO k_h0 (nxg hc0 k_h0 rfl) hP (fun _ h9 => h9) rfl 28 (by decide) (hts _ (wg_t kw_1460)) (fun _ h9 => h9) (cd := (1, 0, 261888)) rfl dMH_fits_170 (fun v43 hv43 => ?_)
              obtain rfl := (show v43 = .int (nI 261888) from hv43)
              refine lv_aload_n hx hb dMH_fits_173 rfl (lv_at hl 2 rfl) ?_
              refine ty_get (ci := 12) (C := "LatticeKeysModel$Hands") (TT := T_MH) (N := 31) (kd := (48, 0)) hx hb hts (wg_ft i_MH) hown hK hO k_h0 (nxg hc0 k_h0 rfl) hP (fun _ h9 => h9) rfl 29 (by decide) (hts _ (wg_t kw_1461)) (fun _ h9 => h9) (cd := (1, 0, 120)) rfl dMH_fits_174 (fun v44 hv44 => ?_)
              obtain rfl := (show v44 = .int (nI 120) from hv44)
              refine mi_isub hx hb dMH_fits_177 (by omega) ?_
              refine mi_as (show nI (261888 - 120) = nI 261768 from rfl) ?_
              refine lv_icmp_lt (tgt := 183) hx hb dMH_fits_178 (by decide) (fun h33 => ?_) (fun h33 => ?_)
              · refine mi_iinc (k := 0) (x := i25) (d := 1) (y := i25 + 1) (lv' := [(2, .int (nI (i25 + 1))), (1, .int (nI i22)), (0, .ref h0)]) hx hb dMH_fits_183 hl rfl (by decide) rfl (by decide) rfl (fun ls hl => ?_)
                refine lv_goto (tgt := 122) hx hb dMH_fits_186 (by decide) ?_
                exact ih25 (i25 + 1) pl ls H locs (by omega) (lv_sub hl [0, 1, 2] rfl) hO hP hD hS
              · refine lv_iconst (v := nI 0) hx hb dMH_fits_181 (by decide) ?_
                exact mp_zret hx hb hr hlk rfl hP hD hS pl ⟨(Or.inl rfl), hO⟩ [] rfl rfl rfl (by omega) (by omega) dMH_fits_182
          exact lp25 256 0 pl ls _ _ (by omega) (lv_sub hl [0, 1, 2] rfl) hO hP hD hS
      exact lp22 8 0 pl ls _ _ (by omega) (lv_sub hl [0, 1] rfl) hO hP hD hS
    | succ n21 ih21 =>
      intro i21 pl ls H locs hm21  hl hO hP hD hS
      refine lv_iload_n hx hb dMH_fits_2 rfl (lv_at hl 0 rfl) ?_
      refine lv_aload_n hx hb dMH_fits_3 rfl (lv_at hl 1 rfl) ?_
      refine ty_get (ci := 12) (C := "LatticeKeysModel$Hands") (TT := T_MH) (N := 31) (kd := (48, 0)) hx hb hts (wg_ft i_MH) hown hK hO k_h0 (nxg hc0 k_h0 rfl) hP (fun _ h9 => h9) rfl 25 (by decide) (hts _ (wg_t kw_1457)) (fun _ h9 => h9) (cd := (1, 0, 7)) rfl dMH_fits_4 (fun v45 hv45 => ?_)
      obtain rfl := (show v45 = .int (nI 7) from hv45)
      refine mi_ge (tgt := 96) hx hb dMH_fits_7 (by decide) (by omega) (by omega) (fun h34 => absurd h34 (by omega)) (fun h34 => ?_)
      refine lv_aload_n hx hb dMH_fits_10 rfl (lv_at hl 1 rfl) ?_
      refine lv_aload_n hx hb dMH_fits_11 rfl (lv_at hl 1 rfl) ?_
      refine ty_get (ci := 12) (C := "LatticeKeysModel$Hands") (TT := T_MH) (N := 31) (kd := (48, 0)) hx hb hts (wg_ft i_MH) hown hK hO k_h0 (nxg hc0 k_h0 rfl) hP (fun _ h9 => h9) rfl 3 (by decide) (hts _ (wg_t kw_1435)) (fun _ h9 => h9) (cd := (3, 3, 7)) rfl dMH_fits_12 (fun v46 hv46 => ?_)
      obtain ⟨r51, rfl, kr46⟩ := (show ∃ r : Nat, v46 = .ref r ∧ T r = some (3, 7) from hv46)
      refine lv_iload_n hx hb dMH_fits_15 rfl (lv_at hl 0 rfl) ?_
      refine ty_aald3 hx hb hK hO kr46 (nxg hc0 kr46 rfl) hP (by omega) (by decide) dMH_fits_16 (fun r52 kr47 => ?_)
      refine lv_aload_n hx hb dMH_fits_17 rfl (lv_at hl 1 rfl) ?_
      refine ty_get (ci := 12) (C := "LatticeKeysModel$Hands") (TT := T_MH) (N := 31) (kd := (48, 0)) hx hb hts (wg_ft i_MH) hown hK hO k_h0 (nxg hc0 k_h0 rfl) hP (fun _ h9 => h9) rfl 13 (by decide) (hts _ (wg_t kw_1445)) (fun _ h9 => h9) (cd := (3, 0, 256)) rfl dMH_fits_18 (fun v47 hv47 => ?_)
      obtain ⟨r53, rfl, kr48⟩ := (show ∃ r : Nat, v47 = .ref r ∧ T r = some (0, 256) from hv47)
      refine mp_v (cx := []) (wr := []) hP hD hS hA [] [] rfl rfl rfl (by decide) (va_runV (As := [.ref r52, .ref r53]) (rest := []) F (t_MH_turned_2 l g _ T xs pl hO hU hc0 h0 r52 r53 k_h0 kr47 kr48) (cwV 2 hts (wg_app (wg_c kw_1901 (wg_c kw_1903 (wg_c ks_79 (wg_c kw_13 wg_n)))) kw_1904) rfl rfl rfl (by decide +kernel) ⟨by decide, by decide⟩) (pp_VT (en_ok g) (ci := 12) (kd := (48, 0)) hK hO k_h0 (nxg hc0 k_h0 rfl) (fun _ h9 => ko1 h9) hP hD hS hA hE [] rfl rfl rfl) rfl rfl hl.1 rfl (lv_room (Nat.le_of_ble_eq_true rfl)) dMH_fits_21 ⟨by omega, by omega⟩) (fun  pl H locs hu28 hP hD hS => ?_)
      obtain ⟨hq28, hO⟩ := hu28
      have hP : va_P g.1 vcl ([] ++ pl) _ := hP
      have hD : va_D _ ([] ++ pl) := hD
      refine W.widen (k := 0) (n := 0) (by omega) (by omega) ?_
      refine lv_iconst (v := nI 0) hx hb dMH_fits_24 (by decide) ?_
      refine lv_istore_n (lv' := [(2, .int (nI 0)), (1, .int (nI i21)), (0, .ref h0)]) hx hb dMH_fits_25 rfl hl (by decide) rfl (fun ls hl => ?_)
      have lp26 : ∀ (n26 : Nat) (i26 : Nat) (pl : va_W) (ls : Array Slot) (H : Heap) (locs : List Loc), n26 + i26 = 256 → lv_has ls 4 [(2, .int (nI i26)), (1, .int (nI i21)), (0, .ref h0)] → okx g T xs pl → va_P g.1 vcl ([] ++ pl) H → va_D A ([] ++ pl) → va_S A s.heap H locs → W p l e ({ frames := 1, cells := 0, slots := 0, locals := 60 } : Room) s m args below meth c H locs 0 0 (MQ below (va_Qi (fun (r : Int32) (u : va_W) => (r = nI 0 ∨ r = nI 1) ∧ okx g T xs u) (po g.1 vcl A (fun (u : va_W) => [] ++ u)) A) args s 0 0 A) (F0 m 26 ls []) := by
        intro n26
        induction n26 with
        | zero =>
          intro i26 pl ls H locs hm26  hl hO hP hD hS
          refine lv_iload_n hx hb dMH_fits_26 rfl (lv_at hl 0 rfl) ?_
          refine lv_sipush (v := nI 256) hx hb dMH_fits_27 (by decide) ?_
          refine mi_ge (tgt := 90) hx hb dMH_fits_30 (by decide) (by omega) (by omega) (fun h35 => ?_) (fun h35 => absurd h35 (by omega))
          refine mi_iinc (k := 1) (x := i21) (d := 1) (y := i21 + 1) (lv' := [(1, .int (nI (i21 + 1))), (2, .int (nI i26)), (0, .ref h0)]) hx hb dMH_fits_90 hl rfl (by decide) rfl (by decide) rfl (fun ls hl => ?_)
          refine lv_goto (tgt := 2) hx hb dMH_fits_93 (by decide) ?_
          exact ih21 (i21 + 1) pl ls H locs (by omega) (lv_sub hl [0, 2] rfl) hO hP hD hS
        | succ n26 ih26 =>
          intro i26 pl ls H locs hm26  hl hO hP hD hS
          refine lv_iload_n hx hb dMH_fits_26 rfl (lv_at hl 0 rfl) ?_
          refine lv_sipush (v := nI 256) hx hb dMH_fits_27 (by decide) ?_
          refine mi_ge (tgt := 90) hx hb dMH_fits_30 (by decide) (by omega) (by omega) (fun h36 => absurd h36 (by omega)) (fun h36 => ?_)
          refine lv_aload_n hx hb dMH_fits_33 rfl (lv_at hl 2 rfl) ?_
          refine ty_get (ci := 12) (C := "LatticeKeysModel$Hands") (TT := T_MH) (N := 31) (kd := (48, 0)) hx hb hts (wg_ft i_MH) hown hK hO k_h0 (nxg hc0 k_h0 rfl) hP (fun _ h9 => h9) rfl 8 (by decide) (hts _ (wg_t kw_1440)) (fun _ h9 => h9) (cd := (3, 3, 7)) rfl dMH_fits_34 (fun v48 hv48 => ?_)
          obtain ⟨r54, rfl, kr49⟩ := (show ∃ r : Nat, v48 = .ref r ∧ T r = some (3, 7) from hv48)
          refine lv_iload_n hx hb dMH_fits_37 rfl (lv_at hl 1 rfl) ?_
          refine ty_aald3 hx hb hK hO kr49 (nxg hc0 kr49 rfl) hP (by omega) (by decide) dMH_fits_38 (fun r55 kr50 => ?_)
          refine lv_iload_n hx hb dMH_fits_39 rfl (lv_at hl 0 rfl) ?_
          refine lv_aload_n hx hb dMH_fits_40 rfl (lv_at hl 2 rfl) ?_
          refine ty_get (ci := 12) (C := "LatticeKeysModel$Hands") (TT := T_MH) (N := 31) (kd := (48, 0)) hx hb hts (wg_ft i_MH) hown hK hO k_h0 (nxg hc0 k_h0 rfl) hP (fun _ h9 => h9) rfl 7 (by decide) (hts _ (wg_t kw_1439)) (fun _ h9 => h9) (cd := (3, 3, 7)) rfl dMH_fits_41 (fun v49 hv49 => ?_)
          obtain ⟨r56, rfl, kr51⟩ := (show ∃ r : Nat, v49 = .ref r ∧ T r = some (3, 7) from hv49)
          refine lv_iload_n hx hb dMH_fits_44 rfl (lv_at hl 1 rfl) ?_
          refine ty_aald3 hx hb hK hO kr51 (nxg hc0 kr51 rfl) hP (by omega) (by decide) dMH_fits_45 (fun r57 kr52 => ?_)
          refine lv_iload_n hx hb dMH_fits_46 rfl (lv_at hl 0 rfl) ?_
          refine ty_iald hx hb hK hO kr52 (nxg hc0 kr52 rfl) hP (vp_in_nI (by omega) (by decide)) dMH_fits_47 (fun z37 => ?_)
          refine lv_aload_n hx hb dMH_fits_48 rfl (lv_at hl 2 rfl) ?_
          refine ty_get (ci := 12) (C := "LatticeKeysModel$Hands") (TT := T_MH) (N := 31) (kd := (48, 0)) hx hb hts (wg_ft i_MH) hown hK hO k_h0 (nxg hc0 k_h0 rfl) hP (fun _ h9 => h9) rfl 13 (by decide) (hts _ (wg_t kw_1445)) (fun _ h9 => h9) (cd := (3, 0, 256)) rfl dMH_fits_49 (fun v50 hv50 => ?_)
          obtain ⟨r58, rfl, kr53⟩ := (show ∃ r : Nat, v50 = .ref r ∧ T r = some (0, 256) from hv50)
          refine lv_iload_n hx hb dMH_fits_52 rfl (lv_at hl 0 rfl) ?_
          refine ty_iald hx hb hK hO kr53 (nxg hc0 kr53 rfl) hP (vp_in_nI (by omega) (by decide)) dMH_fits_53 (fun z38 => ?_)
          refine lv_iadd hx hb dMH_fits_54 ?_
          refine mi_any (fun z39 => ?_)
          refine lv_ldc (v := 8380417) hx hb hown (hts _ (wg_t kw_1429)) dMH_fits_55 ?_
          refine mi_as (show (8380417 : Int32) = nI 8380417 by decide) ?_
          refine lv_irem hx hb dMH_fits_57 (nI_ne0 (by omega) (by omega)) ?_
          refine mi_any (fun z40 => ?_)
          refine ty_iast hx hb hK hO kr50 (nxg hc0 kr50 rfl) hP hD hS (vp_in_nI (by omega) (by decide)) dMH_fits_58 (fun pl H locs hO hP hD hS => ?_)
          refine lv_aload_n hx hb dMH_fits_59 rfl (lv_at hl 2 rfl) ?_
          refine ty_get (ci := 12) (C := "LatticeKeysModel$Hands") (TT := T_MH) (N := 31) (kd := (48, 0)) hx hb hts (wg_ft i_MH) hown hK hO k_h0 (nxg hc0 k_h0 rfl) hP (fun _ h9 => h9) rfl 8 (by decide) (hts _ (wg_t kw_1440)) (fun _ h9 => h9) (cd := (3, 3, 7)) rfl dMH_fits_60 (fun v51 hv51 => ?_)
          obtain ⟨r59, rfl, kr54⟩ := (show ∃ r : Nat, v51 = .ref r ∧ T r = some (3, 7) from hv51)
          refine lv_iload_n hx hb dMH_fits_63 rfl (lv_at hl 1 rfl) ?_
          refine ty_aald3 hx hb hK hO kr54 (nxg hc0 kr54 rfl) hP (by omega) (by decide) dMH_fits_64 (fun r60 kr55 => ?_)
          refine lv_iload_n hx hb dMH_fits_65 rfl (lv_at hl 0 rfl) ?_
          refine ty_iald hx hb hK hO kr55 (nxg hc0 kr55 rfl) hP (vp_in_nI (by omega) (by decide)) dMH_fits_66 (fun z41 => ?_)
          refine mp_i (cx := []) (wr := []) hP hD hS hA [] [] rfl rfl rfl (by decide) (va_runS (As := [.int z41]) (rest := []) F (t_MH_norm l g _ T xs pl hO hU  z41) (va_cwS 1 hts (wg_app (wg_c kw_1905 (wg_c kw_1906 (wg_c kw_13 wg_n))) kw_1907) rfl rfl rfl (by decide +kernel) ⟨by decide, by decide⟩) (pp_S (en_ok g) hP hD hS hA hE [] rfl rfl) rfl rfl hl.1 rfl (lv_room (Nat.le_of_ble_eq_true rfl)) dMH_fits_67 ⟨by omega, by omega⟩) (fun r61 pl H locs hu29 hP hD hS => ?_)
          obtain ⟨hq29, hO⟩ := hu29
          have hP : va_P g.1 vcl ([] ++ pl) _ := hP
          have hD : va_D _ ([] ++ pl) := hD
          refine W.widen (k := 0) (n := 0) (by omega) (by omega) ?_
          refine lv_aload_n hx hb dMH_fits_70 rfl (lv_at hl 2 rfl) ?_
          refine ty_get (ci := 12) (C := "LatticeKeysModel$Hands") (TT := T_MH) (N := 31) (kd := (48, 0)) hx hb hts (wg_ft i_MH) hown hK hO k_h0 (nxg hc0 k_h0 rfl) hP (fun _ h9 => h9) rfl 27 (by decide) (hts _ (wg_t kw_1459)) (fun _ h9 => h9) (cd := (1, 0, 524288)) rfl dMH_fits_71 (fun v52 hv52 => ?_)
          obtain rfl := (show v52 = .int (nI 524288) from hv52)
          refine lv_aload_n hx hb dMH_fits_74 rfl (lv_at hl 2 rfl) ?_
          refine ty_get (ci := 12) (C := "LatticeKeysModel$Hands") (TT := T_MH) (N := 31) (kd := (48, 0)) hx hb hts (wg_ft i_MH) hown hK hO k_h0 (nxg hc0 k_h0 rfl) hP (fun _ h9 => h9) rfl 29 (by decide) (hts _ (wg_t kw_1461)) (fun _ h9 => h9) (cd := (1, 0, 120)) rfl dMH_fits_75 (fun v53 hv53 => ?_)
          obtain rfl := (show v53 = .int (nI 120) from hv53)
          refine mi_isub hx hb dMH_fits_78 (by omega) ?_
          refine mi_as (show nI (524288 - 120) = nI 524168 from rfl) ?_
          refine lv_icmp_lt (tgt := 84) hx hb dMH_fits_79 (by decide) (fun h37 => ?_) (fun h37 => ?_)
          · refine mi_iinc (k := 0) (x := i26) (d := 1) (y := i26 + 1) (lv' := [(2, .int (nI (i26 + 1))), (1, .int (nI i21)), (0, .ref h0)]) hx hb dMH_fits_84 hl rfl (by decide) rfl (by decide) rfl (fun ls hl => ?_)
            refine lv_goto (tgt := 26) hx hb dMH_fits_87 (by decide) ?_
            exact ih26 (i26 + 1) pl ls H locs (by omega) (lv_sub hl [0, 1, 2] rfl) hO hP hD hS
          · refine lv_iconst (v := nI 0) hx hb dMH_fits_82 (by decide) ?_
            exact mp_zret hx hb hr hlk rfl hP hD hS pl ⟨(Or.inl rfl), hO⟩ [] rfl rfl rfl (by omega) (by omega) dMH_fits_83
      exact lp26 256 0 pl ls _ _ (by omega) (lv_sub hl [0, 1, 2] rfl) hO hP hD hS
  exact lp21 7 0 pl ls _ _ (by omega) (lv_sub hl [0, 1] rfl) hO hP hD hS
set_option maxHeartbeats 400000 in
set_option maxRecDepth 100000 in
theorem t_MH_written_0 (l : Launch) (g : Gd) (sz : Nat) (T : Ty) (xs : List Nat) (pl : va_W) (hO : okx g T xs pl) (hU : uni T) (hc0 : clo T xs 0) (h0 to : Nat) (k_h0 : T h0 = some (46, 0)) (k_to : T to = some (1, 8192))  : Met l y_MH_written w_MH_written ({ frames := 1, cells := 0, slots := 0, locals := 26 } : Room) (va_Pc [.ref h0, .ref to] (pr (en g) g.1 vcl sz ([] ++ pl))) (va_Qv (fun (u : va_W) => (True) ∧ okx g T xs u) (po g.1 vcl (va_A ([] ++ pl) sz) (fun (u : va_W) => [] ++ u)) (va_A ([] ++ pl) sz)) 0 0 (va_A ([] ++ pl) sz) := by
  refine mc_entry (cc := c_MH_written) (maxL := 8) (ret := none) (by decide) rfl (Nat.le_of_ble_eq_true rfl) ?_
  intro p e s m args below meth c ls F hr hlk hnm hsz hP hD hE hA hl
  obtain ⟨hx, hb, hml, hown, hts⟩ := id F
  have hK := hE.1
  generalize va_A ([] ++ pl) sz = A at hD hE hA ⊢
  have hS : va_S A s.heap s.heap [] := va_S.rf
  have hl : lv_has ls 8 [(0, .ref h0), (1, .ref to)] := hl
  refine lv_iconst (v := nI 0) hx hb dMH_written_0 (by decide) ?_
  refine lv_istore_n (lv' := [(2, .int (nI 0)), (0, .ref h0), (1, .ref to)]) hx hb dMH_written_1 rfl hl (by decide) rfl (fun ls hl => ?_)
  have lp21 : ∀ (n21 : Nat) (i21 : Nat) (pl : va_W) (ls : Array Slot) (H : Heap) (locs : List Loc), n21 + i21 = 32 → lv_has ls 8 [(2, .int (nI i21)), (0, .ref h0), (1, .ref to)] → okx g T xs pl → va_P g.1 vcl ([] ++ pl) H → va_D A ([] ++ pl) → va_S A s.heap H locs → W p l e ({ frames := 1, cells := 0, slots := 0, locals := 26 } : Room) s m args below meth c H locs 0 0 (MQ below (va_Qv (fun (u : va_W) => (True) ∧ okx g T xs u) (po g.1 vcl A (fun (u : va_W) => [] ++ u)) A) args s 0 0 A) (F0 m 2 ls []) := by
    intro n21
    induction n21 with
    | zero =>
      intro i21 pl ls H locs hm21  hl hO hP hD hS
      refine lv_iload_n hx hb dMH_written_2 rfl (lv_at hl 0 rfl) ?_
      refine lv_aload_n hx hb dMH_written_3 rfl (lv_at hl 1 rfl) ?_
      refine ty_get (ci := 12) (C := "LatticeKeysModel$Hands") (TT := T_MH) (N := 31) (kd := (46, 0)) hx hb hts (wg_ft i_MH) hown hK hO k_h0 (nxg hc0 k_h0 rfl) hP (fun _ h9 => h9) rfl 30 (by decide) (hts _ (wg_t kw_1462)) (fun _ h9 => h9) (cd := (1, 0, 32)) rfl dMH_written_4 (fun v21 hv21 => ?_)
      obtain rfl := (show v21 = .int (nI 32) from hv21)
      refine mi_ge (tgt := 25) hx hb dMH_written_7 (by decide) (by omega) (by omega) (fun h21 => ?_) (fun h21 => absurd h21 (by omega))
      refine lv_aload_n hx hb dMH_written_25 rfl (lv_at hl 1 rfl) ?_
      refine ty_get (ci := 12) (C := "LatticeKeysModel$Hands") (TT := T_MH) (N := 31) (kd := (46, 0)) hx hb hts (wg_ft i_MH) hown hK hO k_h0 (nxg hc0 k_h0 rfl) hP (fun _ h9 => h9) rfl 23 (by decide) (hts _ (wg_t kw_1455)) (fun _ h9 => h9) (cd := (1, 0, 0)) rfl dMH_written_26 (fun v22 hv22 => ?_)
      obtain rfl := (show v22 = .int (nI 0) from hv22)
      refine lv_if_ne (tgt := 37) hx hb dMH_written_29 (by decide) (fun h22 => absurd h22 (by decide)) (fun h22 => ?_)
      refine lv_bipush (v := nI 18) hx hb dMH_written_32 (by decide) ?_
      refine lv_goto (tgt := 39) hx hb dMH_written_34 (by decide) ?_
      refine lv_istore_n (lv' := [(2, .int (nI 18)), (0, .ref h0), (1, .ref to)]) hx hb dMH_written_39 rfl hl (by decide) rfl (fun ls hl => ?_)
      refine lv_bipush (v := nI 8) hx hb dMH_written_40 (by decide) ?_
      refine lv_aload_n hx hb dMH_written_42 rfl (lv_at hl 1 rfl) ?_
      refine ty_get (ci := 12) (C := "LatticeKeysModel$Hands") (TT := T_MH) (N := 31) (kd := (46, 0)) hx hb hts (wg_ft i_MH) hown hK hO k_h0 (nxg hc0 k_h0 rfl) hP (fun _ h9 => h9) rfl 30 (by decide) (hts _ (wg_t kw_1462)) (fun _ h9 => h9) (cd := (1, 0, 32)) rfl dMH_written_43 (fun v23 hv23 => ?_)
      obtain rfl := (show v23 = .int (nI 32) from hv23)
      refine mi_imul hx hb dMH_written_46 ?_
      refine mi_as (show nI (8 * 32) = nI 256 from rfl) ?_
      refine lv_istore_n (lv' := [(3, .int (nI 256)), (2, .int (nI 18)), (0, .ref h0), (1, .ref to)]) hx hb dMH_written_47 rfl hl (by decide) rfl (fun ls hl => ?_)
      refine lv_iconst (v := nI 0) hx hb dMH_written_48 (by decide) ?_
      refine lv_istore (lv' := [(4, .int (nI 0)), (3, .int (nI 256)), (2, .int (nI 18)), (0, .ref h0), (1, .ref to)]) hx hb dMH_written_49 hl (by decide) rfl (fun ls hl => ?_)
      have lp22 : ∀ (n22 : Nat) (i22 : Nat) (az21 : Nat) (pl : va_W) (ls : Array Slot) (H : Heap) (locs : List Loc), n22 + i22 = 4 → (az21 = 256 + 4608 * i22) → lv_has ls 8 [(4, .int (nI i22)), (3, .int (nI az21)), (2, .int (nI 18)), (0, .ref h0), (1, .ref to)] → okx g T xs pl → va_P g.1 vcl ([] ++ pl) H → va_D A ([] ++ pl) → va_S A s.heap H locs → W p l e ({ frames := 1, cells := 0, slots := 0, locals := 26 } : Room) s m args below meth c H locs 0 0 (MQ below (va_Qv (fun (u : va_W) => (True) ∧ okx g T xs u) (po g.1 vcl A (fun (u : va_W) => [] ++ u)) A) args s 0 0 A) (F0 m 51 ls []) := by
        intro n22
        induction n22 with
        | zero =>
          intro i22 az21 pl ls H locs hm22 hi21 hl hO hP hD hS
          refine lv_iload hx hb dMH_written_51 (lv_at hl 0 rfl) ?_
          refine lv_aload_n hx hb dMH_written_53 rfl (lv_at hl 3 rfl) ?_
          refine ty_get (ci := 12) (C := "LatticeKeysModel$Hands") (TT := T_MH) (N := 31) (kd := (46, 0)) hx hb hts (wg_ft i_MH) hown hK hO k_h0 (nxg hc0 k_h0 rfl) hP (fun _ h9 => h9) rfl 25 (by decide) (hts _ (wg_t kw_1457)) (fun _ h9 => h9) (cd := (1, 0, 4)) rfl dMH_written_54 (fun v24 hv24 => ?_)
          obtain rfl := (show v24 = .int (nI 4) from hv24)
          refine mi_ge (tgt := 110) hx hb dMH_written_57 (by decide) (by omega) (by omega) (fun h23 => ?_) (fun h23 => absurd h23 (by omega))
          refine lv_iload_n hx hb dMH_written_110 rfl (lv_at hl 1 rfl) ?_
          refine lv_bipush (v := nI 8) hx hb dMH_written_111 (by decide) ?_
          refine mi_idiv hx hb dMH_written_113 (by omega) (by omega) (by omega) ?_
          refine lv_istore (lv' := [(4, .int (nI (az21 / 8))), (3, .int (nI az21)), (2, .int (nI 18)), (0, .ref h0), (1, .ref to)]) hx hb dMH_written_114 hl (by decide) rfl (fun ls hl => ?_)
          refine lv_iconst (v := nI 0) hx hb dMH_written_116 (by decide) ?_
          refine lv_istore (lv' := [(5, .int (nI 0)), (4, .int (nI (az21 / 8))), (3, .int (nI az21)), (2, .int (nI 18)), (0, .ref h0), (1, .ref to)]) hx hb dMH_written_117 hl (by decide) rfl (fun ls hl => ?_)
          refine lv_iconst (v := nI 0) hx hb dMH_written_119 (by decide) ?_
          refine lv_istore (lv' := [(6, .int (nI 0)), (5, .int (nI 0)), (4, .int (nI (az21 / 8))), (3, .int (nI az21)), (2, .int (nI 18)), (0, .ref h0), (1, .ref to)]) hx hb dMH_written_120 hl (by decide) rfl (fun ls hl => ?_)
          have lp23 : ∀ (n23 : Nat) (i23 : Nat) (pl : va_W) (ls : Array Slot) (H : Heap) (locs : List Loc), n23 + i23 = 84 → lv_has ls 8 [(6, .int (nI i23)), (5, .int (nI 0)), (4, .int (nI (az21 / 8))), (0, .ref h0), (1, .ref to)] → okx g T xs pl → va_P g.1 vcl ([] ++ pl) H → va_D A ([] ++ pl) → va_S A s.heap H locs → W p l e ({ frames := 1, cells := 0, slots := 0, locals := 26 } : Room) s m args below meth c H locs 0 0 (MQ below (va_Qv (fun (u : va_W) => (True) ∧ okx g T xs u) (po g.1 vcl A (fun (u : va_W) => [] ++ u)) A) args s 0 0 A) (F0 m 122 ls []) := by
            intro n23
            induction n23 with
            | zero =>
              intro i23 pl ls H locs hm23  hl hO hP hD hS
              refine lv_iload hx hb dMH_written_122 (lv_at hl 0 rfl) ?_
              refine va_gets hx hb (hE.2.1 27 _ rfl).1 hS hown (hts _ (wg_t kw_1912)) (fun _ h9 => h9) dMH_written_124 ?_
              refine lv_aload_n hx hb dMH_written_127 rfl (lv_at hl 3 rfl) ?_
              refine ty_get (ci := 12) (C := "LatticeKeysModel$Hands") (TT := T_MH) (N := 31) (kd := (46, 0)) hx hb hts (wg_ft i_MH) hown hK hO k_h0 (nxg hc0 k_h0 rfl) hP (fun _ h9 => h9) rfl 23 (by decide) (hts _ (wg_t kw_1455)) (fun _ h9 => h9) (cd := (1, 0, 0)) rfl dMH_written_128 (fun v25 hv25 => ?_)
              obtain rfl := (show v25 = .int (nI 0) from hv25)
              refine va_ti (v := .int (nI 80)) hx hb (hE.2.1 27 _ rfl).2 hS (vp_in_nI (by decide) (by decide)) (by decide +kernel) dMH_written_131 ?_
              refine lv_aload_n hx hb dMH_written_132 rfl (lv_at hl 3 rfl) ?_
              refine ty_get (ci := 12) (C := "LatticeKeysModel$Hands") (TT := T_MH) (N := 31) (kd := (46, 0)) hx hb hts (wg_ft i_MH) hown hK hO k_h0 (nxg hc0 k_h0 rfl) hP (fun _ h9 => h9) rfl 24 (by decide) (hts _ (wg_t kw_1456)) (fun _ h9 => h9) (cd := (1, 0, 4)) rfl dMH_written_133 (fun v26 hv26 => ?_)
              obtain rfl := (show v26 = .int (nI 4) from hv26)
              refine mi_iadd hx hb dMH_written_136 ?_
              refine mi_as (show nI (80 + 4) = nI 84 from rfl) ?_
              refine mi_ge (tgt := 154) hx hb dMH_written_137 (by decide) (by omega) (by omega) (fun h24 => ?_) (fun h24 => absurd h24 (by omega))
              refine lv_iconst (v := nI 0) hx hb dMH_written_154 (by decide) ?_
              refine lv_istore (lv' := [(6, .int (nI 0)), (5, .int (nI 0)), (4, .int (nI (az21 / 8))), (0, .ref h0), (1, .ref to)]) hx hb dMH_written_155 hl (by decide) rfl (fun ls hl => ?_)
              have lp24 : ∀ (n24 : Nat) (i24 : Nat) (my21 : Nat) (pl : va_W) (ls : Array Slot) (H : Heap) (locs : List Loc), n24 + i24 = 4 → (my21 ≤ 256 * i24) → lv_has ls 8 [(6, .int (nI i24)), (5, .int (nI my21)), (4, .int (nI (az21 / 8))), (0, .ref h0), (1, .ref to)] → okx g T xs pl → va_P g.1 vcl ([] ++ pl) H → va_D A ([] ++ pl) → va_S A s.heap H locs → W p l e ({ frames := 1, cells := 0, slots := 0, locals := 26 } : Room) s m args below meth c H locs 0 0 (MQ below (va_Qv (fun (u : va_W) => (True) ∧ okx g T xs u) (po g.1 vcl A (fun (u : va_W) => [] ++ u)) A) args s 0 0 A) (F0 m 157 ls []) := by
                intro n24
                induction n24 with
                | zero =>
                  intro i24 my21 pl ls H locs hm24 hi22 hl hO hP hD hS
                  refine lv_iload hx hb dMH_written_157 (lv_at hl 0 rfl) ?_
                  refine lv_aload_n hx hb dMH_written_159 rfl (lv_at hl 3 rfl) ?_
                  refine ty_get (ci := 12) (C := "LatticeKeysModel$Hands") (TT := T_MH) (N := 31) (kd := (46, 0)) hx hb hts (wg_ft i_MH) hown hK hO k_h0 (nxg hc0 k_h0 rfl) hP (fun _ h9 => h9) rfl 24 (by decide) (hts _ (wg_t kw_1456)) (fun _ h9 => h9) (cd := (1, 0, 4)) rfl dMH_written_160 (fun v27 hv27 => ?_)
                  obtain rfl := (show v27 = .int (nI 4) from hv27)
                  refine mi_ge (tgt := 237) hx hb dMH_written_163 (by decide) (by omega) (by omega) (fun h25 => ?_) (fun h25 => absurd h25 (by omega))
                  exact mp_vret hx hb hr hlk hP hD hS pl ⟨trivial, hO⟩ [] rfl rfl rfl (by omega) (by omega) dMH_written_237
                | succ n24 ih24 =>
                  intro i24 my21 pl ls H locs hm24 hi22 hl hO hP hD hS
                  refine lv_iload hx hb dMH_written_157 (lv_at hl 0 rfl) ?_
                  refine lv_aload_n hx hb dMH_written_159 rfl (lv_at hl 3 rfl) ?_
                  refine ty_get (ci := 12) (C := "LatticeKeysModel$Hands") (TT := T_MH) (N := 31) (kd := (46, 0)) hx hb hts (wg_ft i_MH) hown hK hO k_h0 (nxg hc0 k_h0 rfl) hP (fun _ h9 => h9) rfl 24 (by decide) (hts _ (wg_t kw_1456)) (fun _ h9 => h9) (cd := (1, 0, 4)) rfl dMH_written_160 (fun v28 hv28 => ?_)
                  obtain rfl := (show v28 = .int (nI 4) from hv28)
                  refine mi_ge (tgt := 237) hx hb dMH_written_163 (by decide) (by omega) (by omega) (fun h26 => absurd h26 (by omega)) (fun h26 => ?_)
                  refine lv_iconst (v := nI 0) hx hb dMH_written_166 (by decide) ?_
                  refine lv_istore (lv' := [(7, .int (nI 0)), (6, .int (nI i24)), (5, .int (nI my21)), (4, .int (nI (az21 / 8))), (0, .ref h0), (1, .ref to)]) hx hb dMH_written_167 hl (by decide) rfl (fun ls hl => ?_)
                  have lp25 : ∀ (n25 : Nat) (i25 : Nat) (my22 : Nat) (pl : va_W) (ls : Array Slot) (H : Heap) (locs : List Loc), n25 + i25 = 256 → (my22 ≤ 256 * i24 + i25) → lv_has ls 8 [(7, .int (nI i25)), (6, .int (nI i24)), (5, .int (nI my22)), (4, .int (nI (az21 / 8))), (0, .ref h0), (1, .ref to)] → okx g T xs pl → va_P g.1 vcl ([] ++ pl) H → va_D A ([] ++ pl) → va_S A s.heap H locs → W p l e ({ frames := 1, cells := 0, slots := 0, locals := 26 } : Room) s m args below meth c H locs 0 0 (MQ below (va_Qv (fun (u : va_W) => (True) ∧ okx g T xs u) (po g.1 vcl A (fun (u : va_W) => [] ++ u)) A) args s 0 0 A) (F0 m 169 ls []) := by
                    intro n25
                    induction n25 with
                    | zero =>
                      intro i25 my22 pl ls H locs hm25 hi23 hl hO hP hD hS
                      refine lv_iload hx hb dMH_written_169 (lv_at hl 0 rfl) ?_
                      refine lv_sipush (v := nI 256) hx hb dMH_written_171 (by decide) ?_
                      refine mi_ge (tgt := 212) hx hb dMH_written_174 (by decide) (by omega) (by omega) (fun h27 => ?_) (fun h27 => absurd h27 (by omega))
                      refine lv_aload_n hx hb dMH_written_212 rfl (lv_at hl 5 rfl) ?_
                      refine lv_iload hx hb dMH_written_213 (lv_at hl 3 rfl) ?_
                      refine va_gets hx hb (hE.2.1 27 _ rfl).1 hS hown (hts _ (wg_t kw_1912)) (fun _ h9 => h9) dMH_written_215 ?_
                      refine lv_aload_n hx hb dMH_written_218 rfl (lv_at hl 4 rfl) ?_
                      refine ty_get (ci := 12) (C := "LatticeKeysModel$Hands") (TT := T_MH) (N := 31) (kd := (46, 0)) hx hb hts (wg_ft i_MH) hown hK hO k_h0 (nxg hc0 k_h0 rfl) hP (fun _ h9 => h9) rfl 23 (by decide) (hts _ (wg_t kw_1455)) (fun _ h9 => h9) (cd := (1, 0, 0)) rfl dMH_written_219 (fun v29 hv29 => ?_)
                      obtain rfl := (show v29 = .int (nI 0) from hv29)
                      refine va_ti (v := .int (nI 80)) hx hb (hE.2.1 27 _ rfl).2 hS (vp_in_nI (by decide) (by decide)) (by decide +kernel) dMH_written_222 ?_
                      refine mi_iadd hx hb dMH_written_223 ?_
                      refine lv_iload hx hb dMH_written_224 (lv_at hl 1 rfl) ?_
                      refine mi_iadd hx hb dMH_written_226 ?_
                      refine lv_iload hx hb dMH_written_227 (lv_at hl 2 rfl) ?_
                      refine lv_i2b hx hb dMH_written_229 rfl ?_
                      refine mi_any (fun z21 => ?_)
                      refine ty_bast hx hb hK hO k_to (nxg hc0 k_to rfl) hP hD hS (vp_in_nI (by omega) (by decide)) dMH_written_230 (fun pl H locs hO hP hD hS => ?_)
                      refine mi_iinc (k := 1) (x := i24) (d := 1) (y := i24 + 1) (lv' := [(6, .int (nI (i24 + 1))), (7, .int (nI i25)), (5, .int (nI my22)), (4, .int (nI (az21 / 8))), (0, .ref h0), (1, .ref to)]) hx hb dMH_written_231 hl rfl (by decide) rfl (by decide) rfl (fun ls hl => ?_)
                      refine lv_goto (tgt := 157) hx hb dMH_written_234 (by decide) ?_
                      exact ih24 (i24 + 1) my22 pl ls H locs (by omega) (by omega) (lv_sub hl [0, 2, 3, 4, 5] rfl) hO hP hD hS
                    | succ n25 ih25 =>
                      intro i25 my22 pl ls H locs hm25 hi23 hl hO hP hD hS
                      refine lv_iload hx hb dMH_written_169 (lv_at hl 0 rfl) ?_
                      refine lv_sipush (v := nI 256) hx hb dMH_written_171 (by decide) ?_
                      refine mi_ge (tgt := 212) hx hb dMH_written_174 (by decide) (by omega) (by omega) (fun h28 => absurd h28 (by omega)) (fun h28 => ?_)
                      refine lv_aload_n hx hb dMH_written_177 rfl (lv_at hl 4 rfl) ?_
                      refine ty_get (ci := 12) (C := "LatticeKeysModel$Hands") (TT := T_MH) (N := 31) (kd := (46, 0)) hx hb hts (wg_ft i_MH) hown hK hO k_h0 (nxg hc0 k_h0 rfl) hP (fun _ h9 => h9) rfl 11 (by decide) (hts _ (wg_t kw_1443)) (fun _ h9 => h9) (cd := (3, 3, 8)) rfl dMH_written_178 (fun v30 hv30 => ?_)
                      obtain ⟨r21, rfl, kr21⟩ := (show ∃ r : Nat, v30 = .ref r ∧ T r = some (3, 8) from hv30)
                      refine lv_iload hx hb dMH_written_181 (lv_at hl 1 rfl) ?_
                      refine ty_aald3 hx hb hK hO kr21 (nxg hc0 kr21 rfl) hP (by omega) (by decide) dMH_written_183 (fun r22 kr22 => ?_)
                      refine lv_iload hx hb dMH_written_184 (lv_at hl 0 rfl) ?_
                      refine ty_iald hx hb hK hO kr22 (nxg hc0 kr22 rfl) hP (vp_in_nI (by omega) (by decide)) dMH_written_186 (fun z22 => ?_)
                      refine lv_if_ne (tgt := 193) hx hb dMH_written_187 (by decide) (fun h29 => ?_) (fun h29 => ?_)
                      · refine lv_aload_n hx hb dMH_written_193 rfl (lv_at hl 5 rfl) ?_
                        refine lv_iload hx hb dMH_written_194 (lv_at hl 3 rfl) ?_
                        refine lv_iload hx hb dMH_written_196 (lv_at hl 2 rfl) ?_
                        refine mi_iadd hx hb dMH_written_198 ?_
                        refine lv_iload hx hb dMH_written_199 (lv_at hl 0 rfl) ?_
                        refine lv_i2b hx hb dMH_written_201 rfl ?_
                        refine mi_any (fun z23 => ?_)
                        refine ty_bast hx hb hK hO k_to (nxg hc0 k_to rfl) hP hD hS (vp_in_nI (by omega) (by decide)) dMH_written_202 (fun pl H locs hO hP hD hS => ?_)
                        refine mi_iinc (k := 2) (x := my22) (d := 1) (y := my22 + 1) (lv' := [(5, .int (nI (my22 + 1))), (7, .int (nI i25)), (6, .int (nI i24)), (4, .int (nI (az21 / 8))), (0, .ref h0), (1, .ref to)]) hx hb dMH_written_203 hl rfl (by decide) rfl (by decide) rfl (fun ls hl => ?_)
                        refine mi_iinc (k := 1) (x := i25) (d := 1) (y := i25 + 1) (lv' := [(7, .int (nI (i25 + 1))), (5, .int (nI (my22 + 1))), (6, .int (nI i24)), (4, .int (nI (az21 / 8))), (0, .ref h0), (1, .ref to)]) hx hb dMH_written_206 hl rfl (by decide) rfl (by decide) rfl (fun ls hl => ?_)
                        refine lv_goto (tgt := 169) hx hb dMH_written_209 (by decide) ?_
                        exact ih25 (i25 + 1) (my22 + 1) pl ls H locs (by omega) (by omega) (lv_sub hl [0, 2, 1, 3, 4, 5] rfl) hO hP hD hS
                      · refine lv_goto (tgt := 206) hx hb dMH_written_190 (by decide) ?_
                        refine mi_iinc (k := 0) (x := i25) (d := 1) (y := i25 + 1) (lv' := [(7, .int (nI (i25 + 1))), (6, .int (nI i24)), (5, .int (nI my22)), (4, .int (nI (az21 / 8))), (0, .ref h0), (1, .ref to)]) hx hb dMH_written_206 hl rfl (by decide) rfl (by decide) rfl (fun ls hl => ?_)
                        refine lv_goto (tgt := 169) hx hb dMH_written_209 (by decide) ?_
                        exact ih25 (i25 + 1) my22 pl ls H locs (by omega) (by omega) (lv_sub hl [0, 1, 2, 3, 4, 5] rfl) hO hP hD hS
                  exact lp25 256 0 my21 pl ls _ _ (by omega) (by omega) (lv_sub hl [0, 1, 2, 3, 4, 5] rfl) hO hP hD hS
              exact lp24 4 0 0 pl ls _ _ (by omega) (by omega) (lv_sub hl [0, 1, 2, 3, 4] rfl) hO hP hD hS
            | succ n23 ih23 =>
              intro i23 pl ls H locs hm23  hl hO hP hD hS
              refine lv_iload hx hb dMH_written_122 (lv_at hl 0 rfl) ?_
              refine va_gets hx hb (hE.2.1 27 _ rfl).1 hS hown (hts _ (wg_t kw_1912)) (fun _ h9 => h9) dMH_written_124 ?_
              refine lv_aload_n hx hb dMH_written_127 rfl (lv_at hl 3 rfl) ?_
              refine ty_get (ci := 12) (C := "LatticeKeysModel$Hands") (TT := T_MH) (N := 31) (kd := (46, 0)) hx hb hts (wg_ft i_MH) hown hK hO k_h0 (nxg hc0 k_h0 rfl) hP (fun _ h9 => h9) rfl 23 (by decide) (hts _ (wg_t kw_1455)) (fun _ h9 => h9) (cd := (1, 0, 0)) rfl dMH_written_128 (fun v31 hv31 => ?_)
              obtain rfl := (show v31 = .int (nI 0) from hv31)
              refine va_ti (v := .int (nI 80)) hx hb (hE.2.1 27 _ rfl).2 hS (vp_in_nI (by decide) (by decide)) (by decide +kernel) dMH_written_131 ?_
              refine lv_aload_n hx hb dMH_written_132 rfl (lv_at hl 3 rfl) ?_
              refine ty_get (ci := 12) (C := "LatticeKeysModel$Hands") (TT := T_MH) (N := 31) (kd := (46, 0)) hx hb hts (wg_ft i_MH) hown hK hO k_h0 (nxg hc0 k_h0 rfl) hP (fun _ h9 => h9) rfl 24 (by decide) (hts _ (wg_t kw_1456)) (fun _ h9 => h9) (cd := (1, 0, 4)) rfl dMH_written_133 (fun v32 hv32 => ?_)
              obtain rfl := (show v32 = .int (nI 4) from hv32)
              refine mi_iadd hx hb dMH_written_136 ?_
              refine mi_as (show nI (80 + 4) = nI 84 from rfl) ?_
              refine mi_ge (tgt := 154) hx hb dMH_written_137 (by decide) (by omega) (by omega) (fun h30 => absurd h30 (by omega)) (fun h30 => ?_)
              refine lv_aload_n hx hb dMH_written_140 rfl (lv_at hl 4 rfl) ?_
              refine lv_iload hx hb dMH_written_141 (lv_at hl 2 rfl) ?_
              refine lv_iload hx hb dMH_written_143 (lv_at hl 0 rfl) ?_
              refine mi_iadd hx hb dMH_written_145 ?_
              refine lv_iconst (v := nI 0) hx hb dMH_written_146 (by decide) ?_
              refine ty_bast hx hb hK hO k_to (nxg hc0 k_to rfl) hP hD hS (vp_in_nI (by omega) (by decide)) dMH_written_147 (fun pl H locs hO hP hD hS => ?_)
              refine mi_iinc (k := 0) (x := i23) (d := 1) (y := i23 + 1) (lv' := [(6, .int (nI (i23 + 1))), (5, .int (nI 0)), (4, .int (nI (az21 / 8))), (0, .ref h0), (1, .ref to)]) hx hb dMH_written_148 hl rfl (by decide) rfl (by decide) rfl (fun ls hl => ?_)
              refine lv_goto (tgt := 122) hx hb dMH_written_151 (by decide) ?_
              exact ih23 (i23 + 1) pl ls H locs (by omega) (lv_sub hl [0, 1, 2, 3, 4] rfl) hO hP hD hS
          exact lp23 84 0 pl ls _ _ (by omega) (lv_sub hl [0, 1, 2, 5, 6] rfl) hO hP hD hS
        | succ n22 ih22 =>
          intro i22 az21 pl ls H locs hm22 hi21 hl hO hP hD hS
          refine lv_iload hx hb dMH_written_51 (lv_at hl 0 rfl) ?_
          refine lv_aload_n hx hb dMH_written_53 rfl (lv_at hl 3 rfl) ?_
          refine ty_get (ci := 12) (C := "LatticeKeysModel$Hands") (TT := T_MH) (N := 31) (kd := (46, 0)) hx hb hts (wg_ft i_MH) hown hK hO k_h0 (nxg hc0 k_h0 rfl) hP (fun _ h9 => h9) rfl 25 (by decide) (hts _ (wg_t kw_1457)) (fun _ h9 => h9) (cd := (1, 0, 4)) rfl dMH_written_54 (fun v33 hv33 => ?_)
          obtain rfl := (show v33 = .int (nI 4) from hv33)
          refine mi_ge (tgt := 110) hx hb dMH_written_57 (by decide) (by omega) (by omega) (fun h31 => absurd h31 (by omega)) (fun h31 => ?_)
          refine lv_iconst (v := nI 0) hx hb dMH_written_60 (by decide) ?_
          refine lv_istore (lv' := [(5, .int (nI 0)), (4, .int (nI i22)), (3, .int (nI az21)), (2, .int (nI 18)), (0, .ref h0), (1, .ref to)]) hx hb dMH_written_61 hl (by decide) rfl (fun ls hl => ?_)
          have lp26 : ∀ (n26 : Nat) (i26 : Nat) (az22 : Nat) (pl : va_W) (ls : Array Slot) (H : Heap) (locs : List Loc), n26 + i26 = 256 → (az22 = 256 + 4608 * i22 + 18 * i26) → lv_has ls 8 [(5, .int (nI i26)), (4, .int (nI i22)), (3, .int (nI az22)), (2, .int (nI 18)), (0, .ref h0), (1, .ref to)] → okx g T xs pl → va_P g.1 vcl ([] ++ pl) H → va_D A ([] ++ pl) → va_S A s.heap H locs → W p l e ({ frames := 1, cells := 0, slots := 0, locals := 26 } : Room) s m args below meth c H locs 0 0 (MQ below (va_Qv (fun (u : va_W) => (True) ∧ okx g T xs u) (po g.1 vcl A (fun (u : va_W) => [] ++ u)) A) args s 0 0 A) (F0 m 63 ls []) := by
            intro n26
            induction n26 with
            | zero =>
              intro i26 az22 pl ls H locs hm26 hi24 hl hO hP hD hS
              refine lv_iload hx hb dMH_written_63 (lv_at hl 0 rfl) ?_
              refine lv_sipush (v := nI 256) hx hb dMH_written_65 (by decide) ?_
              refine mi_ge (tgt := 104) hx hb dMH_written_68 (by decide) (by omega) (by omega) (fun h32 => ?_) (fun h32 => absurd h32 (by omega))
              refine mi_iinc (k := 1) (x := i22) (d := 1) (y := i22 + 1) (lv' := [(4, .int (nI (i22 + 1))), (5, .int (nI i26)), (3, .int (nI az22)), (2, .int (nI 18)), (0, .ref h0), (1, .ref to)]) hx hb dMH_written_104 hl rfl (by decide) rfl (by decide) rfl (fun ls hl => ?_)
              refine lv_goto (tgt := 51) hx hb dMH_written_107 (by decide) ?_
              exact ih22 (i22 + 1) az22 pl ls H locs (by omega) (by omega) (lv_sub hl [0, 2, 3, 4, 5] rfl) hO hP hD hS
            | succ n26 ih26 =>
              intro i26 az22 pl ls H locs hm26 hi24 hl hO hP hD hS
              refine lv_iload hx hb dMH_written_63 (lv_at hl 0 rfl) ?_
              refine lv_sipush (v := nI 256) hx hb dMH_written_65 (by decide) ?_
              refine mi_ge (tgt := 104) hx hb dMH_written_68 (by decide) (by omega) (by omega) (fun h33 => absurd h33 (by omega)) (fun h33 => ?_)
              refine lv_aload_n hx hb dMH_written_71 rfl (lv_at hl 5 rfl) ?_
              refine lv_iload_n hx hb dMH_written_72 rfl (lv_at hl 2 rfl) ?_
              refine lv_iload_n hx hb dMH_written_73 rfl (lv_at hl 3 rfl) ?_
              refine lv_aload_n hx hb dMH_written_74 rfl (lv_at hl 4 rfl) ?_
              refine ty_get (ci := 12) (C := "LatticeKeysModel$Hands") (TT := T_MH) (N := 31) (kd := (46, 0)) hx hb hts (wg_ft i_MH) hown hK hO k_h0 (nxg hc0 k_h0 rfl) hP (fun _ h9 => h9) rfl 27 (by decide) (hts _ (wg_t kw_1459)) (fun _ h9 => h9) (cd := (1, 0, 131072)) rfl dMH_written_75 (fun v34 hv34 => ?_)
              obtain rfl := (show v34 = .int (nI 131072) from hv34)
              refine lv_aload_n hx hb dMH_written_78 rfl (lv_at hl 4 rfl) ?_
              refine ty_get (ci := 12) (C := "LatticeKeysModel$Hands") (TT := T_MH) (N := 31) (kd := (46, 0)) hx hb hts (wg_ft i_MH) hown hK hO k_h0 (nxg hc0 k_h0 rfl) hP (fun _ h9 => h9) rfl 8 (by decide) (hts _ (wg_t kw_1440)) (fun _ h9 => h9) (cd := (3, 3, 7)) rfl dMH_written_79 (fun v35 hv35 => ?_)
              obtain ⟨r23, rfl, kr23⟩ := (show ∃ r : Nat, v35 = .ref r ∧ T r = some (3, 7) from hv35)
              refine lv_iload hx hb dMH_written_82 (lv_at hl 1 rfl) ?_
              refine ty_aald3 hx hb hK hO kr23 (nxg hc0 kr23 rfl) hP (by omega) (by decide) dMH_written_84 (fun r24 kr24 => ?_)
              refine lv_iload hx hb dMH_written_85 (lv_at hl 0 rfl) ?_
              refine ty_iald hx hb hK hO kr24 (nxg hc0 kr24 rfl) hP (vp_in_nI (by omega) (by decide)) dMH_written_87 (fun z24 => ?_)
              refine mp_i (cx := []) (wr := []) hP hD hS hA [] [] rfl rfl rfl (by decide) (va_runS (As := [.int (nI 131072), .int z24]) (rest := [.int (nI 18), .int (nI az22), .ref to]) F (t_MH_minus l g _ T xs pl hO hU  (nI 131072) z24) (va_cwS 2 hts (wg_app (wg_c kw_1865 (wg_c kw_1866 (wg_c kw_13 wg_n))) kw_1867) rfl rfl rfl (by decide +kernel) ⟨by decide, by decide⟩) (pp_S (en_ok g) hP hD hS hA hE [] rfl rfl) rfl rfl hl.1 rfl (lv_room (Nat.le_of_ble_eq_true rfl)) dMH_written_88 ⟨by omega, by omega⟩) (fun r25 pl H locs hu21 hP hD hS => ?_)
              obtain ⟨hq21, hO⟩ := hu21
              have hP : va_P g.1 vcl ([] ++ pl) _ := hP
              have hD : va_D _ ([] ++ pl) := hD
              refine W.widen (k := 0) (n := 0) (by omega) (by omega) ?_
              refine mp_v (cx := []) (wr := []) hP hD hS hA [] [] rfl rfl rfl (by decide) (va_runSN (As := [.ref to, .int (nI az22), .int (nI 18), .int r25]) (rest := []) F (t_M_pack l g _ T xs pl hO hU hc0 to 8192 az22 18 r25 k_to (by omega) (by omega)) ⟨va_cnB 4 hts (wg_in kw_1690) rfl rfl rfl (hE.2.2.2.2.2.2.2.2.2.1) (hts _ (wg_t kw_9)) (by decide +kernel) ⟨by decide, by decide⟩, hts _ (wg_t kw_1689), trivial⟩ (pp_S (en_ok g) hP hD hS hA hE [] rfl rfl) rfl rfl hl.1 rfl (lv_room (Nat.le_of_ble_eq_true rfl)) dMH_written_91 ⟨by omega, by omega⟩) (fun  pl H locs hu22 hP hD hS => ?_)
              obtain ⟨hq22, hO⟩ := hu22
              have hP : va_P g.1 vcl ([] ++ pl) _ := hP
              have hD : va_D _ ([] ++ pl) := hD
              refine W.widen (k := 0) (n := 0) (by omega) (by omega) ?_
              refine lv_iload_n hx hb dMH_written_94 rfl (lv_at hl 2 rfl) ?_
              refine lv_iload_n hx hb dMH_written_95 rfl (lv_at hl 3 rfl) ?_
              refine mi_iadd hx hb dMH_written_96 ?_
              refine lv_istore_n (lv' := [(3, .int (nI (az22 + 18))), (5, .int (nI i26)), (4, .int (nI i22)), (2, .int (nI 18)), (0, .ref h0), (1, .ref to)]) hx hb dMH_written_97 rfl hl (by decide) rfl (fun ls hl => ?_)
              refine mi_iinc (k := 1) (x := i26) (d := 1) (y := i26 + 1) (lv' := [(5, .int (nI (i26 + 1))), (3, .int (nI (az22 + 18))), (4, .int (nI i22)), (2, .int (nI 18)), (0, .ref h0), (1, .ref to)]) hx hb dMH_written_98 hl rfl (by decide) rfl (by decide) rfl (fun ls hl => ?_)
              refine lv_goto (tgt := 63) hx hb dMH_written_101 (by decide) ?_
              exact ih26 (i26 + 1) (az22 + 18) pl ls H locs (by omega) (by omega) (lv_sub hl [0, 2, 1, 3, 4, 5] rfl) hO hP hD hS
          exact lp26 256 0 az21 pl ls _ _ (by omega) (by omega) (lv_sub hl [0, 1, 2, 3, 4, 5] rfl) hO hP hD hS
      exact lp22 4 0 256 pl ls _ _ (by omega) (by omega) (lv_sub hl [0, 1, 2, 3, 4] rfl) hO hP hD hS
    | succ n21 ih21 =>
      intro i21 pl ls H locs hm21  hl hO hP hD hS
      refine lv_iload_n hx hb dMH_written_2 rfl (lv_at hl 0 rfl) ?_
      refine lv_aload_n hx hb dMH_written_3 rfl (lv_at hl 1 rfl) ?_
      refine ty_get (ci := 12) (C := "LatticeKeysModel$Hands") (TT := T_MH) (N := 31) (kd := (46, 0)) hx hb hts (wg_ft i_MH) hown hK hO k_h0 (nxg hc0 k_h0 rfl) hP (fun _ h9 => h9) rfl 30 (by decide) (hts _ (wg_t kw_1462)) (fun _ h9 => h9) (cd := (1, 0, 32)) rfl dMH_written_4 (fun v36 hv36 => ?_)
      obtain rfl := (show v36 = .int (nI 32) from hv36)
      refine mi_ge (tgt := 25) hx hb dMH_written_7 (by decide) (by omega) (by omega) (fun h34 => absurd h34 (by omega)) (fun h34 => ?_)
      refine lv_aload_n hx hb dMH_written_10 rfl (lv_at hl 2 rfl) ?_
      refine lv_iload_n hx hb dMH_written_11 rfl (lv_at hl 0 rfl) ?_
      refine lv_aload_n hx hb dMH_written_12 rfl (lv_at hl 1 rfl) ?_
      refine ty_get (ci := 12) (C := "LatticeKeysModel$Hands") (TT := T_MH) (N := 31) (kd := (46, 0)) hx hb hts (wg_ft i_MH) hown hK hO k_h0 (nxg hc0 k_h0 rfl) hP (fun _ h9 => h9) rfl 20 (by decide) (hts _ (wg_t kw_1452)) (fun _ h9 => h9) (cd := (3, 1, 64)) rfl dMH_written_13 (fun v37 hv37 => ?_)
      obtain ⟨r26, rfl, kr25⟩ := (show ∃ r : Nat, v37 = .ref r ∧ T r = some (1, 64) from hv37)
      refine lv_iload_n hx hb dMH_written_16 rfl (lv_at hl 0 rfl) ?_
      refine ty_bald hx hb hK hO kr25 (nxg hc0 kr25 rfl) hP (vp_in_nI (by omega) (by decide)) dMH_written_17 (fun z25 => ?_)
      refine ty_bast hx hb hK hO k_to (nxg hc0 k_to rfl) hP hD hS (vp_in_nI (by omega) (by decide)) dMH_written_18 (fun pl H locs hO hP hD hS => ?_)
      refine mi_iinc (k := 0) (x := i21) (d := 1) (y := i21 + 1) (lv' := [(2, .int (nI (i21 + 1))), (0, .ref h0), (1, .ref to)]) hx hb dMH_written_19 hl rfl (by decide) rfl (by decide) rfl (fun ls hl => ?_)
      refine lv_goto (tgt := 2) hx hb dMH_written_22 (by decide) ?_
      exact ih21 (i21 + 1) pl ls H locs (by omega) (lv_sub hl [0, 1, 2] rfl) hO hP hD hS
  exact lp21 32 0 pl ls _ _ (by omega) (lv_sub hl [0, 1, 2] rfl) hO hP hD hS
set_option maxHeartbeats 400000 in
set_option maxRecDepth 100000 in
theorem t_MH_written_1 (l : Launch) (g : Gd) (sz : Nat) (T : Ty) (xs : List Nat) (pl : va_W) (hO : okx g T xs pl) (hU : uni T) (hc0 : clo T xs 0) (h0 to : Nat) (k_h0 : T h0 = some (47, 0)) (k_to : T to = some (1, 8192))  : Met l y_MH_written w_MH_written ({ frames := 1, cells := 0, slots := 0, locals := 26 } : Room) (va_Pc [.ref h0, .ref to] (pr (en g) g.1 vcl sz ([] ++ pl))) (va_Qv (fun (u : va_W) => (True) ∧ okx g T xs u) (po g.1 vcl (va_A ([] ++ pl) sz) (fun (u : va_W) => [] ++ u)) (va_A ([] ++ pl) sz)) 0 0 (va_A ([] ++ pl) sz) := by
  refine mc_entry (cc := c_MH_written) (maxL := 8) (ret := none) (by decide) rfl (Nat.le_of_ble_eq_true rfl) ?_
  intro p e s m args below meth c ls F hr hlk hnm hsz hP hD hE hA hl
  obtain ⟨hx, hb, hml, hown, hts⟩ := id F
  have hK := hE.1
  generalize va_A ([] ++ pl) sz = A at hD hE hA ⊢
  have hS : va_S A s.heap s.heap [] := va_S.rf
  have hl : lv_has ls 8 [(0, .ref h0), (1, .ref to)] := hl
  refine lv_iconst (v := nI 0) hx hb dMH_written_0 (by decide) ?_
  refine lv_istore_n (lv' := [(2, .int (nI 0)), (0, .ref h0), (1, .ref to)]) hx hb dMH_written_1 rfl hl (by decide) rfl (fun ls hl => ?_)
  have lp21 : ∀ (n21 : Nat) (i21 : Nat) (pl : va_W) (ls : Array Slot) (H : Heap) (locs : List Loc), n21 + i21 = 48 → lv_has ls 8 [(2, .int (nI i21)), (0, .ref h0), (1, .ref to)] → okx g T xs pl → va_P g.1 vcl ([] ++ pl) H → va_D A ([] ++ pl) → va_S A s.heap H locs → W p l e ({ frames := 1, cells := 0, slots := 0, locals := 26 } : Room) s m args below meth c H locs 0 0 (MQ below (va_Qv (fun (u : va_W) => (True) ∧ okx g T xs u) (po g.1 vcl A (fun (u : va_W) => [] ++ u)) A) args s 0 0 A) (F0 m 2 ls []) := by
    intro n21
    induction n21 with
    | zero =>
      intro i21 pl ls H locs hm21  hl hO hP hD hS
      refine lv_iload_n hx hb dMH_written_2 rfl (lv_at hl 0 rfl) ?_
      refine lv_aload_n hx hb dMH_written_3 rfl (lv_at hl 1 rfl) ?_
      refine ty_get (ci := 12) (C := "LatticeKeysModel$Hands") (TT := T_MH) (N := 31) (kd := (47, 0)) hx hb hts (wg_ft i_MH) hown hK hO k_h0 (nxg hc0 k_h0 rfl) hP (fun _ h9 => h9) rfl 30 (by decide) (hts _ (wg_t kw_1462)) (fun _ h9 => h9) (cd := (1, 0, 48)) rfl dMH_written_4 (fun v21 hv21 => ?_)
      obtain rfl := (show v21 = .int (nI 48) from hv21)
      refine mi_ge (tgt := 25) hx hb dMH_written_7 (by decide) (by omega) (by omega) (fun h21 => ?_) (fun h21 => absurd h21 (by omega))
      refine lv_aload_n hx hb dMH_written_25 rfl (lv_at hl 1 rfl) ?_
      refine ty_get (ci := 12) (C := "LatticeKeysModel$Hands") (TT := T_MH) (N := 31) (kd := (47, 0)) hx hb hts (wg_ft i_MH) hown hK hO k_h0 (nxg hc0 k_h0 rfl) hP (fun _ h9 => h9) rfl 23 (by decide) (hts _ (wg_t kw_1455)) (fun _ h9 => h9) (cd := (1, 0, 1)) rfl dMH_written_26 (fun v22 hv22 => ?_)
      obtain rfl := (show v22 = .int (nI 1) from hv22)
      refine lv_if_ne (tgt := 37) hx hb dMH_written_29 (by decide) (fun h22 => ?_) (fun h22 => absurd h22 (by decide))
      refine lv_bipush (v := nI 20) hx hb dMH_written_37 (by decide) ?_
      refine lv_istore_n (lv' := [(2, .int (nI 20)), (0, .ref h0), (1, .ref to)]) hx hb dMH_written_39 rfl hl (by decide) rfl (fun ls hl => ?_)
      refine lv_bipush (v := nI 8) hx hb dMH_written_40 (by decide) ?_
      refine lv_aload_n hx hb dMH_written_42 rfl (lv_at hl 1 rfl) ?_
      refine ty_get (ci := 12) (C := "LatticeKeysModel$Hands") (TT := T_MH) (N := 31) (kd := (47, 0)) hx hb hts (wg_ft i_MH) hown hK hO k_h0 (nxg hc0 k_h0 rfl) hP (fun _ h9 => h9) rfl 30 (by decide) (hts _ (wg_t kw_1462)) (fun _ h9 => h9) (cd := (1, 0, 48)) rfl dMH_written_43 (fun v23 hv23 => ?_)
      obtain rfl := (show v23 = .int (nI 48) from hv23)
      refine mi_imul hx hb dMH_written_46 ?_
      refine mi_as (show nI (8 * 48) = nI 384 from rfl) ?_
      refine lv_istore_n (lv' := [(3, .int (nI 384)), (2, .int (nI 20)), (0, .ref h0), (1, .ref to)]) hx hb dMH_written_47 rfl hl (by decide) rfl (fun ls hl => ?_)
      refine lv_iconst (v := nI 0) hx hb dMH_written_48 (by decide) ?_
      refine lv_istore (lv' := [(4, .int (nI 0)), (3, .int (nI 384)), (2, .int (nI 20)), (0, .ref h0), (1, .ref to)]) hx hb dMH_written_49 hl (by decide) rfl (fun ls hl => ?_)
      have lp22 : ∀ (n22 : Nat) (i22 : Nat) (az21 : Nat) (pl : va_W) (ls : Array Slot) (H : Heap) (locs : List Loc), n22 + i22 = 5 → (az21 = 384 + 5120 * i22) → lv_has ls 8 [(4, .int (nI i22)), (3, .int (nI az21)), (2, .int (nI 20)), (0, .ref h0), (1, .ref to)] → okx g T xs pl → va_P g.1 vcl ([] ++ pl) H → va_D A ([] ++ pl) → va_S A s.heap H locs → W p l e ({ frames := 1, cells := 0, slots := 0, locals := 26 } : Room) s m args below meth c H locs 0 0 (MQ below (va_Qv (fun (u : va_W) => (True) ∧ okx g T xs u) (po g.1 vcl A (fun (u : va_W) => [] ++ u)) A) args s 0 0 A) (F0 m 51 ls []) := by
        intro n22
        induction n22 with
        | zero =>
          intro i22 az21 pl ls H locs hm22 hi21 hl hO hP hD hS
          refine lv_iload hx hb dMH_written_51 (lv_at hl 0 rfl) ?_
          refine lv_aload_n hx hb dMH_written_53 rfl (lv_at hl 3 rfl) ?_
          refine ty_get (ci := 12) (C := "LatticeKeysModel$Hands") (TT := T_MH) (N := 31) (kd := (47, 0)) hx hb hts (wg_ft i_MH) hown hK hO k_h0 (nxg hc0 k_h0 rfl) hP (fun _ h9 => h9) rfl 25 (by decide) (hts _ (wg_t kw_1457)) (fun _ h9 => h9) (cd := (1, 0, 5)) rfl dMH_written_54 (fun v24 hv24 => ?_)
          obtain rfl := (show v24 = .int (nI 5) from hv24)
          refine mi_ge (tgt := 110) hx hb dMH_written_57 (by decide) (by omega) (by omega) (fun h23 => ?_) (fun h23 => absurd h23 (by omega))
          refine lv_iload_n hx hb dMH_written_110 rfl (lv_at hl 1 rfl) ?_
          refine lv_bipush (v := nI 8) hx hb dMH_written_111 (by decide) ?_
          refine mi_idiv hx hb dMH_written_113 (by omega) (by omega) (by omega) ?_
          refine lv_istore (lv' := [(4, .int (nI (az21 / 8))), (3, .int (nI az21)), (2, .int (nI 20)), (0, .ref h0), (1, .ref to)]) hx hb dMH_written_114 hl (by decide) rfl (fun ls hl => ?_)
          refine lv_iconst (v := nI 0) hx hb dMH_written_116 (by decide) ?_
          refine lv_istore (lv' := [(5, .int (nI 0)), (4, .int (nI (az21 / 8))), (3, .int (nI az21)), (2, .int (nI 20)), (0, .ref h0), (1, .ref to)]) hx hb dMH_written_117 hl (by decide) rfl (fun ls hl => ?_)
          refine lv_iconst (v := nI 0) hx hb dMH_written_119 (by decide) ?_
          refine lv_istore (lv' := [(6, .int (nI 0)), (5, .int (nI 0)), (4, .int (nI (az21 / 8))), (3, .int (nI az21)), (2, .int (nI 20)), (0, .ref h0), (1, .ref to)]) hx hb dMH_written_120 hl (by decide) rfl (fun ls hl => ?_)
          have lp23 : ∀ (n23 : Nat) (i23 : Nat) (pl : va_W) (ls : Array Slot) (H : Heap) (locs : List Loc), n23 + i23 = 61 → lv_has ls 8 [(6, .int (nI i23)), (5, .int (nI 0)), (4, .int (nI (az21 / 8))), (0, .ref h0), (1, .ref to)] → okx g T xs pl → va_P g.1 vcl ([] ++ pl) H → va_D A ([] ++ pl) → va_S A s.heap H locs → W p l e ({ frames := 1, cells := 0, slots := 0, locals := 26 } : Room) s m args below meth c H locs 0 0 (MQ below (va_Qv (fun (u : va_W) => (True) ∧ okx g T xs u) (po g.1 vcl A (fun (u : va_W) => [] ++ u)) A) args s 0 0 A) (F0 m 122 ls []) := by
            intro n23
            induction n23 with
            | zero =>
              intro i23 pl ls H locs hm23  hl hO hP hD hS
              refine lv_iload hx hb dMH_written_122 (lv_at hl 0 rfl) ?_
              refine va_gets hx hb (hE.2.1 27 _ rfl).1 hS hown (hts _ (wg_t kw_1912)) (fun _ h9 => h9) dMH_written_124 ?_
              refine lv_aload_n hx hb dMH_written_127 rfl (lv_at hl 3 rfl) ?_
              refine ty_get (ci := 12) (C := "LatticeKeysModel$Hands") (TT := T_MH) (N := 31) (kd := (47, 0)) hx hb hts (wg_ft i_MH) hown hK hO k_h0 (nxg hc0 k_h0 rfl) hP (fun _ h9 => h9) rfl 23 (by decide) (hts _ (wg_t kw_1455)) (fun _ h9 => h9) (cd := (1, 0, 1)) rfl dMH_written_128 (fun v25 hv25 => ?_)
              obtain rfl := (show v25 = .int (nI 1) from hv25)
              refine va_ti (v := .int (nI 55)) hx hb (hE.2.1 27 _ rfl).2 hS (vp_in_nI (by decide) (by decide)) (by decide +kernel) dMH_written_131 ?_
              refine lv_aload_n hx hb dMH_written_132 rfl (lv_at hl 3 rfl) ?_
              refine ty_get (ci := 12) (C := "LatticeKeysModel$Hands") (TT := T_MH) (N := 31) (kd := (47, 0)) hx hb hts (wg_ft i_MH) hown hK hO k_h0 (nxg hc0 k_h0 rfl) hP (fun _ h9 => h9) rfl 24 (by decide) (hts _ (wg_t kw_1456)) (fun _ h9 => h9) (cd := (1, 0, 6)) rfl dMH_written_133 (fun v26 hv26 => ?_)
              obtain rfl := (show v26 = .int (nI 6) from hv26)
              refine mi_iadd hx hb dMH_written_136 ?_
              refine mi_as (show nI (55 + 6) = nI 61 from rfl) ?_
              refine mi_ge (tgt := 154) hx hb dMH_written_137 (by decide) (by omega) (by omega) (fun h24 => ?_) (fun h24 => absurd h24 (by omega))
              refine lv_iconst (v := nI 0) hx hb dMH_written_154 (by decide) ?_
              refine lv_istore (lv' := [(6, .int (nI 0)), (5, .int (nI 0)), (4, .int (nI (az21 / 8))), (0, .ref h0), (1, .ref to)]) hx hb dMH_written_155 hl (by decide) rfl (fun ls hl => ?_)
              have lp24 : ∀ (n24 : Nat) (i24 : Nat) (my21 : Nat) (pl : va_W) (ls : Array Slot) (H : Heap) (locs : List Loc), n24 + i24 = 6 → (my21 ≤ 256 * i24) → lv_has ls 8 [(6, .int (nI i24)), (5, .int (nI my21)), (4, .int (nI (az21 / 8))), (0, .ref h0), (1, .ref to)] → okx g T xs pl → va_P g.1 vcl ([] ++ pl) H → va_D A ([] ++ pl) → va_S A s.heap H locs → W p l e ({ frames := 1, cells := 0, slots := 0, locals := 26 } : Room) s m args below meth c H locs 0 0 (MQ below (va_Qv (fun (u : va_W) => (True) ∧ okx g T xs u) (po g.1 vcl A (fun (u : va_W) => [] ++ u)) A) args s 0 0 A) (F0 m 157 ls []) := by
                intro n24
                induction n24 with
                | zero =>
                  intro i24 my21 pl ls H locs hm24 hi22 hl hO hP hD hS
                  refine lv_iload hx hb dMH_written_157 (lv_at hl 0 rfl) ?_
                  refine lv_aload_n hx hb dMH_written_159 rfl (lv_at hl 3 rfl) ?_
                  refine ty_get (ci := 12) (C := "LatticeKeysModel$Hands") (TT := T_MH) (N := 31) (kd := (47, 0)) hx hb hts (wg_ft i_MH) hown hK hO k_h0 (nxg hc0 k_h0 rfl) hP (fun _ h9 => h9) rfl 24 (by decide) (hts _ (wg_t kw_1456)) (fun _ h9 => h9) (cd := (1, 0, 6)) rfl dMH_written_160 (fun v27 hv27 => ?_)
                  obtain rfl := (show v27 = .int (nI 6) from hv27)
                  refine mi_ge (tgt := 237) hx hb dMH_written_163 (by decide) (by omega) (by omega) (fun h25 => ?_) (fun h25 => absurd h25 (by omega))
                  exact mp_vret hx hb hr hlk hP hD hS pl ⟨trivial, hO⟩ [] rfl rfl rfl (by omega) (by omega) dMH_written_237
                | succ n24 ih24 =>
                  intro i24 my21 pl ls H locs hm24 hi22 hl hO hP hD hS
                  refine lv_iload hx hb dMH_written_157 (lv_at hl 0 rfl) ?_
                  refine lv_aload_n hx hb dMH_written_159 rfl (lv_at hl 3 rfl) ?_
                  refine ty_get (ci := 12) (C := "LatticeKeysModel$Hands") (TT := T_MH) (N := 31) (kd := (47, 0)) hx hb hts (wg_ft i_MH) hown hK hO k_h0 (nxg hc0 k_h0 rfl) hP (fun _ h9 => h9) rfl 24 (by decide) (hts _ (wg_t kw_1456)) (fun _ h9 => h9) (cd := (1, 0, 6)) rfl dMH_written_160 (fun v28 hv28 => ?_)
                  obtain rfl := (show v28 = .int (nI 6) from hv28)
                  refine mi_ge (tgt := 237) hx hb dMH_written_163 (by decide) (by omega) (by omega) (fun h26 => absurd h26 (by omega)) (fun h26 => ?_)
                  refine lv_iconst (v := nI 0) hx hb dMH_written_166 (by decide) ?_
                  refine lv_istore (lv' := [(7, .int (nI 0)), (6, .int (nI i24)), (5, .int (nI my21)), (4, .int (nI (az21 / 8))), (0, .ref h0), (1, .ref to)]) hx hb dMH_written_167 hl (by decide) rfl (fun ls hl => ?_)
                  have lp25 : ∀ (n25 : Nat) (i25 : Nat) (my22 : Nat) (pl : va_W) (ls : Array Slot) (H : Heap) (locs : List Loc), n25 + i25 = 256 → (my22 ≤ 256 * i24 + i25) → lv_has ls 8 [(7, .int (nI i25)), (6, .int (nI i24)), (5, .int (nI my22)), (4, .int (nI (az21 / 8))), (0, .ref h0), (1, .ref to)] → okx g T xs pl → va_P g.1 vcl ([] ++ pl) H → va_D A ([] ++ pl) → va_S A s.heap H locs → W p l e ({ frames := 1, cells := 0, slots := 0, locals := 26 } : Room) s m args below meth c H locs 0 0 (MQ below (va_Qv (fun (u : va_W) => (True) ∧ okx g T xs u) (po g.1 vcl A (fun (u : va_W) => [] ++ u)) A) args s 0 0 A) (F0 m 169 ls []) := by
                    intro n25
                    induction n25 with
                    | zero =>
                      intro i25 my22 pl ls H locs hm25 hi23 hl hO hP hD hS
                      refine lv_iload hx hb dMH_written_169 (lv_at hl 0 rfl) ?_
                      refine lv_sipush (v := nI 256) hx hb dMH_written_171 (by decide) ?_
                      refine mi_ge (tgt := 212) hx hb dMH_written_174 (by decide) (by omega) (by omega) (fun h27 => ?_) (fun h27 => absurd h27 (by omega))
                      refine lv_aload_n hx hb dMH_written_212 rfl (lv_at hl 5 rfl) ?_
                      refine lv_iload hx hb dMH_written_213 (lv_at hl 3 rfl) ?_
                      refine va_gets hx hb (hE.2.1 27 _ rfl).1 hS hown (hts _ (wg_t kw_1912)) (fun _ h9 => h9) dMH_written_215 ?_
                      refine lv_aload_n hx hb dMH_written_218 rfl (lv_at hl 4 rfl) ?_
                      refine ty_get (ci := 12) (C := "LatticeKeysModel$Hands") (TT := T_MH) (N := 31) (kd := (47, 0)) hx hb hts (wg_ft i_MH) hown hK hO k_h0 (nxg hc0 k_h0 rfl) hP (fun _ h9 => h9) rfl 23 (by decide) (hts _ (wg_t kw_1455)) (fun _ h9 => h9) (cd := (1, 0, 1)) rfl dMH_written_219 (fun v29 hv29 => ?_)
                      obtain rfl := (show v29 = .int (nI 1) from hv29)
                      refine va_ti (v := .int (nI 55)) hx hb (hE.2.1 27 _ rfl).2 hS (vp_in_nI (by decide) (by decide)) (by decide +kernel) dMH_written_222 ?_
                      refine mi_iadd hx hb dMH_written_223 ?_
                      refine lv_iload hx hb dMH_written_224 (lv_at hl 1 rfl) ?_
                      refine mi_iadd hx hb dMH_written_226 ?_
                      refine lv_iload hx hb dMH_written_227 (lv_at hl 2 rfl) ?_
                      refine lv_i2b hx hb dMH_written_229 rfl ?_
                      refine mi_any (fun z21 => ?_)
                      refine ty_bast hx hb hK hO k_to (nxg hc0 k_to rfl) hP hD hS (vp_in_nI (by omega) (by decide)) dMH_written_230 (fun pl H locs hO hP hD hS => ?_)
                      refine mi_iinc (k := 1) (x := i24) (d := 1) (y := i24 + 1) (lv' := [(6, .int (nI (i24 + 1))), (7, .int (nI i25)), (5, .int (nI my22)), (4, .int (nI (az21 / 8))), (0, .ref h0), (1, .ref to)]) hx hb dMH_written_231 hl rfl (by decide) rfl (by decide) rfl (fun ls hl => ?_)
                      refine lv_goto (tgt := 157) hx hb dMH_written_234 (by decide) ?_
                      exact ih24 (i24 + 1) my22 pl ls H locs (by omega) (by omega) (lv_sub hl [0, 2, 3, 4, 5] rfl) hO hP hD hS
                    | succ n25 ih25 =>
                      intro i25 my22 pl ls H locs hm25 hi23 hl hO hP hD hS
                      refine lv_iload hx hb dMH_written_169 (lv_at hl 0 rfl) ?_
                      refine lv_sipush (v := nI 256) hx hb dMH_written_171 (by decide) ?_
                      refine mi_ge (tgt := 212) hx hb dMH_written_174 (by decide) (by omega) (by omega) (fun h28 => absurd h28 (by omega)) (fun h28 => ?_)
                      refine lv_aload_n hx hb dMH_written_177 rfl (lv_at hl 4 rfl) ?_
                      refine ty_get (ci := 12) (C := "LatticeKeysModel$Hands") (TT := T_MH) (N := 31) (kd := (47, 0)) hx hb hts (wg_ft i_MH) hown hK hO k_h0 (nxg hc0 k_h0 rfl) hP (fun _ h9 => h9) rfl 11 (by decide) (hts _ (wg_t kw_1443)) (fun _ h9 => h9) (cd := (3, 3, 8)) rfl dMH_written_178 (fun v30 hv30 => ?_)
                      obtain ⟨r21, rfl, kr21⟩ := (show ∃ r : Nat, v30 = .ref r ∧ T r = some (3, 8) from hv30)
                      refine lv_iload hx hb dMH_written_181 (lv_at hl 1 rfl) ?_
                      refine ty_aald3 hx hb hK hO kr21 (nxg hc0 kr21 rfl) hP (by omega) (by decide) dMH_written_183 (fun r22 kr22 => ?_)
                      refine lv_iload hx hb dMH_written_184 (lv_at hl 0 rfl) ?_
                      refine ty_iald hx hb hK hO kr22 (nxg hc0 kr22 rfl) hP (vp_in_nI (by omega) (by decide)) dMH_written_186 (fun z22 => ?_)
                      refine lv_if_ne (tgt := 193) hx hb dMH_written_187 (by decide) (fun h29 => ?_) (fun h29 => ?_)
                      · refine lv_aload_n hx hb dMH_written_193 rfl (lv_at hl 5 rfl) ?_
                        refine lv_iload hx hb dMH_written_194 (lv_at hl 3 rfl) ?_
                        refine lv_iload hx hb dMH_written_196 (lv_at hl 2 rfl) ?_
                        refine mi_iadd hx hb dMH_written_198 ?_
                        refine lv_iload hx hb dMH_written_199 (lv_at hl 0 rfl) ?_
                        refine lv_i2b hx hb dMH_written_201 rfl ?_
                        refine mi_any (fun z23 => ?_)
                        refine ty_bast hx hb hK hO k_to (nxg hc0 k_to rfl) hP hD hS (vp_in_nI (by omega) (by decide)) dMH_written_202 (fun pl H locs hO hP hD hS => ?_)
                        refine mi_iinc (k := 2) (x := my22) (d := 1) (y := my22 + 1) (lv' := [(5, .int (nI (my22 + 1))), (7, .int (nI i25)), (6, .int (nI i24)), (4, .int (nI (az21 / 8))), (0, .ref h0), (1, .ref to)]) hx hb dMH_written_203 hl rfl (by decide) rfl (by decide) rfl (fun ls hl => ?_)
                        refine mi_iinc (k := 1) (x := i25) (d := 1) (y := i25 + 1) (lv' := [(7, .int (nI (i25 + 1))), (5, .int (nI (my22 + 1))), (6, .int (nI i24)), (4, .int (nI (az21 / 8))), (0, .ref h0), (1, .ref to)]) hx hb dMH_written_206 hl rfl (by decide) rfl (by decide) rfl (fun ls hl => ?_)
                        refine lv_goto (tgt := 169) hx hb dMH_written_209 (by decide) ?_
                        exact ih25 (i25 + 1) (my22 + 1) pl ls H locs (by omega) (by omega) (lv_sub hl [0, 2, 1, 3, 4, 5] rfl) hO hP hD hS
                      · refine lv_goto (tgt := 206) hx hb dMH_written_190 (by decide) ?_
                        refine mi_iinc (k := 0) (x := i25) (d := 1) (y := i25 + 1) (lv' := [(7, .int (nI (i25 + 1))), (6, .int (nI i24)), (5, .int (nI my22)), (4, .int (nI (az21 / 8))), (0, .ref h0), (1, .ref to)]) hx hb dMH_written_206 hl rfl (by decide) rfl (by decide) rfl (fun ls hl => ?_)
                        refine lv_goto (tgt := 169) hx hb dMH_written_209 (by decide) ?_
                        exact ih25 (i25 + 1) my22 pl ls H locs (by omega) (by omega) (lv_sub hl [0, 1, 2, 3, 4, 5] rfl) hO hP hD hS
                  exact lp25 256 0 my21 pl ls _ _ (by omega) (by omega) (lv_sub hl [0, 1, 2, 3, 4, 5] rfl) hO hP hD hS
              exact lp24 6 0 0 pl ls _ _ (by omega) (by omega) (lv_sub hl [0, 1, 2, 3, 4] rfl) hO hP hD hS
            | succ n23 ih23 =>
              intro i23 pl ls H locs hm23  hl hO hP hD hS
              refine lv_iload hx hb dMH_written_122 (lv_at hl 0 rfl) ?_
              refine va_gets hx hb (hE.2.1 27 _ rfl).1 hS hown (hts _ (wg_t kw_1912)) (fun _ h9 => h9) dMH_written_124 ?_
              refine lv_aload_n hx hb dMH_written_127 rfl (lv_at hl 3 rfl) ?_
              refine ty_get (ci := 12) (C := "LatticeKeysModel$Hands") (TT := T_MH) (N := 31) (kd := (47, 0)) hx hb hts (wg_ft i_MH) hown hK hO k_h0 (nxg hc0 k_h0 rfl) hP (fun _ h9 => h9) rfl 23 (by decide) (hts _ (wg_t kw_1455)) (fun _ h9 => h9) (cd := (1, 0, 1)) rfl dMH_written_128 (fun v31 hv31 => ?_)
              obtain rfl := (show v31 = .int (nI 1) from hv31)
              refine va_ti (v := .int (nI 55)) hx hb (hE.2.1 27 _ rfl).2 hS (vp_in_nI (by decide) (by decide)) (by decide +kernel) dMH_written_131 ?_
              refine lv_aload_n hx hb dMH_written_132 rfl (lv_at hl 3 rfl) ?_
              refine ty_get (ci := 12) (C := "LatticeKeysModel$Hands") (TT := T_MH) (N := 31) (kd := (47, 0)) hx hb hts (wg_ft i_MH) hown hK hO k_h0 (nxg hc0 k_h0 rfl) hP (fun _ h9 => h9) rfl 24 (by decide) (hts _ (wg_t kw_1456)) (fun _ h9 => h9) (cd := (1, 0, 6)) rfl dMH_written_133 (fun v32 hv32 => ?_)
              obtain rfl := (show v32 = .int (nI 6) from hv32)
              refine mi_iadd hx hb dMH_written_136 ?_
              refine mi_as (show nI (55 + 6) = nI 61 from rfl) ?_
              refine mi_ge (tgt := 154) hx hb dMH_written_137 (by decide) (by omega) (by omega) (fun h30 => absurd h30 (by omega)) (fun h30 => ?_)
              refine lv_aload_n hx hb dMH_written_140 rfl (lv_at hl 4 rfl) ?_
              refine lv_iload hx hb dMH_written_141 (lv_at hl 2 rfl) ?_
              refine lv_iload hx hb dMH_written_143 (lv_at hl 0 rfl) ?_
              refine mi_iadd hx hb dMH_written_145 ?_
              refine lv_iconst (v := nI 0) hx hb dMH_written_146 (by decide) ?_
              refine ty_bast hx hb hK hO k_to (nxg hc0 k_to rfl) hP hD hS (vp_in_nI (by omega) (by decide)) dMH_written_147 (fun pl H locs hO hP hD hS => ?_)
              refine mi_iinc (k := 0) (x := i23) (d := 1) (y := i23 + 1) (lv' := [(6, .int (nI (i23 + 1))), (5, .int (nI 0)), (4, .int (nI (az21 / 8))), (0, .ref h0), (1, .ref to)]) hx hb dMH_written_148 hl rfl (by decide) rfl (by decide) rfl (fun ls hl => ?_)
              refine lv_goto (tgt := 122) hx hb dMH_written_151 (by decide) ?_
              exact ih23 (i23 + 1) pl ls H locs (by omega) (lv_sub hl [0, 1, 2, 3, 4] rfl) hO hP hD hS
          exact lp23 61 0 pl ls _ _ (by omega) (lv_sub hl [0, 1, 2, 5, 6] rfl) hO hP hD hS
        | succ n22 ih22 =>
          intro i22 az21 pl ls H locs hm22 hi21 hl hO hP hD hS
          refine lv_iload hx hb dMH_written_51 (lv_at hl 0 rfl) ?_
          refine lv_aload_n hx hb dMH_written_53 rfl (lv_at hl 3 rfl) ?_
          refine ty_get (ci := 12) (C := "LatticeKeysModel$Hands") (TT := T_MH) (N := 31) (kd := (47, 0)) hx hb hts (wg_ft i_MH) hown hK hO k_h0 (nxg hc0 k_h0 rfl) hP (fun _ h9 => h9) rfl 25 (by decide) (hts _ (wg_t kw_1457)) (fun _ h9 => h9) (cd := (1, 0, 5)) rfl dMH_written_54 (fun v33 hv33 => ?_)
          obtain rfl := (show v33 = .int (nI 5) from hv33)
          refine mi_ge (tgt := 110) hx hb dMH_written_57 (by decide) (by omega) (by omega) (fun h31 => absurd h31 (by omega)) (fun h31 => ?_)
          refine lv_iconst (v := nI 0) hx hb dMH_written_60 (by decide) ?_
          refine lv_istore (lv' := [(5, .int (nI 0)), (4, .int (nI i22)), (3, .int (nI az21)), (2, .int (nI 20)), (0, .ref h0), (1, .ref to)]) hx hb dMH_written_61 hl (by decide) rfl (fun ls hl => ?_)
          have lp26 : ∀ (n26 : Nat) (i26 : Nat) (az22 : Nat) (pl : va_W) (ls : Array Slot) (H : Heap) (locs : List Loc), n26 + i26 = 256 → (az22 = 384 + 5120 * i22 + 20 * i26) → lv_has ls 8 [(5, .int (nI i26)), (4, .int (nI i22)), (3, .int (nI az22)), (2, .int (nI 20)), (0, .ref h0), (1, .ref to)] → okx g T xs pl → va_P g.1 vcl ([] ++ pl) H → va_D A ([] ++ pl) → va_S A s.heap H locs → W p l e ({ frames := 1, cells := 0, slots := 0, locals := 26 } : Room) s m args below meth c H locs 0 0 (MQ below (va_Qv (fun (u : va_W) => (True) ∧ okx g T xs u) (po g.1 vcl A (fun (u : va_W) => [] ++ u)) A) args s 0 0 A) (F0 m 63 ls []) := by
            intro n26
            induction n26 with
            | zero =>
              intro i26 az22 pl ls H locs hm26 hi24 hl hO hP hD hS
              refine lv_iload hx hb dMH_written_63 (lv_at hl 0 rfl) ?_
              refine lv_sipush (v := nI 256) hx hb dMH_written_65 (by decide) ?_
              refine mi_ge (tgt := 104) hx hb dMH_written_68 (by decide) (by omega) (by omega) (fun h32 => ?_) (fun h32 => absurd h32 (by omega))
              refine mi_iinc (k := 1) (x := i22) (d := 1) (y := i22 + 1) (lv' := [(4, .int (nI (i22 + 1))), (5, .int (nI i26)), (3, .int (nI az22)), (2, .int (nI 20)), (0, .ref h0), (1, .ref to)]) hx hb dMH_written_104 hl rfl (by decide) rfl (by decide) rfl (fun ls hl => ?_)
              refine lv_goto (tgt := 51) hx hb dMH_written_107 (by decide) ?_
              exact ih22 (i22 + 1) az22 pl ls H locs (by omega) (by omega) (lv_sub hl [0, 2, 3, 4, 5] rfl) hO hP hD hS
            | succ n26 ih26 =>
              intro i26 az22 pl ls H locs hm26 hi24 hl hO hP hD hS
              refine lv_iload hx hb dMH_written_63 (lv_at hl 0 rfl) ?_
              refine lv_sipush (v := nI 256) hx hb dMH_written_65 (by decide) ?_
              refine mi_ge (tgt := 104) hx hb dMH_written_68 (by decide) (by omega) (by omega) (fun h33 => absurd h33 (by omega)) (fun h33 => ?_)
              refine lv_aload_n hx hb dMH_written_71 rfl (lv_at hl 5 rfl) ?_
              refine lv_iload_n hx hb dMH_written_72 rfl (lv_at hl 2 rfl) ?_
              refine lv_iload_n hx hb dMH_written_73 rfl (lv_at hl 3 rfl) ?_
              refine lv_aload_n hx hb dMH_written_74 rfl (lv_at hl 4 rfl) ?_
              refine ty_get (ci := 12) (C := "LatticeKeysModel$Hands") (TT := T_MH) (N := 31) (kd := (47, 0)) hx hb hts (wg_ft i_MH) hown hK hO k_h0 (nxg hc0 k_h0 rfl) hP (fun _ h9 => h9) rfl 27 (by decide) (hts _ (wg_t kw_1459)) (fun _ h9 => h9) (cd := (1, 0, 524288)) rfl dMH_written_75 (fun v34 hv34 => ?_)
              obtain rfl := (show v34 = .int (nI 524288) from hv34)
              refine lv_aload_n hx hb dMH_written_78 rfl (lv_at hl 4 rfl) ?_
              refine ty_get (ci := 12) (C := "LatticeKeysModel$Hands") (TT := T_MH) (N := 31) (kd := (47, 0)) hx hb hts (wg_ft i_MH) hown hK hO k_h0 (nxg hc0 k_h0 rfl) hP (fun _ h9 => h9) rfl 8 (by decide) (hts _ (wg_t kw_1440)) (fun _ h9 => h9) (cd := (3, 3, 7)) rfl dMH_written_79 (fun v35 hv35 => ?_)
              obtain ⟨r23, rfl, kr23⟩ := (show ∃ r : Nat, v35 = .ref r ∧ T r = some (3, 7) from hv35)
              refine lv_iload hx hb dMH_written_82 (lv_at hl 1 rfl) ?_
              refine ty_aald3 hx hb hK hO kr23 (nxg hc0 kr23 rfl) hP (by omega) (by decide) dMH_written_84 (fun r24 kr24 => ?_)
              refine lv_iload hx hb dMH_written_85 (lv_at hl 0 rfl) ?_
              refine ty_iald hx hb hK hO kr24 (nxg hc0 kr24 rfl) hP (vp_in_nI (by omega) (by decide)) dMH_written_87 (fun z24 => ?_)
              refine mp_i (cx := []) (wr := []) hP hD hS hA [] [] rfl rfl rfl (by decide) (va_runS (As := [.int (nI 524288), .int z24]) (rest := [.int (nI 20), .int (nI az22), .ref to]) F (t_MH_minus l g _ T xs pl hO hU  (nI 524288) z24) (va_cwS 2 hts (wg_app (wg_c kw_1865 (wg_c kw_1866 (wg_c kw_13 wg_n))) kw_1867) rfl rfl rfl (by decide +kernel) ⟨by decide, by decide⟩) (pp_S (en_ok g) hP hD hS hA hE [] rfl rfl) rfl rfl hl.1 rfl (lv_room (Nat.le_of_ble_eq_true rfl)) dMH_written_88 ⟨by omega, by omega⟩) (fun r25 pl H locs hu21 hP hD hS => ?_)
              obtain ⟨hq21, hO⟩ := hu21
              have hP : va_P g.1 vcl ([] ++ pl) _ := hP
              have hD : va_D _ ([] ++ pl) := hD
              refine W.widen (k := 0) (n := 0) (by omega) (by omega) ?_
              refine mp_v (cx := []) (wr := []) hP hD hS hA [] [] rfl rfl rfl (by decide) (va_runSN (As := [.ref to, .int (nI az22), .int (nI 20), .int r25]) (rest := []) F (t_M_pack l g _ T xs pl hO hU hc0 to 8192 az22 20 r25 k_to (by omega) (by omega)) ⟨va_cnB 4 hts (wg_in kw_1690) rfl rfl rfl (hE.2.2.2.2.2.2.2.2.2.1) (hts _ (wg_t kw_9)) (by decide +kernel) ⟨by decide, by decide⟩, hts _ (wg_t kw_1689), trivial⟩ (pp_S (en_ok g) hP hD hS hA hE [] rfl rfl) rfl rfl hl.1 rfl (lv_room (Nat.le_of_ble_eq_true rfl)) dMH_written_91 ⟨by omega, by omega⟩) (fun  pl H locs hu22 hP hD hS => ?_)
              obtain ⟨hq22, hO⟩ := hu22
              have hP : va_P g.1 vcl ([] ++ pl) _ := hP
              have hD : va_D _ ([] ++ pl) := hD
              refine W.widen (k := 0) (n := 0) (by omega) (by omega) ?_
              refine lv_iload_n hx hb dMH_written_94 rfl (lv_at hl 2 rfl) ?_
              refine lv_iload_n hx hb dMH_written_95 rfl (lv_at hl 3 rfl) ?_
              refine mi_iadd hx hb dMH_written_96 ?_
              refine lv_istore_n (lv' := [(3, .int (nI (az22 + 20))), (5, .int (nI i26)), (4, .int (nI i22)), (2, .int (nI 20)), (0, .ref h0), (1, .ref to)]) hx hb dMH_written_97 rfl hl (by decide) rfl (fun ls hl => ?_)
              refine mi_iinc (k := 1) (x := i26) (d := 1) (y := i26 + 1) (lv' := [(5, .int (nI (i26 + 1))), (3, .int (nI (az22 + 20))), (4, .int (nI i22)), (2, .int (nI 20)), (0, .ref h0), (1, .ref to)]) hx hb dMH_written_98 hl rfl (by decide) rfl (by decide) rfl (fun ls hl => ?_)
              refine lv_goto (tgt := 63) hx hb dMH_written_101 (by decide) ?_
              exact ih26 (i26 + 1) (az22 + 20) pl ls H locs (by omega) (by omega) (lv_sub hl [0, 2, 1, 3, 4, 5] rfl) hO hP hD hS
          exact lp26 256 0 az21 pl ls _ _ (by omega) (by omega) (lv_sub hl [0, 1, 2, 3, 4, 5] rfl) hO hP hD hS
      exact lp22 5 0 384 pl ls _ _ (by omega) (by omega) (lv_sub hl [0, 1, 2, 3, 4] rfl) hO hP hD hS
    | succ n21 ih21 =>
      intro i21 pl ls H locs hm21  hl hO hP hD hS
      refine lv_iload_n hx hb dMH_written_2 rfl (lv_at hl 0 rfl) ?_
      refine lv_aload_n hx hb dMH_written_3 rfl (lv_at hl 1 rfl) ?_
      refine ty_get (ci := 12) (C := "LatticeKeysModel$Hands") (TT := T_MH) (N := 31) (kd := (47, 0)) hx hb hts (wg_ft i_MH) hown hK hO k_h0 (nxg hc0 k_h0 rfl) hP (fun _ h9 => h9) rfl 30 (by decide) (hts _ (wg_t kw_1462)) (fun _ h9 => h9) (cd := (1, 0, 48)) rfl dMH_written_4 (fun v36 hv36 => ?_)
      obtain rfl := (show v36 = .int (nI 48) from hv36)
      refine mi_ge (tgt := 25) hx hb dMH_written_7 (by decide) (by omega) (by omega) (fun h34 => absurd h34 (by omega)) (fun h34 => ?_)
      refine lv_aload_n hx hb dMH_written_10 rfl (lv_at hl 2 rfl) ?_
      refine lv_iload_n hx hb dMH_written_11 rfl (lv_at hl 0 rfl) ?_
      refine lv_aload_n hx hb dMH_written_12 rfl (lv_at hl 1 rfl) ?_
      refine ty_get (ci := 12) (C := "LatticeKeysModel$Hands") (TT := T_MH) (N := 31) (kd := (47, 0)) hx hb hts (wg_ft i_MH) hown hK hO k_h0 (nxg hc0 k_h0 rfl) hP (fun _ h9 => h9) rfl 20 (by decide) (hts _ (wg_t kw_1452)) (fun _ h9 => h9) (cd := (3, 1, 64)) rfl dMH_written_13 (fun v37 hv37 => ?_)
      obtain ⟨r26, rfl, kr25⟩ := (show ∃ r : Nat, v37 = .ref r ∧ T r = some (1, 64) from hv37)
      refine lv_iload_n hx hb dMH_written_16 rfl (lv_at hl 0 rfl) ?_
      refine ty_bald hx hb hK hO kr25 (nxg hc0 kr25 rfl) hP (vp_in_nI (by omega) (by decide)) dMH_written_17 (fun z25 => ?_)
      refine ty_bast hx hb hK hO k_to (nxg hc0 k_to rfl) hP hD hS (vp_in_nI (by omega) (by decide)) dMH_written_18 (fun pl H locs hO hP hD hS => ?_)
      refine mi_iinc (k := 0) (x := i21) (d := 1) (y := i21 + 1) (lv' := [(2, .int (nI (i21 + 1))), (0, .ref h0), (1, .ref to)]) hx hb dMH_written_19 hl rfl (by decide) rfl (by decide) rfl (fun ls hl => ?_)
      refine lv_goto (tgt := 2) hx hb dMH_written_22 (by decide) ?_
      exact ih21 (i21 + 1) pl ls H locs (by omega) (lv_sub hl [0, 1, 2] rfl) hO hP hD hS
  exact lp21 48 0 pl ls _ _ (by omega) (lv_sub hl [0, 1, 2] rfl) hO hP hD hS
set_option maxHeartbeats 400000 in
set_option maxRecDepth 100000 in
theorem t_MH_written_2 (l : Launch) (g : Gd) (sz : Nat) (T : Ty) (xs : List Nat) (pl : va_W) (hO : okx g T xs pl) (hU : uni T) (hc0 : clo T xs 0) (h0 to : Nat) (k_h0 : T h0 = some (48, 0)) (k_to : T to = some (1, 8192))  : Met l y_MH_written w_MH_written ({ frames := 1, cells := 0, slots := 0, locals := 26 } : Room) (va_Pc [.ref h0, .ref to] (pr (en g) g.1 vcl sz ([] ++ pl))) (va_Qv (fun (u : va_W) => (True) ∧ okx g T xs u) (po g.1 vcl (va_A ([] ++ pl) sz) (fun (u : va_W) => [] ++ u)) (va_A ([] ++ pl) sz)) 0 0 (va_A ([] ++ pl) sz) := by
  refine mc_entry (cc := c_MH_written) (maxL := 8) (ret := none) (by decide) rfl (Nat.le_of_ble_eq_true rfl) ?_
  intro p e s m args below meth c ls F hr hlk hnm hsz hP hD hE hA hl
  obtain ⟨hx, hb, hml, hown, hts⟩ := id F
  have hK := hE.1
  generalize va_A ([] ++ pl) sz = A at hD hE hA ⊢
  have hS : va_S A s.heap s.heap [] := va_S.rf
  have hl : lv_has ls 8 [(0, .ref h0), (1, .ref to)] := hl
  refine lv_iconst (v := nI 0) hx hb dMH_written_0 (by decide) ?_
  refine lv_istore_n (lv' := [(2, .int (nI 0)), (0, .ref h0), (1, .ref to)]) hx hb dMH_written_1 rfl hl (by decide) rfl (fun ls hl => ?_)
  have lp21 : ∀ (n21 : Nat) (i21 : Nat) (pl : va_W) (ls : Array Slot) (H : Heap) (locs : List Loc), n21 + i21 = 64 → lv_has ls 8 [(2, .int (nI i21)), (0, .ref h0), (1, .ref to)] → okx g T xs pl → va_P g.1 vcl ([] ++ pl) H → va_D A ([] ++ pl) → va_S A s.heap H locs → W p l e ({ frames := 1, cells := 0, slots := 0, locals := 26 } : Room) s m args below meth c H locs 0 0 (MQ below (va_Qv (fun (u : va_W) => (True) ∧ okx g T xs u) (po g.1 vcl A (fun (u : va_W) => [] ++ u)) A) args s 0 0 A) (F0 m 2 ls []) := by
    intro n21
    induction n21 with
    | zero =>
      intro i21 pl ls H locs hm21  hl hO hP hD hS
      refine lv_iload_n hx hb dMH_written_2 rfl (lv_at hl 0 rfl) ?_
      refine lv_aload_n hx hb dMH_written_3 rfl (lv_at hl 1 rfl) ?_
      refine ty_get (ci := 12) (C := "LatticeKeysModel$Hands") (TT := T_MH) (N := 31) (kd := (48, 0)) hx hb hts (wg_ft i_MH) hown hK hO k_h0 (nxg hc0 k_h0 rfl) hP (fun _ h9 => h9) rfl 30 (by decide) (hts _ (wg_t kw_1462)) (fun _ h9 => h9) (cd := (1, 0, 64)) rfl dMH_written_4 (fun v21 hv21 => ?_)
      obtain rfl := (show v21 = .int (nI 64) from hv21)
      refine mi_ge (tgt := 25) hx hb dMH_written_7 (by decide) (by omega) (by omega) (fun h21 => ?_) (fun h21 => absurd h21 (by omega))
      refine lv_aload_n hx hb dMH_written_25 rfl (lv_at hl 1 rfl) ?_
      refine ty_get (ci := 12) (C := "LatticeKeysModel$Hands") (TT := T_MH) (N := 31) (kd := (48, 0)) hx hb hts (wg_ft i_MH) hown hK hO k_h0 (nxg hc0 k_h0 rfl) hP (fun _ h9 => h9) rfl 23 (by decide) (hts _ (wg_t kw_1455)) (fun _ h9 => h9) (cd := (1, 0, 2)) rfl dMH_written_26 (fun v22 hv22 => ?_)
      obtain rfl := (show v22 = .int (nI 2) from hv22)
      refine lv_if_ne (tgt := 37) hx hb dMH_written_29 (by decide) (fun h22 => ?_) (fun h22 => absurd h22 (by decide))
      refine lv_bipush (v := nI 20) hx hb dMH_written_37 (by decide) ?_
      refine lv_istore_n (lv' := [(2, .int (nI 20)), (0, .ref h0), (1, .ref to)]) hx hb dMH_written_39 rfl hl (by decide) rfl (fun ls hl => ?_)
      refine lv_bipush (v := nI 8) hx hb dMH_written_40 (by decide) ?_
      refine lv_aload_n hx hb dMH_written_42 rfl (lv_at hl 1 rfl) ?_
      refine ty_get (ci := 12) (C := "LatticeKeysModel$Hands") (TT := T_MH) (N := 31) (kd := (48, 0)) hx hb hts (wg_ft i_MH) hown hK hO k_h0 (nxg hc0 k_h0 rfl) hP (fun _ h9 => h9) rfl 30 (by decide) (hts _ (wg_t kw_1462)) (fun _ h9 => h9) (cd := (1, 0, 64)) rfl dMH_written_43 (fun v23 hv23 => ?_)
      obtain rfl := (show v23 = .int (nI 64) from hv23)
      refine mi_imul hx hb dMH_written_46 ?_
      refine mi_as (show nI (8 * 64) = nI 512 from rfl) ?_
      refine lv_istore_n (lv' := [(3, .int (nI 512)), (2, .int (nI 20)), (0, .ref h0), (1, .ref to)]) hx hb dMH_written_47 rfl hl (by decide) rfl (fun ls hl => ?_)
      refine lv_iconst (v := nI 0) hx hb dMH_written_48 (by decide) ?_
      refine lv_istore (lv' := [(4, .int (nI 0)), (3, .int (nI 512)), (2, .int (nI 20)), (0, .ref h0), (1, .ref to)]) hx hb dMH_written_49 hl (by decide) rfl (fun ls hl => ?_)
      have lp22 : ∀ (n22 : Nat) (i22 : Nat) (az21 : Nat) (pl : va_W) (ls : Array Slot) (H : Heap) (locs : List Loc), n22 + i22 = 7 → (az21 = 512 + 5120 * i22) → lv_has ls 8 [(4, .int (nI i22)), (3, .int (nI az21)), (2, .int (nI 20)), (0, .ref h0), (1, .ref to)] → okx g T xs pl → va_P g.1 vcl ([] ++ pl) H → va_D A ([] ++ pl) → va_S A s.heap H locs → W p l e ({ frames := 1, cells := 0, slots := 0, locals := 26 } : Room) s m args below meth c H locs 0 0 (MQ below (va_Qv (fun (u : va_W) => (True) ∧ okx g T xs u) (po g.1 vcl A (fun (u : va_W) => [] ++ u)) A) args s 0 0 A) (F0 m 51 ls []) := by
        intro n22
        induction n22 with
        | zero =>
          intro i22 az21 pl ls H locs hm22 hi21 hl hO hP hD hS
          refine lv_iload hx hb dMH_written_51 (lv_at hl 0 rfl) ?_
          refine lv_aload_n hx hb dMH_written_53 rfl (lv_at hl 3 rfl) ?_
          refine ty_get (ci := 12) (C := "LatticeKeysModel$Hands") (TT := T_MH) (N := 31) (kd := (48, 0)) hx hb hts (wg_ft i_MH) hown hK hO k_h0 (nxg hc0 k_h0 rfl) hP (fun _ h9 => h9) rfl 25 (by decide) (hts _ (wg_t kw_1457)) (fun _ h9 => h9) (cd := (1, 0, 7)) rfl dMH_written_54 (fun v24 hv24 => ?_)
          obtain rfl := (show v24 = .int (nI 7) from hv24)
          refine mi_ge (tgt := 110) hx hb dMH_written_57 (by decide) (by omega) (by omega) (fun h23 => ?_) (fun h23 => absurd h23 (by omega))
          refine lv_iload_n hx hb dMH_written_110 rfl (lv_at hl 1 rfl) ?_
          refine lv_bipush (v := nI 8) hx hb dMH_written_111 (by decide) ?_
          refine mi_idiv hx hb dMH_written_113 (by omega) (by omega) (by omega) ?_
          refine lv_istore (lv' := [(4, .int (nI (az21 / 8))), (3, .int (nI az21)), (2, .int (nI 20)), (0, .ref h0), (1, .ref to)]) hx hb dMH_written_114 hl (by decide) rfl (fun ls hl => ?_)
          refine lv_iconst (v := nI 0) hx hb dMH_written_116 (by decide) ?_
          refine lv_istore (lv' := [(5, .int (nI 0)), (4, .int (nI (az21 / 8))), (3, .int (nI az21)), (2, .int (nI 20)), (0, .ref h0), (1, .ref to)]) hx hb dMH_written_117 hl (by decide) rfl (fun ls hl => ?_)
          refine lv_iconst (v := nI 0) hx hb dMH_written_119 (by decide) ?_
          refine lv_istore (lv' := [(6, .int (nI 0)), (5, .int (nI 0)), (4, .int (nI (az21 / 8))), (3, .int (nI az21)), (2, .int (nI 20)), (0, .ref h0), (1, .ref to)]) hx hb dMH_written_120 hl (by decide) rfl (fun ls hl => ?_)
          have lp23 : ∀ (n23 : Nat) (i23 : Nat) (pl : va_W) (ls : Array Slot) (H : Heap) (locs : List Loc), n23 + i23 = 83 → lv_has ls 8 [(6, .int (nI i23)), (5, .int (nI 0)), (4, .int (nI (az21 / 8))), (0, .ref h0), (1, .ref to)] → okx g T xs pl → va_P g.1 vcl ([] ++ pl) H → va_D A ([] ++ pl) → va_S A s.heap H locs → W p l e ({ frames := 1, cells := 0, slots := 0, locals := 26 } : Room) s m args below meth c H locs 0 0 (MQ below (va_Qv (fun (u : va_W) => (True) ∧ okx g T xs u) (po g.1 vcl A (fun (u : va_W) => [] ++ u)) A) args s 0 0 A) (F0 m 122 ls []) := by
            intro n23
            induction n23 with
            | zero =>
              intro i23 pl ls H locs hm23  hl hO hP hD hS
              refine lv_iload hx hb dMH_written_122 (lv_at hl 0 rfl) ?_
              refine va_gets hx hb (hE.2.1 27 _ rfl).1 hS hown (hts _ (wg_t kw_1912)) (fun _ h9 => h9) dMH_written_124 ?_
              refine lv_aload_n hx hb dMH_written_127 rfl (lv_at hl 3 rfl) ?_
              refine ty_get (ci := 12) (C := "LatticeKeysModel$Hands") (TT := T_MH) (N := 31) (kd := (48, 0)) hx hb hts (wg_ft i_MH) hown hK hO k_h0 (nxg hc0 k_h0 rfl) hP (fun _ h9 => h9) rfl 23 (by decide) (hts _ (wg_t kw_1455)) (fun _ h9 => h9) (cd := (1, 0, 2)) rfl dMH_written_128 (fun v25 hv25 => ?_)
              obtain rfl := (show v25 = .int (nI 2) from hv25)
              refine va_ti (v := .int (nI 75)) hx hb (hE.2.1 27 _ rfl).2 hS (vp_in_nI (by decide) (by decide)) (by decide +kernel) dMH_written_131 ?_
              refine lv_aload_n hx hb dMH_written_132 rfl (lv_at hl 3 rfl) ?_
              refine ty_get (ci := 12) (C := "LatticeKeysModel$Hands") (TT := T_MH) (N := 31) (kd := (48, 0)) hx hb hts (wg_ft i_MH) hown hK hO k_h0 (nxg hc0 k_h0 rfl) hP (fun _ h9 => h9) rfl 24 (by decide) (hts _ (wg_t kw_1456)) (fun _ h9 => h9) (cd := (1, 0, 8)) rfl dMH_written_133 (fun v26 hv26 => ?_)
              obtain rfl := (show v26 = .int (nI 8) from hv26)
              refine mi_iadd hx hb dMH_written_136 ?_
              refine mi_as (show nI (75 + 8) = nI 83 from rfl) ?_
              refine mi_ge (tgt := 154) hx hb dMH_written_137 (by decide) (by omega) (by omega) (fun h24 => ?_) (fun h24 => absurd h24 (by omega))
              refine lv_iconst (v := nI 0) hx hb dMH_written_154 (by decide) ?_
              refine lv_istore (lv' := [(6, .int (nI 0)), (5, .int (nI 0)), (4, .int (nI (az21 / 8))), (0, .ref h0), (1, .ref to)]) hx hb dMH_written_155 hl (by decide) rfl (fun ls hl => ?_)
              have lp24 : ∀ (n24 : Nat) (i24 : Nat) (my21 : Nat) (pl : va_W) (ls : Array Slot) (H : Heap) (locs : List Loc), n24 + i24 = 8 → (my21 ≤ 256 * i24) → lv_has ls 8 [(6, .int (nI i24)), (5, .int (nI my21)), (4, .int (nI (az21 / 8))), (0, .ref h0), (1, .ref to)] → okx g T xs pl → va_P g.1 vcl ([] ++ pl) H → va_D A ([] ++ pl) → va_S A s.heap H locs → W p l e ({ frames := 1, cells := 0, slots := 0, locals := 26 } : Room) s m args below meth c H locs 0 0 (MQ below (va_Qv (fun (u : va_W) => (True) ∧ okx g T xs u) (po g.1 vcl A (fun (u : va_W) => [] ++ u)) A) args s 0 0 A) (F0 m 157 ls []) := by
                intro n24
                induction n24 with
                | zero =>
                  intro i24 my21 pl ls H locs hm24 hi22 hl hO hP hD hS
                  refine lv_iload hx hb dMH_written_157 (lv_at hl 0 rfl) ?_
                  refine lv_aload_n hx hb dMH_written_159 rfl (lv_at hl 3 rfl) ?_
                  refine ty_get (ci := 12) (C := "LatticeKeysModel$Hands") (TT := T_MH) (N := 31) (kd := (48, 0)) hx hb hts (wg_ft i_MH) hown hK hO k_h0 (nxg hc0 k_h0 rfl) hP (fun _ h9 => h9) rfl 24 (by decide) (hts _ (wg_t kw_1456)) (fun _ h9 => h9) (cd := (1, 0, 8)) rfl dMH_written_160 (fun v27 hv27 => ?_)
                  obtain rfl := (show v27 = .int (nI 8) from hv27)
                  refine mi_ge (tgt := 237) hx hb dMH_written_163 (by decide) (by omega) (by omega) (fun h25 => ?_) (fun h25 => absurd h25 (by omega))
                  exact mp_vret hx hb hr hlk hP hD hS pl ⟨trivial, hO⟩ [] rfl rfl rfl (by omega) (by omega) dMH_written_237
                | succ n24 ih24 =>
                  intro i24 my21 pl ls H locs hm24 hi22 hl hO hP hD hS
                  refine lv_iload hx hb dMH_written_157 (lv_at hl 0 rfl) ?_
                  refine lv_aload_n hx hb dMH_written_159 rfl (lv_at hl 3 rfl) ?_
                  refine ty_get (ci := 12) (C := "LatticeKeysModel$Hands") (TT := T_MH) (N := 31) (kd := (48, 0)) hx hb hts (wg_ft i_MH) hown hK hO k_h0 (nxg hc0 k_h0 rfl) hP (fun _ h9 => h9) rfl 24 (by decide) (hts _ (wg_t kw_1456)) (fun _ h9 => h9) (cd := (1, 0, 8)) rfl dMH_written_160 (fun v28 hv28 => ?_)
                  obtain rfl := (show v28 = .int (nI 8) from hv28)
                  refine mi_ge (tgt := 237) hx hb dMH_written_163 (by decide) (by omega) (by omega) (fun h26 => absurd h26 (by omega)) (fun h26 => ?_)
                  refine lv_iconst (v := nI 0) hx hb dMH_written_166 (by decide) ?_
                  refine lv_istore (lv' := [(7, .int (nI 0)), (6, .int (nI i24)), (5, .int (nI my21)), (4, .int (nI (az21 / 8))), (0, .ref h0), (1, .ref to)]) hx hb dMH_written_167 hl (by decide) rfl (fun ls hl => ?_)
                  have lp25 : ∀ (n25 : Nat) (i25 : Nat) (my22 : Nat) (pl : va_W) (ls : Array Slot) (H : Heap) (locs : List Loc), n25 + i25 = 256 → (my22 ≤ 256 * i24 + i25) → lv_has ls 8 [(7, .int (nI i25)), (6, .int (nI i24)), (5, .int (nI my22)), (4, .int (nI (az21 / 8))), (0, .ref h0), (1, .ref to)] → okx g T xs pl → va_P g.1 vcl ([] ++ pl) H → va_D A ([] ++ pl) → va_S A s.heap H locs → W p l e ({ frames := 1, cells := 0, slots := 0, locals := 26 } : Room) s m args below meth c H locs 0 0 (MQ below (va_Qv (fun (u : va_W) => (True) ∧ okx g T xs u) (po g.1 vcl A (fun (u : va_W) => [] ++ u)) A) args s 0 0 A) (F0 m 169 ls []) := by
                    intro n25
                    induction n25 with
                    | zero =>
                      intro i25 my22 pl ls H locs hm25 hi23 hl hO hP hD hS
                      refine lv_iload hx hb dMH_written_169 (lv_at hl 0 rfl) ?_
                      refine lv_sipush (v := nI 256) hx hb dMH_written_171 (by decide) ?_
                      refine mi_ge (tgt := 212) hx hb dMH_written_174 (by decide) (by omega) (by omega) (fun h27 => ?_) (fun h27 => absurd h27 (by omega))
                      refine lv_aload_n hx hb dMH_written_212 rfl (lv_at hl 5 rfl) ?_
                      refine lv_iload hx hb dMH_written_213 (lv_at hl 3 rfl) ?_
                      refine va_gets hx hb (hE.2.1 27 _ rfl).1 hS hown (hts _ (wg_t kw_1912)) (fun _ h9 => h9) dMH_written_215 ?_
                      refine lv_aload_n hx hb dMH_written_218 rfl (lv_at hl 4 rfl) ?_
                      refine ty_get (ci := 12) (C := "LatticeKeysModel$Hands") (TT := T_MH) (N := 31) (kd := (48, 0)) hx hb hts (wg_ft i_MH) hown hK hO k_h0 (nxg hc0 k_h0 rfl) hP (fun _ h9 => h9) rfl 23 (by decide) (hts _ (wg_t kw_1455)) (fun _ h9 => h9) (cd := (1, 0, 2)) rfl dMH_written_219 (fun v29 hv29 => ?_)
                      obtain rfl := (show v29 = .int (nI 2) from hv29)
                      refine va_ti (v := .int (nI 75)) hx hb (hE.2.1 27 _ rfl).2 hS (vp_in_nI (by decide) (by decide)) (by decide +kernel) dMH_written_222 ?_
                      refine mi_iadd hx hb dMH_written_223 ?_
                      refine lv_iload hx hb dMH_written_224 (lv_at hl 1 rfl) ?_
                      refine mi_iadd hx hb dMH_written_226 ?_
                      refine lv_iload hx hb dMH_written_227 (lv_at hl 2 rfl) ?_
                      refine lv_i2b hx hb dMH_written_229 rfl ?_
                      refine mi_any (fun z21 => ?_)
                      refine ty_bast hx hb hK hO k_to (nxg hc0 k_to rfl) hP hD hS (vp_in_nI (by omega) (by decide)) dMH_written_230 (fun pl H locs hO hP hD hS => ?_)
                      refine mi_iinc (k := 1) (x := i24) (d := 1) (y := i24 + 1) (lv' := [(6, .int (nI (i24 + 1))), (7, .int (nI i25)), (5, .int (nI my22)), (4, .int (nI (az21 / 8))), (0, .ref h0), (1, .ref to)]) hx hb dMH_written_231 hl rfl (by decide) rfl (by decide) rfl (fun ls hl => ?_)
                      refine lv_goto (tgt := 157) hx hb dMH_written_234 (by decide) ?_
                      exact ih24 (i24 + 1) my22 pl ls H locs (by omega) (by omega) (lv_sub hl [0, 2, 3, 4, 5] rfl) hO hP hD hS
                    | succ n25 ih25 =>
                      intro i25 my22 pl ls H locs hm25 hi23 hl hO hP hD hS
                      refine lv_iload hx hb dMH_written_169 (lv_at hl 0 rfl) ?_
                      refine lv_sipush (v := nI 256) hx hb dMH_written_171 (by decide) ?_
                      refine mi_ge (tgt := 212) hx hb dMH_written_174 (by decide) (by omega) (by omega) (fun h28 => absurd h28 (by omega)) (fun h28 => ?_)
                      refine lv_aload_n hx hb dMH_written_177 rfl (lv_at hl 4 rfl) ?_
                      refine ty_get (ci := 12) (C := "LatticeKeysModel$Hands") (TT := T_MH) (N := 31) (kd := (48, 0)) hx hb hts (wg_ft i_MH) hown hK hO k_h0 (nxg hc0 k_h0 rfl) hP (fun _ h9 => h9) rfl 11 (by decide) (hts _ (wg_t kw_1443)) (fun _ h9 => h9) (cd := (3, 3, 8)) rfl dMH_written_178 (fun v30 hv30 => ?_)
                      obtain ⟨r21, rfl, kr21⟩ := (show ∃ r : Nat, v30 = .ref r ∧ T r = some (3, 8) from hv30)
                      refine lv_iload hx hb dMH_written_181 (lv_at hl 1 rfl) ?_
                      refine ty_aald3 hx hb hK hO kr21 (nxg hc0 kr21 rfl) hP (by omega) (by decide) dMH_written_183 (fun r22 kr22 => ?_)
                      refine lv_iload hx hb dMH_written_184 (lv_at hl 0 rfl) ?_
                      refine ty_iald hx hb hK hO kr22 (nxg hc0 kr22 rfl) hP (vp_in_nI (by omega) (by decide)) dMH_written_186 (fun z22 => ?_)
                      refine lv_if_ne (tgt := 193) hx hb dMH_written_187 (by decide) (fun h29 => ?_) (fun h29 => ?_)
                      · refine lv_aload_n hx hb dMH_written_193 rfl (lv_at hl 5 rfl) ?_
                        refine lv_iload hx hb dMH_written_194 (lv_at hl 3 rfl) ?_
                        refine lv_iload hx hb dMH_written_196 (lv_at hl 2 rfl) ?_
                        refine mi_iadd hx hb dMH_written_198 ?_
                        refine lv_iload hx hb dMH_written_199 (lv_at hl 0 rfl) ?_
                        refine lv_i2b hx hb dMH_written_201 rfl ?_
                        refine mi_any (fun z23 => ?_)
                        refine ty_bast hx hb hK hO k_to (nxg hc0 k_to rfl) hP hD hS (vp_in_nI (by omega) (by decide)) dMH_written_202 (fun pl H locs hO hP hD hS => ?_)
                        refine mi_iinc (k := 2) (x := my22) (d := 1) (y := my22 + 1) (lv' := [(5, .int (nI (my22 + 1))), (7, .int (nI i25)), (6, .int (nI i24)), (4, .int (nI (az21 / 8))), (0, .ref h0), (1, .ref to)]) hx hb dMH_written_203 hl rfl (by decide) rfl (by decide) rfl (fun ls hl => ?_)
                        refine mi_iinc (k := 1) (x := i25) (d := 1) (y := i25 + 1) (lv' := [(7, .int (nI (i25 + 1))), (5, .int (nI (my22 + 1))), (6, .int (nI i24)), (4, .int (nI (az21 / 8))), (0, .ref h0), (1, .ref to)]) hx hb dMH_written_206 hl rfl (by decide) rfl (by decide) rfl (fun ls hl => ?_)
                        refine lv_goto (tgt := 169) hx hb dMH_written_209 (by decide) ?_
                        exact ih25 (i25 + 1) (my22 + 1) pl ls H locs (by omega) (by omega) (lv_sub hl [0, 2, 1, 3, 4, 5] rfl) hO hP hD hS
                      · refine lv_goto (tgt := 206) hx hb dMH_written_190 (by decide) ?_
                        refine mi_iinc (k := 0) (x := i25) (d := 1) (y := i25 + 1) (lv' := [(7, .int (nI (i25 + 1))), (6, .int (nI i24)), (5, .int (nI my22)), (4, .int (nI (az21 / 8))), (0, .ref h0), (1, .ref to)]) hx hb dMH_written_206 hl rfl (by decide) rfl (by decide) rfl (fun ls hl => ?_)
                        refine lv_goto (tgt := 169) hx hb dMH_written_209 (by decide) ?_
                        exact ih25 (i25 + 1) my22 pl ls H locs (by omega) (by omega) (lv_sub hl [0, 1, 2, 3, 4, 5] rfl) hO hP hD hS
                  exact lp25 256 0 my21 pl ls _ _ (by omega) (by omega) (lv_sub hl [0, 1, 2, 3, 4, 5] rfl) hO hP hD hS
              exact lp24 8 0 0 pl ls _ _ (by omega) (by omega) (lv_sub hl [0, 1, 2, 3, 4] rfl) hO hP hD hS
            | succ n23 ih23 =>
              intro i23 pl ls H locs hm23  hl hO hP hD hS
              refine lv_iload hx hb dMH_written_122 (lv_at hl 0 rfl) ?_
              refine va_gets hx hb (hE.2.1 27 _ rfl).1 hS hown (hts _ (wg_t kw_1912)) (fun _ h9 => h9) dMH_written_124 ?_
              refine lv_aload_n hx hb dMH_written_127 rfl (lv_at hl 3 rfl) ?_
              refine ty_get (ci := 12) (C := "LatticeKeysModel$Hands") (TT := T_MH) (N := 31) (kd := (48, 0)) hx hb hts (wg_ft i_MH) hown hK hO k_h0 (nxg hc0 k_h0 rfl) hP (fun _ h9 => h9) rfl 23 (by decide) (hts _ (wg_t kw_1455)) (fun _ h9 => h9) (cd := (1, 0, 2)) rfl dMH_written_128 (fun v31 hv31 => ?_)
              obtain rfl := (show v31 = .int (nI 2) from hv31)
              refine va_ti (v := .int (nI 75)) hx hb (hE.2.1 27 _ rfl).2 hS (vp_in_nI (by decide) (by decide)) (by decide +kernel) dMH_written_131 ?_
              refine lv_aload_n hx hb dMH_written_132 rfl (lv_at hl 3 rfl) ?_
              refine ty_get (ci := 12) (C := "LatticeKeysModel$Hands") (TT := T_MH) (N := 31) (kd := (48, 0)) hx hb hts (wg_ft i_MH) hown hK hO k_h0 (nxg hc0 k_h0 rfl) hP (fun _ h9 => h9) rfl 24 (by decide) (hts _ (wg_t kw_1456)) (fun _ h9 => h9) (cd := (1, 0, 8)) rfl dMH_written_133 (fun v32 hv32 => ?_)
              obtain rfl := (show v32 = .int (nI 8) from hv32)
              refine mi_iadd hx hb dMH_written_136 ?_
              refine mi_as (show nI (75 + 8) = nI 83 from rfl) ?_
              refine mi_ge (tgt := 154) hx hb dMH_written_137 (by decide) (by omega) (by omega) (fun h30 => absurd h30 (by omega)) (fun h30 => ?_)
              refine lv_aload_n hx hb dMH_written_140 rfl (lv_at hl 4 rfl) ?_
              refine lv_iload hx hb dMH_written_141 (lv_at hl 2 rfl) ?_
              refine lv_iload hx hb dMH_written_143 (lv_at hl 0 rfl) ?_
              refine mi_iadd hx hb dMH_written_145 ?_
              refine lv_iconst (v := nI 0) hx hb dMH_written_146 (by decide) ?_
              refine ty_bast hx hb hK hO k_to (nxg hc0 k_to rfl) hP hD hS (vp_in_nI (by omega) (by decide)) dMH_written_147 (fun pl H locs hO hP hD hS => ?_)
              refine mi_iinc (k := 0) (x := i23) (d := 1) (y := i23 + 1) (lv' := [(6, .int (nI (i23 + 1))), (5, .int (nI 0)), (4, .int (nI (az21 / 8))), (0, .ref h0), (1, .ref to)]) hx hb dMH_written_148 hl rfl (by decide) rfl (by decide) rfl (fun ls hl => ?_)
              refine lv_goto (tgt := 122) hx hb dMH_written_151 (by decide) ?_
              exact ih23 (i23 + 1) pl ls H locs (by omega) (lv_sub hl [0, 1, 2, 3, 4] rfl) hO hP hD hS
          exact lp23 83 0 pl ls _ _ (by omega) (lv_sub hl [0, 1, 2, 5, 6] rfl) hO hP hD hS
        | succ n22 ih22 =>
          intro i22 az21 pl ls H locs hm22 hi21 hl hO hP hD hS
          refine lv_iload hx hb dMH_written_51 (lv_at hl 0 rfl) ?_
          refine lv_aload_n hx hb dMH_written_53 rfl (lv_at hl 3 rfl) ?_
          refine ty_get (ci := 12) (C := "LatticeKeysModel$Hands") (TT := T_MH) (N := 31) (kd := (48, 0)) hx hb hts (wg_ft i_MH) hown hK hO k_h0 (nxg hc0 k_h0 rfl) hP (fun _ h9 => h9) rfl 25 (by decide) (hts _ (wg_t kw_1457)) (fun _ h9 => h9) (cd := (1, 0, 7)) rfl dMH_written_54 (fun v33 hv33 => ?_)
          obtain rfl := (show v33 = .int (nI 7) from hv33)
          refine mi_ge (tgt := 110) hx hb dMH_written_57 (by decide) (by omega) (by omega) (fun h31 => absurd h31 (by omega)) (fun h31 => ?_)
          refine lv_iconst (v := nI 0) hx hb dMH_written_60 (by decide) ?_
          refine lv_istore (lv' := [(5, .int (nI 0)), (4, .int (nI i22)), (3, .int (nI az21)), (2, .int (nI 20)), (0, .ref h0), (1, .ref to)]) hx hb dMH_written_61 hl (by decide) rfl (fun ls hl => ?_)
          have lp26 : ∀ (n26 : Nat) (i26 : Nat) (az22 : Nat) (pl : va_W) (ls : Array Slot) (H : Heap) (locs : List Loc), n26 + i26 = 256 → (az22 = 512 + 5120 * i22 + 20 * i26) → lv_has ls 8 [(5, .int (nI i26)), (4, .int (nI i22)), (3, .int (nI az22)), (2, .int (nI 20)), (0, .ref h0), (1, .ref to)] → okx g T xs pl → va_P g.1 vcl ([] ++ pl) H → va_D A ([] ++ pl) → va_S A s.heap H locs → W p l e ({ frames := 1, cells := 0, slots := 0, locals := 26 } : Room) s m args below meth c H locs 0 0 (MQ below (va_Qv (fun (u : va_W) => (True) ∧ okx g T xs u) (po g.1 vcl A (fun (u : va_W) => [] ++ u)) A) args s 0 0 A) (F0 m 63 ls []) := by
            intro n26
            induction n26 with
            | zero =>
              intro i26 az22 pl ls H locs hm26 hi24 hl hO hP hD hS
              refine lv_iload hx hb dMH_written_63 (lv_at hl 0 rfl) ?_
              refine lv_sipush (v := nI 256) hx hb dMH_written_65 (by decide) ?_
              refine mi_ge (tgt := 104) hx hb dMH_written_68 (by decide) (by omega) (by omega) (fun h32 => ?_) (fun h32 => absurd h32 (by omega))
              refine mi_iinc (k := 1) (x := i22) (d := 1) (y := i22 + 1) (lv' := [(4, .int (nI (i22 + 1))), (5, .int (nI i26)), (3, .int (nI az22)), (2, .int (nI 20)), (0, .ref h0), (1, .ref to)]) hx hb dMH_written_104 hl rfl (by decide) rfl (by decide) rfl (fun ls hl => ?_)
              refine lv_goto (tgt := 51) hx hb dMH_written_107 (by decide) ?_
              exact ih22 (i22 + 1) az22 pl ls H locs (by omega) (by omega) (lv_sub hl [0, 2, 3, 4, 5] rfl) hO hP hD hS
            | succ n26 ih26 =>
              intro i26 az22 pl ls H locs hm26 hi24 hl hO hP hD hS
              refine lv_iload hx hb dMH_written_63 (lv_at hl 0 rfl) ?_
              refine lv_sipush (v := nI 256) hx hb dMH_written_65 (by decide) ?_
              refine mi_ge (tgt := 104) hx hb dMH_written_68 (by decide) (by omega) (by omega) (fun h33 => absurd h33 (by omega)) (fun h33 => ?_)
              refine lv_aload_n hx hb dMH_written_71 rfl (lv_at hl 5 rfl) ?_
              refine lv_iload_n hx hb dMH_written_72 rfl (lv_at hl 2 rfl) ?_
              refine lv_iload_n hx hb dMH_written_73 rfl (lv_at hl 3 rfl) ?_
              refine lv_aload_n hx hb dMH_written_74 rfl (lv_at hl 4 rfl) ?_
              refine ty_get (ci := 12) (C := "LatticeKeysModel$Hands") (TT := T_MH) (N := 31) (kd := (48, 0)) hx hb hts (wg_ft i_MH) hown hK hO k_h0 (nxg hc0 k_h0 rfl) hP (fun _ h9 => h9) rfl 27 (by decide) (hts _ (wg_t kw_1459)) (fun _ h9 => h9) (cd := (1, 0, 524288)) rfl dMH_written_75 (fun v34 hv34 => ?_)
              obtain rfl := (show v34 = .int (nI 524288) from hv34)
              refine lv_aload_n hx hb dMH_written_78 rfl (lv_at hl 4 rfl) ?_
              refine ty_get (ci := 12) (C := "LatticeKeysModel$Hands") (TT := T_MH) (N := 31) (kd := (48, 0)) hx hb hts (wg_ft i_MH) hown hK hO k_h0 (nxg hc0 k_h0 rfl) hP (fun _ h9 => h9) rfl 8 (by decide) (hts _ (wg_t kw_1440)) (fun _ h9 => h9) (cd := (3, 3, 7)) rfl dMH_written_79 (fun v35 hv35 => ?_)
              obtain ⟨r23, rfl, kr23⟩ := (show ∃ r : Nat, v35 = .ref r ∧ T r = some (3, 7) from hv35)
              refine lv_iload hx hb dMH_written_82 (lv_at hl 1 rfl) ?_
              refine ty_aald3 hx hb hK hO kr23 (nxg hc0 kr23 rfl) hP (by omega) (by decide) dMH_written_84 (fun r24 kr24 => ?_)
              refine lv_iload hx hb dMH_written_85 (lv_at hl 0 rfl) ?_
              refine ty_iald hx hb hK hO kr24 (nxg hc0 kr24 rfl) hP (vp_in_nI (by omega) (by decide)) dMH_written_87 (fun z24 => ?_)
              refine mp_i (cx := []) (wr := []) hP hD hS hA [] [] rfl rfl rfl (by decide) (va_runS (As := [.int (nI 524288), .int z24]) (rest := [.int (nI 20), .int (nI az22), .ref to]) F (t_MH_minus l g _ T xs pl hO hU  (nI 524288) z24) (va_cwS 2 hts (wg_app (wg_c kw_1865 (wg_c kw_1866 (wg_c kw_13 wg_n))) kw_1867) rfl rfl rfl (by decide +kernel) ⟨by decide, by decide⟩) (pp_S (en_ok g) hP hD hS hA hE [] rfl rfl) rfl rfl hl.1 rfl (lv_room (Nat.le_of_ble_eq_true rfl)) dMH_written_88 ⟨by omega, by omega⟩) (fun r25 pl H locs hu21 hP hD hS => ?_)
              obtain ⟨hq21, hO⟩ := hu21
              have hP : va_P g.1 vcl ([] ++ pl) _ := hP
              have hD : va_D _ ([] ++ pl) := hD
              refine W.widen (k := 0) (n := 0) (by omega) (by omega) ?_
              refine mp_v (cx := []) (wr := []) hP hD hS hA [] [] rfl rfl rfl (by decide) (va_runSN (As := [.ref to, .int (nI az22), .int (nI 20), .int r25]) (rest := []) F (t_M_pack l g _ T xs pl hO hU hc0 to 8192 az22 20 r25 k_to (by omega) (by omega)) ⟨va_cnB 4 hts (wg_in kw_1690) rfl rfl rfl (hE.2.2.2.2.2.2.2.2.2.1) (hts _ (wg_t kw_9)) (by decide +kernel) ⟨by decide, by decide⟩, hts _ (wg_t kw_1689), trivial⟩ (pp_S (en_ok g) hP hD hS hA hE [] rfl rfl) rfl rfl hl.1 rfl (lv_room (Nat.le_of_ble_eq_true rfl)) dMH_written_91 ⟨by omega, by omega⟩) (fun  pl H locs hu22 hP hD hS => ?_)
              obtain ⟨hq22, hO⟩ := hu22
              have hP : va_P g.1 vcl ([] ++ pl) _ := hP
              have hD : va_D _ ([] ++ pl) := hD
              refine W.widen (k := 0) (n := 0) (by omega) (by omega) ?_
              refine lv_iload_n hx hb dMH_written_94 rfl (lv_at hl 2 rfl) ?_
              refine lv_iload_n hx hb dMH_written_95 rfl (lv_at hl 3 rfl) ?_
              refine mi_iadd hx hb dMH_written_96 ?_
              refine lv_istore_n (lv' := [(3, .int (nI (az22 + 20))), (5, .int (nI i26)), (4, .int (nI i22)), (2, .int (nI 20)), (0, .ref h0), (1, .ref to)]) hx hb dMH_written_97 rfl hl (by decide) rfl (fun ls hl => ?_)
              refine mi_iinc (k := 1) (x := i26) (d := 1) (y := i26 + 1) (lv' := [(5, .int (nI (i26 + 1))), (3, .int (nI (az22 + 20))), (4, .int (nI i22)), (2, .int (nI 20)), (0, .ref h0), (1, .ref to)]) hx hb dMH_written_98 hl rfl (by decide) rfl (by decide) rfl (fun ls hl => ?_)
              refine lv_goto (tgt := 63) hx hb dMH_written_101 (by decide) ?_
              exact ih26 (i26 + 1) (az22 + 20) pl ls H locs (by omega) (by omega) (lv_sub hl [0, 2, 1, 3, 4, 5] rfl) hO hP hD hS
          exact lp26 256 0 az21 pl ls _ _ (by omega) (by omega) (lv_sub hl [0, 1, 2, 3, 4, 5] rfl) hO hP hD hS
      exact lp22 7 0 512 pl ls _ _ (by omega) (by omega) (lv_sub hl [0, 1, 2, 3, 4] rfl) hO hP hD hS
    | succ n21 ih21 =>
      intro i21 pl ls H locs hm21  hl hO hP hD hS
      refine lv_iload_n hx hb dMH_written_2 rfl (lv_at hl 0 rfl) ?_
      refine lv_aload_n hx hb dMH_written_3 rfl (lv_at hl 1 rfl) ?_
      refine ty_get (ci := 12) (C := "LatticeKeysModel$Hands") (TT := T_MH) (N := 31) (kd := (48, 0)) hx hb hts (wg_ft i_MH) hown hK hO k_h0 (nxg hc0 k_h0 rfl) hP (fun _ h9 => h9) rfl 30 (by decide) (hts _ (wg_t kw_1462)) (fun _ h9 => h9) (cd := (1, 0, 64)) rfl dMH_written_4 (fun v36 hv36 => ?_)
      obtain rfl := (show v36 = .int (nI 64) from hv36)
      refine mi_ge (tgt := 25) hx hb dMH_written_7 (by decide) (by omega) (by omega) (fun h34 => absurd h34 (by omega)) (fun h34 => ?_)
      refine lv_aload_n hx hb dMH_written_10 rfl (lv_at hl 2 rfl) ?_
      refine lv_iload_n hx hb dMH_written_11 rfl (lv_at hl 0 rfl) ?_
      refine lv_aload_n hx hb dMH_written_12 rfl (lv_at hl 1 rfl) ?_
      refine ty_get (ci := 12) (C := "LatticeKeysModel$Hands") (TT := T_MH) (N := 31) (kd := (48, 0)) hx hb hts (wg_ft i_MH) hown hK hO k_h0 (nxg hc0 k_h0 rfl) hP (fun _ h9 => h9) rfl 20 (by decide) (hts _ (wg_t kw_1452)) (fun _ h9 => h9) (cd := (3, 1, 64)) rfl dMH_written_13 (fun v37 hv37 => ?_)
      obtain ⟨r26, rfl, kr25⟩ := (show ∃ r : Nat, v37 = .ref r ∧ T r = some (1, 64) from hv37)
      refine lv_iload_n hx hb dMH_written_16 rfl (lv_at hl 0 rfl) ?_
      refine ty_bald hx hb hK hO kr25 (nxg hc0 kr25 rfl) hP (vp_in_nI (by omega) (by decide)) dMH_written_17 (fun z25 => ?_)
      refine ty_bast hx hb hK hO k_to (nxg hc0 k_to rfl) hP hD hS (vp_in_nI (by omega) (by decide)) dMH_written_18 (fun pl H locs hO hP hD hS => ?_)
      refine mi_iinc (k := 0) (x := i21) (d := 1) (y := i21 + 1) (lv' := [(2, .int (nI (i21 + 1))), (0, .ref h0), (1, .ref to)]) hx hb dMH_written_19 hl rfl (by decide) rfl (by decide) rfl (fun ls hl => ?_)
      refine lv_goto (tgt := 2) hx hb dMH_written_22 (by decide) ?_
      exact ih21 (i21 + 1) pl ls H locs (by omega) (lv_sub hl [0, 1, 2] rfl) hO hP hD hS
  exact lp21 64 0 pl ls _ _ (by omega) (lv_sub hl [0, 1, 2] rfl) hO hP hD hS
set_option maxHeartbeats 400000 in
set_option maxRecDepth 100000 in
theorem t_MH_readHints_0 (l : Launch) (g : Gd) (sz : Nat) (T : Ty) (xs : List Nat) (pl : va_W) (hO : okx g T xs pl) (hU : uni T) (hc0 : clo T xs 0) (h0 b fi : Nat) (k_h0 : T h0 = some (46, 0)) (k_b : T b = some (1, 16384)) (h1 : fi + 84 ≤ 16384)  : Met l y_MH_readHints w_MH_readHints ({ frames := 0, cells := 0, slots := 0, locals := 0 } : Room) (va_Pc [.ref h0, .ref b, .int (nI fi)] (pr (en g) g.1 vcl sz ([] ++ pl))) (va_Qi (fun (r : Int32) (u : va_W) => (r = nI 0 ∨ r = nI 1) ∧ okx g T xs u) (po g.1 vcl (va_A ([] ++ pl) sz) (fun (u : va_W) => [] ++ u)) (va_A ([] ++ pl) sz)) 0 0 (va_A ([] ++ pl) sz) := by
  refine mc_entry (cc := c_MH_readHints) (maxL := 8) (ret := (some .boolean)) (by decide) rfl (Nat.le_of_ble_eq_true rfl) ?_
  intro p e s m args below meth c ls F hr hlk hnm hsz hP hD hE hA hl
  obtain ⟨hx, hb, hml, hown, hts⟩ := id F
  have hK := hE.1
  generalize va_A ([] ++ pl) sz = A at hD hE hA ⊢
  have hS : va_S A s.heap s.heap [] := va_S.rf
  have hl : lv_has ls 8 [(0, .ref h0), (1, .ref b), (2, .int (nI fi))] := hl
  refine lv_iconst (v := nI 0) hx hb dMH_readHints_0 (by decide) ?_
  refine lv_istore_n (lv' := [(3, .int (nI 0)), (0, .ref h0), (1, .ref b), (2, .int (nI fi))]) hx hb dMH_readHints_1 rfl hl (by decide) rfl (fun ls hl => ?_)
  refine lv_iconst (v := nI 0) hx hb dMH_readHints_2 (by decide) ?_
  refine lv_istore (lv' := [(4, .int (nI 0)), (3, .int (nI 0)), (0, .ref h0), (1, .ref b), (2, .int (nI fi))]) hx hb dMH_readHints_3 hl (by decide) rfl (fun ls hl => ?_)
  have lp21 : ∀ (n21 : Nat) (i21 : Nat) (my21 : Nat) (pl : va_W) (ls : Array Slot) (H : Heap) (locs : List Loc), n21 + i21 = 4 → (my21 ≤ 80) → lv_has ls 8 [(4, .int (nI i21)), (3, .int (nI my21)), (0, .ref h0), (1, .ref b), (2, .int (nI fi))] → okx g T xs pl → va_P g.1 vcl ([] ++ pl) H → va_D A ([] ++ pl) → va_S A s.heap H locs → W p l e ({ frames := 0, cells := 0, slots := 0, locals := 0 } : Room) s m args below meth c H locs 0 0 (MQ below (va_Qi (fun (r : Int32) (u : va_W) => (r = nI 0 ∨ r = nI 1) ∧ okx g T xs u) (po g.1 vcl A (fun (u : va_W) => [] ++ u)) A) args s 0 0 A) (F0 m 5 ls []) := by
    intro n21
    induction n21 with
    | zero =>
      intro i21 my21 pl ls H locs hm21 hi21 hl hO hP hD hS
      refine lv_iload hx hb dMH_readHints_5 (lv_at hl 0 rfl) ?_
      refine lv_aload_n hx hb dMH_readHints_7 rfl (lv_at hl 2 rfl) ?_
      refine ty_get (ci := 12) (C := "LatticeKeysModel$Hands") (TT := T_MH) (N := 31) (kd := (46, 0)) hx hb hts (wg_ft i_MH) hown hK hO k_h0 (nxg hc0 k_h0 rfl) hP (fun _ h9 => h9) rfl 24 (by decide) (hts _ (wg_t kw_1456)) (fun _ h9 => h9) (cd := (1, 0, 4)) rfl dMH_readHints_8 (fun v21 hv21 => ?_)
      obtain rfl := (show v21 = .int (nI 4) from hv21)
      refine mi_ge (tgt := 157) hx hb dMH_readHints_11 (by decide) (by omega) (by omega) (fun h21 => ?_) (fun h21 => absurd h21 (by omega))
      refine lv_iload_n hx hb dMH_readHints_157 rfl (lv_at hl 1 rfl) ?_
      refine lv_istore (lv' := [(4, .int (nI my21)), (3, .int (nI my21)), (0, .ref h0), (1, .ref b), (2, .int (nI fi))]) hx hb dMH_readHints_158 hl (by decide) rfl (fun ls hl => ?_)
      have lp22 : ∀ (n22 : Nat) (i22 : Nat) (pl : va_W) (ls : Array Slot) (H : Heap) (locs : List Loc), n22 + i22 = 80 → (my21 ≤ i22) → lv_has ls 8 [(4, .int (nI i22)), (0, .ref h0), (1, .ref b), (2, .int (nI fi))] → okx g T xs pl → va_P g.1 vcl ([] ++ pl) H → va_D A ([] ++ pl) → va_S A s.heap H locs → W p l e ({ frames := 0, cells := 0, slots := 0, locals := 0 } : Room) s m args below meth c H locs 0 0 (MQ below (va_Qi (fun (r : Int32) (u : va_W) => (r = nI 0 ∨ r = nI 1) ∧ okx g T xs u) (po g.1 vcl A (fun (u : va_W) => [] ++ u)) A) args s 0 0 A) (F0 m 160 ls []) := by
        intro n22
        induction n22 with
        | zero =>
          intro i22 pl ls H locs hm22 hi22 hl hO hP hD hS
          refine lv_iload hx hb dMH_readHints_160 (lv_at hl 0 rfl) ?_
          refine va_gets hx hb (hE.2.1 27 _ rfl).1 hS hown (hts _ (wg_t kw_1912)) (fun _ h9 => h9) dMH_readHints_162 ?_
          refine lv_aload_n hx hb dMH_readHints_165 rfl (lv_at hl 1 rfl) ?_
          refine ty_get (ci := 12) (C := "LatticeKeysModel$Hands") (TT := T_MH) (N := 31) (kd := (46, 0)) hx hb hts (wg_ft i_MH) hown hK hO k_h0 (nxg hc0 k_h0 rfl) hP (fun _ h9 => h9) rfl 23 (by decide) (hts _ (wg_t kw_1455)) (fun _ h9 => h9) (cd := (1, 0, 0)) rfl dMH_readHints_166 (fun v22 hv22 => ?_)
          obtain rfl := (show v22 = .int (nI 0) from hv22)
          refine va_ti (v := .int (nI 80)) hx hb (hE.2.1 27 _ rfl).2 hS (vp_in_nI (by decide) (by decide)) (by decide +kernel) dMH_readHints_169 ?_
          refine mi_ge (tgt := 190) hx hb dMH_readHints_170 (by decide) (by omega) (by omega) (fun h22 => ?_) (fun h22 => absurd h22 (by omega))
          refine lv_iconst (v := nI 1) hx hb dMH_readHints_190 (by decide) ?_
          exact mp_zret hx hb hr hlk rfl hP hD hS pl ⟨(Or.inr rfl), hO⟩ [] rfl rfl rfl (by omega) (by omega) dMH_readHints_191
        | succ n22 ih22 =>
          intro i22 pl ls H locs hm22 hi22 hl hO hP hD hS
          refine lv_iload hx hb dMH_readHints_160 (lv_at hl 0 rfl) ?_
          refine va_gets hx hb (hE.2.1 27 _ rfl).1 hS hown (hts _ (wg_t kw_1912)) (fun _ h9 => h9) dMH_readHints_162 ?_
          refine lv_aload_n hx hb dMH_readHints_165 rfl (lv_at hl 1 rfl) ?_
          refine ty_get (ci := 12) (C := "LatticeKeysModel$Hands") (TT := T_MH) (N := 31) (kd := (46, 0)) hx hb hts (wg_ft i_MH) hown hK hO k_h0 (nxg hc0 k_h0 rfl) hP (fun _ h9 => h9) rfl 23 (by decide) (hts _ (wg_t kw_1455)) (fun _ h9 => h9) (cd := (1, 0, 0)) rfl dMH_readHints_166 (fun v23 hv23 => ?_)
          obtain rfl := (show v23 = .int (nI 0) from hv23)
          refine va_ti (v := .int (nI 80)) hx hb (hE.2.1 27 _ rfl).2 hS (vp_in_nI (by decide) (by decide)) (by decide +kernel) dMH_readHints_169 ?_
          refine mi_ge (tgt := 190) hx hb dMH_readHints_170 (by decide) (by omega) (by omega) (fun h23 => absurd h23 (by omega)) (fun h23 => ?_)
          refine lv_aload_n hx hb dMH_readHints_173 rfl (lv_at hl 2 rfl) ?_
          refine lv_iload_n hx hb dMH_readHints_174 rfl (lv_at hl 3 rfl) ?_
          refine lv_iload hx hb dMH_readHints_175 (lv_at hl 0 rfl) ?_
          refine mi_iadd hx hb dMH_readHints_177 ?_
          refine ty_bald hx hb hK hO k_b (nxg hc0 k_b rfl) hP (vp_in_nI (by omega) (by decide)) dMH_readHints_178 (fun z21 => ?_)
          refine lv_if_eq (tgt := 184) hx hb dMH_readHints_179 (by decide) (fun h24 => ?_) (fun h24 => ?_)
          · refine mi_iinc (k := 0) (x := i22) (d := 1) (y := i22 + 1) (lv' := [(4, .int (nI (i22 + 1))), (0, .ref h0), (1, .ref b), (2, .int (nI fi))]) hx hb dMH_readHints_184 hl rfl (by decide) rfl (by decide) rfl (fun ls hl => ?_)
            refine lv_goto (tgt := 160) hx hb dMH_readHints_187 (by decide) ?_
            exact ih22 (i22 + 1) pl ls H locs (by omega) (by omega) (lv_sub hl [0, 1, 2, 3] rfl) hO hP hD hS
          · refine lv_iconst (v := nI 0) hx hb dMH_readHints_182 (by decide) ?_
            exact mp_zret hx hb hr hlk rfl hP hD hS pl ⟨(Or.inl rfl), hO⟩ [] rfl rfl rfl (by omega) (by omega) dMH_readHints_183
      exact lp22 (80 - my21) my21 pl ls _ _ (by omega) (by omega) (lv_sub hl [0, 2, 3, 4] rfl) hO hP hD hS
    | succ n21 ih21 =>
      intro i21 my21 pl ls H locs hm21 hi21 hl hO hP hD hS
      refine lv_iload hx hb dMH_readHints_5 (lv_at hl 0 rfl) ?_
      refine lv_aload_n hx hb dMH_readHints_7 rfl (lv_at hl 2 rfl) ?_
      refine ty_get (ci := 12) (C := "LatticeKeysModel$Hands") (TT := T_MH) (N := 31) (kd := (46, 0)) hx hb hts (wg_ft i_MH) hown hK hO k_h0 (nxg hc0 k_h0 rfl) hP (fun _ h9 => h9) rfl 24 (by decide) (hts _ (wg_t kw_1456)) (fun _ h9 => h9) (cd := (1, 0, 4)) rfl dMH_readHints_8 (fun v24 hv24 => ?_)
      obtain rfl := (show v24 = .int (nI 4) from hv24)
      refine mi_ge (tgt := 157) hx hb dMH_readHints_11 (by decide) (by omega) (by omega) (fun h25 => absurd h25 (by omega)) (fun h25 => ?_)
      refine lv_iconst (v := nI 0) hx hb dMH_readHints_14 (by decide) ?_
      refine lv_istore (lv' := [(5, .int (nI 0)), (4, .int (nI i21)), (3, .int (nI my21)), (0, .ref h0), (1, .ref b), (2, .int (nI fi))]) hx hb dMH_readHints_15 hl (by decide) rfl (fun ls hl => ?_)
      have lp23 : ∀ (n23 : Nat) (i23 : Nat) (pl : va_W) (ls : Array Slot) (H : Heap) (locs : List Loc), n23 + i23 = 256 → lv_has ls 8 [(5, .int (nI i23)), (4, .int (nI i21)), (3, .int (nI my21)), (0, .ref h0), (1, .ref b), (2, .int (nI fi))] → okx g T xs pl → va_P g.1 vcl ([] ++ pl) H → va_D A ([] ++ pl) → va_S A s.heap H locs → W p l e ({ frames := 0, cells := 0, slots := 0, locals := 0 } : Room) s m args below meth c H locs 0 0 (MQ below (va_Qi (fun (r : Int32) (u : va_W) => (r = nI 0 ∨ r = nI 1) ∧ okx g T xs u) (po g.1 vcl A (fun (u : va_W) => [] ++ u)) A) args s 0 0 A) (F0 m 17 ls []) := by
        intro n23
        induction n23 with
        | zero =>
          intro i23 pl ls H locs hm23  hl hO hP hD hS
          refine lv_iload hx hb dMH_readHints_17 (lv_at hl 0 rfl) ?_
          refine lv_sipush (v := nI 256) hx hb dMH_readHints_19 (by decide) ?_
          refine mi_ge (tgt := 42) hx hb dMH_readHints_22 (by decide) (by omega) (by omega) (fun h26 => ?_) (fun h26 => absurd h26 (by omega))
          refine lv_aload_n hx hb dMH_readHints_42 rfl (lv_at hl 4 rfl) ?_
          refine lv_iload_n hx hb dMH_readHints_43 rfl (lv_at hl 5 rfl) ?_
          refine va_gets hx hb (hE.2.1 27 _ rfl).1 hS hown (hts _ (wg_t kw_1912)) (fun _ h9 => h9) dMH_readHints_44 ?_
          refine lv_aload_n hx hb dMH_readHints_47 rfl (lv_at hl 3 rfl) ?_
          refine ty_get (ci := 12) (C := "LatticeKeysModel$Hands") (TT := T_MH) (N := 31) (kd := (46, 0)) hx hb hts (wg_ft i_MH) hown hK hO k_h0 (nxg hc0 k_h0 rfl) hP (fun _ h9 => h9) rfl 23 (by decide) (hts _ (wg_t kw_1455)) (fun _ h9 => h9) (cd := (1, 0, 0)) rfl dMH_readHints_48 (fun v25 hv25 => ?_)
          obtain rfl := (show v25 = .int (nI 0) from hv25)
          refine va_ti (v := .int (nI 80)) hx hb (hE.2.1 27 _ rfl).2 hS (vp_in_nI (by decide) (by decide)) (by decide +kernel) dMH_readHints_51 ?_
          refine mi_iadd hx hb dMH_readHints_52 ?_
          refine lv_iload hx hb dMH_readHints_53 (lv_at hl 1 rfl) ?_
          refine mi_iadd hx hb dMH_readHints_55 ?_
          refine ty_bald hx hb hK hO k_b (nxg hc0 k_b rfl) hP (vp_in_nI (by omega) (by decide)) dMH_readHints_56 (fun z22 => ?_)
          refine lv_sipush (v := nI 255) hx hb dMH_readHints_57 (by decide) ?_
          refine mi_iand hx hb 8 dMH_readHints_60 (by decide) (fun z23 hz21 => ?_)
          have hz21 : z23 < 256 := hz21
          refine lv_istore (lv' := [(5, .int (nI z23)), (4, .int (nI i21)), (3, .int (nI my21)), (0, .ref h0), (1, .ref b), (2, .int (nI fi))]) hx hb dMH_readHints_61 hl (by decide) rfl (fun ls hl => ?_)
          refine lv_iload hx hb dMH_readHints_63 (lv_at hl 0 rfl) ?_
          refine lv_iload_n hx hb dMH_readHints_65 rfl (lv_at hl 2 rfl) ?_
          refine mi_lt (tgt := 82) hx hb dMH_readHints_66 (by decide) (by omega) (by omega) (fun h27 => ?_) (fun h27 => ?_)
          · refine lv_iconst (v := nI 0) hx hb dMH_readHints_82 (by decide) ?_
            exact mp_zret hx hb hr hlk rfl hP hD hS pl ⟨(Or.inl rfl), hO⟩ [] rfl rfl rfl (by omega) (by omega) dMH_readHints_83
          · refine lv_iload hx hb dMH_readHints_69 (lv_at hl 0 rfl) ?_
            refine va_gets hx hb (hE.2.1 27 _ rfl).1 hS hown (hts _ (wg_t kw_1912)) (fun _ h9 => h9) dMH_readHints_71 ?_
            refine lv_aload_n hx hb dMH_readHints_74 rfl (lv_at hl 3 rfl) ?_
            refine ty_get (ci := 12) (C := "LatticeKeysModel$Hands") (TT := T_MH) (N := 31) (kd := (46, 0)) hx hb hts (wg_ft i_MH) hown hK hO k_h0 (nxg hc0 k_h0 rfl) hP (fun _ h9 => h9) rfl 23 (by decide) (hts _ (wg_t kw_1455)) (fun _ h9 => h9) (cd := (1, 0, 0)) rfl dMH_readHints_75 (fun v26 hv26 => ?_)
            obtain rfl := (show v26 = .int (nI 0) from hv26)
            refine va_ti (v := .int (nI 80)) hx hb (hE.2.1 27 _ rfl).2 hS (vp_in_nI (by decide) (by decide)) (by decide +kernel) dMH_readHints_78 ?_
            refine mi_le (tgt := 84) hx hb dMH_readHints_79 (by decide) (by omega) (by omega) (fun h28 => ?_) (fun h28 => ?_)
            · refine lv_iload_n hx hb dMH_readHints_84 rfl (lv_at hl 2 rfl) ?_
              refine lv_istore (lv' := [(6, .int (nI my21)), (5, .int (nI z23)), (4, .int (nI i21)), (3, .int (nI my21)), (0, .ref h0), (1, .ref b), (2, .int (nI fi))]) hx hb dMH_readHints_85 hl (by decide) rfl (fun ls hl => ?_)
              have lp24 : ∀ (n24 : Nat) (ii21 : Nat) (pl : va_W) (ls : Array Slot) (H : Heap) (locs : List Loc), n24 = z23 - ii21 → (my21 ≤ ii21) → (ii21 ≤ 80) → lv_has ls 8 [(6, .int (nI ii21)), (5, .int (nI z23)), (4, .int (nI i21)), (3, .int (nI my21)), (0, .ref h0), (1, .ref b), (2, .int (nI fi))] → okx g T xs pl → va_P g.1 vcl ([] ++ pl) H → va_D A ([] ++ pl) → va_S A s.heap H locs → W p l e ({ frames := 0, cells := 0, slots := 0, locals := 0 } : Room) s m args below meth c H locs 0 0 (MQ below (va_Qi (fun (r : Int32) (u : va_W) => (r = nI 0 ∨ r = nI 1) ∧ okx g T xs u) (po g.1 vcl A (fun (u : va_W) => [] ++ u)) A) args s 0 0 A) (F0 m 87 ls []) := by
                intro n24
                induction n24 with
                | zero =>
                  intro ii21 pl ls H locs hm24 hi23 hi24 hl hO hP hD hS
                  refine lv_iload hx hb dMH_readHints_87 (lv_at hl 0 rfl) ?_
                  refine lv_iload hx hb dMH_readHints_89 (lv_at hl 1 rfl) ?_
                  refine mi_ge (tgt := 148) hx hb dMH_readHints_91 (by decide) (by omega) (by omega) (fun h29 => ?_) (fun h29 => absurd h29 (by omega))
                  refine lv_iload hx hb dMH_readHints_148 (lv_at hl 1 rfl) ?_
                  refine lv_istore_n (lv' := [(3, .int (nI z23)), (6, .int (nI ii21)), (5, .int (nI z23)), (4, .int (nI i21)), (0, .ref h0), (1, .ref b), (2, .int (nI fi))]) hx hb dMH_readHints_150 rfl hl (by decide) rfl (fun ls hl => ?_)
                  refine mi_iinc (k := 3) (x := i21) (d := 1) (y := i21 + 1) (lv' := [(4, .int (nI (i21 + 1))), (3, .int (nI z23)), (6, .int (nI ii21)), (5, .int (nI z23)), (0, .ref h0), (1, .ref b), (2, .int (nI fi))]) hx hb dMH_readHints_151 hl rfl (by decide) rfl (by decide) rfl (fun ls hl => ?_)
                  refine lv_goto (tgt := 5) hx hb dMH_readHints_154 (by decide) ?_
                  exact ih21 (i21 + 1) z23 pl ls H locs (by omega) (by omega) (lv_sub hl [0, 1, 4, 5, 6] rfl) hO hP hD hS
                | succ n24 ih24 =>
                  intro ii21 pl ls H locs hm24 hi23 hi24 hl hO hP hD hS
                  refine lv_iload hx hb dMH_readHints_87 (lv_at hl 0 rfl) ?_
                  refine lv_iload hx hb dMH_readHints_89 (lv_at hl 1 rfl) ?_
                  refine mi_ge (tgt := 148) hx hb dMH_readHints_91 (by decide) (by omega) (by omega) (fun h30 => absurd h30 (by omega)) (fun h30 => ?_)
                  refine lv_aload_n hx hb dMH_readHints_94 rfl (lv_at hl 5 rfl) ?_
                  refine lv_iload_n hx hb dMH_readHints_95 rfl (lv_at hl 6 rfl) ?_
                  refine lv_iload hx hb dMH_readHints_96 (lv_at hl 0 rfl) ?_
                  refine mi_iadd hx hb dMH_readHints_98 ?_
                  refine ty_bald hx hb hK hO k_b (nxg hc0 k_b rfl) hP (vp_in_nI (by omega) (by decide)) dMH_readHints_99 (fun z24 => ?_)
                  refine lv_sipush (v := nI 255) hx hb dMH_readHints_100 (by decide) ?_
                  refine mi_iand hx hb 8 dMH_readHints_103 (by decide) (fun z25 hz22 => ?_)
                  have hz22 : z25 < 256 := hz22
                  refine lv_istore (lv' := [(7, .int (nI z25)), (6, .int (nI ii21)), (5, .int (nI z23)), (4, .int (nI i21)), (3, .int (nI my21)), (0, .ref h0), (1, .ref b), (2, .int (nI fi))]) hx hb dMH_readHints_104 hl (by decide) rfl (fun ls hl => ?_)
                  refine lv_iload hx hb dMH_readHints_106 (lv_at hl 1 rfl) ?_
                  refine lv_iload_n hx hb dMH_readHints_108 rfl (lv_at hl 4 rfl) ?_
                  refine mi_le (tgt := 131) hx hb dMH_readHints_109 (by decide) (by omega) (by omega) (fun h31 => ?_) (fun h31 => ?_)
                  · refine lv_aload_n hx hb dMH_readHints_131 rfl (lv_at hl 5 rfl) ?_
                    refine ty_get (ci := 12) (C := "LatticeKeysModel$Hands") (TT := T_MH) (N := 31) (kd := (46, 0)) hx hb hts (wg_ft i_MH) hown hK hO k_h0 (nxg hc0 k_h0 rfl) hP (fun _ h9 => h9) rfl 11 (by decide) (hts _ (wg_t kw_1443)) (fun _ h9 => h9) (cd := (3, 3, 8)) rfl dMH_readHints_132 (fun v27 hv27 => ?_)
                    obtain ⟨r21, rfl, kr21⟩ := (show ∃ r : Nat, v27 = .ref r ∧ T r = some (3, 8) from hv27)
                    refine lv_iload hx hb dMH_readHints_135 (lv_at hl 3 rfl) ?_
                    refine ty_aald3 hx hb hK hO kr21 (nxg hc0 kr21 rfl) hP (by omega) (by decide) dMH_readHints_137 (fun r22 kr22 => ?_)
                    refine lv_iload hx hb dMH_readHints_138 (lv_at hl 0 rfl) ?_
                    refine lv_iconst (v := nI 1) hx hb dMH_readHints_140 (by decide) ?_
                    refine ty_iast hx hb hK hO kr22 (nxg hc0 kr22 rfl) hP hD hS (vp_in_nI (by omega) (by decide)) dMH_readHints_141 (fun pl H locs hO hP hD hS => ?_)
                    refine mi_iinc (k := 1) (x := ii21) (d := 1) (y := ii21 + 1) (lv' := [(6, .int (nI (ii21 + 1))), (7, .int (nI z25)), (5, .int (nI z23)), (4, .int (nI i21)), (3, .int (nI my21)), (0, .ref h0), (1, .ref b), (2, .int (nI fi))]) hx hb dMH_readHints_142 hl rfl (by decide) rfl (by decide) rfl (fun ls hl => ?_)
                    refine lv_goto (tgt := 87) hx hb dMH_readHints_145 (by decide) ?_
                    exact ih24 (ii21 + 1) pl ls H locs (by omega) (by omega) (by omega) (lv_sub hl [0, 2, 3, 4, 5, 6, 7] rfl) hO hP hD hS
                  · refine lv_aload_n hx hb dMH_readHints_112 rfl (lv_at hl 6 rfl) ?_
                    refine lv_iload_n hx hb dMH_readHints_113 rfl (lv_at hl 7 rfl) ?_
                    refine lv_iload hx hb dMH_readHints_114 (lv_at hl 1 rfl) ?_
                    refine mi_iadd hx hb dMH_readHints_116 ?_
                    refine lv_iconst (v := nI 1) hx hb dMH_readHints_117 (by decide) ?_
                    refine mi_isub hx hb dMH_readHints_118 (by omega) ?_
                    refine ty_bald hx hb hK hO k_b (nxg hc0 k_b rfl) hP (vp_in_nI (by omega) (by decide)) dMH_readHints_119 (fun z26 => ?_)
                    refine lv_sipush (v := nI 255) hx hb dMH_readHints_120 (by decide) ?_
                    refine mi_iand hx hb 8 dMH_readHints_123 (by decide) (fun z27 hz23 => ?_)
                    have hz23 : z27 < 256 := hz23
                    refine lv_iload hx hb dMH_readHints_124 (lv_at hl 0 rfl) ?_
                    refine mi_lt (tgt := 131) hx hb dMH_readHints_126 (by decide) (by omega) (by omega) (fun h32 => ?_) (fun h32 => ?_)
                    · refine lv_aload_n hx hb dMH_readHints_131 rfl (lv_at hl 5 rfl) ?_
                      refine ty_get (ci := 12) (C := "LatticeKeysModel$Hands") (TT := T_MH) (N := 31) (kd := (46, 0)) hx hb hts (wg_ft i_MH) hown hK hO k_h0 (nxg hc0 k_h0 rfl) hP (fun _ h9 => h9) rfl 11 (by decide) (hts _ (wg_t kw_1443)) (fun _ h9 => h9) (cd := (3, 3, 8)) rfl dMH_readHints_132 (fun v28 hv28 => ?_)
                      obtain ⟨r23, rfl, kr23⟩ := (show ∃ r : Nat, v28 = .ref r ∧ T r = some (3, 8) from hv28)
                      refine lv_iload hx hb dMH_readHints_135 (lv_at hl 3 rfl) ?_
                      refine ty_aald3 hx hb hK hO kr23 (nxg hc0 kr23 rfl) hP (by omega) (by decide) dMH_readHints_137 (fun r24 kr24 => ?_)
                      refine lv_iload hx hb dMH_readHints_138 (lv_at hl 0 rfl) ?_
                      refine lv_iconst (v := nI 1) hx hb dMH_readHints_140 (by decide) ?_
                      refine ty_iast hx hb hK hO kr24 (nxg hc0 kr24 rfl) hP hD hS (vp_in_nI (by omega) (by decide)) dMH_readHints_141 (fun pl H locs hO hP hD hS => ?_)
                      refine mi_iinc (k := 1) (x := ii21) (d := 1) (y := ii21 + 1) (lv' := [(6, .int (nI (ii21 + 1))), (7, .int (nI z25)), (5, .int (nI z23)), (4, .int (nI i21)), (3, .int (nI my21)), (0, .ref h0), (1, .ref b), (2, .int (nI fi))]) hx hb dMH_readHints_142 hl rfl (by decide) rfl (by decide) rfl (fun ls hl => ?_)
                      refine lv_goto (tgt := 87) hx hb dMH_readHints_145 (by decide) ?_
                      exact ih24 (ii21 + 1) pl ls H locs (by omega) (by omega) (by omega) (lv_sub hl [0, 2, 3, 4, 5, 6, 7] rfl) hO hP hD hS
                    · refine lv_iconst (v := nI 0) hx hb dMH_readHints_129 (by decide) ?_
                      exact mp_zret hx hb hr hlk rfl hP hD hS pl ⟨(Or.inl rfl), hO⟩ [] rfl rfl rfl (by omega) (by omega) dMH_readHints_130
              exact lp24 (z23 - my21) my21 pl ls _ _ (by omega) (by omega) (by omega) (lv_sub hl [0, 1, 2, 3, 4, 5, 6] rfl) hO hP hD hS
            · refine lv_iconst (v := nI 0) hx hb dMH_readHints_82 (by decide) ?_
              exact mp_zret hx hb hr hlk rfl hP hD hS pl ⟨(Or.inl rfl), hO⟩ [] rfl rfl rfl (by omega) (by omega) dMH_readHints_83
        | succ n23 ih23 =>
          intro i23 pl ls H locs hm23  hl hO hP hD hS
          refine lv_iload hx hb dMH_readHints_17 (lv_at hl 0 rfl) ?_
          refine lv_sipush (v := nI 256) hx hb dMH_readHints_19 (by decide) ?_
          refine mi_ge (tgt := 42) hx hb dMH_readHints_22 (by decide) (by omega) (by omega) (fun h33 => absurd h33 (by omega)) (fun h33 => ?_)
          refine lv_aload_n hx hb dMH_readHints_25 rfl (lv_at hl 3 rfl) ?_
          refine ty_get (ci := 12) (C := "LatticeKeysModel$Hands") (TT := T_MH) (N := 31) (kd := (46, 0)) hx hb hts (wg_ft i_MH) hown hK hO k_h0 (nxg hc0 k_h0 rfl) hP (fun _ h9 => h9) rfl 11 (by decide) (hts _ (wg_t kw_1443)) (fun _ h9 => h9) (cd := (3, 3, 8)) rfl dMH_readHints_26 (fun v29 hv29 => ?_)
          obtain ⟨r25, rfl, kr25⟩ := (show ∃ r : Nat, v29 = .ref r ∧ T r = some (3, 8) from hv29)
          refine lv_iload hx hb dMH_readHints_29 (lv_at hl 1 rfl) ?_
          refine ty_aald3 hx hb hK hO kr25 (nxg hc0 kr25 rfl) hP (by omega) (by decide) dMH_readHints_31 (fun r26 kr26 => ?_)
          refine lv_iload hx hb dMH_readHints_32 (lv_at hl 0 rfl) ?_
          refine lv_iconst (v := nI 0) hx hb dMH_readHints_34 (by decide) ?_
          refine ty_iast hx hb hK hO kr26 (nxg hc0 kr26 rfl) hP hD hS (vp_in_nI (by omega) (by decide)) dMH_readHints_35 (fun pl H locs hO hP hD hS => ?_)
          refine mi_iinc (k := 0) (x := i23) (d := 1) (y := i23 + 1) (lv' := [(5, .int (nI (i23 + 1))), (4, .int (nI i21)), (3, .int (nI my21)), (0, .ref h0), (1, .ref b), (2, .int (nI fi))]) hx hb dMH_readHints_36 hl rfl (by decide) rfl (by decide) rfl (fun ls hl => ?_)
          refine lv_goto (tgt := 17) hx hb dMH_readHints_39 (by decide) ?_
          exact ih23 (i23 + 1) pl ls H locs (by omega) (lv_sub hl [0, 1, 2, 3, 4, 5] rfl) hO hP hD hS
      exact lp23 256 0 pl ls _ _ (by omega) (lv_sub hl [0, 1, 2, 3, 4, 5] rfl) hO hP hD hS
  exact lp21 4 0 0 pl ls _ _ (by omega) (by omega) (lv_sub hl [0, 1, 2, 3, 4] rfl) hO hP hD hS
set_option maxHeartbeats 400000 in
set_option maxRecDepth 100000 in
theorem t_MH_readHints_1 (l : Launch) (g : Gd) (sz : Nat) (T : Ty) (xs : List Nat) (pl : va_W) (hO : okx g T xs pl) (hU : uni T) (hc0 : clo T xs 0) (h0 b fi : Nat) (k_h0 : T h0 = some (47, 0)) (k_b : T b = some (1, 16384)) (h1 : fi + 61 ≤ 16384)  : Met l y_MH_readHints w_MH_readHints ({ frames := 0, cells := 0, slots := 0, locals := 0 } : Room) (va_Pc [.ref h0, .ref b, .int (nI fi)] (pr (en g) g.1 vcl sz ([] ++ pl))) (va_Qi (fun (r : Int32) (u : va_W) => (r = nI 0 ∨ r = nI 1) ∧ okx g T xs u) (po g.1 vcl (va_A ([] ++ pl) sz) (fun (u : va_W) => [] ++ u)) (va_A ([] ++ pl) sz)) 0 0 (va_A ([] ++ pl) sz) := by
  refine mc_entry (cc := c_MH_readHints) (maxL := 8) (ret := (some .boolean)) (by decide) rfl (Nat.le_of_ble_eq_true rfl) ?_
  intro p e s m args below meth c ls F hr hlk hnm hsz hP hD hE hA hl
  obtain ⟨hx, hb, hml, hown, hts⟩ := id F
  have hK := hE.1
  generalize va_A ([] ++ pl) sz = A at hD hE hA ⊢
  have hS : va_S A s.heap s.heap [] := va_S.rf
  have hl : lv_has ls 8 [(0, .ref h0), (1, .ref b), (2, .int (nI fi))] := hl
  refine lv_iconst (v := nI 0) hx hb dMH_readHints_0 (by decide) ?_
  refine lv_istore_n (lv' := [(3, .int (nI 0)), (0, .ref h0), (1, .ref b), (2, .int (nI fi))]) hx hb dMH_readHints_1 rfl hl (by decide) rfl (fun ls hl => ?_)
  refine lv_iconst (v := nI 0) hx hb dMH_readHints_2 (by decide) ?_
  refine lv_istore (lv' := [(4, .int (nI 0)), (3, .int (nI 0)), (0, .ref h0), (1, .ref b), (2, .int (nI fi))]) hx hb dMH_readHints_3 hl (by decide) rfl (fun ls hl => ?_)
  have lp21 : ∀ (n21 : Nat) (i21 : Nat) (my21 : Nat) (pl : va_W) (ls : Array Slot) (H : Heap) (locs : List Loc), n21 + i21 = 6 → (my21 ≤ 55) → lv_has ls 8 [(4, .int (nI i21)), (3, .int (nI my21)), (0, .ref h0), (1, .ref b), (2, .int (nI fi))] → okx g T xs pl → va_P g.1 vcl ([] ++ pl) H → va_D A ([] ++ pl) → va_S A s.heap H locs → W p l e ({ frames := 0, cells := 0, slots := 0, locals := 0 } : Room) s m args below meth c H locs 0 0 (MQ below (va_Qi (fun (r : Int32) (u : va_W) => (r = nI 0 ∨ r = nI 1) ∧ okx g T xs u) (po g.1 vcl A (fun (u : va_W) => [] ++ u)) A) args s 0 0 A) (F0 m 5 ls []) := by
    intro n21
    induction n21 with
    | zero =>
      intro i21 my21 pl ls H locs hm21 hi21 hl hO hP hD hS
      refine lv_iload hx hb dMH_readHints_5 (lv_at hl 0 rfl) ?_
      refine lv_aload_n hx hb dMH_readHints_7 rfl (lv_at hl 2 rfl) ?_
      refine ty_get (ci := 12) (C := "LatticeKeysModel$Hands") (TT := T_MH) (N := 31) (kd := (47, 0)) hx hb hts (wg_ft i_MH) hown hK hO k_h0 (nxg hc0 k_h0 rfl) hP (fun _ h9 => h9) rfl 24 (by decide) (hts _ (wg_t kw_1456)) (fun _ h9 => h9) (cd := (1, 0, 6)) rfl dMH_readHints_8 (fun v21 hv21 => ?_)
      obtain rfl := (show v21 = .int (nI 6) from hv21)
      refine mi_ge (tgt := 157) hx hb dMH_readHints_11 (by decide) (by omega) (by omega) (fun h21 => ?_) (fun h21 => absurd h21 (by omega))
      refine lv_iload_n hx hb dMH_readHints_157 rfl (lv_at hl 1 rfl) ?_
      refine lv_istore (lv' := [(4, .int (nI my21)), (3, .int (nI my21)), (0, .ref h0), (1, .ref b), (2, .int (nI fi))]) hx hb dMH_readHints_158 hl (by decide) rfl (fun ls hl => ?_)
      have lp22 : ∀ (n22 : Nat) (i22 : Nat) (pl : va_W) (ls : Array Slot) (H : Heap) (locs : List Loc), n22 + i22 = 55 → (my21 ≤ i22) → lv_has ls 8 [(4, .int (nI i22)), (0, .ref h0), (1, .ref b), (2, .int (nI fi))] → okx g T xs pl → va_P g.1 vcl ([] ++ pl) H → va_D A ([] ++ pl) → va_S A s.heap H locs → W p l e ({ frames := 0, cells := 0, slots := 0, locals := 0 } : Room) s m args below meth c H locs 0 0 (MQ below (va_Qi (fun (r : Int32) (u : va_W) => (r = nI 0 ∨ r = nI 1) ∧ okx g T xs u) (po g.1 vcl A (fun (u : va_W) => [] ++ u)) A) args s 0 0 A) (F0 m 160 ls []) := by
        intro n22
        induction n22 with
        | zero =>
          intro i22 pl ls H locs hm22 hi22 hl hO hP hD hS
          refine lv_iload hx hb dMH_readHints_160 (lv_at hl 0 rfl) ?_
          refine va_gets hx hb (hE.2.1 27 _ rfl).1 hS hown (hts _ (wg_t kw_1912)) (fun _ h9 => h9) dMH_readHints_162 ?_
          refine lv_aload_n hx hb dMH_readHints_165 rfl (lv_at hl 1 rfl) ?_
          refine ty_get (ci := 12) (C := "LatticeKeysModel$Hands") (TT := T_MH) (N := 31) (kd := (47, 0)) hx hb hts (wg_ft i_MH) hown hK hO k_h0 (nxg hc0 k_h0 rfl) hP (fun _ h9 => h9) rfl 23 (by decide) (hts _ (wg_t kw_1455)) (fun _ h9 => h9) (cd := (1, 0, 1)) rfl dMH_readHints_166 (fun v22 hv22 => ?_)
          obtain rfl := (show v22 = .int (nI 1) from hv22)
          refine va_ti (v := .int (nI 55)) hx hb (hE.2.1 27 _ rfl).2 hS (vp_in_nI (by decide) (by decide)) (by decide +kernel) dMH_readHints_169 ?_
          refine mi_ge (tgt := 190) hx hb dMH_readHints_170 (by decide) (by omega) (by omega) (fun h22 => ?_) (fun h22 => absurd h22 (by omega))
          refine lv_iconst (v := nI 1) hx hb dMH_readHints_190 (by decide) ?_
          exact mp_zret hx hb hr hlk rfl hP hD hS pl ⟨(Or.inr rfl), hO⟩ [] rfl rfl rfl (by omega) (by omega) dMH_readHints_191
        | succ n22 ih22 =>
          intro i22 pl ls H locs hm22 hi22 hl hO hP hD hS
          refine lv_iload hx hb dMH_readHints_160 (lv_at hl 0 rfl) ?_
          refine va_gets hx hb (hE.2.1 27 _ rfl).1 hS hown (hts _ (wg_t kw_1912)) (fun _ h9 => h9) dMH_readHints_162 ?_
          refine lv_aload_n hx hb dMH_readHints_165 rfl (lv_at hl 1 rfl) ?_
          refine ty_get (ci := 12) (C := "LatticeKeysModel$Hands") (TT := T_MH) (N := 31) (kd := (47, 0)) hx hb hts (wg_ft i_MH) hown hK hO k_h0 (nxg hc0 k_h0 rfl) hP (fun _ h9 => h9) rfl 23 (by decide) (hts _ (wg_t kw_1455)) (fun _ h9 => h9) (cd := (1, 0, 1)) rfl dMH_readHints_166 (fun v23 hv23 => ?_)
          obtain rfl := (show v23 = .int (nI 1) from hv23)
          refine va_ti (v := .int (nI 55)) hx hb (hE.2.1 27 _ rfl).2 hS (vp_in_nI (by decide) (by decide)) (by decide +kernel) dMH_readHints_169 ?_
          refine mi_ge (tgt := 190) hx hb dMH_readHints_170 (by decide) (by omega) (by omega) (fun h23 => absurd h23 (by omega)) (fun h23 => ?_)
          refine lv_aload_n hx hb dMH_readHints_173 rfl (lv_at hl 2 rfl) ?_
          refine lv_iload_n hx hb dMH_readHints_174 rfl (lv_at hl 3 rfl) ?_
          refine lv_iload hx hb dMH_readHints_175 (lv_at hl 0 rfl) ?_
          refine mi_iadd hx hb dMH_readHints_177 ?_
          refine ty_bald hx hb hK hO k_b (nxg hc0 k_b rfl) hP (vp_in_nI (by omega) (by decide)) dMH_readHints_178 (fun z21 => ?_)
          refine lv_if_eq (tgt := 184) hx hb dMH_readHints_179 (by decide) (fun h24 => ?_) (fun h24 => ?_)
          · refine mi_iinc (k := 0) (x := i22) (d := 1) (y := i22 + 1) (lv' := [(4, .int (nI (i22 + 1))), (0, .ref h0), (1, .ref b), (2, .int (nI fi))]) hx hb dMH_readHints_184 hl rfl (by decide) rfl (by decide) rfl (fun ls hl => ?_)
            refine lv_goto (tgt := 160) hx hb dMH_readHints_187 (by decide) ?_
            exact ih22 (i22 + 1) pl ls H locs (by omega) (by omega) (lv_sub hl [0, 1, 2, 3] rfl) hO hP hD hS
          · refine lv_iconst (v := nI 0) hx hb dMH_readHints_182 (by decide) ?_
            exact mp_zret hx hb hr hlk rfl hP hD hS pl ⟨(Or.inl rfl), hO⟩ [] rfl rfl rfl (by omega) (by omega) dMH_readHints_183
      exact lp22 (55 - my21) my21 pl ls _ _ (by omega) (by omega) (lv_sub hl [0, 2, 3, 4] rfl) hO hP hD hS
    | succ n21 ih21 =>
      intro i21 my21 pl ls H locs hm21 hi21 hl hO hP hD hS
      refine lv_iload hx hb dMH_readHints_5 (lv_at hl 0 rfl) ?_
      refine lv_aload_n hx hb dMH_readHints_7 rfl (lv_at hl 2 rfl) ?_
      refine ty_get (ci := 12) (C := "LatticeKeysModel$Hands") (TT := T_MH) (N := 31) (kd := (47, 0)) hx hb hts (wg_ft i_MH) hown hK hO k_h0 (nxg hc0 k_h0 rfl) hP (fun _ h9 => h9) rfl 24 (by decide) (hts _ (wg_t kw_1456)) (fun _ h9 => h9) (cd := (1, 0, 6)) rfl dMH_readHints_8 (fun v24 hv24 => ?_)
      obtain rfl := (show v24 = .int (nI 6) from hv24)
      refine mi_ge (tgt := 157) hx hb dMH_readHints_11 (by decide) (by omega) (by omega) (fun h25 => absurd h25 (by omega)) (fun h25 => ?_)
      refine lv_iconst (v := nI 0) hx hb dMH_readHints_14 (by decide) ?_
      refine lv_istore (lv' := [(5, .int (nI 0)), (4, .int (nI i21)), (3, .int (nI my21)), (0, .ref h0), (1, .ref b), (2, .int (nI fi))]) hx hb dMH_readHints_15 hl (by decide) rfl (fun ls hl => ?_)
      have lp23 : ∀ (n23 : Nat) (i23 : Nat) (pl : va_W) (ls : Array Slot) (H : Heap) (locs : List Loc), n23 + i23 = 256 → lv_has ls 8 [(5, .int (nI i23)), (4, .int (nI i21)), (3, .int (nI my21)), (0, .ref h0), (1, .ref b), (2, .int (nI fi))] → okx g T xs pl → va_P g.1 vcl ([] ++ pl) H → va_D A ([] ++ pl) → va_S A s.heap H locs → W p l e ({ frames := 0, cells := 0, slots := 0, locals := 0 } : Room) s m args below meth c H locs 0 0 (MQ below (va_Qi (fun (r : Int32) (u : va_W) => (r = nI 0 ∨ r = nI 1) ∧ okx g T xs u) (po g.1 vcl A (fun (u : va_W) => [] ++ u)) A) args s 0 0 A) (F0 m 17 ls []) := by
        intro n23
        induction n23 with
        | zero =>
          intro i23 pl ls H locs hm23  hl hO hP hD hS
          refine lv_iload hx hb dMH_readHints_17 (lv_at hl 0 rfl) ?_
          refine lv_sipush (v := nI 256) hx hb dMH_readHints_19 (by decide) ?_
          refine mi_ge (tgt := 42) hx hb dMH_readHints_22 (by decide) (by omega) (by omega) (fun h26 => ?_) (fun h26 => absurd h26 (by omega))
          refine lv_aload_n hx hb dMH_readHints_42 rfl (lv_at hl 4 rfl) ?_
          refine lv_iload_n hx hb dMH_readHints_43 rfl (lv_at hl 5 rfl) ?_
          refine va_gets hx hb (hE.2.1 27 _ rfl).1 hS hown (hts _ (wg_t kw_1912)) (fun _ h9 => h9) dMH_readHints_44 ?_
          refine lv_aload_n hx hb dMH_readHints_47 rfl (lv_at hl 3 rfl) ?_
          refine ty_get (ci := 12) (C := "LatticeKeysModel$Hands") (TT := T_MH) (N := 31) (kd := (47, 0)) hx hb hts (wg_ft i_MH) hown hK hO k_h0 (nxg hc0 k_h0 rfl) hP (fun _ h9 => h9) rfl 23 (by decide) (hts _ (wg_t kw_1455)) (fun _ h9 => h9) (cd := (1, 0, 1)) rfl dMH_readHints_48 (fun v25 hv25 => ?_)
          obtain rfl := (show v25 = .int (nI 1) from hv25)
          refine va_ti (v := .int (nI 55)) hx hb (hE.2.1 27 _ rfl).2 hS (vp_in_nI (by decide) (by decide)) (by decide +kernel) dMH_readHints_51 ?_
          refine mi_iadd hx hb dMH_readHints_52 ?_
          refine lv_iload hx hb dMH_readHints_53 (lv_at hl 1 rfl) ?_
          refine mi_iadd hx hb dMH_readHints_55 ?_
          refine ty_bald hx hb hK hO k_b (nxg hc0 k_b rfl) hP (vp_in_nI (by omega) (by decide)) dMH_readHints_56 (fun z22 => ?_)
          refine lv_sipush (v := nI 255) hx hb dMH_readHints_57 (by decide) ?_
          refine mi_iand hx hb 8 dMH_readHints_60 (by decide) (fun z23 hz21 => ?_)
          have hz21 : z23 < 256 := hz21
          refine lv_istore (lv' := [(5, .int (nI z23)), (4, .int (nI i21)), (3, .int (nI my21)), (0, .ref h0), (1, .ref b), (2, .int (nI fi))]) hx hb dMH_readHints_61 hl (by decide) rfl (fun ls hl => ?_)
          refine lv_iload hx hb dMH_readHints_63 (lv_at hl 0 rfl) ?_
          refine lv_iload_n hx hb dMH_readHints_65 rfl (lv_at hl 2 rfl) ?_
          refine mi_lt (tgt := 82) hx hb dMH_readHints_66 (by decide) (by omega) (by omega) (fun h27 => ?_) (fun h27 => ?_)
          · refine lv_iconst (v := nI 0) hx hb dMH_readHints_82 (by decide) ?_
            exact mp_zret hx hb hr hlk rfl hP hD hS pl ⟨(Or.inl rfl), hO⟩ [] rfl rfl rfl (by omega) (by omega) dMH_readHints_83
          · refine lv_iload hx hb dMH_readHints_69 (lv_at hl 0 rfl) ?_
            refine va_gets hx hb (hE.2.1 27 _ rfl).1 hS hown (hts _ (wg_t kw_1912)) (fun _ h9 => h9) dMH_readHints_71 ?_
            refine lv_aload_n hx hb dMH_readHints_74 rfl (lv_at hl 3 rfl) ?_
            refine ty_get (ci := 12) (C := "LatticeKeysModel$Hands") (TT := T_MH) (N := 31) (kd := (47, 0)) hx hb hts (wg_ft i_MH) hown hK hO k_h0 (nxg hc0 k_h0 rfl) hP (fun _ h9 => h9) rfl 23 (by decide) (hts _ (wg_t kw_1455)) (fun _ h9 => h9) (cd := (1, 0, 1)) rfl dMH_readHints_75 (fun v26 hv26 => ?_)
            obtain rfl := (show v26 = .int (nI 1) from hv26)
            refine va_ti (v := .int (nI 55)) hx hb (hE.2.1 27 _ rfl).2 hS (vp_in_nI (by decide) (by decide)) (by decide +kernel) dMH_readHints_78 ?_
            refine mi_le (tgt := 84) hx hb dMH_readHints_79 (by decide) (by omega) (by omega) (fun h28 => ?_) (fun h28 => ?_)
            · refine lv_iload_n hx hb dMH_readHints_84 rfl (lv_at hl 2 rfl) ?_
              refine lv_istore (lv' := [(6, .int (nI my21)), (5, .int (nI z23)), (4, .int (nI i21)), (3, .int (nI my21)), (0, .ref h0), (1, .ref b), (2, .int (nI fi))]) hx hb dMH_readHints_85 hl (by decide) rfl (fun ls hl => ?_)
              have lp24 : ∀ (n24 : Nat) (ii21 : Nat) (pl : va_W) (ls : Array Slot) (H : Heap) (locs : List Loc), n24 = z23 - ii21 → (my21 ≤ ii21) → (ii21 ≤ 55) → lv_has ls 8 [(6, .int (nI ii21)), (5, .int (nI z23)), (4, .int (nI i21)), (3, .int (nI my21)), (0, .ref h0), (1, .ref b), (2, .int (nI fi))] → okx g T xs pl → va_P g.1 vcl ([] ++ pl) H → va_D A ([] ++ pl) → va_S A s.heap H locs → W p l e ({ frames := 0, cells := 0, slots := 0, locals := 0 } : Room) s m args below meth c H locs 0 0 (MQ below (va_Qi (fun (r : Int32) (u : va_W) => (r = nI 0 ∨ r = nI 1) ∧ okx g T xs u) (po g.1 vcl A (fun (u : va_W) => [] ++ u)) A) args s 0 0 A) (F0 m 87 ls []) := by
                intro n24
                induction n24 with
                | zero =>
                  intro ii21 pl ls H locs hm24 hi23 hi24 hl hO hP hD hS
                  refine lv_iload hx hb dMH_readHints_87 (lv_at hl 0 rfl) ?_
                  refine lv_iload hx hb dMH_readHints_89 (lv_at hl 1 rfl) ?_
                  refine mi_ge (tgt := 148) hx hb dMH_readHints_91 (by decide) (by omega) (by omega) (fun h29 => ?_) (fun h29 => absurd h29 (by omega))
                  refine lv_iload hx hb dMH_readHints_148 (lv_at hl 1 rfl) ?_
                  refine lv_istore_n (lv' := [(3, .int (nI z23)), (6, .int (nI ii21)), (5, .int (nI z23)), (4, .int (nI i21)), (0, .ref h0), (1, .ref b), (2, .int (nI fi))]) hx hb dMH_readHints_150 rfl hl (by decide) rfl (fun ls hl => ?_)
                  refine mi_iinc (k := 3) (x := i21) (d := 1) (y := i21 + 1) (lv' := [(4, .int (nI (i21 + 1))), (3, .int (nI z23)), (6, .int (nI ii21)), (5, .int (nI z23)), (0, .ref h0), (1, .ref b), (2, .int (nI fi))]) hx hb dMH_readHints_151 hl rfl (by decide) rfl (by decide) rfl (fun ls hl => ?_)
                  refine lv_goto (tgt := 5) hx hb dMH_readHints_154 (by decide) ?_
                  exact ih21 (i21 + 1) z23 pl ls H locs (by omega) (by omega) (lv_sub hl [0, 1, 4, 5, 6] rfl) hO hP hD hS
                | succ n24 ih24 =>
                  intro ii21 pl ls H locs hm24 hi23 hi24 hl hO hP hD hS
                  refine lv_iload hx hb dMH_readHints_87 (lv_at hl 0 rfl) ?_
                  refine lv_iload hx hb dMH_readHints_89 (lv_at hl 1 rfl) ?_
                  refine mi_ge (tgt := 148) hx hb dMH_readHints_91 (by decide) (by omega) (by omega) (fun h30 => absurd h30 (by omega)) (fun h30 => ?_)
                  refine lv_aload_n hx hb dMH_readHints_94 rfl (lv_at hl 5 rfl) ?_
                  refine lv_iload_n hx hb dMH_readHints_95 rfl (lv_at hl 6 rfl) ?_
                  refine lv_iload hx hb dMH_readHints_96 (lv_at hl 0 rfl) ?_
                  refine mi_iadd hx hb dMH_readHints_98 ?_
                  refine ty_bald hx hb hK hO k_b (nxg hc0 k_b rfl) hP (vp_in_nI (by omega) (by decide)) dMH_readHints_99 (fun z24 => ?_)
                  refine lv_sipush (v := nI 255) hx hb dMH_readHints_100 (by decide) ?_
                  refine mi_iand hx hb 8 dMH_readHints_103 (by decide) (fun z25 hz22 => ?_)
                  have hz22 : z25 < 256 := hz22
                  refine lv_istore (lv' := [(7, .int (nI z25)), (6, .int (nI ii21)), (5, .int (nI z23)), (4, .int (nI i21)), (3, .int (nI my21)), (0, .ref h0), (1, .ref b), (2, .int (nI fi))]) hx hb dMH_readHints_104 hl (by decide) rfl (fun ls hl => ?_)
                  refine lv_iload hx hb dMH_readHints_106 (lv_at hl 1 rfl) ?_
                  refine lv_iload_n hx hb dMH_readHints_108 rfl (lv_at hl 4 rfl) ?_
                  refine mi_le (tgt := 131) hx hb dMH_readHints_109 (by decide) (by omega) (by omega) (fun h31 => ?_) (fun h31 => ?_)
                  · refine lv_aload_n hx hb dMH_readHints_131 rfl (lv_at hl 5 rfl) ?_
                    refine ty_get (ci := 12) (C := "LatticeKeysModel$Hands") (TT := T_MH) (N := 31) (kd := (47, 0)) hx hb hts (wg_ft i_MH) hown hK hO k_h0 (nxg hc0 k_h0 rfl) hP (fun _ h9 => h9) rfl 11 (by decide) (hts _ (wg_t kw_1443)) (fun _ h9 => h9) (cd := (3, 3, 8)) rfl dMH_readHints_132 (fun v27 hv27 => ?_)
                    obtain ⟨r21, rfl, kr21⟩ := (show ∃ r : Nat, v27 = .ref r ∧ T r = some (3, 8) from hv27)
                    refine lv_iload hx hb dMH_readHints_135 (lv_at hl 3 rfl) ?_
                    refine ty_aald3 hx hb hK hO kr21 (nxg hc0 kr21 rfl) hP (by omega) (by decide) dMH_readHints_137 (fun r22 kr22 => ?_)
                    refine lv_iload hx hb dMH_readHints_138 (lv_at hl 0 rfl) ?_
                    refine lv_iconst (v := nI 1) hx hb dMH_readHints_140 (by decide) ?_
                    refine ty_iast hx hb hK hO kr22 (nxg hc0 kr22 rfl) hP hD hS (vp_in_nI (by omega) (by decide)) dMH_readHints_141 (fun pl H locs hO hP hD hS => ?_)
                    refine mi_iinc (k := 1) (x := ii21) (d := 1) (y := ii21 + 1) (lv' := [(6, .int (nI (ii21 + 1))), (7, .int (nI z25)), (5, .int (nI z23)), (4, .int (nI i21)), (3, .int (nI my21)), (0, .ref h0), (1, .ref b), (2, .int (nI fi))]) hx hb dMH_readHints_142 hl rfl (by decide) rfl (by decide) rfl (fun ls hl => ?_)
                    refine lv_goto (tgt := 87) hx hb dMH_readHints_145 (by decide) ?_
                    exact ih24 (ii21 + 1) pl ls H locs (by omega) (by omega) (by omega) (lv_sub hl [0, 2, 3, 4, 5, 6, 7] rfl) hO hP hD hS
                  · refine lv_aload_n hx hb dMH_readHints_112 rfl (lv_at hl 6 rfl) ?_
                    refine lv_iload_n hx hb dMH_readHints_113 rfl (lv_at hl 7 rfl) ?_
                    refine lv_iload hx hb dMH_readHints_114 (lv_at hl 1 rfl) ?_
                    refine mi_iadd hx hb dMH_readHints_116 ?_
                    refine lv_iconst (v := nI 1) hx hb dMH_readHints_117 (by decide) ?_
                    refine mi_isub hx hb dMH_readHints_118 (by omega) ?_
                    refine ty_bald hx hb hK hO k_b (nxg hc0 k_b rfl) hP (vp_in_nI (by omega) (by decide)) dMH_readHints_119 (fun z26 => ?_)
                    refine lv_sipush (v := nI 255) hx hb dMH_readHints_120 (by decide) ?_
                    refine mi_iand hx hb 8 dMH_readHints_123 (by decide) (fun z27 hz23 => ?_)
                    have hz23 : z27 < 256 := hz23
                    refine lv_iload hx hb dMH_readHints_124 (lv_at hl 0 rfl) ?_
                    refine mi_lt (tgt := 131) hx hb dMH_readHints_126 (by decide) (by omega) (by omega) (fun h32 => ?_) (fun h32 => ?_)
                    · refine lv_aload_n hx hb dMH_readHints_131 rfl (lv_at hl 5 rfl) ?_
                      refine ty_get (ci := 12) (C := "LatticeKeysModel$Hands") (TT := T_MH) (N := 31) (kd := (47, 0)) hx hb hts (wg_ft i_MH) hown hK hO k_h0 (nxg hc0 k_h0 rfl) hP (fun _ h9 => h9) rfl 11 (by decide) (hts _ (wg_t kw_1443)) (fun _ h9 => h9) (cd := (3, 3, 8)) rfl dMH_readHints_132 (fun v28 hv28 => ?_)
                      obtain ⟨r23, rfl, kr23⟩ := (show ∃ r : Nat, v28 = .ref r ∧ T r = some (3, 8) from hv28)
                      refine lv_iload hx hb dMH_readHints_135 (lv_at hl 3 rfl) ?_
                      refine ty_aald3 hx hb hK hO kr23 (nxg hc0 kr23 rfl) hP (by omega) (by decide) dMH_readHints_137 (fun r24 kr24 => ?_)
                      refine lv_iload hx hb dMH_readHints_138 (lv_at hl 0 rfl) ?_
                      refine lv_iconst (v := nI 1) hx hb dMH_readHints_140 (by decide) ?_
                      refine ty_iast hx hb hK hO kr24 (nxg hc0 kr24 rfl) hP hD hS (vp_in_nI (by omega) (by decide)) dMH_readHints_141 (fun pl H locs hO hP hD hS => ?_)
                      refine mi_iinc (k := 1) (x := ii21) (d := 1) (y := ii21 + 1) (lv' := [(6, .int (nI (ii21 + 1))), (7, .int (nI z25)), (5, .int (nI z23)), (4, .int (nI i21)), (3, .int (nI my21)), (0, .ref h0), (1, .ref b), (2, .int (nI fi))]) hx hb dMH_readHints_142 hl rfl (by decide) rfl (by decide) rfl (fun ls hl => ?_)
                      refine lv_goto (tgt := 87) hx hb dMH_readHints_145 (by decide) ?_
                      exact ih24 (ii21 + 1) pl ls H locs (by omega) (by omega) (by omega) (lv_sub hl [0, 2, 3, 4, 5, 6, 7] rfl) hO hP hD hS
                    · refine lv_iconst (v := nI 0) hx hb dMH_readHints_129 (by decide) ?_
                      exact mp_zret hx hb hr hlk rfl hP hD hS pl ⟨(Or.inl rfl), hO⟩ [] rfl rfl rfl (by omega) (by omega) dMH_readHints_130
              exact lp24 (z23 - my21) my21 pl ls _ _ (by omega) (by omega) (by omega) (lv_sub hl [0, 1, 2, 3, 4, 5, 6] rfl) hO hP hD hS
            · refine lv_iconst (v := nI 0) hx hb dMH_readHints_82 (by decide) ?_
              exact mp_zret hx hb hr hlk rfl hP hD hS pl ⟨(Or.inl rfl), hO⟩ [] rfl rfl rfl (by omega) (by omega) dMH_readHints_83
        | succ n23 ih23 =>
          intro i23 pl ls H locs hm23  hl hO hP hD hS
          refine lv_iload hx hb dMH_readHints_17 (lv_at hl 0 rfl) ?_
          refine lv_sipush (v := nI 256) hx hb dMH_readHints_19 (by decide) ?_
          refine mi_ge (tgt := 42) hx hb dMH_readHints_22 (by decide) (by omega) (by omega) (fun h33 => absurd h33 (by omega)) (fun h33 => ?_)
          refine lv_aload_n hx hb dMH_readHints_25 rfl (lv_at hl 3 rfl) ?_
          refine ty_get (ci := 12) (C := "LatticeKeysModel$Hands") (TT := T_MH) (N := 31) (kd := (47, 0)) hx hb hts (wg_ft i_MH) hown hK hO k_h0 (nxg hc0 k_h0 rfl) hP (fun _ h9 => h9) rfl 11 (by decide) (hts _ (wg_t kw_1443)) (fun _ h9 => h9) (cd := (3, 3, 8)) rfl dMH_readHints_26 (fun v29 hv29 => ?_)
          obtain ⟨r25, rfl, kr25⟩ := (show ∃ r : Nat, v29 = .ref r ∧ T r = some (3, 8) from hv29)
          refine lv_iload hx hb dMH_readHints_29 (lv_at hl 1 rfl) ?_
          refine ty_aald3 hx hb hK hO kr25 (nxg hc0 kr25 rfl) hP (by omega) (by decide) dMH_readHints_31 (fun r26 kr26 => ?_)
          refine lv_iload hx hb dMH_readHints_32 (lv_at hl 0 rfl) ?_
          refine lv_iconst (v := nI 0) hx hb dMH_readHints_34 (by decide) ?_
          refine ty_iast hx hb hK hO kr26 (nxg hc0 kr26 rfl) hP hD hS (vp_in_nI (by omega) (by decide)) dMH_readHints_35 (fun pl H locs hO hP hD hS => ?_)
          refine mi_iinc (k := 0) (x := i23) (d := 1) (y := i23 + 1) (lv' := [(5, .int (nI (i23 + 1))), (4, .int (nI i21)), (3, .int (nI my21)), (0, .ref h0), (1, .ref b), (2, .int (nI fi))]) hx hb dMH_readHints_36 hl rfl (by decide) rfl (by decide) rfl (fun ls hl => ?_)
          refine lv_goto (tgt := 17) hx hb dMH_readHints_39 (by decide) ?_
          exact ih23 (i23 + 1) pl ls H locs (by omega) (lv_sub hl [0, 1, 2, 3, 4, 5] rfl) hO hP hD hS
      exact lp23 256 0 pl ls _ _ (by omega) (lv_sub hl [0, 1, 2, 3, 4, 5] rfl) hO hP hD hS
  exact lp21 6 0 0 pl ls _ _ (by omega) (by omega) (lv_sub hl [0, 1, 2, 3, 4] rfl) hO hP hD hS
set_option maxHeartbeats 400000 in
set_option maxRecDepth 100000 in
theorem t_MH_readHints_2 (l : Launch) (g : Gd) (sz : Nat) (T : Ty) (xs : List Nat) (pl : va_W) (hO : okx g T xs pl) (hU : uni T) (hc0 : clo T xs 0) (h0 b fi : Nat) (k_h0 : T h0 = some (48, 0)) (k_b : T b = some (1, 16384)) (h1 : fi + 83 ≤ 16384)  : Met l y_MH_readHints w_MH_readHints ({ frames := 0, cells := 0, slots := 0, locals := 0 } : Room) (va_Pc [.ref h0, .ref b, .int (nI fi)] (pr (en g) g.1 vcl sz ([] ++ pl))) (va_Qi (fun (r : Int32) (u : va_W) => (r = nI 0 ∨ r = nI 1) ∧ okx g T xs u) (po g.1 vcl (va_A ([] ++ pl) sz) (fun (u : va_W) => [] ++ u)) (va_A ([] ++ pl) sz)) 0 0 (va_A ([] ++ pl) sz) := by
  refine mc_entry (cc := c_MH_readHints) (maxL := 8) (ret := (some .boolean)) (by decide) rfl (Nat.le_of_ble_eq_true rfl) ?_
  intro p e s m args below meth c ls F hr hlk hnm hsz hP hD hE hA hl
  obtain ⟨hx, hb, hml, hown, hts⟩ := id F
  have hK := hE.1
  generalize va_A ([] ++ pl) sz = A at hD hE hA ⊢
  have hS : va_S A s.heap s.heap [] := va_S.rf
  have hl : lv_has ls 8 [(0, .ref h0), (1, .ref b), (2, .int (nI fi))] := hl
  refine lv_iconst (v := nI 0) hx hb dMH_readHints_0 (by decide) ?_
  refine lv_istore_n (lv' := [(3, .int (nI 0)), (0, .ref h0), (1, .ref b), (2, .int (nI fi))]) hx hb dMH_readHints_1 rfl hl (by decide) rfl (fun ls hl => ?_)
  refine lv_iconst (v := nI 0) hx hb dMH_readHints_2 (by decide) ?_
  refine lv_istore (lv' := [(4, .int (nI 0)), (3, .int (nI 0)), (0, .ref h0), (1, .ref b), (2, .int (nI fi))]) hx hb dMH_readHints_3 hl (by decide) rfl (fun ls hl => ?_)
  have lp21 : ∀ (n21 : Nat) (i21 : Nat) (my21 : Nat) (pl : va_W) (ls : Array Slot) (H : Heap) (locs : List Loc), n21 + i21 = 8 → (my21 ≤ 75) → lv_has ls 8 [(4, .int (nI i21)), (3, .int (nI my21)), (0, .ref h0), (1, .ref b), (2, .int (nI fi))] → okx g T xs pl → va_P g.1 vcl ([] ++ pl) H → va_D A ([] ++ pl) → va_S A s.heap H locs → W p l e ({ frames := 0, cells := 0, slots := 0, locals := 0 } : Room) s m args below meth c H locs 0 0 (MQ below (va_Qi (fun (r : Int32) (u : va_W) => (r = nI 0 ∨ r = nI 1) ∧ okx g T xs u) (po g.1 vcl A (fun (u : va_W) => [] ++ u)) A) args s 0 0 A) (F0 m 5 ls []) := by
    intro n21
    induction n21 with
    | zero =>
      intro i21 my21 pl ls H locs hm21 hi21 hl hO hP hD hS
      refine lv_iload hx hb dMH_readHints_5 (lv_at hl 0 rfl) ?_
      refine lv_aload_n hx hb dMH_readHints_7 rfl (lv_at hl 2 rfl) ?_
      refine ty_get (ci := 12) (C := "LatticeKeysModel$Hands") (TT := T_MH) (N := 31) (kd := (48, 0)) hx hb hts (wg_ft i_MH) hown hK hO k_h0 (nxg hc0 k_h0 rfl) hP (fun _ h9 => h9) rfl 24 (by decide) (hts _ (wg_t kw_1456)) (fun _ h9 => h9) (cd := (1, 0, 8)) rfl dMH_readHints_8 (fun v21 hv21 => ?_)
      obtain rfl := (show v21 = .int (nI 8) from hv21)
      refine mi_ge (tgt := 157) hx hb dMH_readHints_11 (by decide) (by omega) (by omega) (fun h21 => ?_) (fun h21 => absurd h21 (by omega))
      refine lv_iload_n hx hb dMH_readHints_157 rfl (lv_at hl 1 rfl) ?_
      refine lv_istore (lv' := [(4, .int (nI my21)), (3, .int (nI my21)), (0, .ref h0), (1, .ref b), (2, .int (nI fi))]) hx hb dMH_readHints_158 hl (by decide) rfl (fun ls hl => ?_)
      have lp22 : ∀ (n22 : Nat) (i22 : Nat) (pl : va_W) (ls : Array Slot) (H : Heap) (locs : List Loc), n22 + i22 = 75 → (my21 ≤ i22) → lv_has ls 8 [(4, .int (nI i22)), (0, .ref h0), (1, .ref b), (2, .int (nI fi))] → okx g T xs pl → va_P g.1 vcl ([] ++ pl) H → va_D A ([] ++ pl) → va_S A s.heap H locs → W p l e ({ frames := 0, cells := 0, slots := 0, locals := 0 } : Room) s m args below meth c H locs 0 0 (MQ below (va_Qi (fun (r : Int32) (u : va_W) => (r = nI 0 ∨ r = nI 1) ∧ okx g T xs u) (po g.1 vcl A (fun (u : va_W) => [] ++ u)) A) args s 0 0 A) (F0 m 160 ls []) := by
        intro n22
        induction n22 with
        | zero =>
          intro i22 pl ls H locs hm22 hi22 hl hO hP hD hS
          refine lv_iload hx hb dMH_readHints_160 (lv_at hl 0 rfl) ?_
          refine va_gets hx hb (hE.2.1 27 _ rfl).1 hS hown (hts _ (wg_t kw_1912)) (fun _ h9 => h9) dMH_readHints_162 ?_
          refine lv_aload_n hx hb dMH_readHints_165 rfl (lv_at hl 1 rfl) ?_
          refine ty_get (ci := 12) (C := "LatticeKeysModel$Hands") (TT := T_MH) (N := 31) (kd := (48, 0)) hx hb hts (wg_ft i_MH) hown hK hO k_h0 (nxg hc0 k_h0 rfl) hP (fun _ h9 => h9) rfl 23 (by decide) (hts _ (wg_t kw_1455)) (fun _ h9 => h9) (cd := (1, 0, 2)) rfl dMH_readHints_166 (fun v22 hv22 => ?_)
          obtain rfl := (show v22 = .int (nI 2) from hv22)
          refine va_ti (v := .int (nI 75)) hx hb (hE.2.1 27 _ rfl).2 hS (vp_in_nI (by decide) (by decide)) (by decide +kernel) dMH_readHints_169 ?_
          refine mi_ge (tgt := 190) hx hb dMH_readHints_170 (by decide) (by omega) (by omega) (fun h22 => ?_) (fun h22 => absurd h22 (by omega))
          refine lv_iconst (v := nI 1) hx hb dMH_readHints_190 (by decide) ?_
          exact mp_zret hx hb hr hlk rfl hP hD hS pl ⟨(Or.inr rfl), hO⟩ [] rfl rfl rfl (by omega) (by omega) dMH_readHints_191
        | succ n22 ih22 =>
          intro i22 pl ls H locs hm22 hi22 hl hO hP hD hS
          refine lv_iload hx hb dMH_readHints_160 (lv_at hl 0 rfl) ?_
          refine va_gets hx hb (hE.2.1 27 _ rfl).1 hS hown (hts _ (wg_t kw_1912)) (fun _ h9 => h9) dMH_readHints_162 ?_
          refine lv_aload_n hx hb dMH_readHints_165 rfl (lv_at hl 1 rfl) ?_
          refine ty_get (ci := 12) (C := "LatticeKeysModel$Hands") (TT := T_MH) (N := 31) (kd := (48, 0)) hx hb hts (wg_ft i_MH) hown hK hO k_h0 (nxg hc0 k_h0 rfl) hP (fun _ h9 => h9) rfl 23 (by decide) (hts _ (wg_t kw_1455)) (fun _ h9 => h9) (cd := (1, 0, 2)) rfl dMH_readHints_166 (fun v23 hv23 => ?_)
          obtain rfl := (show v23 = .int (nI 2) from hv23)
          refine va_ti (v := .int (nI 75)) hx hb (hE.2.1 27 _ rfl).2 hS (vp_in_nI (by decide) (by decide)) (by decide +kernel) dMH_readHints_169 ?_
          refine mi_ge (tgt := 190) hx hb dMH_readHints_170 (by decide) (by omega) (by omega) (fun h23 => absurd h23 (by omega)) (fun h23 => ?_)
          refine lv_aload_n hx hb dMH_readHints_173 rfl (lv_at hl 2 rfl) ?_
          refine lv_iload_n hx hb dMH_readHints_174 rfl (lv_at hl 3 rfl) ?_
          refine lv_iload hx hb dMH_readHints_175 (lv_at hl 0 rfl) ?_
          refine mi_iadd hx hb dMH_readHints_177 ?_
          refine ty_bald hx hb hK hO k_b (nxg hc0 k_b rfl) hP (vp_in_nI (by omega) (by decide)) dMH_readHints_178 (fun z21 => ?_)
          refine lv_if_eq (tgt := 184) hx hb dMH_readHints_179 (by decide) (fun h24 => ?_) (fun h24 => ?_)
          · refine mi_iinc (k := 0) (x := i22) (d := 1) (y := i22 + 1) (lv' := [(4, .int (nI (i22 + 1))), (0, .ref h0), (1, .ref b), (2, .int (nI fi))]) hx hb dMH_readHints_184 hl rfl (by decide) rfl (by decide) rfl (fun ls hl => ?_)
            refine lv_goto (tgt := 160) hx hb dMH_readHints_187 (by decide) ?_
            exact ih22 (i22 + 1) pl ls H locs (by omega) (by omega) (lv_sub hl [0, 1, 2, 3] rfl) hO hP hD hS
          · refine lv_iconst (v := nI 0) hx hb dMH_readHints_182 (by decide) ?_
            exact mp_zret hx hb hr hlk rfl hP hD hS pl ⟨(Or.inl rfl), hO⟩ [] rfl rfl rfl (by omega) (by omega) dMH_readHints_183
      exact lp22 (75 - my21) my21 pl ls _ _ (by omega) (by omega) (lv_sub hl [0, 2, 3, 4] rfl) hO hP hD hS
    | succ n21 ih21 =>
      intro i21 my21 pl ls H locs hm21 hi21 hl hO hP hD hS
      refine lv_iload hx hb dMH_readHints_5 (lv_at hl 0 rfl) ?_
      refine lv_aload_n hx hb dMH_readHints_7 rfl (lv_at hl 2 rfl) ?_
      refine ty_get (ci := 12) (C := "LatticeKeysModel$Hands") (TT := T_MH) (N := 31) (kd := (48, 0)) hx hb hts (wg_ft i_MH) hown hK hO k_h0 (nxg hc0 k_h0 rfl) hP (fun _ h9 => h9) rfl 24 (by decide) (hts _ (wg_t kw_1456)) (fun _ h9 => h9) (cd := (1, 0, 8)) rfl dMH_readHints_8 (fun v24 hv24 => ?_)
      obtain rfl := (show v24 = .int (nI 8) from hv24)
      refine mi_ge (tgt := 157) hx hb dMH_readHints_11 (by decide) (by omega) (by omega) (fun h25 => absurd h25 (by omega)) (fun h25 => ?_)
      refine lv_iconst (v := nI 0) hx hb dMH_readHints_14 (by decide) ?_
      refine lv_istore (lv' := [(5, .int (nI 0)), (4, .int (nI i21)), (3, .int (nI my21)), (0, .ref h0), (1, .ref b), (2, .int (nI fi))]) hx hb dMH_readHints_15 hl (by decide) rfl (fun ls hl => ?_)
      have lp23 : ∀ (n23 : Nat) (i23 : Nat) (pl : va_W) (ls : Array Slot) (H : Heap) (locs : List Loc), n23 + i23 = 256 → lv_has ls 8 [(5, .int (nI i23)), (4, .int (nI i21)), (3, .int (nI my21)), (0, .ref h0), (1, .ref b), (2, .int (nI fi))] → okx g T xs pl → va_P g.1 vcl ([] ++ pl) H → va_D A ([] ++ pl) → va_S A s.heap H locs → W p l e ({ frames := 0, cells := 0, slots := 0, locals := 0 } : Room) s m args below meth c H locs 0 0 (MQ below (va_Qi (fun (r : Int32) (u : va_W) => (r = nI 0 ∨ r = nI 1) ∧ okx g T xs u) (po g.1 vcl A (fun (u : va_W) => [] ++ u)) A) args s 0 0 A) (F0 m 17 ls []) := by
        intro n23
        induction n23 with
        | zero =>
          intro i23 pl ls H locs hm23  hl hO hP hD hS
          refine lv_iload hx hb dMH_readHints_17 (lv_at hl 0 rfl) ?_
          refine lv_sipush (v := nI 256) hx hb dMH_readHints_19 (by decide) ?_
          refine mi_ge (tgt := 42) hx hb dMH_readHints_22 (by decide) (by omega) (by omega) (fun h26 => ?_) (fun h26 => absurd h26 (by omega))
          refine lv_aload_n hx hb dMH_readHints_42 rfl (lv_at hl 4 rfl) ?_
          refine lv_iload_n hx hb dMH_readHints_43 rfl (lv_at hl 5 rfl) ?_
          refine va_gets hx hb (hE.2.1 27 _ rfl).1 hS hown (hts _ (wg_t kw_1912)) (fun _ h9 => h9) dMH_readHints_44 ?_
          refine lv_aload_n hx hb dMH_readHints_47 rfl (lv_at hl 3 rfl) ?_
          refine ty_get (ci := 12) (C := "LatticeKeysModel$Hands") (TT := T_MH) (N := 31) (kd := (48, 0)) hx hb hts (wg_ft i_MH) hown hK hO k_h0 (nxg hc0 k_h0 rfl) hP (fun _ h9 => h9) rfl 23 (by decide) (hts _ (wg_t kw_1455)) (fun _ h9 => h9) (cd := (1, 0, 2)) rfl dMH_readHints_48 (fun v25 hv25 => ?_)
          obtain rfl := (show v25 = .int (nI 2) from hv25)
          refine va_ti (v := .int (nI 75)) hx hb (hE.2.1 27 _ rfl).2 hS (vp_in_nI (by decide) (by decide)) (by decide +kernel) dMH_readHints_51 ?_
          refine mi_iadd hx hb dMH_readHints_52 ?_
          refine lv_iload hx hb dMH_readHints_53 (lv_at hl 1 rfl) ?_
          refine mi_iadd hx hb dMH_readHints_55 ?_
          refine ty_bald hx hb hK hO k_b (nxg hc0 k_b rfl) hP (vp_in_nI (by omega) (by decide)) dMH_readHints_56 (fun z22 => ?_)
          refine lv_sipush (v := nI 255) hx hb dMH_readHints_57 (by decide) ?_
          refine mi_iand hx hb 8 dMH_readHints_60 (by decide) (fun z23 hz21 => ?_)
          have hz21 : z23 < 256 := hz21
          refine lv_istore (lv' := [(5, .int (nI z23)), (4, .int (nI i21)), (3, .int (nI my21)), (0, .ref h0), (1, .ref b), (2, .int (nI fi))]) hx hb dMH_readHints_61 hl (by decide) rfl (fun ls hl => ?_)
          refine lv_iload hx hb dMH_readHints_63 (lv_at hl 0 rfl) ?_
          refine lv_iload_n hx hb dMH_readHints_65 rfl (lv_at hl 2 rfl) ?_
          refine mi_lt (tgt := 82) hx hb dMH_readHints_66 (by decide) (by omega) (by omega) (fun h27 => ?_) (fun h27 => ?_)
          · refine lv_iconst (v := nI 0) hx hb dMH_readHints_82 (by decide) ?_
            exact mp_zret hx hb hr hlk rfl hP hD hS pl ⟨(Or.inl rfl), hO⟩ [] rfl rfl rfl (by omega) (by omega) dMH_readHints_83
          · refine lv_iload hx hb dMH_readHints_69 (lv_at hl 0 rfl) ?_
            refine va_gets hx hb (hE.2.1 27 _ rfl).1 hS hown (hts _ (wg_t kw_1912)) (fun _ h9 => h9) dMH_readHints_71 ?_
            refine lv_aload_n hx hb dMH_readHints_74 rfl (lv_at hl 3 rfl) ?_
            refine ty_get (ci := 12) (C := "LatticeKeysModel$Hands") (TT := T_MH) (N := 31) (kd := (48, 0)) hx hb hts (wg_ft i_MH) hown hK hO k_h0 (nxg hc0 k_h0 rfl) hP (fun _ h9 => h9) rfl 23 (by decide) (hts _ (wg_t kw_1455)) (fun _ h9 => h9) (cd := (1, 0, 2)) rfl dMH_readHints_75 (fun v26 hv26 => ?_)
            obtain rfl := (show v26 = .int (nI 2) from hv26)
            refine va_ti (v := .int (nI 75)) hx hb (hE.2.1 27 _ rfl).2 hS (vp_in_nI (by decide) (by decide)) (by decide +kernel) dMH_readHints_78 ?_
            refine mi_le (tgt := 84) hx hb dMH_readHints_79 (by decide) (by omega) (by omega) (fun h28 => ?_) (fun h28 => ?_)
            · refine lv_iload_n hx hb dMH_readHints_84 rfl (lv_at hl 2 rfl) ?_
              refine lv_istore (lv' := [(6, .int (nI my21)), (5, .int (nI z23)), (4, .int (nI i21)), (3, .int (nI my21)), (0, .ref h0), (1, .ref b), (2, .int (nI fi))]) hx hb dMH_readHints_85 hl (by decide) rfl (fun ls hl => ?_)
              have lp24 : ∀ (n24 : Nat) (ii21 : Nat) (pl : va_W) (ls : Array Slot) (H : Heap) (locs : List Loc), n24 = z23 - ii21 → (my21 ≤ ii21) → (ii21 ≤ 75) → lv_has ls 8 [(6, .int (nI ii21)), (5, .int (nI z23)), (4, .int (nI i21)), (3, .int (nI my21)), (0, .ref h0), (1, .ref b), (2, .int (nI fi))] → okx g T xs pl → va_P g.1 vcl ([] ++ pl) H → va_D A ([] ++ pl) → va_S A s.heap H locs → W p l e ({ frames := 0, cells := 0, slots := 0, locals := 0 } : Room) s m args below meth c H locs 0 0 (MQ below (va_Qi (fun (r : Int32) (u : va_W) => (r = nI 0 ∨ r = nI 1) ∧ okx g T xs u) (po g.1 vcl A (fun (u : va_W) => [] ++ u)) A) args s 0 0 A) (F0 m 87 ls []) := by
                intro n24
                induction n24 with
                | zero =>
                  intro ii21 pl ls H locs hm24 hi23 hi24 hl hO hP hD hS
                  refine lv_iload hx hb dMH_readHints_87 (lv_at hl 0 rfl) ?_
                  refine lv_iload hx hb dMH_readHints_89 (lv_at hl 1 rfl) ?_
                  refine mi_ge (tgt := 148) hx hb dMH_readHints_91 (by decide) (by omega) (by omega) (fun h29 => ?_) (fun h29 => absurd h29 (by omega))
                  refine lv_iload hx hb dMH_readHints_148 (lv_at hl 1 rfl) ?_
                  refine lv_istore_n (lv' := [(3, .int (nI z23)), (6, .int (nI ii21)), (5, .int (nI z23)), (4, .int (nI i21)), (0, .ref h0), (1, .ref b), (2, .int (nI fi))]) hx hb dMH_readHints_150 rfl hl (by decide) rfl (fun ls hl => ?_)
                  refine mi_iinc (k := 3) (x := i21) (d := 1) (y := i21 + 1) (lv' := [(4, .int (nI (i21 + 1))), (3, .int (nI z23)), (6, .int (nI ii21)), (5, .int (nI z23)), (0, .ref h0), (1, .ref b), (2, .int (nI fi))]) hx hb dMH_readHints_151 hl rfl (by decide) rfl (by decide) rfl (fun ls hl => ?_)
                  refine lv_goto (tgt := 5) hx hb dMH_readHints_154 (by decide) ?_
                  exact ih21 (i21 + 1) z23 pl ls H locs (by omega) (by omega) (lv_sub hl [0, 1, 4, 5, 6] rfl) hO hP hD hS
                | succ n24 ih24 =>
                  intro ii21 pl ls H locs hm24 hi23 hi24 hl hO hP hD hS
                  refine lv_iload hx hb dMH_readHints_87 (lv_at hl 0 rfl) ?_
                  refine lv_iload hx hb dMH_readHints_89 (lv_at hl 1 rfl) ?_
                  refine mi_ge (tgt := 148) hx hb dMH_readHints_91 (by decide) (by omega) (by omega) (fun h30 => absurd h30 (by omega)) (fun h30 => ?_)
                  refine lv_aload_n hx hb dMH_readHints_94 rfl (lv_at hl 5 rfl) ?_
                  refine lv_iload_n hx hb dMH_readHints_95 rfl (lv_at hl 6 rfl) ?_
                  refine lv_iload hx hb dMH_readHints_96 (lv_at hl 0 rfl) ?_
                  refine mi_iadd hx hb dMH_readHints_98 ?_
                  refine ty_bald hx hb hK hO k_b (nxg hc0 k_b rfl) hP (vp_in_nI (by omega) (by decide)) dMH_readHints_99 (fun z24 => ?_)
                  refine lv_sipush (v := nI 255) hx hb dMH_readHints_100 (by decide) ?_
                  refine mi_iand hx hb 8 dMH_readHints_103 (by decide) (fun z25 hz22 => ?_)
                  have hz22 : z25 < 256 := hz22
                  refine lv_istore (lv' := [(7, .int (nI z25)), (6, .int (nI ii21)), (5, .int (nI z23)), (4, .int (nI i21)), (3, .int (nI my21)), (0, .ref h0), (1, .ref b), (2, .int (nI fi))]) hx hb dMH_readHints_104 hl (by decide) rfl (fun ls hl => ?_)
                  refine lv_iload hx hb dMH_readHints_106 (lv_at hl 1 rfl) ?_
                  refine lv_iload_n hx hb dMH_readHints_108 rfl (lv_at hl 4 rfl) ?_
                  refine mi_le (tgt := 131) hx hb dMH_readHints_109 (by decide) (by omega) (by omega) (fun h31 => ?_) (fun h31 => ?_)
                  · refine lv_aload_n hx hb dMH_readHints_131 rfl (lv_at hl 5 rfl) ?_
                    refine ty_get (ci := 12) (C := "LatticeKeysModel$Hands") (TT := T_MH) (N := 31) (kd := (48, 0)) hx hb hts (wg_ft i_MH) hown hK hO k_h0 (nxg hc0 k_h0 rfl) hP (fun _ h9 => h9) rfl 11 (by decide) (hts _ (wg_t kw_1443)) (fun _ h9 => h9) (cd := (3, 3, 8)) rfl dMH_readHints_132 (fun v27 hv27 => ?_)
                    obtain ⟨r21, rfl, kr21⟩ := (show ∃ r : Nat, v27 = .ref r ∧ T r = some (3, 8) from hv27)
                    refine lv_iload hx hb dMH_readHints_135 (lv_at hl 3 rfl) ?_
                    refine ty_aald3 hx hb hK hO kr21 (nxg hc0 kr21 rfl) hP (by omega) (by decide) dMH_readHints_137 (fun r22 kr22 => ?_)
                    refine lv_iload hx hb dMH_readHints_138 (lv_at hl 0 rfl) ?_
                    refine lv_iconst (v := nI 1) hx hb dMH_readHints_140 (by decide) ?_
                    refine ty_iast hx hb hK hO kr22 (nxg hc0 kr22 rfl) hP hD hS (vp_in_nI (by omega) (by decide)) dMH_readHints_141 (fun pl H locs hO hP hD hS => ?_)
                    refine mi_iinc (k := 1) (x := ii21) (d := 1) (y := ii21 + 1) (lv' := [(6, .int (nI (ii21 + 1))), (7, .int (nI z25)), (5, .int (nI z23)), (4, .int (nI i21)), (3, .int (nI my21)), (0, .ref h0), (1, .ref b), (2, .int (nI fi))]) hx hb dMH_readHints_142 hl rfl (by decide) rfl (by decide) rfl (fun ls hl => ?_)
                    refine lv_goto (tgt := 87) hx hb dMH_readHints_145 (by decide) ?_
                    exact ih24 (ii21 + 1) pl ls H locs (by omega) (by omega) (by omega) (lv_sub hl [0, 2, 3, 4, 5, 6, 7] rfl) hO hP hD hS
                  · refine lv_aload_n hx hb dMH_readHints_112 rfl (lv_at hl 6 rfl) ?_
                    refine lv_iload_n hx hb dMH_readHints_113 rfl (lv_at hl 7 rfl) ?_
                    refine lv_iload hx hb dMH_readHints_114 (lv_at hl 1 rfl) ?_
                    refine mi_iadd hx hb dMH_readHints_116 ?_
                    refine lv_iconst (v := nI 1) hx hb dMH_readHints_117 (by decide) ?_
                    refine mi_isub hx hb dMH_readHints_118 (by omega) ?_
                    refine ty_bald hx hb hK hO k_b (nxg hc0 k_b rfl) hP (vp_in_nI (by omega) (by decide)) dMH_readHints_119 (fun z26 => ?_)
                    refine lv_sipush (v := nI 255) hx hb dMH_readHints_120 (by decide) ?_
                    refine mi_iand hx hb 8 dMH_readHints_123 (by decide) (fun z27 hz23 => ?_)
                    have hz23 : z27 < 256 := hz23
                    refine lv_iload hx hb dMH_readHints_124 (lv_at hl 0 rfl) ?_
                    refine mi_lt (tgt := 131) hx hb dMH_readHints_126 (by decide) (by omega) (by omega) (fun h32 => ?_) (fun h32 => ?_)
                    · refine lv_aload_n hx hb dMH_readHints_131 rfl (lv_at hl 5 rfl) ?_
                      refine ty_get (ci := 12) (C := "LatticeKeysModel$Hands") (TT := T_MH) (N := 31) (kd := (48, 0)) hx hb hts (wg_ft i_MH) hown hK hO k_h0 (nxg hc0 k_h0 rfl) hP (fun _ h9 => h9) rfl 11 (by decide) (hts _ (wg_t kw_1443)) (fun _ h9 => h9) (cd := (3, 3, 8)) rfl dMH_readHints_132 (fun v28 hv28 => ?_)
                      obtain ⟨r23, rfl, kr23⟩ := (show ∃ r : Nat, v28 = .ref r ∧ T r = some (3, 8) from hv28)
                      refine lv_iload hx hb dMH_readHints_135 (lv_at hl 3 rfl) ?_
                      refine ty_aald3 hx hb hK hO kr23 (nxg hc0 kr23 rfl) hP (by omega) (by decide) dMH_readHints_137 (fun r24 kr24 => ?_)
                      refine lv_iload hx hb dMH_readHints_138 (lv_at hl 0 rfl) ?_
                      refine lv_iconst (v := nI 1) hx hb dMH_readHints_140 (by decide) ?_
                      refine ty_iast hx hb hK hO kr24 (nxg hc0 kr24 rfl) hP hD hS (vp_in_nI (by omega) (by decide)) dMH_readHints_141 (fun pl H locs hO hP hD hS => ?_)
                      refine mi_iinc (k := 1) (x := ii21) (d := 1) (y := ii21 + 1) (lv' := [(6, .int (nI (ii21 + 1))), (7, .int (nI z25)), (5, .int (nI z23)), (4, .int (nI i21)), (3, .int (nI my21)), (0, .ref h0), (1, .ref b), (2, .int (nI fi))]) hx hb dMH_readHints_142 hl rfl (by decide) rfl (by decide) rfl (fun ls hl => ?_)
                      refine lv_goto (tgt := 87) hx hb dMH_readHints_145 (by decide) ?_
                      exact ih24 (ii21 + 1) pl ls H locs (by omega) (by omega) (by omega) (lv_sub hl [0, 2, 3, 4, 5, 6, 7] rfl) hO hP hD hS
                    · refine lv_iconst (v := nI 0) hx hb dMH_readHints_129 (by decide) ?_
                      exact mp_zret hx hb hr hlk rfl hP hD hS pl ⟨(Or.inl rfl), hO⟩ [] rfl rfl rfl (by omega) (by omega) dMH_readHints_130
              exact lp24 (z23 - my21) my21 pl ls _ _ (by omega) (by omega) (by omega) (lv_sub hl [0, 1, 2, 3, 4, 5, 6] rfl) hO hP hD hS
            · refine lv_iconst (v := nI 0) hx hb dMH_readHints_82 (by decide) ?_
              exact mp_zret hx hb hr hlk rfl hP hD hS pl ⟨(Or.inl rfl), hO⟩ [] rfl rfl rfl (by omega) (by omega) dMH_readHints_83
        | succ n23 ih23 =>
          intro i23 pl ls H locs hm23  hl hO hP hD hS
          refine lv_iload hx hb dMH_readHints_17 (lv_at hl 0 rfl) ?_
          refine lv_sipush (v := nI 256) hx hb dMH_readHints_19 (by decide) ?_
          refine mi_ge (tgt := 42) hx hb dMH_readHints_22 (by decide) (by omega) (by omega) (fun h33 => absurd h33 (by omega)) (fun h33 => ?_)
          refine lv_aload_n hx hb dMH_readHints_25 rfl (lv_at hl 3 rfl) ?_
          refine ty_get (ci := 12) (C := "LatticeKeysModel$Hands") (TT := T_MH) (N := 31) (kd := (48, 0)) hx hb hts (wg_ft i_MH) hown hK hO k_h0 (nxg hc0 k_h0 rfl) hP (fun _ h9 => h9) rfl 11 (by decide) (hts _ (wg_t kw_1443)) (fun _ h9 => h9) (cd := (3, 3, 8)) rfl dMH_readHints_26 (fun v29 hv29 => ?_)
          obtain ⟨r25, rfl, kr25⟩ := (show ∃ r : Nat, v29 = .ref r ∧ T r = some (3, 8) from hv29)
          refine lv_iload hx hb dMH_readHints_29 (lv_at hl 1 rfl) ?_
          refine ty_aald3 hx hb hK hO kr25 (nxg hc0 kr25 rfl) hP (by omega) (by decide) dMH_readHints_31 (fun r26 kr26 => ?_)
          refine lv_iload hx hb dMH_readHints_32 (lv_at hl 0 rfl) ?_
          refine lv_iconst (v := nI 0) hx hb dMH_readHints_34 (by decide) ?_
          refine ty_iast hx hb hK hO kr26 (nxg hc0 kr26 rfl) hP hD hS (vp_in_nI (by omega) (by decide)) dMH_readHints_35 (fun pl H locs hO hP hD hS => ?_)
          refine mi_iinc (k := 0) (x := i23) (d := 1) (y := i23 + 1) (lv' := [(5, .int (nI (i23 + 1))), (4, .int (nI i21)), (3, .int (nI my21)), (0, .ref h0), (1, .ref b), (2, .int (nI fi))]) hx hb dMH_readHints_36 hl rfl (by decide) rfl (by decide) rfl (fun ls hl => ?_)
          refine lv_goto (tgt := 17) hx hb dMH_readHints_39 (by decide) ?_
          exact ih23 (i23 + 1) pl ls H locs (by omega) (lv_sub hl [0, 1, 2, 3, 4, 5] rfl) hO hP hD hS
      exact lp23 256 0 pl ls _ _ (by omega) (lv_sub hl [0, 1, 2, 3, 4, 5] rfl) hO hP hD hS
  exact lp21 8 0 0 pl ls _ _ (by omega) (by omega) (lv_sub hl [0, 1, 2, 3, 4] rfl) hO hP hD hS
