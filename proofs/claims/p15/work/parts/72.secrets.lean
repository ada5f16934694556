abbrev c_ME_forth : ByteArray := prog_15_method_8_code
abbrev y_ME_forth : MethodName := ⟨"LatticeKeysModel$Secrets", "forth", "([I)V"⟩
abbrev w_ME_forth : List Cond := Cond.code y_ME_forth c_ME_forth 3 none :: WG
theorem dME_forth_0 : decode c_ME_forth 0 = .ok (.aload_n 0, 1) := by decide +kernel
theorem dME_forth_1 : decode c_ME_forth 1 = .ok (.getfield 14, 3) := by decide +kernel
theorem dME_forth_4 : decode c_ME_forth 4 = .ok (.aload_n 1, 1) := by decide +kernel
theorem dME_forth_5 : decode c_ME_forth 5 = .ok (.aload_n 0, 1) := by decide +kernel
theorem dME_forth_6 : decode c_ME_forth 6 = .ok (.getfield 39, 3) := by decide +kernel
theorem dME_forth_9 : decode c_ME_forth 9 = .ok (.iconst 2, 1) := by decide +kernel
theorem dME_forth_10 : decode c_ME_forth 10 = .ok (.iconst 0, 1) := by decide +kernel
theorem dME_forth_11 : decode c_ME_forth 11 = .ok (.invokevirtual 107, 3) := by decide +kernel
theorem dME_forth_14 : decode c_ME_forth 14 = .ok (.aload_n 0, 1) := by decide +kernel
theorem dME_forth_15 : decode c_ME_forth 15 = .ok (.getfield 14, 3) := by decide +kernel
theorem dME_forth_18 : decode c_ME_forth 18 = .ok (.aload_n 1, 1) := by decide +kernel
theorem dME_forth_19 : decode c_ME_forth 19 = .ok (.aload_n 0, 1) := by decide +kernel
theorem dME_forth_20 : decode c_ME_forth 20 = .ok (.getfield 39, 3) := by decide +kernel
theorem dME_forth_23 : decode c_ME_forth 23 = .ok (.iconst 2, 1) := by decide +kernel
theorem dME_forth_24 : decode c_ME_forth 24 = .ok (.iconst 1, 1) := by decide +kernel
theorem dME_forth_25 : decode c_ME_forth 25 = .ok (.invokevirtual 107, 3) := by decide +kernel
theorem dME_forth_28 : decode c_ME_forth 28 = .ok (.iconst 0, 1) := by decide +kernel
theorem dME_forth_29 : decode c_ME_forth 29 = .ok (.istore_n 2, 1) := by decide +kernel
theorem dME_forth_30 : decode c_ME_forth 30 = .ok (.iload_n 2, 1) := by decide +kernel
theorem dME_forth_31 : decode c_ME_forth 31 = .ok (.sipush 256, 3) := by decide +kernel
theorem dME_forth_34 : decode c_ME_forth 34 = .ok (.if_icmp .ge 18, 3) := by decide +kernel
theorem dME_forth_37 : decode c_ME_forth 37 = .ok (.aload_n 1, 1) := by decide +kernel
theorem dME_forth_38 : decode c_ME_forth 38 = .ok (.iload_n 2, 1) := by decide +kernel
theorem dME_forth_39 : decode c_ME_forth 39 = .ok (.aload_n 0, 1) := by decide +kernel
theorem dME_forth_40 : decode c_ME_forth 40 = .ok (.getfield 39, 3) := by decide +kernel
theorem dME_forth_43 : decode c_ME_forth 43 = .ok (.iload_n 2, 1) := by decide +kernel
theorem dME_forth_44 : decode c_ME_forth 44 = .ok (.iaload, 1) := by decide +kernel
theorem dME_forth_45 : decode c_ME_forth 45 = .ok (.iastore, 1) := by decide +kernel
theorem dME_forth_46 : decode c_ME_forth 46 = .ok (.iinc 2 1, 3) := by decide +kernel
theorem dME_forth_49 : decode c_ME_forth 49 = .ok (.goto (-19), 3) := by decide +kernel
theorem dME_forth_52 : decode c_ME_forth 52 = .ok (.return_, 1) := by decide +kernel
abbrev c_ME_back : ByteArray := prog_15_method_9_code
abbrev y_ME_back : MethodName := ⟨"LatticeKeysModel$Secrets", "back", "([I)V"⟩
abbrev w_ME_back : List Cond := Cond.code y_ME_back c_ME_back 3 none :: WG
theorem dME_back_0 : decode c_ME_back 0 = .ok (.aload_n 0, 1) := by decide +kernel
theorem dME_back_1 : decode c_ME_back 1 = .ok (.getfield 14, 3) := by decide +kernel
theorem dME_back_4 : decode c_ME_back 4 = .ok (.aload_n 1, 1) := by decide +kernel
theorem dME_back_5 : decode c_ME_back 5 = .ok (.aload_n 0, 1) := by decide +kernel
theorem dME_back_6 : decode c_ME_back 6 = .ok (.getfield 39, 3) := by decide +kernel
theorem dME_back_9 : decode c_ME_back 9 = .ok (.iconst 2, 1) := by decide +kernel
theorem dME_back_10 : decode c_ME_back 10 = .ok (.iconst 0, 1) := by decide +kernel
theorem dME_back_11 : decode c_ME_back 11 = .ok (.invokevirtual 111, 3) := by decide +kernel
theorem dME_back_14 : decode c_ME_back 14 = .ok (.aload_n 0, 1) := by decide +kernel
theorem dME_back_15 : decode c_ME_back 15 = .ok (.getfield 14, 3) := by decide +kernel
theorem dME_back_18 : decode c_ME_back 18 = .ok (.aload_n 1, 1) := by decide +kernel
theorem dME_back_19 : decode c_ME_back 19 = .ok (.aload_n 0, 1) := by decide +kernel
theorem dME_back_20 : decode c_ME_back 20 = .ok (.getfield 39, 3) := by decide +kernel
theorem dME_back_23 : decode c_ME_back 23 = .ok (.iconst 2, 1) := by decide +kernel
theorem dME_back_24 : decode c_ME_back 24 = .ok (.iconst 1, 1) := by decide +kernel
theorem dME_back_25 : decode c_ME_back 25 = .ok (.invokevirtual 111, 3) := by decide +kernel
theorem dME_back_28 : decode c_ME_back 28 = .ok (.iconst 0, 1) := by decide +kernel
theorem dME_back_29 : decode c_ME_back 29 = .ok (.istore_n 2, 1) := by decide +kernel
theorem dME_back_30 : decode c_ME_back 30 = .ok (.iload_n 2, 1) := by decide +kernel
theorem dME_back_31 : decode c_ME_back 31 = .ok (.sipush 256, 3) := by decide +kernel
theorem dME_back_34 : decode c_ME_back 34 = .ok (.if_icmp .ge 18, 3) := by decide +kernel
theorem dME_back_37 : decode c_ME_back 37 = .ok (.aload_n 1, 1) := by decide +kernel
theorem dME_back_38 : decode c_ME_back 38 = .ok (.iload_n 2, 1) := by decide +kernel
theorem dME_back_39 : decode c_ME_back 39 = .ok (.aload_n 0, 1) := by decide +kernel
theorem dME_back_40 : decode c_ME_back 40 = .ok (.getfield 39, 3) := by decide +kernel
theorem dME_back_43 : decode c_ME_back 43 = .ok (.iload_n 2, 1) := by decide +kernel
theorem dME_back_44 : decode c_ME_back 44 = .ok (.iaload, 1) := by decide +kernel
theorem dME_back_45 : decode c_ME_back 45 = .ok (.iastore, 1) := by decide +kernel
theorem dME_back_46 : decode c_ME_back 46 = .ok (.iinc 2 1, 3) := by decide +kernel
theorem dME_back_49 : decode c_ME_back 49 = .ok (.goto (-19), 3) := by decide +kernel
theorem dME_back_52 : decode c_ME_back 52 = .ok (.return_, 1) := by decide +kernel
abbrev c_ME_product : ByteArray := prog_15_method_10_code
abbrev y_ME_product : MethodName := ⟨"LatticeKeysModel$Secrets", "product", "([I[I[I)V"⟩
abbrev w_ME_product : List Cond := Cond.code y_ME_product c_ME_product 8 none :: WG
theorem dME_product_0 : decode c_ME_product 0 = .ok (.iconst 0, 1) := by decide +kernel
theorem dME_product_1 : decode c_ME_product 1 = .ok (.istore 4, 2) := by decide +kernel
theorem dME_product_3 : decode c_ME_product 3 = .ok (.iload 4, 2) := by decide +kernel
theorem dME_product_5 : decode c_ME_product 5 = .ok (.sipush 256, 3) := by decide +kernel
theorem dME_product_8 : decode c_ME_product 8 = .ok (.if_icmp .ge 113, 3) := by decide +kernel
theorem dME_product_11 : decode c_ME_product 11 = .ok (.aload_n 1, 1) := by decide +kernel
theorem dME_product_12 : decode c_ME_product 12 = .ok (.iload 4, 2) := by decide +kernel
theorem dME_product_14 : decode c_ME_product 14 = .ok (.iaload, 1) := by decide +kernel
theorem dME_product_15 : decode c_ME_product 15 = .ok (.aload_n 2, 1) := by decide +kernel
theorem dME_product_16 : decode c_ME_product 16 = .ok (.iload 4, 2) := by decide +kernel
theorem dME_product_18 : decode c_ME_product 18 = .ok (.iaload, 1) := by decide +kernel
theorem dME_product_19 : decode c_ME_product 19 = .ok (.imul, 1) := by decide +kernel
theorem dME_product_20 : decode c_ME_product 20 = .ok (.i2l, 1) := by decide +kernel
theorem dME_product_21 : decode c_ME_product 21 = .ok (.aload_n 1, 1) := by decide +kernel
theorem dME_product_22 : decode c_ME_product 22 = .ok (.iload 4, 2) := by decide +kernel
theorem dME_product_24 : decode c_ME_product 24 = .ok (.iconst 1, 1) := by decide +kernel
theorem dME_product_25 : decode c_ME_product 25 = .ok (.iadd, 1) := by decide +kernel
theorem dME_product_26 : decode c_ME_product 26 = .ok (.iaload, 1) := by decide +kernel
theorem dME_product_27 : decode c_ME_product 27 = .ok (.aload_n 2, 1) := by decide +kernel
theorem dME_product_28 : decode c_ME_product 28 = .ok (.iload 4, 2) := by decide +kernel
theorem dME_product_30 : decode c_ME_product 30 = .ok (.iconst 1, 1) := by decide +kernel
theorem dME_product_31 : decode c_ME_product 31 = .ok (.iadd, 1) := by decide +kernel
theorem dME_product_32 : decode c_ME_product 32 = .ok (.iaload, 1) := by decide +kernel
theorem dME_product_33 : decode c_ME_product 33 = .ok (.imul, 1) := by decide +kernel
theorem dME_product_34 : decode c_ME_product 34 = .ok (.sipush 3329, 3) := by decide +kernel
theorem dME_product_37 : decode c_ME_product 37 = .ok (.irem, 1) := by decide +kernel
theorem dME_product_38 : decode c_ME_product 38 = .ok (.i2l, 1) := by decide +kernel
theorem dME_product_39 : decode c_ME_product 39 = .ok (.aload_n 0, 1) := by decide +kernel
theorem dME_product_40 : decode c_ME_product 40 = .ok (.getfield 14, 3) := by decide +kernel
theorem dME_product_43 : decode c_ME_product 43 = .ok (.iload 4, 2) := by decide +kernel
theorem dME_product_45 : decode c_ME_product 45 = .ok (.iconst 2, 1) := by decide +kernel
theorem dME_product_46 : decode c_ME_product 46 = .ok (.idiv, 1) := by decide +kernel
theorem dME_product_47 : decode c_ME_product 47 = .ok (.invokevirtual 114, 3) := by decide +kernel
theorem dME_product_50 : decode c_ME_product 50 = .ok (.lmul, 1) := by decide +kernel
theorem dME_product_51 : decode c_ME_product 51 = .ok (.ladd, 1) := by decide +kernel
theorem dME_product_52 : decode c_ME_product 52 = .ok (.lstore 5, 2) := by decide +kernel
theorem dME_product_54 : decode c_ME_product 54 = .ok (.aload_n 1, 1) := by decide +kernel
theorem dME_product_55 : decode c_ME_product 55 = .ok (.iload 4, 2) := by decide +kernel
theorem dME_product_57 : decode c_ME_product 57 = .ok (.iaload, 1) := by decide +kernel
theorem dME_product_58 : decode c_ME_product 58 = .ok (.aload_n 2, 1) := by decide +kernel
theorem dME_product_59 : decode c_ME_product 59 = .ok (.iload 4, 2) := by decide +kernel
theorem dME_product_61 : decode c_ME_product 61 = .ok (.iconst 1, 1) := by decide +kernel
theorem dME_product_62 : decode c_ME_product 62 = .ok (.iadd, 1) := by decide +kernel
theorem dME_product_63 : decode c_ME_product 63 = .ok (.iaload, 1) := by decide +kernel
theorem dME_product_64 : decode c_ME_product 64 = .ok (.imul, 1) := by decide +kernel
theorem dME_product_65 : decode c_ME_product 65 = .ok (.aload_n 1, 1) := by decide +kernel
theorem dME_product_66 : decode c_ME_product 66 = .ok (.iload 4, 2) := by decide +kernel
theorem dME_product_68 : decode c_ME_product 68 = .ok (.iconst 1, 1) := by decide +kernel
theorem dME_product_69 : decode c_ME_product 69 = .ok (.iadd, 1) := by decide +kernel
theorem dME_product_70 : decode c_ME_product 70 = .ok (.iaload, 1) := by decide +kernel
theorem dME_product_71 : decode c_ME_product 71 = .ok (.aload_n 2, 1) := by decide +kernel
theorem dME_product_72 : decode c_ME_product 72 = .ok (.iload 4, 2) := by decide +kernel
theorem dME_product_74 : decode c_ME_product 74 = .ok (.iaload, 1) := by decide +kernel
theorem dME_product_75 : decode c_ME_product 75 = .ok (.imul, 1) := by decide +kernel
theorem dME_product_76 : decode c_ME_product 76 = .ok (.iadd, 1) := by decide +kernel
theorem dME_product_77 : decode c_ME_product 77 = .ok (.istore 7, 2) := by decide +kernel
theorem dME_product_79 : decode c_ME_product 79 = .ok (.aload_n 3, 1) := by decide +kernel
theorem dME_product_80 : decode c_ME_product 80 = .ok (.iload 4, 2) := by decide +kernel
theorem dME_product_82 : decode c_ME_product 82 = .ok (.aload_n 3, 1) := by decide +kernel
theorem dME_product_83 : decode c_ME_product 83 = .ok (.iload 4, 2) := by decide +kernel
theorem dME_product_85 : decode c_ME_product 85 = .ok (.iaload, 1) := by decide +kernel
theorem dME_product_86 : decode c_ME_product 86 = .ok (.i2l, 1) := by decide +kernel
theorem dME_product_87 : decode c_ME_product 87 = .ok (.lload 5, 2) := by decide +kernel
theorem dME_product_89 : decode c_ME_product 89 = .ok (.ladd, 1) := by decide +kernel
theorem dME_product_90 : decode c_ME_product 90 = .ok (.ldc2_w 118, 3) := by decide +kernel
theorem dME_product_93 : decode c_ME_product 93 = .ok (.lrem, 1) := by decide +kernel
theorem dME_product_94 : decode c_ME_product 94 = .ok (.l2i, 1) := by decide +kernel
theorem dME_product_95 : decode c_ME_product 95 = .ok (.iastore, 1) := by decide +kernel
theorem dME_product_96 : decode c_ME_product 96 = .ok (.aload_n 3, 1) := by decide +kernel
theorem dME_product_97 : decode c_ME_product 97 = .ok (.iload 4, 2) := by decide +kernel
theorem dME_product_99 : decode c_ME_product 99 = .ok (.iconst 1, 1) := by decide +kernel
theorem dME_product_100 : decode c_ME_product 100 = .ok (.iadd, 1) := by decide +kernel
theorem dME_product_101 : decode c_ME_product 101 = .ok (.aload_n 3, 1) := by decide +kernel
theorem dME_product_102 : decode c_ME_product 102 = .ok (.iload 4, 2) := by decide +kernel
theorem dME_product_104 : decode c_ME_product 104 = .ok (.iconst 1, 1) := by decide +kernel
theorem dME_product_105 : decode c_ME_product 105 = .ok (.iadd, 1) := by decide +kernel
theorem dME_product_106 : decode c_ME_product 106 = .ok (.iaload, 1) := by decide +kernel
theorem dME_product_107 : decode c_ME_product 107 = .ok (.iload 7, 2) := by decide +kernel
theorem dME_product_109 : decode c_ME_product 109 = .ok (.iadd, 1) := by decide +kernel
theorem dME_product_110 : decode c_ME_product 110 = .ok (.sipush 3329, 3) := by decide +kernel
theorem dME_product_113 : decode c_ME_product 113 = .ok (.irem, 1) := by decide +kernel
theorem dME_product_114 : decode c_ME_product 114 = .ok (.iastore, 1) := by decide +kernel
theorem dME_product_115 : decode c_ME_product 115 = .ok (.iinc 4 2, 3) := by decide +kernel
theorem dME_product_118 : decode c_ME_product 118 = .ok (.goto (-115), 3) := by decide +kernel
theorem dME_product_121 : decode c_ME_product 121 = .ok (.return_, 1) := by decide +kernel
abbrev c_ME_clear : ByteArray := prog_15_method_11_code
abbrev y_ME_clear : MethodName := ⟨"LatticeKeysModel$Secrets", "clear", "([I)V"⟩
abbrev w_ME_clear : List Cond := Cond.code y_ME_clear c_ME_clear 2 none :: WG
theorem dME_clear_0 : decode c_ME_clear 0 = .ok (.iconst 0, 1) := by decide +kernel
theorem dME_clear_1 : decode c_ME_clear 1 = .ok (.istore_n 1, 1) := by decide +kernel
theorem dME_clear_2 : decode c_ME_clear 2 = .ok (.iload_n 1, 1) := by decide +kernel
theorem dME_clear_3 : decode c_ME_clear 3 = .ok (.sipush 256, 3) := by decide +kernel
theorem dME_clear_6 : decode c_ME_clear 6 = .ok (.if_icmp .ge 13, 3) := by decide +kernel
theorem dME_clear_9 : decode c_ME_clear 9 = .ok (.aload_n 0, 1) := by decide +kernel
theorem dME_clear_10 : decode c_ME_clear 10 = .ok (.iload_n 1, 1) := by decide +kernel
theorem dME_clear_11 : decode c_ME_clear 11 = .ok (.iconst 0, 1) := by decide +kernel
theorem dME_clear_12 : decode c_ME_clear 12 = .ok (.iastore, 1) := by decide +kernel
theorem dME_clear_13 : decode c_ME_clear 13 = .ok (.iinc 1 1, 3) := by decide +kernel
theorem dME_clear_16 : decode c_ME_clear 16 = .ok (.goto (-14), 3) := by decide +kernel
theorem dME_clear_19 : decode c_ME_clear 19 = .ok (.return_, 1) := by decide +kernel
abbrev c_ME_plus : ByteArray := prog_15_method_12_code
abbrev y_ME_plus : MethodName := ⟨"LatticeKeysModel$Secrets", "plus", "([I[I)V"⟩
abbrev w_ME_plus : List Cond := Cond.code y_ME_plus c_ME_plus 3 none :: WG
theorem dME_plus_0 : decode c_ME_plus 0 = .ok (.iconst 0, 1) := by decide +kernel
theorem dME_plus_1 : decode c_ME_plus 1 = .ok (.istore_n 2, 1) := by decide +kernel
theorem dME_plus_2 : decode c_ME_plus 2 = .ok (.iload_n 2, 1) := by decide +kernel
theorem dME_plus_3 : decode c_ME_plus 3 = .ok (.sipush 256, 3) := by decide +kernel
theorem dME_plus_6 : decode c_ME_plus 6 = .ok (.if_icmp .ge 23, 3) := by decide +kernel
theorem dME_plus_9 : decode c_ME_plus 9 = .ok (.aload_n 0, 1) := by decide +kernel
theorem dME_plus_10 : decode c_ME_plus 10 = .ok (.iload_n 2, 1) := by decide +kernel
theorem dME_plus_11 : decode c_ME_plus 11 = .ok (.aload_n 0, 1) := by decide +kernel
theorem dME_plus_12 : decode c_ME_plus 12 = .ok (.iload_n 2, 1) := by decide +kernel
theorem dME_plus_13 : decode c_ME_plus 13 = .ok (.iaload, 1) := by decide +kernel
theorem dME_plus_14 : decode c_ME_plus 14 = .ok (.aload_n 1, 1) := by decide +kernel
theorem dME_plus_15 : decode c_ME_plus 15 = .ok (.iload_n 2, 1) := by decide +kernel
theorem dME_plus_16 : decode c_ME_plus 16 = .ok (.iaload, 1) := by decide +kernel
theorem dME_plus_17 : decode c_ME_plus 17 = .ok (.iadd, 1) := by decide +kernel
theorem dME_plus_18 : decode c_ME_plus 18 = .ok (.sipush 3329, 3) := by decide +kernel
theorem dME_plus_21 : decode c_ME_plus 21 = .ok (.irem, 1) := by decide +kernel
theorem dME_plus_22 : decode c_ME_plus 22 = .ok (.iastore, 1) := by decide +kernel
theorem dME_plus_23 : decode c_ME_plus 23 = .ok (.iinc 2 1, 3) := by decide +kernel
theorem dME_plus_26 : decode c_ME_plus 26 = .ok (.goto (-24), 3) := by decide +kernel
theorem dME_plus_29 : decode c_ME_plus 29 = .ok (.return_, 1) := by decide +kernel
abbrev c_ME_proper : ByteArray := prog_15_method_17_code
abbrev y_ME_proper : MethodName := ⟨"LatticeKeysModel$Secrets", "proper", "([I)V"⟩
abbrev w_ME_proper : List Cond := Cond.code y_ME_proper c_ME_proper 2 none :: WG
theorem dME_proper_0 : decode c_ME_proper 0 = .ok (.iconst 0, 1) := by decide +kernel
theorem dME_proper_1 : decode c_ME_proper 1 = .ok (.istore_n 1, 1) := by decide +kernel
theorem dME_proper_2 : decode c_ME_proper 2 = .ok (.iload_n 1, 1) := by decide +kernel
theorem dME_proper_3 : decode c_ME_proper 3 = .ok (.sipush 256, 3) := by decide +kernel
theorem dME_proper_6 : decode c_ME_proper 6 = .ok (.if_icmp .ge 18, 3) := by decide +kernel
theorem dME_proper_9 : decode c_ME_proper 9 = .ok (.aload_n 0, 1) := by decide +kernel
theorem dME_proper_10 : decode c_ME_proper 10 = .ok (.iload_n 1, 1) := by decide +kernel
theorem dME_proper_11 : decode c_ME_proper 11 = .ok (.dup2, 1) := by decide +kernel
theorem dME_proper_12 : decode c_ME_proper 12 = .ok (.iaload, 1) := by decide +kernel
theorem dME_proper_13 : decode c_ME_proper 13 = .ok (.sipush 3329, 3) := by decide +kernel
theorem dME_proper_16 : decode c_ME_proper 16 = .ok (.irem, 1) := by decide +kernel
theorem dME_proper_17 : decode c_ME_proper 17 = .ok (.iastore, 1) := by decide +kernel
theorem dME_proper_18 : decode c_ME_proper 18 = .ok (.iinc 1 1, 3) := by decide +kernel
theorem dME_proper_21 : decode c_ME_proper 21 = .ok (.goto (-19), 3) := by decide +kernel
theorem dME_proper_24 : decode c_ME_proper 24 = .ok (.return_, 1) := by decide +kernel
abbrev c_ME_write : ByteArray := prog_15_method_13_code
abbrev y_ME_write : MethodName := ⟨"LatticeKeysModel$Secrets", "write", "([I[BII)V"⟩
abbrev w_ME_write : List Cond := Cond.code y_ME_write c_ME_write 5 none :: WG
theorem dME_write_0 : decode c_ME_write 0 = .ok (.iconst 0, 1) := by decide +kernel
theorem dME_write_1 : decode c_ME_write 1 = .ok (.istore 4, 2) := by decide +kernel
theorem dME_write_3 : decode c_ME_write 3 = .ok (.iload 4, 2) := by decide +kernel
theorem dME_write_5 : decode c_ME_write 5 = .ok (.sipush 256, 3) := by decide +kernel
theorem dME_write_8 : decode c_ME_write 8 = .ok (.if_icmp .ge 27, 3) := by decide +kernel
theorem dME_write_11 : decode c_ME_write 11 = .ok (.aload_n 1, 1) := by decide +kernel
theorem dME_write_12 : decode c_ME_write 12 = .ok (.bipush 8, 2) := by decide +kernel
theorem dME_write_14 : decode c_ME_write 14 = .ok (.iload_n 2, 1) := by decide +kernel
theorem dME_write_15 : decode c_ME_write 15 = .ok (.imul, 1) := by decide +kernel
theorem dME_write_16 : decode c_ME_write 16 = .ok (.iload_n 3, 1) := by decide +kernel
theorem dME_write_17 : decode c_ME_write 17 = .ok (.iload 4, 2) := by decide +kernel
theorem dME_write_19 : decode c_ME_write 19 = .ok (.imul, 1) := by decide +kernel
theorem dME_write_20 : decode c_ME_write 20 = .ok (.iadd, 1) := by decide +kernel
theorem dME_write_21 : decode c_ME_write 21 = .ok (.iload_n 3, 1) := by decide +kernel
theorem dME_write_22 : decode c_ME_write 22 = .ok (.aload_n 0, 1) := by decide +kernel
theorem dME_write_23 : decode c_ME_write 23 = .ok (.iload 4, 2) := by decide +kernel
theorem dME_write_25 : decode c_ME_write 25 = .ok (.iaload, 1) := by decide +kernel
theorem dME_write_26 : decode c_ME_write 26 = .ok (.invokestatic 120, 3) := by decide +kernel
theorem dME_write_29 : decode c_ME_write 29 = .ok (.iinc 4 1, 3) := by decide +kernel
theorem dME_write_32 : decode c_ME_write 32 = .ok (.goto (-29), 3) := by decide +kernel
theorem dME_write_35 : decode c_ME_write 35 = .ok (.return_, 1) := by decide +kernel
abbrev c_ME_read : ByteArray := prog_15_method_14_code
abbrev y_ME_read : MethodName := ⟨"LatticeKeysModel$Secrets", "read", "([BII[I)V"⟩
abbrev w_ME_read : List Cond := Cond.code y_ME_read c_ME_read 5 none :: WG
theorem dME_read_0 : decode c_ME_read 0 = .ok (.iconst 0, 1) := by decide +kernel
theorem dME_read_1 : decode c_ME_read 1 = .ok (.istore 4, 2) := by decide +kernel
theorem dME_read_3 : decode c_ME_read 3 = .ok (.iload 4, 2) := by decide +kernel
theorem dME_read_5 : decode c_ME_read 5 = .ok (.sipush 256, 3) := by decide +kernel
theorem dME_read_8 : decode c_ME_read 8 = .ok (.if_icmp .ge 27, 3) := by decide +kernel
theorem dME_read_11 : decode c_ME_read 11 = .ok (.aload_n 3, 1) := by decide +kernel
theorem dME_read_12 : decode c_ME_read 12 = .ok (.iload 4, 2) := by decide +kernel
theorem dME_read_14 : decode c_ME_read 14 = .ok (.aload_n 0, 1) := by decide +kernel
theorem dME_read_15 : decode c_ME_read 15 = .ok (.bipush 8, 2) := by decide +kernel
theorem dME_read_17 : decode c_ME_read 17 = .ok (.iload_n 1, 1) := by decide +kernel
theorem dME_read_18 : decode c_ME_read 18 = .ok (.imul, 1) := by decide +kernel
theorem dME_read_19 : decode c_ME_read 19 = .ok (.iload_n 2, 1) := by decide +kernel
theorem dME_read_20 : decode c_ME_read 20 = .ok (.iload 4, 2) := by decide +kernel
theorem dME_read_22 : decode c_ME_read 22 = .ok (.imul, 1) := by decide +kernel
theorem dME_read_23 : decode c_ME_read 23 = .ok (.iadd, 1) := by decide +kernel
theorem dME_read_24 : decode c_ME_read 24 = .ok (.iload_n 2, 1) := by decide +kernel
theorem dME_read_25 : decode c_ME_read 25 = .ok (.invokestatic 101, 3) := by decide +kernel
theorem dME_read_28 : decode c_ME_read 28 = .ok (.iastore, 1) := by decide +kernel
theorem dME_read_29 : decode c_ME_read 29 = .ok (.iinc 4 1, 3) := by decide +kernel
theorem dME_read_32 : decode c_ME_read 32 = .ok (.goto (-29), 3) := by decide +kernel
theorem dME_read_35 : decode c_ME_read 35 = .ok (.return_, 1) := by decide +kernel
abbrev c_ME_less : ByteArray := prog_15_method_15_code
abbrev y_ME_less : MethodName := ⟨"LatticeKeysModel$Secrets", "less", "([II)V"⟩
abbrev w_ME_less : List Cond := Cond.code y_ME_less c_ME_less 3 none :: WG
theorem dME_less_0 : decode c_ME_less 0 = .ok (.iconst 0, 1) := by decide +kernel
theorem dME_less_1 : decode c_ME_less 1 = .ok (.istore_n 2, 1) := by decide +kernel
theorem dME_less_2 : decode c_ME_less 2 = .ok (.iload_n 2, 1) := by decide +kernel
theorem dME_less_3 : decode c_ME_less 3 = .ok (.sipush 256, 3) := by decide +kernel
theorem dME_less_6 : decode c_ME_less 6 = .ok (.if_icmp .ge 31, 3) := by decide +kernel
theorem dME_less_9 : decode c_ME_less 9 = .ok (.aload_n 0, 1) := by decide +kernel
theorem dME_less_10 : decode c_ME_less 10 = .ok (.iload_n 2, 1) := by decide +kernel
theorem dME_less_11 : decode c_ME_less 11 = .ok (.aload_n 0, 1) := by decide +kernel
theorem dME_less_12 : decode c_ME_less 12 = .ok (.iload_n 2, 1) := by decide +kernel
theorem dME_less_13 : decode c_ME_less 13 = .ok (.iaload, 1) := by decide +kernel
theorem dME_less_14 : decode c_ME_less 14 = .ok (.iload_n 1, 1) := by decide +kernel
theorem dME_less_15 : decode c_ME_less 15 = .ok (.iconst 1, 1) := by decide +kernel
theorem dME_less_16 : decode c_ME_less 16 = .ok (.iadd, 1) := by decide +kernel
theorem dME_less_17 : decode c_ME_less 17 = .ok (.ishl, 1) := by decide +kernel
theorem dME_less_18 : decode c_ME_less 18 = .ok (.sipush 3329, 3) := by decide +kernel
theorem dME_less_21 : decode c_ME_less 21 = .ok (.iadd, 1) := by decide +kernel
theorem dME_less_22 : decode c_ME_less 22 = .ok (.sipush 6658, 3) := by decide +kernel
theorem dME_less_25 : decode c_ME_less 25 = .ok (.idiv, 1) := by decide +kernel
theorem dME_less_26 : decode c_ME_less 26 = .ok (.iconst 1, 1) := by decide +kernel
theorem dME_less_27 : decode c_ME_less 27 = .ok (.iload_n 1, 1) := by decide +kernel
theorem dME_less_28 : decode c_ME_less 28 = .ok (.ishl, 1) := by decide +kernel
theorem dME_less_29 : decode c_ME_less 29 = .ok (.irem, 1) := by decide +kernel
theorem dME_less_30 : decode c_ME_less 30 = .ok (.iastore, 1) := by decide +kernel
theorem dME_less_31 : decode c_ME_less 31 = .ok (.iinc 2 1, 3) := by decide +kernel
theorem dME_less_34 : decode c_ME_less 34 = .ok (.goto (-32), 3) := by decide +kernel
theorem dME_less_37 : decode c_ME_less 37 = .ok (.return_, 1) := by decide +kernel
abbrev c_ME_more : ByteArray := prog_15_method_16_code
abbrev y_ME_more : MethodName := ⟨"LatticeKeysModel$Secrets", "more", "([II)V"⟩
abbrev w_ME_more : List Cond := Cond.code y_ME_more c_ME_more 3 none :: WG
theorem dME_more_0 : decode c_ME_more 0 = .ok (.iconst 0, 1) := by decide +kernel
theorem dME_more_1 : decode c_ME_more 1 = .ok (.istore_n 2, 1) := by decide +kernel
theorem dME_more_2 : decode c_ME_more 2 = .ok (.iload_n 2, 1) := by decide +kernel
theorem dME_more_3 : decode c_ME_more 3 = .ok (.sipush 256, 3) := by decide +kernel
theorem dME_more_6 : decode c_ME_more 6 = .ok (.if_icmp .ge 27, 3) := by decide +kernel
theorem dME_more_9 : decode c_ME_more 9 = .ok (.aload_n 0, 1) := by decide +kernel
theorem dME_more_10 : decode c_ME_more 10 = .ok (.iload_n 2, 1) := by decide +kernel
theorem dME_more_11 : decode c_ME_more 11 = .ok (.aload_n 0, 1) := by decide +kernel
theorem dME_more_12 : decode c_ME_more 12 = .ok (.iload_n 2, 1) := by decide +kernel
theorem dME_more_13 : decode c_ME_more 13 = .ok (.iaload, 1) := by decide +kernel
theorem dME_more_14 : decode c_ME_more 14 = .ok (.sipush 3329, 3) := by decide +kernel
theorem dME_more_17 : decode c_ME_more 17 = .ok (.imul, 1) := by decide +kernel
theorem dME_more_18 : decode c_ME_more 18 = .ok (.iconst 1, 1) := by decide +kernel
theorem dME_more_19 : decode c_ME_more 19 = .ok (.iload_n 1, 1) := by decide +kernel
theorem dME_more_20 : decode c_ME_more 20 = .ok (.iconst 1, 1) := by decide +kernel
theorem dME_more_21 : decode c_ME_more 21 = .ok (.isub, 1) := by decide +kernel
theorem dME_more_22 : decode c_ME_more 22 = .ok (.ishl, 1) := by decide +kernel
theorem dME_more_23 : decode c_ME_more 23 = .ok (.iadd, 1) := by decide +kernel
theorem dME_more_24 : decode c_ME_more 24 = .ok (.iload_n 1, 1) := by decide +kernel
theorem dME_more_25 : decode c_ME_more 25 = .ok (.ishr, 1) := by decide +kernel
theorem dME_more_26 : decode c_ME_more 26 = .ok (.iastore, 1) := by decide +kernel
theorem dME_more_27 : decode c_ME_more 27 = .ok (.iinc 2 1, 3) := by decide +kernel
theorem dME_more_30 : decode c_ME_more 30 = .ok (.goto (-28), 3) := by decide +kernel
theorem dME_more_33 : decode c_ME_more 33 = .ok (.return_, 1) := by decide +kernel
abbrev c_ME_noise : ByteArray := prog_15_method_7_code
abbrev y_ME_noise : MethodName := ⟨"LatticeKeysModel$Secrets", "noise", "([I[BIII)V"⟩
abbrev w_ME_noise : List Cond := Cond.code y_ME_noise c_ME_noise 9 none :: WG
theorem dME_noise_0 : decode c_ME_noise 0 = .ok (.aload_n 0, 1) := by decide +kernel
theorem dME_noise_1 : decode c_ME_noise 1 = .ok (.getfield 58, 3) := by decide +kernel
theorem dME_noise_4 : decode c_ME_noise 4 = .ok (.invokevirtual 95, 3) := by decide +kernel
theorem dME_noise_7 : decode c_ME_noise 7 = .ok (.aload_n 0, 1) := by decide +kernel
theorem dME_noise_8 : decode c_ME_noise 8 = .ok (.getfield 58, 3) := by decide +kernel
theorem dME_noise_11 : decode c_ME_noise 11 = .ok (.aload_n 2, 1) := by decide +kernel
theorem dME_noise_12 : decode c_ME_noise 12 = .ok (.iload_n 3, 1) := by decide +kernel
theorem dME_noise_13 : decode c_ME_noise 13 = .ok (.bipush 32, 2) := by decide +kernel
theorem dME_noise_15 : decode c_ME_noise 15 = .ok (.invokevirtual 77, 3) := by decide +kernel
theorem dME_noise_18 : decode c_ME_noise 18 = .ok (.aload_n 0, 1) := by decide +kernel
theorem dME_noise_19 : decode c_ME_noise 19 = .ok (.getfield 58, 3) := by decide +kernel
theorem dME_noise_22 : decode c_ME_noise 22 = .ok (.iload 4, 2) := by decide +kernel
theorem dME_noise_24 : decode c_ME_noise 24 = .ok (.invokevirtual 81, 3) := by decide +kernel
theorem dME_noise_27 : decode c_ME_noise 27 = .ok (.aload_n 0, 1) := by decide +kernel
theorem dME_noise_28 : decode c_ME_noise 28 = .ok (.getfield 58, 3) := by decide +kernel
theorem dME_noise_31 : decode c_ME_noise 31 = .ok (.invokevirtual 84, 3) := by decide +kernel
theorem dME_noise_34 : decode c_ME_noise 34 = .ok (.aload_n 0, 1) := by decide +kernel
theorem dME_noise_35 : decode c_ME_noise 35 = .ok (.getfield 58, 3) := by decide +kernel
theorem dME_noise_38 : decode c_ME_noise 38 = .ok (.aload_n 0, 1) := by decide +kernel
theorem dME_noise_39 : decode c_ME_noise 39 = .ok (.getfield 46, 3) := by decide +kernel
theorem dME_noise_42 : decode c_ME_noise 42 = .ok (.iconst 0, 1) := by decide +kernel
theorem dME_noise_43 : decode c_ME_noise 43 = .ok (.bipush 64, 2) := by decide +kernel
theorem dME_noise_45 : decode c_ME_noise 45 = .ok (.iload 5, 2) := by decide +kernel
theorem dME_noise_47 : decode c_ME_noise 47 = .ok (.imul, 1) := by decide +kernel
theorem dME_noise_48 : decode c_ME_noise 48 = .ok (.invokevirtual 98, 3) := by decide +kernel
theorem dME_noise_51 : decode c_ME_noise 51 = .ok (.iconst 0, 1) := by decide +kernel
theorem dME_noise_52 : decode c_ME_noise 52 = .ok (.istore 6, 2) := by decide +kernel
theorem dME_noise_54 : decode c_ME_noise 54 = .ok (.iload 6, 2) := by decide +kernel
theorem dME_noise_56 : decode c_ME_noise 56 = .ok (.sipush 256, 3) := by decide +kernel
theorem dME_noise_59 : decode c_ME_noise 59 = .ok (.if_icmp .ge 93, 3) := by decide +kernel
theorem dME_noise_62 : decode c_ME_noise 62 = .ok (.iconst 0, 1) := by decide +kernel
theorem dME_noise_63 : decode c_ME_noise 63 = .ok (.istore 7, 2) := by decide +kernel
theorem dME_noise_65 : decode c_ME_noise 65 = .ok (.iconst 0, 1) := by decide +kernel
theorem dME_noise_66 : decode c_ME_noise 66 = .ok (.istore 8, 2) := by decide +kernel
theorem dME_noise_68 : decode c_ME_noise 68 = .ok (.iload 8, 2) := by decide +kernel
theorem dME_noise_70 : decode c_ME_noise 70 = .ok (.iload 5, 2) := by decide +kernel
theorem dME_noise_72 : decode c_ME_noise 72 = .ok (.if_icmp .ge 54, 3) := by decide +kernel
theorem dME_noise_75 : decode c_ME_noise 75 = .ok (.iload 7, 2) := by decide +kernel
theorem dME_noise_77 : decode c_ME_noise 77 = .ok (.aload_n 0, 1) := by decide +kernel
theorem dME_noise_78 : decode c_ME_noise 78 = .ok (.getfield 46, 3) := by decide +kernel
theorem dME_noise_81 : decode c_ME_noise 81 = .ok (.iconst 2, 1) := by decide +kernel
theorem dME_noise_82 : decode c_ME_noise 82 = .ok (.iload 6, 2) := by decide +kernel
theorem dME_noise_84 : decode c_ME_noise 84 = .ok (.imul, 1) := by decide +kernel
theorem dME_noise_85 : decode c_ME_noise 85 = .ok (.iload 5, 2) := by decide +kernel
theorem dME_noise_87 : decode c_ME_noise 87 = .ok (.imul, 1) := by decide +kernel
theorem dME_noise_88 : decode c_ME_noise 88 = .ok (.iload 8, 2) := by decide +kernel
theorem dME_noise_90 : decode c_ME_noise 90 = .ok (.iadd, 1) := by decide +kernel
theorem dME_noise_91 : decode c_ME_noise 91 = .ok (.iconst 1, 1) := by decide +kernel
theorem dME_noise_92 : decode c_ME_noise 92 = .ok (.invokestatic 101, 3) := by decide +kernel
theorem dME_noise_95 : decode c_ME_noise 95 = .ok (.aload_n 0, 1) := by decide +kernel
theorem dME_noise_96 : decode c_ME_noise 96 = .ok (.getfield 46, 3) := by decide +kernel
theorem dME_noise_99 : decode c_ME_noise 99 = .ok (.iconst 2, 1) := by decide +kernel
theorem dME_noise_100 : decode c_ME_noise 100 = .ok (.iload 6, 2) := by decide +kernel
theorem dME_noise_102 : decode c_ME_noise 102 = .ok (.imul, 1) := by decide +kernel
theorem dME_noise_103 : decode c_ME_noise 103 = .ok (.iload 5, 2) := by decide +kernel
theorem dME_noise_105 : decode c_ME_noise 105 = .ok (.imul, 1) := by decide +kernel
theorem dME_noise_106 : decode c_ME_noise 106 = .ok (.iload 5, 2) := by decide +kernel
theorem dME_noise_108 : decode c_ME_noise 108 = .ok (.iadd, 1) := by decide +kernel
theorem dME_noise_109 : decode c_ME_noise 109 = .ok (.iload 8, 2) := by decide +kernel
theorem dME_noise_111 : decode c_ME_noise 111 = .ok (.iadd, 1) := by decide +kernel
theorem dME_noise_112 : decode c_ME_noise 112 = .ok (.iconst 1, 1) := by decide +kernel
theorem dME_noise_113 : decode c_ME_noise 113 = .ok (.invokestatic 101, 3) := by decide +kernel
theorem dME_noise_116 : decode c_ME_noise 116 = .ok (.isub, 1) := by decide +kernel
theorem dME_noise_117 : decode c_ME_noise 117 = .ok (.iadd, 1) := by decide +kernel
theorem dME_noise_118 : decode c_ME_noise 118 = .ok (.istore 7, 2) := by decide +kernel
theorem dME_noise_120 : decode c_ME_noise 120 = .ok (.iinc 8 1, 3) := by decide +kernel
theorem dME_noise_123 : decode c_ME_noise 123 = .ok (.goto (-55), 3) := by decide +kernel
theorem dME_noise_126 : decode c_ME_noise 126 = .ok (.aload_n 1, 1) := by decide +kernel
theorem dME_noise_127 : decode c_ME_noise 127 = .ok (.iload 6, 2) := by decide +kernel
theorem dME_noise_129 : decode c_ME_noise 129 = .ok (.iload 7, 2) := by decide +kernel
theorem dME_noise_131 : decode c_ME_noise 131 = .ok (.ifCond .ge 12, 3) := by decide +kernel
theorem dME_noise_134 : decode c_ME_noise 134 = .ok (.iload 7, 2) := by decide +kernel
theorem dME_noise_136 : decode c_ME_noise 136 = .ok (.sipush 3329, 3) := by decide +kernel
theorem dME_noise_139 : decode c_ME_noise 139 = .ok (.iadd, 1) := by decide +kernel
theorem dME_noise_140 : decode c_ME_noise 140 = .ok (.goto 5, 3) := by decide +kernel
theorem dME_noise_143 : decode c_ME_noise 143 = .ok (.iload 7, 2) := by decide +kernel
theorem dME_noise_145 : decode c_ME_noise 145 = .ok (.iastore, 1) := by decide +kernel
theorem dME_noise_146 : decode c_ME_noise 146 = .ok (.iinc 6 1, 3) := by decide +kernel
theorem dME_noise_149 : decode c_ME_noise 149 = .ok (.goto (-95), 3) := by decide +kernel
theorem dME_noise_152 : decode c_ME_noise 152 = .ok (.return_, 1) := by decide +kernel
abbrev c_ME_hash : ByteArray := prog_15_method_18_code
abbrev y_ME_hash : MethodName := ⟨"LatticeKeysModel$Secrets", "hash", "([BII[BI)V"⟩
abbrev w_ME_hash : List Cond := Cond.code y_ME_hash c_ME_hash 6 none :: WG
theorem dME_hash_0 : decode c_ME_hash 0 = .ok (.aload_n 0, 1) := by decide +kernel
theorem dME_hash_1 : decode c_ME_hash 1 = .ok (.getfield 58, 3) := by decide +kernel
theorem dME_hash_4 : decode c_ME_hash 4 = .ok (.sipush 136, 3) := by decide +kernel
theorem dME_hash_7 : decode c_ME_hash 7 = .ok (.bipush 6, 2) := by decide +kernel
theorem dME_hash_9 : decode c_ME_hash 9 = .ok (.invokevirtual 71, 3) := by decide +kernel
theorem dME_hash_12 : decode c_ME_hash 12 = .ok (.aload_n 0, 1) := by decide +kernel
theorem dME_hash_13 : decode c_ME_hash 13 = .ok (.getfield 58, 3) := by decide +kernel
theorem dME_hash_16 : decode c_ME_hash 16 = .ok (.aload_n 1, 1) := by decide +kernel
theorem dME_hash_17 : decode c_ME_hash 17 = .ok (.iload_n 2, 1) := by decide +kernel
theorem dME_hash_18 : decode c_ME_hash 18 = .ok (.iload_n 3, 1) := by decide +kernel
theorem dME_hash_19 : decode c_ME_hash 19 = .ok (.invokevirtual 77, 3) := by decide +kernel
theorem dME_hash_22 : decode c_ME_hash 22 = .ok (.aload_n 0, 1) := by decide +kernel
theorem dME_hash_23 : decode c_ME_hash 23 = .ok (.getfield 58, 3) := by decide +kernel
theorem dME_hash_26 : decode c_ME_hash 26 = .ok (.invokevirtual 84, 3) := by decide +kernel
theorem dME_hash_29 : decode c_ME_hash 29 = .ok (.aload_n 0, 1) := by decide +kernel
theorem dME_hash_30 : decode c_ME_hash 30 = .ok (.getfield 58, 3) := by decide +kernel
theorem dME_hash_33 : decode c_ME_hash 33 = .ok (.aload 4, 2) := by decide +kernel
theorem dME_hash_35 : decode c_ME_hash 35 = .ok (.iload 5, 2) := by decide +kernel
theorem dME_hash_37 : decode c_ME_hash 37 = .ok (.bipush 32, 2) := by decide +kernel
theorem dME_hash_39 : decode c_ME_hash 39 = .ok (.invokevirtual 98, 3) := by decide +kernel
theorem dME_hash_42 : decode c_ME_hash 42 = .ok (.return_, 1) := by decide +kernel
abbrev c_ME_both : ByteArray := prog_15_method_21_code
abbrev y_ME_both : MethodName := ⟨"LatticeKeysModel$Secrets", "both", "([B)V"⟩
abbrev w_ME_both : List Cond := Cond.code y_ME_both c_ME_both 2 none :: WG
theorem dME_both_0 : decode c_ME_both 0 = .ok (.aload_n 0, 1) := by decide +kernel
theorem dME_both_1 : decode c_ME_both 1 = .ok (.getfield 58, 3) := by decide +kernel
theorem dME_both_4 : decode c_ME_both 4 = .ok (.bipush 72, 2) := by decide +kernel
theorem dME_both_6 : decode c_ME_both 6 = .ok (.bipush 6, 2) := by decide +kernel
theorem dME_both_8 : decode c_ME_both 8 = .ok (.invokevirtual 71, 3) := by decide +kernel
theorem dME_both_11 : decode c_ME_both 11 = .ok (.aload_n 0, 1) := by decide +kernel
theorem dME_both_12 : decode c_ME_both 12 = .ok (.getfield 58, 3) := by decide +kernel
theorem dME_both_15 : decode c_ME_both 15 = .ok (.aload_n 1, 1) := by decide +kernel
theorem dME_both_16 : decode c_ME_both 16 = .ok (.iconst 0, 1) := by decide +kernel
theorem dME_both_17 : decode c_ME_both 17 = .ok (.bipush 32, 2) := by decide +kernel
theorem dME_both_19 : decode c_ME_both 19 = .ok (.invokevirtual 77, 3) := by decide +kernel
theorem dME_both_22 : decode c_ME_both 22 = .ok (.aload_n 0, 1) := by decide +kernel
theorem dME_both_23 : decode c_ME_both 23 = .ok (.getfield 58, 3) := by decide +kernel
theorem dME_both_26 : decode c_ME_both 26 = .ok (.aload_n 0, 1) := by decide +kernel
theorem dME_both_27 : decode c_ME_both 27 = .ok (.getfield 49, 3) := by decide +kernel
theorem dME_both_30 : decode c_ME_both 30 = .ok (.iconst 0, 1) := by decide +kernel
theorem dME_both_31 : decode c_ME_both 31 = .ok (.bipush 32, 2) := by decide +kernel
theorem dME_both_33 : decode c_ME_both 33 = .ok (.invokevirtual 77, 3) := by decide +kernel
theorem dME_both_36 : decode c_ME_both 36 = .ok (.aload_n 0, 1) := by decide +kernel
theorem dME_both_37 : decode c_ME_both 37 = .ok (.getfield 58, 3) := by decide +kernel
theorem dME_both_40 : decode c_ME_both 40 = .ok (.invokevirtual 84, 3) := by decide +kernel
theorem dME_both_43 : decode c_ME_both 43 = .ok (.aload_n 0, 1) := by decide +kernel
theorem dME_both_44 : decode c_ME_both 44 = .ok (.getfield 58, 3) := by decide +kernel
theorem dME_both_47 : decode c_ME_both 47 = .ok (.aload_n 0, 1) := by decide +kernel
theorem dME_both_48 : decode c_ME_both 48 = .ok (.getfield 42, 3) := by decide +kernel
theorem dME_both_51 : decode c_ME_both 51 = .ok (.iconst 0, 1) := by decide +kernel
theorem dME_both_52 : decode c_ME_both 52 = .ok (.bipush 64, 2) := by decide +kernel
theorem dME_both_54 : decode c_ME_both 54 = .ok (.invokevirtual 98, 3) := by decide +kernel
theorem dME_both_57 : decode c_ME_both 57 = .ok (.return_, 1) := by decide +kernel
abbrev c_ME_openSize : ByteArray := prog_15_method_2_code
abbrev y_ME_openSize : MethodName := ⟨"LatticeKeysModel$Secrets", "openSize", "(I)I"⟩
abbrev w_ME_openSize : List Cond := Cond.code y_ME_openSize c_ME_openSize 1 (some .int) :: WG
theorem dME_openSize_0 : decode c_ME_openSize 0 = .ok (.sipush 384, 3) := by decide +kernel
theorem dME_openSize_3 : decode c_ME_openSize 3 = .ok (.getstatic 62, 3) := by decide +kernel
theorem dME_openSize_6 : decode c_ME_openSize 6 = .ok (.iload_n 0, 1) := by decide +kernel
theorem dME_openSize_7 : decode c_ME_openSize 7 = .ok (.iaload, 1) := by decide +kernel
theorem dME_openSize_8 : decode c_ME_openSize 8 = .ok (.imul, 1) := by decide +kernel
theorem dME_openSize_9 : decode c_ME_openSize 9 = .ok (.bipush 32, 2) := by decide +kernel
theorem dME_openSize_11 : decode c_ME_openSize 11 = .ok (.iadd, 1) := by decide +kernel
theorem dME_openSize_12 : decode c_ME_openSize 12 = .ok (.ireturn, 1) := by decide +kernel
abbrev c_ME_sealedSize : ByteArray := prog_15_method_4_code
abbrev y_ME_sealedSize : MethodName := ⟨"LatticeKeysModel$Secrets", "sealedSize", "(I)I"⟩
abbrev w_ME_sealedSize : List Cond := Cond.code y_ME_sealedSize c_ME_sealedSize 1 (some .int) :: WG
theorem dME_sealedSize_0 : decode c_ME_sealedSize 0 = .ok (.bipush 32, 2) := by decide +kernel
theorem dME_sealedSize_2 : decode c_ME_sealedSize 2 = .ok (.getstatic 65, 3) := by decide +kernel
theorem dME_sealedSize_5 : decode c_ME_sealedSize 5 = .ok (.iload_n 0, 1) := by decide +kernel
theorem dME_sealedSize_6 : decode c_ME_sealedSize 6 = .ok (.iaload, 1) := by decide +kernel
theorem dME_sealedSize_7 : decode c_ME_sealedSize 7 = .ok (.getstatic 62, 3) := by decide +kernel
theorem dME_sealedSize_10 : decode c_ME_sealedSize 10 = .ok (.iload_n 0, 1) := by decide +kernel
theorem dME_sealedSize_11 : decode c_ME_sealedSize 11 = .ok (.iaload, 1) := by decide +kernel
theorem dME_sealedSize_12 : decode c_ME_sealedSize 12 = .ok (.imul, 1) := by decide +kernel
theorem dME_sealedSize_13 : decode c_ME_sealedSize 13 = .ok (.getstatic 68, 3) := by decide +kernel
theorem dME_sealedSize_16 : decode c_ME_sealedSize 16 = .ok (.iload_n 0, 1) := by decide +kernel
theorem dME_sealedSize_17 : decode c_ME_sealedSize 17 = .ok (.iaload, 1) := by decide +kernel
theorem dME_sealedSize_18 : decode c_ME_sealedSize 18 = .ok (.iadd, 1) := by decide +kernel
theorem dME_sealedSize_19 : decode c_ME_sealedSize 19 = .ok (.imul, 1) := by decide +kernel
theorem dME_sealedSize_20 : decode c_ME_sealedSize 20 = .ok (.ireturn, 1) := by decide +kernel
abbrev c_ME_hiddenSize : ByteArray := prog_15_method_3_code
abbrev y_ME_hiddenSize : MethodName := ⟨"LatticeKeysModel$Secrets", "hiddenSize", "(I)I"⟩
abbrev w_ME_hiddenSize : List Cond := Cond.code y_ME_hiddenSize c_ME_hiddenSize 1 (some .int) :: WG
theorem dME_hiddenSize_0 : decode c_ME_hiddenSize 0 = .ok (.sipush 768, 3) := by decide +kernel
theorem dME_hiddenSize_3 : decode c_ME_hiddenSize 3 = .ok (.getstatic 62, 3) := by decide +kernel
theorem dME_hiddenSize_6 : decode c_ME_hiddenSize 6 = .ok (.iload_n 0, 1) := by decide +kernel
theorem dME_hiddenSize_7 : decode c_ME_hiddenSize 7 = .ok (.iaload, 1) := by decide +kernel
theorem dME_hiddenSize_8 : decode c_ME_hiddenSize 8 = .ok (.imul, 1) := by decide +kernel
theorem dME_hiddenSize_9 : decode c_ME_hiddenSize 9 = .ok (.bipush 96, 2) := by decide +kernel
theorem dME_hiddenSize_11 : decode c_ME_hiddenSize 11 = .ok (.iadd, 1) := by decide +kernel
theorem dME_hiddenSize_12 : decode c_ME_hiddenSize 12 = .ok (.ireturn, 1) := by decide +kernel
set_option maxHeartbeats 400000 in
set_option maxRecDepth 100000 in
theorem t_ME_forth (l : Launch) (g : Gd) (sz : Nat) (T : Ty) (xs : List Nat) (pl : va_W) (hO : okx g T xs pl) (hU : uni T) (hc0 : clo T xs 0) (h0 f : Nat) (k_h0 : T h0 = some (23, 0)) (k_f : T f = some (0, 256))  : Met l y_ME_forth w_ME_forth ({ frames := 1, cells := 0, slots := 0, locals := 29 } : Room) (va_Pc [.ref h0, .ref f] (pr (en g) g.1 vcl sz ([] ++ pl))) (va_Qv (fun (u : va_W) => (True) ∧ okx g T xs u) (po g.1 vcl (va_A ([] ++ pl) sz) (fun (u : va_W) => [] ++ u)) (va_A ([] ++ pl) sz)) 0 0 (va_A ([] ++ pl) sz) := by
  refine mc_entry (cc := c_ME_forth) (maxL := 3) (ret := none) (by decide) rfl (Nat.le_of_ble_eq_true rfl) ?_
  intro p e s m args below meth c ls F hr hlk hnm hsz hP hD hE hA hl
  obtain ⟨hx, hb, hml, hown, hts⟩ := id F
  have hK := hE.1
  generalize va_A ([] ++ pl) sz = A at hD hE hA ⊢
  have hS : va_S A s.heap s.heap [] := va_S.rf
  have hl : lv_has ls 3 [(0, .ref h0), (1, .ref f)] := hl
  refine lv_aload_n hx hb dME_forth_0 rfl (lv_at hl 0 rfl) ?_
  refine ty_get (ci := 11) (C := "LatticeKeysModel$Secrets") (TT := T_ME) (N := 14) (kd := (23, 0)) hx hb hts (wg_ft i_ME) hown hK hO k_h0 (nxg hc0 k_h0 rfl) hP (fun _ h9 => h9) rfl 1 (by decide) (hts _ (wg_t kw_1380)) (fun _ h9 => h9) (cd := (3, 21, 0)) rfl dME_forth_1 (fun v21 hv21 => ?_)
  obtain ⟨r21, rfl, kr21⟩ := (show ∃ r : Nat, v21 = .ref r ∧ T r = some (21, 0) from hv21)
  refine lv_aload_n hx hb dME_forth_4 rfl (lv_at hl 1 rfl) ?_
  refine lv_aload_n hx hb dME_forth_5 rfl (lv_at hl 0 rfl) ?_
  refine ty_get (ci := 11) (C := "LatticeKeysModel$Secrets") (TT := T_ME) (N := 14) (kd := (23, 0)) hx hb hts (wg_ft i_ME) hown hK hO k_h0 (nxg hc0 k_h0 rfl) hP (fun _ h9 => h9) rfl 8 (by decide) (hts _ (wg_t kw_1387)) (fun _ h9 => h9) (cd := (3, 0, 256)) rfl dME_forth_6 (fun v22 hv22 => ?_)
  obtain ⟨r22, rfl, kr22⟩ := (show ∃ r : Nat, v22 = .ref r ∧ T r = some (0, 256) from hv22)
  refine lv_iconst (v := nI 2) hx hb dME_forth_9 (by decide) ?_
  refine lv_iconst (v := nI 0) hx hb dME_forth_10 (by decide) ?_
  refine mp_v (cx := []) (wr := []) hP hD hS hA [] [] rfl rfl rfl (by decide) (va_runV (As := [.ref f, .ref r22, .int (nI 2), .int (nI 0)]) (rest := []) F (t_MR_forth_21_0 l g _ T xs pl hO hU hc0 r21 f r22 kr21 k_f kr22) (cwV 4 hts (wg_app (wg_c kw_1672 (wg_c kw_1673 (wg_c kw_1674 (wg_c kw_12 wg_n)))) kw_1675) rfl rfl rfl (by decide +kernel) ⟨by decide, by decide⟩) (pp_VT (en_ok g) (ci := 10) (kd := (21, 0)) hK hO kr21 (nxg hc0 kr21 rfl) (fun _ h9 => ko1 h9) hP hD hS hA hE [] rfl rfl rfl) rfl rfl hl.1 rfl (lv_room (Nat.le_of_ble_eq_true rfl)) dME_forth_11 ⟨by omega, by omega⟩) (fun  pl H locs hu21 hP hD hS => ?_)
  obtain ⟨hq21, hO⟩ := hu21
  have hP : va_P g.1 vcl ([] ++ pl) _ := hP
  have hD : va_D _ ([] ++ pl) := hD
  refine W.widen (k := 0) (n := 0) (by omega) (by omega) ?_
  refine lv_aload_n hx hb dME_forth_14 rfl (lv_at hl 0 rfl) ?_
  refine ty_get (ci := 11) (C := "LatticeKeysModel$Secrets") (TT := T_ME) (N := 14) (kd := (23, 0)) hx hb hts (wg_ft i_ME) hown hK hO k_h0 (nxg hc0 k_h0 rfl) hP (fun _ h9 => h9) rfl 1 (by decide) (hts _ (wg_t kw_1380)) (fun _ h9 => h9) (cd := (3, 21, 0)) rfl dME_forth_15 (fun v23 hv23 => ?_)
  obtain ⟨r23, rfl, kr23⟩ := (show ∃ r : Nat, v23 = .ref r ∧ T r = some (21, 0) from hv23)
  refine lv_aload_n hx hb dME_forth_18 rfl (lv_at hl 1 rfl) ?_
  refine lv_aload_n hx hb dME_forth_19 rfl (lv_at hl 0 rfl) ?_
  refine ty_get (ci := 11) (C := "LatticeKeysModel$Secrets") (TT := T_ME) (N := 14) (kd := (23, 0)) hx hb hts (wg_ft i_ME) hown hK hO k_h0 (nxg hc0 k_h0 rfl) hP (fun _ h9 => h9) rfl 8 (by decide) (hts _ (wg_t kw_1387)) (fun _ h9 => h9) (cd := (3, 0, 256)) rfl dME_forth_20 (fun v24 hv24 => ?_)
  obtain ⟨r24, rfl, kr24⟩ := (show ∃ r : Nat, v24 = .ref r ∧ T r = some (0, 256) from hv24)
  refine lv_iconst (v := nI 2) hx hb dME_forth_23 (by decide) ?_
  refine lv_iconst (v := nI 1) hx hb dME_forth_24 (by decide) ?_
  refine mp_v (cx := []) (wr := []) hP hD hS hA [] [] rfl rfl rfl (by decide) (va_runV (As := [.ref f, .ref r24, .int (nI 2), .int (nI 1)]) (rest := []) F (t_MR_forth_21_1 l g _ T xs pl hO hU hc0 r23 f r24 kr23 k_f kr24) (cwV 4 hts (wg_app (wg_c kw_1672 (wg_c kw_1673 (wg_c kw_1674 (wg_c kw_12 wg_n)))) kw_1675) rfl rfl rfl (by decide +kernel) ⟨by decide, by decide⟩) (pp_VT (en_ok g) (ci := 10) (kd := (21, 0)) hK hO kr23 (nxg hc0 kr23 rfl) (fun _ h9 => ko1 h9) hP hD hS hA hE [] rfl rfl rfl) rfl rfl hl.1 rfl (lv_room (Nat.le_of_ble_eq_true rfl)) dME_forth_25 ⟨by omega, by omega⟩) (fun  pl H locs hu22 hP hD hS => ?_)
  obtain ⟨hq22, hO⟩ := hu22
  have hP : va_P g.1 vcl ([] ++ pl) _ := hP
  have hD : va_D _ ([] ++ pl) := hD
  refine W.widen (k := 0) (n := 0) (by omega) (by omega) ?_
  refine lv_iconst (v := nI 0) hx hb dME_forth_28 (by decide) ?_
  refine lv_istore_n (lv' := [(2, .int (nI 0)), (0, .ref h0), (1, .ref f)]) hx hb dME_forth_29 rfl hl (by decide) rfl (fun ls hl => ?_)
  have lp21 : ∀ (n21 : Nat) (i21 : Nat) (pl : va_W) (ls : Array Slot) (H : Heap) (locs : List Loc), n21 + i21 = 256 → lv_has ls 3 [(2, .int (nI i21)), (0, .ref h0), (1, .ref f)] → okx g T xs pl → va_P g.1 vcl ([] ++ pl) H → va_D A ([] ++ pl) → va_S A s.heap H locs → W p l e ({ frames := 1, cells := 0, slots := 0, locals := 29 } : Room) s m args below meth c H locs 0 0 (MQ below (va_Qv (fun (u : va_W) => (True) ∧ okx g T xs u) (po g.1 vcl A (fun (u : va_W) => [] ++ u)) A) args s 0 0 A) (F0 m 30 ls []) := by
    intro n21
    induction n21 with
    | zero =>
      intro i21 pl ls H locs hm21  hl hO hP hD hS
      refine lv_iload_n hx hb dME_forth_30 rfl (lv_at hl 0 rfl) ?_
      refine lv_sipush (v := nI 256) hx hb dME_forth_31 (by decide) ?_
      refine mi_ge (tgt := 52) hx hb dME_forth_34 (by decide) (by omega) (by omega) (fun h21 => ?_) (fun h21 => absurd h21 (by omega))
      exact mp_vret hx hb hr hlk hP hD hS pl ⟨trivial, hO⟩ [] rfl rfl rfl (by omega) (by omega) dME_forth_52
    | succ n21 ih21 =>
      intro i21 pl ls H locs hm21  hl hO hP hD hS
      refine lv_iload_n hx hb dME_forth_30 rfl (lv_at hl 0 rfl) ?_
      refine lv_sipush (v := nI 256) hx hb dME_forth_31 (by decide) ?_
      refine mi_ge (tgt := 52) hx hb dME_forth_34 (by decide) (by omega) (by omega) (fun h22 => absurd h22 (by omega)) (fun h22 => ?_)
      refine lv_aload_n hx hb dME_forth_37 rfl (lv_at hl 2 rfl) ?_
      refine lv_iload_n hx hb dME_forth_38 rfl (lv_at hl 0 rfl) ?_
      refine lv_aload_n hx hb dME_forth_39 rfl (lv_at hl 1 rfl) ?_
      refine ty_get (ci := 11) (C := "LatticeKeysModel$Secrets") (TT := T_ME) (N := 14) (kd := (23, 0)) hx hb hts (wg_ft i_ME) hown hK hO k_h0 (nxg hc0 k_h0 rfl) hP (fun _ h9 => h9) rfl 8 (by decide) (hts _ (wg_t kw_1387)) (fun _ h9 => h9) (cd := (3, 0, 256)) rfl dME_forth_40 (fun v25 hv25 => ?_)
      obtain ⟨r25, rfl, kr25⟩ := (show ∃ r : Nat, v25 = .ref r ∧ T r = some (0, 256) from hv25)
      refine lv_iload_n hx hb dME_forth_43 rfl (lv_at hl 0 rfl) ?_
      refine ty_iald hx hb hK hO kr25 (nxg hc0 kr25 rfl) hP (vp_in_nI (by omega) (by decide)) dME_forth_44 (fun z21 => ?_)
      refine ty_iast hx hb hK hO k_f (nxg hc0 k_f rfl) hP hD hS (vp_in_nI (by omega) (by decide)) dME_forth_45 (fun pl H locs hO hP hD hS => ?_)
      refine mi_iinc (k := 0) (x := i21) (d := 1) (y := i21 + 1) (lv' := [(2, .int (nI (i21 + 1))), (0, .ref h0), (1, .ref f)]) hx hb dME_forth_46 hl rfl (by decide) rfl (by decide) rfl (fun ls hl => ?_)
      refine lv_goto (tgt := 30) hx hb dME_forth_49 (by decide) ?_
      exact ih21 (i21 + 1) pl ls H locs (by omega) (lv_sub hl [0, 1, 2] rfl) hO hP hD hS
  exact lp21 256 0 pl ls _ _ (by omega) (lv_sub hl [0, 1, 2] rfl) hO hP hD hS
set_option maxHeartbeats 400000 in
set_option maxRecDepth 100000 in
theorem t_ME_back (l : Launch) (g : Gd) (sz : Nat) (T : Ty) (xs : List Nat) (pl : va_W) (hO : okx g T xs pl) (hU : uni T) (hc0 : clo T xs 0) (h0 f : Nat) (k_h0 : T h0 = some (23, 0)) (k_f : T f = some (0, 256))  : Met l y_ME_back w_ME_back ({ frames := 1, cells := 0, slots := 0, locals := 28 } : Room) (va_Pc [.ref h0, .ref f] (pr (en g) g.1 vcl sz ([] ++ pl))) (va_Qv (fun (u : va_W) => (True) ∧ okx g T xs u) (po g.1 vcl (va_A ([] ++ pl) sz) (fun (u : va_W) => [] ++ u)) (va_A ([] ++ pl) sz)) 0 0 (va_A ([] ++ pl) sz) := by
  refine mc_entry (cc := c_ME_back) (maxL := 3) (ret := none) (by decide) rfl (Nat.le_of_ble_eq_true rfl) ?_
  intro p e s m args below meth c ls F hr hlk hnm hsz hP hD hE hA hl
  obtain ⟨hx, hb, hml, hown, hts⟩ := id F
  have hK := hE.1
  generalize va_A ([] ++ pl) sz = A at hD hE hA ⊢
  have hS : va_S A s.heap s.heap [] := va_S.rf
  have hl : lv_has ls 3 [(0, .ref h0), (1, .ref f)] := hl
  refine lv_aload_n hx hb dME_back_0 rfl (lv_at hl 0 rfl) ?_
  refine ty_get (ci := 11) (C := "LatticeKeysModel$Secrets") (TT := T_ME) (N := 14) (kd := (23, 0)) hx hb hts (wg_ft i_ME) hown hK hO k_h0 (nxg hc0 k_h0 rfl) hP (fun _ h9 => h9) rfl 1 (by decide) (hts _ (wg_t kw_1380)) (fun _ h9 => h9) (cd := (3, 21, 0)) rfl dME_back_1 (fun v21 hv21 => ?_)
  obtain ⟨r21, rfl, kr21⟩ := (show ∃ r : Nat, v21 = .ref r ∧ T r = some (21, 0) from hv21)
  refine lv_aload_n hx hb dME_back_4 rfl (lv_at hl 1 rfl) ?_
  refine lv_aload_n hx hb dME_back_5 rfl (lv_at hl 0 rfl) ?_
  refine ty_get (ci := 11) (C := "LatticeKeysModel$Secrets") (TT := T_ME) (N := 14) (kd := (23, 0)) hx hb hts (wg_ft i_ME) hown hK hO k_h0 (nxg hc0 k_h0 rfl) hP (fun _ h9 => h9) rfl 8 (by decide) (hts _ (wg_t kw_1387)) (fun _ h9 => h9) (cd := (3, 0, 256)) rfl dME_back_6 (fun v22 hv22 => ?_)
  obtain ⟨r22, rfl, kr22⟩ := (show ∃ r : Nat, v22 = .ref r ∧ T r = some (0, 256) from hv22)
  refine lv_iconst (v := nI 2) hx hb dME_back_9 (by decide) ?_
  refine lv_iconst (v := nI 0) hx hb dME_back_10 (by decide) ?_
  refine mp_v (cx := []) (wr := []) hP hD hS hA [] [] rfl rfl rfl (by decide) (va_runV (As := [.ref f, .ref r22, .int (nI 2), .int (nI 0)]) (rest := []) F (t_MR_back_21_0 l g _ T xs pl hO hU hc0 r21 f r22 kr21 k_f kr22) (cwV 4 hts (wg_app (wg_c kw_1826 (wg_c kw_1740 (wg_c kw_1741 (wg_c kw_12 wg_n)))) kw_1742) rfl rfl rfl (by decide +kernel) ⟨by decide, by decide⟩) (pp_VT (en_ok g) (ci := 10) (kd := (21, 0)) hK hO kr21 (nxg hc0 kr21 rfl) (fun _ h9 => ko1 h9) hP hD hS hA hE [] rfl rfl rfl) rfl rfl hl.1 rfl (lv_room (Nat.le_of_ble_eq_true rfl)) dME_back_11 ⟨by omega, by omega⟩) (fun  pl H locs hu21 hP hD hS => ?_)
  obtain ⟨hq21, hO⟩ := hu21
  have hP : va_P g.1 vcl ([] ++ pl) _ := hP
  have hD : va_D _ ([] ++ pl) := hD
  refine W.widen (k := 0) (n := 0) (by omega) (by omega) ?_
  refine lv_aload_n hx hb dME_back_14 rfl (lv_at hl 0 rfl) ?_
  refine ty_get (ci := 11) (C := "LatticeKeysModel$Secrets") (TT := T_ME) (N := 14) (kd := (23, 0)) hx hb hts (wg_ft i_ME) hown hK hO k_h0 (nxg hc0 k_h0 rfl) hP (fun _ h9 => h9) rfl 1 (by decide) (hts _ (wg_t kw_1380)) (fun _ h9 => h9) (cd := (3, 21, 0)) rfl dME_back_15 (fun v23 hv23 => ?_)
  obtain ⟨r23, rfl, kr23⟩ := (show ∃ r : Nat, v23 = .ref r ∧ T r = some (21, 0) from hv23)
  refine lv_aload_n hx hb dME_back_18 rfl (lv_at hl 1 rfl) ?_
  refine lv_aload_n hx hb dME_back_19 rfl (lv_at hl 0 rfl) ?_
  refine ty_get (ci := 11) (C := "LatticeKeysModel$Secrets") (TT := T_ME) (N := 14) (kd := (23, 0)) hx hb hts (wg_ft i_ME) hown hK hO k_h0 (nxg hc0 k_h0 rfl) hP (fun _ h9 => h9) rfl 8 (by decide) (hts _ (wg_t kw_1387)) (fun _ h9 => h9) (cd := (3, 0, 256)) rfl dME_back_20 (fun v24 hv24 => ?_)
  obtain ⟨r24, rfl, kr24⟩ := (show ∃ r : Nat, v24 = .ref r ∧ T r = some (0, 256) from hv24)
  refine lv_iconst (v := nI 2) hx hb dME_back_23 (by decide) ?_
  refine lv_iconst (v := nI 1) hx hb dME_back_24 (by decide) ?_
  refine mp_v (cx := []) (wr := []) hP hD hS hA [] [] rfl rfl rfl (by decide) (va_runV (As := [.ref f, .ref r24, .int (nI 2), .int (nI 1)]) (rest := []) F (t_MR_back_21_1 l g _ T xs pl hO hU hc0 r23 f r24 kr23 k_f kr24) (cwV 4 hts (wg_app (wg_c kw_1826 (wg_c kw_1740 (wg_c kw_1741 (wg_c kw_12 wg_n)))) kw_1742) rfl rfl rfl (by decide +kernel) ⟨by decide, by decide⟩) (pp_VT (en_ok g) (ci := 10) (kd := (21, 0)) hK hO kr23 (nxg hc0 kr23 rfl) (fun _ h9 => ko1 h9) hP hD hS hA hE [] rfl rfl rfl) rfl rfl hl.1 rfl (lv_room (Nat.le_of_ble_eq_true rfl)) dME_back_25 ⟨by omega, by omega⟩) (fun  pl H locs hu22 hP hD hS => ?_)
  obtain ⟨hq22, hO⟩ := hu22
  have hP : va_P g.1 vcl ([] ++ pl) _ := hP
  have hD : va_D _ ([] ++ pl) := hD
  refine W.widen (k := 0) (n := 0) (by omega) (by omega) ?_
  refine lv_iconst (v := nI 0) hx hb dME_back_28 (by decide) ?_
  refine lv_istore_n (lv' := [(2, .int (nI 0)), (0, .ref h0), (1, .ref f)]) hx hb dME_back_29 rfl hl (by decide) rfl (fun ls hl => ?_)
  have lp21 : ∀ (n21 : Nat) (i21 : Nat) (pl : va_W) (ls : Array Slot) (H : Heap) (locs : List Loc), n21 + i21 = 256 → lv_has ls 3 [(2, .int (nI i21)), (0, .ref h0), (1, .ref f)] → okx g T xs pl → va_P g.1 vcl ([] ++ pl) H → va_D A ([] ++ pl) → va_S A s.heap H locs → W p l e ({ frames := 1, cells := 0, slots := 0, locals := 28 } : Room) s m args below meth c H locs 0 0 (MQ below (va_Qv (fun (u : va_W) => (True) ∧ okx g T xs u) (po g.1 vcl A (fun (u : va_W) => [] ++ u)) A) args s 0 0 A) (F0 m 30 ls []) := by
    intro n21
    induction n21 with
    | zero =>
      intro i21 pl ls H locs hm21  hl hO hP hD hS
      refine lv_iload_n hx hb dME_back_30 rfl (lv_at hl 0 rfl) ?_
      refine lv_sipush (v := nI 256) hx hb dME_back_31 (by decide) ?_
      refine mi_ge (tgt := 52) hx hb dME_back_34 (by decide) (by omega) (by omega) (fun h21 => ?_) (fun h21 => absurd h21 (by omega))
      exact mp_vret hx hb hr hlk hP hD hS pl ⟨trivial, hO⟩ [] rfl rfl rfl (by omega) (by omega) dME_back_52
    | succ n21 ih21 =>
      intro i21 pl ls H locs hm21  hl hO hP hD hS
      refine lv_iload_n hx hb dME_back_30 rfl (lv_at hl 0 rfl) ?_
      refine lv_sipush (v := nI 256) hx hb dME_back_31 (by decide) ?_
      refine mi_ge (tgt := 52) hx hb dME_back_34 (by decide) (by omega) (by omega) (fun h22 => absurd h22 (by omega)) (fun h22 => ?_)
      refine lv_aload_n hx hb dME_back_37 rfl (lv_at hl 2 rfl) ?_
      refine lv_iload_n hx hb dME_back_38 rfl (lv_at hl 0 rfl) ?_
      refine lv_aload_n hx hb dME_back_39 rfl (lv_at hl 1 rfl) ?_
      refine ty_get (ci := 11) (C := "LatticeKeysModel$Secrets") (TT := T_ME) (N := 14) (kd := (23, 0)) hx hb hts (wg_ft i_ME) hown hK hO k_h0 (nxg hc0 k_h0 rfl) hP (fun _ h9 => h9) rfl 8 (by decide) (hts _ (wg_t kw_1387)) (fun _ h9 => h9) (cd := (3, 0, 256)) rfl dME_back_40 (fun v25 hv25 => ?_)
      obtain ⟨r25, rfl, kr25⟩ := (show ∃ r : Nat, v25 = .ref r ∧ T r = some (0, 256) from hv25)
      refine lv_iload_n hx hb dME_back_43 rfl (lv_at hl 0 rfl) ?_
      refine ty_iald hx hb hK hO kr25 (nxg hc0 kr25 rfl) hP (vp_in_nI (by omega) (by decide)) dME_back_44 (fun z21 => ?_)
      refine ty_iast hx hb hK hO k_f (nxg hc0 k_f rfl) hP hD hS (vp_in_nI (by omega) (by decide)) dME_back_45 (fun pl H locs hO hP hD hS => ?_)
      refine mi_iinc (k := 0) (x := i21) (d := 1) (y := i21 + 1) (lv' := [(2, .int (nI (i21 + 1))), (0, .ref h0), (1, .ref f)]) hx hb dME_back_46 hl rfl (by decide) rfl (by decide) rfl (fun ls hl => ?_)
      refine lv_goto (tgt := 30) hx hb dME_back_49 (by decide) ?_
      exact ih21 (i21 + 1) pl ls H locs (by omega) (lv_sub hl [0, 1, 2] rfl) hO hP hD hS
  exact lp21 256 0 pl ls _ _ (by omega) (lv_sub hl [0, 1, 2] rfl) hO hP hD hS
set_option maxHeartbeats 400000 in
set_option maxRecDepth 100000 in
theorem t_ME_product (l : Launch) (g : Gd) (sz : Nat) (T : Ty) (xs : List Nat) (pl : va_W) (hO : okx g T xs pl) (hU : uni T) (hc0 : clo T xs 0) (h0 f fg to : Nat) (k_h0 : T h0 = some (23, 0)) (k_f : T f = some (0, 256)) (k_fg : T fg = some (0, 256)) (k_to : T to = some (0, 256))  : Met l y_ME_product w_ME_product ({ frames := 1, cells := 0, slots := 0, locals := 21 } : Room) (va_Pc [.ref h0, .ref f, .ref fg, .ref to] (pr (en g) g.1 vcl sz ([] ++ pl))) (va_Qv (fun (u : va_W) => (True) ∧ okx g T xs u) (po g.1 vcl (va_A ([] ++ pl) sz) (fun (u : va_W) => [] ++ u)) (va_A ([] ++ pl) sz)) 0 0 (va_A ([] ++ pl) sz) := by
  refine mc_entry (cc := c_ME_product) (maxL := 8) (ret := none) (by decide) rfl (Nat.le_of_ble_eq_true rfl) ?_
  intro p e s m args below meth c ls F hr hlk hnm hsz hP hD hE hA hl
  obtain ⟨hx, hb, hml, hown, hts⟩ := id F
  have hK := hE.1
  generalize va_A ([] ++ pl) sz = A at hD hE hA ⊢
  have hS : va_S A s.heap s.heap [] := va_S.rf
  have hl : lv_has ls 8 [(0, .ref h0), (1, .ref f), (2, .ref fg), (3, .ref to)] := hl
  refine lv_iconst (v := nI 0) hx hb dME_product_0 (by decide) ?_
  refine lv_istore (lv' := [(4, .int (nI 0)), (0, .ref h0), (1, .ref f), (2, .ref fg), (3, .ref to)]) hx hb dME_product_1 hl (by decide) rfl (fun ls hl => ?_)
  have lp21 : ∀ (n21 : Nat) (i21 : Nat) (pl : va_W) (ls : Array Slot) (H : Heap) (locs : List Loc), 2 * n21 + i21 = 256 → lv_has ls 8 [(4, .int (nI i21)), (0, .ref h0), (1, .ref f), (2, .ref fg), (3, .ref to)] → okx g T xs pl → va_P g.1 vcl ([] ++ pl) H → va_D A ([] ++ pl) → va_S A s.heap H locs → W p l e ({ frames := 1, cells := 0, slots := 0, locals := 21 } : Room) s m args below meth c H locs 0 0 (MQ below (va_Qv (fun (u : va_W) => (True) ∧ okx g T xs u) (po g.1 vcl A (fun (u : va_W) => [] ++ u)) A) args s 0 0 A) (F0 m 3 ls []) := by
    intro n21
    induction n21 with
    | zero =>
      intro i21 pl ls H locs hm21  hl hO hP hD hS
      refine lv_iload hx hb dME_product_3 (lv_at hl 0 rfl) ?_
      refine lv_sipush (v := nI 256) hx hb dME_product_5 (by decide) ?_
      refine mi_ge (tgt := 121) hx hb dME_product_8 (by decide) (by omega) (by omega) (fun h21 => ?_) (fun h21 => absurd h21 (by omega))
      exact mp_vret hx hb hr hlk hP hD hS pl ⟨trivial, hO⟩ [] rfl rfl rfl (by omega) (by omega) dME_product_121
    | succ n21 ih21 =>
      intro i21 pl ls H locs hm21  hl hO hP hD hS
      refine lv_iload hx hb dME_product_3 (lv_at hl 0 rfl) ?_
      refine lv_sipush (v := nI 256) hx hb dME_product_5 (by decide) ?_
      refine mi_ge (tgt := 121) hx hb dME_product_8 (by decide) (by omega) (by omega) (fun h22 => absurd h22 (by omega)) (fun h22 => ?_)
      refine lv_aload_n hx hb dME_product_11 rfl (lv_at hl 2 rfl) ?_
      refine lv_iload hx hb dME_product_12 (lv_at hl 0 rfl) ?_
      refine ty_iald hx hb hK hO k_f (nxg hc0 k_f rfl) hP (vp_in_nI (by omega) (by decide)) dME_product_14 (fun z21 => ?_)
      refine lv_aload_n hx hb dME_product_15 rfl (lv_at hl 3 rfl) ?_
      refine lv_iload hx hb dME_product_16 (lv_at hl 0 rfl) ?_
      refine ty_iald hx hb hK hO k_fg (nxg hc0 k_fg rfl) hP (vp_in_nI (by omega) (by decide)) dME_product_18 (fun z22 => ?_)
      refine lv_imul hx hb dME_product_19 ?_
      refine mi_any (fun z23 => ?_)
      refine lv_i2l hx hb dME_product_20 rfl ?_
      refine ml_any (fun y21 => ?_)
      refine lv_aload_n hx hb dME_product_21 rfl (lv_at hl 2 rfl) ?_
      refine lv_iload hx hb dME_product_22 (lv_at hl 0 rfl) ?_
      refine lv_iconst (v := nI 1) hx hb dME_product_24 (by decide) ?_
      refine mi_iadd hx hb dME_product_25 ?_
      refine ty_iald hx hb hK hO k_f (nxg hc0 k_f rfl) hP (vp_in_nI (by omega) (by decide)) dME_product_26 (fun z24 => ?_)
      refine lv_aload_n hx hb dME_product_27 rfl (lv_at hl 3 rfl) ?_
      refine lv_iload hx hb dME_product_28 (lv_at hl 0 rfl) ?_
      refine lv_iconst (v := nI 1) hx hb dME_product_30 (by decide) ?_
      refine mi_iadd hx hb dME_product_31 ?_
      refine ty_iald hx hb hK hO k_fg (nxg hc0 k_fg rfl) hP (vp_in_nI (by omega) (by decide)) dME_product_32 (fun z25 => ?_)
      refine lv_imul hx hb dME_product_33 ?_
      refine mi_any (fun z26 => ?_)
      refine lv_sipush (v := nI 3329) hx hb dME_product_34 (by decide) ?_
      refine lv_irem hx hb dME_product_37 (nI_ne0 (by omega) (by omega)) ?_
      refine mi_any (fun z27 => ?_)
      refine lv_i2l hx hb dME_product_38 rfl ?_
      refine ml_any (fun y22 => ?_)
      refine lv_aload_n hx hb dME_product_39 rfl (lv_at hl 1 rfl) ?_
      refine ty_get (ci := 11) (C := "LatticeKeysModel$Secrets") (TT := T_ME) (N := 14) (kd := (23, 0)) hx hb hts (wg_ft i_ME) hown hK hO k_h0 (nxg hc0 k_h0 rfl) hP (fun _ h9 => h9) rfl 1 (by decide) (hts _ (wg_t kw_1380)) (fun _ h9 => h9) (cd := (3, 21, 0)) rfl dME_product_40 (fun v21 hv21 => ?_)
      obtain ⟨r21, rfl, kr21⟩ := (show ∃ r : Nat, v21 = .ref r ∧ T r = some (21, 0) from hv21)
      refine lv_iload hx hb dME_product_43 (lv_at hl 0 rfl) ?_
      refine lv_iconst (v := nI 2) hx hb dME_product_45 (by decide) ?_
      refine mi_idiv hx hb dME_product_46 (by omega) (by omega) (by omega) ?_
      refine mp_l (cx := []) (wr := []) hP hD hS hA [] [] rfl rfl rfl (by decide) (va_runV (As := [.int (nI (i21 / 2))]) (rest := [.long y22, .long y21]) F (t_MR_root l g _ T xs pl hO hU hc0 r21 (i21 / 2) kr21 (by omega)) (cwV 1 hts (wg_app (wg_c kw_1680 (wg_c kw_1681 (wg_c kw_1682 (wg_c kw_12 wg_n)))) kw_1683) rfl rfl rfl (by decide +kernel) ⟨by decide, by decide⟩) (pp_VT (en_ok g) (ci := 10) (kd := (21, 0)) hK hO kr21 (nxg hc0 kr21 rfl) (fun _ h9 => ko1 h9) hP hD hS hA hE [] rfl rfl rfl) rfl rfl hl.1 rfl (lv_room (Nat.le_of_ble_eq_true rfl)) dME_product_47 ⟨by omega, by omega⟩) (fun r22 pl H locs hu21 hP hD hS => ?_)
      obtain ⟨hq21, hO⟩ := hu21
      have hP : va_P g.1 vcl ([] ++ pl) _ := hP
      have hD : va_D _ ([] ++ pl) := hD
      refine W.widen (k := 0) (n := 0) (by omega) (by omega) ?_
      refine lv_lmul hx hb dME_product_50 ?_
      refine ml_any (fun y23 => ?_)
      refine lv_ladd hx hb dME_product_51 ?_
      refine ml_any (fun y24 => ?_)
      refine lv_lstore (lv' := [(5, .long y24), (4, .int (nI i21)), (0, .ref h0), (1, .ref f), (2, .ref fg), (3, .ref to)]) hx hb dME_product_52 hl (by decide) rfl (fun ls hl => ?_)
      refine lv_aload_n hx hb dME_product_54 rfl (lv_at hl 3 rfl) ?_
      refine lv_iload hx hb dME_product_55 (lv_at hl 1 rfl) ?_
      refine ty_iald hx hb hK hO k_f (nxg hc0 k_f rfl) hP (vp_in_nI (by omega) (by decide)) dME_product_57 (fun z28 => ?_)
      refine lv_aload_n hx hb dME_product_58 rfl (lv_at hl 4 rfl) ?_
      refine lv_iload hx hb dME_product_59 (lv_at hl 1 rfl) ?_
      refine lv_iconst (v := nI 1) hx hb dME_product_61 (by decide) ?_
      refine mi_iadd hx hb dME_product_62 ?_
      refine ty_iald hx hb hK hO k_fg (nxg hc0 k_fg rfl) hP (vp_in_nI (by omega) (by decide)) dME_product_63 (fun z29 => ?_)
      refine lv_imul hx hb dME_product_64 ?_
      refine mi_any (fun z30 => ?_)
      refine lv_aload_n hx hb dME_product_65 rfl (lv_at hl 3 rfl) ?_
      refine lv_iload hx hb dME_product_66 (lv_at hl 1 rfl) ?_
      refine lv_iconst (v := nI 1) hx hb dME_product_68 (by decide) ?_
      refine mi_iadd hx hb dME_product_69 ?_
      refine ty_iald hx hb hK hO k_f (nxg hc0 k_f rfl) hP (vp_in_nI (by omega) (by decide)) dME_product_70 (fun z31 => ?_)
      refine lv_aload_n hx hb dME_product_71 rfl (lv_at hl 4 rfl) ?_
      refine lv_iload hx hb dME_product_72 (lv_at hl 1 rfl) ?_
      refine ty_iald hx hb hK hO k_fg (nxg hc0 k_fg rfl) hP (vp_in_nI (by omega) (by decide)) dME_product_74 (fun z32 => ?_)
      refine lv_imul hx hb dME_product_75 ?_
      refine mi_any (fun z33 => ?_)
      refine lv_iadd hx hb dME_product_76 ?_
      refine mi_any (fun z34 => ?_)
      refine lv_istore (lv' := [(7, .int z34), (5, .long y24), (4, .int (nI i21)), (0, .ref h0), (1, .ref f), (2, .ref fg), (3, .ref to)]) hx hb dME_product_77 hl (by decide) rfl (fun ls hl => ?_)
      refine lv_aload_n hx hb dME_product_79 rfl (lv_at hl 6 rfl) ?_
      refine lv_iload hx hb dME_product_80 (lv_at hl 2 rfl) ?_
      refine lv_aload_n hx hb dME_product_82 rfl (lv_at hl 6 rfl) ?_
      refine lv_iload hx hb dME_product_83 (lv_at hl 2 rfl) ?_
      refine ty_iald hx hb hK hO k_to (nxg hc0 k_to rfl) hP (vp_in_nI (by omega) (by decide)) dME_product_85 (fun z35 => ?_)
      refine lv_i2l hx hb dME_product_86 rfl ?_
      refine ml_any (fun y25 => ?_)
      refine lv_lload hx hb dME_product_87 (lv_at hl 1 rfl) ?_
      refine lv_ladd hx hb dME_product_89 ?_
      refine ml_any (fun y26 => ?_)
      refine lv_ldc2 (v := (3329)) hx hb hown (hts _ (wg_t kw_1684)) dME_product_90 ?_
      refine lv_lrem hx hb dME_product_93 (by decide) ?_
      refine ml_any (fun y27 => ?_)
      refine lv_l2i hx hb dME_product_94 rfl ?_
      refine mi_any (fun z36 => ?_)
      refine ty_iast hx hb hK hO k_to (nxg hc0 k_to rfl) hP hD hS (vp_in_nI (by omega) (by decide)) dME_product_95 (fun pl H locs hO hP hD hS => ?_)
      refine lv_aload_n hx hb dME_product_96 rfl (lv_at hl 6 rfl) ?_
      refine lv_iload hx hb dME_product_97 (lv_at hl 2 rfl) ?_
      refine lv_iconst (v := nI 1) hx hb dME_product_99 (by decide) ?_
      refine mi_iadd hx hb dME_product_100 ?_
      refine lv_aload_n hx hb dME_product_101 rfl (lv_at hl 6 rfl) ?_
      refine lv_iload hx hb dME_product_102 (lv_at hl 2 rfl) ?_
      refine lv_iconst (v := nI 1) hx hb dME_product_104 (by decide) ?_
      refine mi_iadd hx hb dME_product_105 ?_
      refine ty_iald hx hb hK hO k_to (nxg hc0 k_to rfl) hP (vp_in_nI (by omega) (by decide)) dME_product_106 (fun z37 => ?_)
      refine lv_iload hx hb dME_product_107 (lv_at hl 0 rfl) ?_
      refine lv_iadd hx hb dME_product_109 ?_
      refine mi_any (fun z38 => ?_)
      refine lv_sipush (v := nI 3329) hx hb dME_product_110 (by decide) ?_
      refine lv_irem hx hb dME_product_113 (nI_ne0 (by omega) (by omega)) ?_
      refine mi_any (fun z39 => ?_)
      refine ty_iast hx hb hK hO k_to (nxg hc0 k_to rfl) hP hD hS (vp_in_nI (by omega) (by decide)) dME_product_114 (fun pl H locs hO hP hD hS => ?_)
      refine mi_iinc (k := 2) (x := i21) (d := 2) (y := i21 + 2) (lv' := [(4, .int (nI (i21 + 2))), (7, .int z34), (5, .long y24), (0, .ref h0), (1, .ref f), (2, .ref fg), (3, .ref to)]) hx hb dME_product_115 hl rfl (by decide) rfl (by decide) rfl (fun ls hl => ?_)
      refine lv_goto (tgt := 3) hx hb dME_product_118 (by decide) ?_
      exact ih21 (i21 + 2) pl ls H locs (by omega) (lv_sub hl [0, 3, 4, 5, 6] rfl) hO hP hD hS
  exact lp21 ((256 - 0) / 2) 0 pl ls _ _ (by omega) (lv_sub hl [0, 1, 2, 3, 4] rfl) hO hP hD hS
set_option maxHeartbeats 400000 in
set_option maxRecDepth 100000 in
theorem t_ME_clear (l : Launch) (g : Gd) (sz : Nat) (T : Ty) (xs : List Nat) (pl : va_W) (hO : okx g T xs pl) (hU : uni T) (hc0 : clo T xs 0) (f : Nat) (k_f : T f = some (0, 256))  : Met l y_ME_clear w_ME_clear ({ frames := 0, cells := 0, slots := 0, locals := 0 } : Room) (va_Pc [.ref f] (pr (en g) g.1 vcl sz ([] ++ pl))) (va_Qv (fun (u : va_W) => (True) ∧ okx g T xs u) (po g.1 vcl (va_A ([] ++ pl) sz) (fun (u : va_W) => [] ++ u)) (va_A ([] ++ pl) sz)) 0 0 (va_A ([] ++ pl) sz) := by
  refine mc_entry (cc := c_ME_clear) (maxL := 2) (ret := none) (by decide) rfl (Nat.le_of_ble_eq_true rfl) ?_
  intro p e s m args below meth c ls F hr hlk hnm hsz hP hD hE hA hl
  obtain ⟨hx, hb, hml, hown, hts⟩ := id F
  have hK := hE.1
  generalize va_A ([] ++ pl) sz = A at hD hE hA ⊢
  have hS : va_S A s.heap s.heap [] := va_S.rf
  have hl : lv_has ls 2 [(0, .ref f)] := hl
  refine lv_iconst (v := nI 0) hx hb dME_clear_0 (by decide) ?_
  refine lv_istore_n (lv' := [(1, .int (nI 0)), (0, .ref f)]) hx hb dME_clear_1 rfl hl (by decide) rfl (fun ls hl => ?_)
  have lp21 : ∀ (n21 : Nat) (i21 : Nat) (pl : va_W) (ls : Array Slot) (H : Heap) (locs : List Loc), n21 + i21 = 256 → lv_has ls 2 [(1, .int (nI i21)), (0, .ref f)] → okx g T xs pl → va_P g.1 vcl ([] ++ pl) H → va_D A ([] ++ pl) → va_S A s.heap H locs → W p l e ({ frames := 0, cells := 0, slots := 0, locals := 0 } : Room) s m args below meth c H locs 0 0 (MQ below (va_Qv (fun (u : va_W) => (True) ∧ okx g T xs u) (po g.1 vcl A (fun (u : va_W) => [] ++ u)) A) args s 0 0 A) (F0 m 2 ls []) := by
    intro n21
    induction n21 with
    | zero =>
      intro i21 pl ls H locs hm21  hl hO hP hD hS
      refine lv_iload_n hx hb dME_clear_2 rfl (lv_at hl 0 rfl) ?_
      refine lv_sipush (v := nI 256) hx hb dME_clear_3 (by decide) ?_
      refine mi_ge (tgt := 19) hx hb dME_clear_6 (by decide) (by omega) (by omega) (fun h21 => ?_) (fun h21 => absurd h21 (by omega))
      exact mp_vret hx hb hr hlk hP hD hS pl ⟨trivial, hO⟩ [] rfl rfl rfl (by omega) (by omega) dME_clear_19
    | succ n21 ih21 =>
      intro i21 pl ls H locs hm21  hl hO hP hD hS
      refine lv_iload_n hx hb dME_clear_2 rfl (lv_at hl 0 rfl) ?_
      refine lv_sipush (v := nI 256) hx hb dME_clear_3 (by decide) ?_
      refine mi_ge (tgt := 19) hx hb dME_clear_6 (by decide) (by omega) (by omega) (fun h22 => absurd h22 (by omega)) (fun h22 => ?_)
      refine lv_aload_n hx hb dME_clear_9 rfl (lv_at hl 1 rfl) ?_
      refine lv_iload_n hx hb dME_clear_10 rfl (lv_at hl 0 rfl) ?_
      refine lv_iconst (v := nI 0) hx hb dME_clear_11 (by decide) ?_
      refine ty_iast hx hb hK hO k_f (nxg hc0 k_f rfl) hP hD hS (vp_in_nI (by omega) (by decide)) dME_clear_12 (fun pl H locs hO hP hD hS => ?_)
      refine mi_iinc (k := 0) (x := i21) (d := 1) (y := i21 + 1) (lv' := [(1, .int (nI (i21 + 1))), (0, .ref f)]) hx hb dME_clear_13 hl rfl (by decide) rfl (by decide) rfl (fun ls hl => ?_)
      refine lv_goto (tgt := 2) hx hb dME_clear_16 (by decide) ?_
      exact ih21 (i21 + 1) pl ls H locs (by omega) (lv_sub hl [0, 1] rfl) hO hP hD hS
  exact lp21 256 0 pl ls _ _ (by omega) (lv_sub hl [0, 1] rfl) hO hP hD hS
set_option maxHeartbeats 400000 in
set_option maxRecDepth 100000 in
theorem t_ME_plus (l : Launch) (g : Gd) (sz : Nat) (T : Ty) (xs : List Nat) (pl : va_W) (hO : okx g T xs pl) (hU : uni T) (hc0 : clo T xs 0) (f fg : Nat) (k_f : T f = some (0, 256)) (k_fg : T fg = some (0, 256))  : Met l y_ME_plus w_ME_plus ({ frames := 0, cells := 0, slots := 0, locals := 0 } : Room) (va_Pc [.ref f, .ref fg] (pr (en g) g.1 vcl sz ([] ++ pl))) (va_Qv (fun (u : va_W) => (True) ∧ okx g T xs u) (po g.1 vcl (va_A ([] ++ pl) sz) (fun (u : va_W) => [] ++ u)) (va_A ([] ++ pl) sz)) 0 0 (va_A ([] ++ pl) sz) := by
  refine mc_entry (cc := c_ME_plus) (maxL := 3) (ret := none) (by decide) rfl (Nat.le_of_ble_eq_true rfl) ?_
  intro p e s m args below meth c ls F hr hlk hnm hsz hP hD hE hA hl
  obtain ⟨hx, hb, hml, hown, hts⟩ := id F
  have hK := hE.1
  generalize va_A ([] ++ pl) sz = A at hD hE hA ⊢
  have hS : va_S A s.heap s.heap [] := va_S.rf
  have hl : lv_has ls 3 [(0, .ref f), (1, .ref fg)] := hl
  refine lv_iconst (v := nI 0) hx hb dME_plus_0 (by decide) ?_
  refine lv_istore_n (lv' := [(2, .int (nI 0)), (0, .ref f), (1, .ref fg)]) hx hb dME_plus_1 rfl hl (by decide) rfl (fun ls hl => ?_)
  have lp21 : ∀ (n21 : Nat) (i21 : Nat) (pl : va_W) (ls : Array Slot) (H : Heap) (locs : List Loc), n21 + i21 = 256 → lv_has ls 3 [(2, .int (nI i21)), (0, .ref f), (1, .ref fg)] → okx g T xs pl → va_P g.1 vcl ([] ++ pl) H → va_D A ([] ++ pl) → va_S A s.heap H locs → W p l e ({ frames := 0, cells := 0, slots := 0, locals := 0 } : Room) s m args below meth c H locs 0 0 (MQ below (va_Qv (fun (u : va_W) => (True) ∧ okx g T xs u) (po g.1 vcl A (fun (u : va_W) => [] ++ u)) A) args s 0 0 A) (F0 m 2 ls []) := by
    intro n21
    induction n21 with
    | zero =>
      intro i21 pl ls H locs hm21  hl hO hP hD hS
      refine lv_iload_n hx hb dME_plus_2 rfl (lv_at hl 0 rfl) ?_
      refine lv_sipush (v := nI 256) hx hb dME_plus_3 (by decide) ?_
      refine mi_ge (tgt := 29) hx hb dME_plus_6 (by decide) (by omega) (by omega) (fun h21 => ?_) (fun h21 => absurd h21 (by omega))
      exact mp_vret hx hb hr hlk hP hD hS pl ⟨trivial, hO⟩ [] rfl rfl rfl (by omega) (by omega) dME_plus_29
    | succ n21 ih21 =>
      intro i21 pl ls H locs hm21  hl hO hP hD hS
      refine lv_iload_n hx hb dME_plus_2 rfl (lv_at hl 0 rfl) ?_
      refine lv_sipush (v := nI 256) hx hb dME_plus_3 (by decide) ?_
      refine mi_ge (tgt := 29) hx hb dME_plus_6 (by decide) (by omega) (by omega) (fun h22 => absurd h22 (by omega)) (fun h22 => ?_)
      refine lv_aload_n hx hb dME_plus_9 rfl (lv_at hl 1 rfl) ?_
      refine lv_iload_n hx hb dME_plus_10 rfl (lv_at hl 0 rfl) ?_
      refine lv_aload_n hx hb dME_plus_11 rfl (lv_at hl 1 rfl) ?_
      refine lv_iload_n hx hb dME_plus_12 rfl (lv_at hl 0 rfl) ?_
      refine ty_iald hx hb hK hO k_f (nxg hc0 k_f rfl) hP (vp_in_nI (by omega) (by decide)) dME_plus_13 (fun z21 => ?_)
      refine lv_aload_n hx hb dME_plus_14 rfl (lv_at hl 2 rfl) ?_
      refine lv_iload_n hx hb dME_plus_15 rfl (lv_at hl 0 rfl) ?_
      refine ty_iald hx hb hK hO k_fg (nxg hc0 k_fg rfl) hP (vp_in_nI (by omega) (by decide)) dME_plus_16 (fun z22 => ?_)
      refine lv_iadd hx hb dME_plus_17 ?_
      refine mi_any (fun z23 => ?_)
      refine lv_sipush (v := nI 3329) hx hb dME_plus_18 (by decide) ?_
      refine lv_irem hx hb dME_plus_21 (nI_ne0 (by omega) (by omega)) ?_
      refine mi_any (fun z24 => ?_)
      refine ty_iast hx hb hK hO k_f (nxg hc0 k_f rfl) hP hD hS (vp_in_nI (by omega) (by decide)) dME_plus_22 (fun pl H locs hO hP hD hS => ?_)
      refine mi_iinc (k := 0) (x := i21) (d := 1) (y := i21 + 1) (lv' := [(2, .int (nI (i21 + 1))), (0, .ref f), (1, .ref fg)]) hx hb dME_plus_23 hl rfl (by decide) rfl (by decide) rfl (fun ls hl => ?_)
      refine lv_goto (tgt := 2) hx hb dME_plus_26 (by decide) ?_
      exact ih21 (i21 + 1) pl ls H locs (by omega) (lv_sub hl [0, 1, 2] rfl) hO hP hD hS
  exact lp21 256 0 pl ls _ _ (by omega) (lv_sub hl [0, 1, 2] rfl) hO hP hD hS
set_option maxHeartbeats 400000 in
set_option maxRecDepth 100000 in
theorem t_ME_proper (l : Launch) (g : Gd) (sz : Nat) (T : Ty) (xs : List Nat) (pl : va_W) (hO : okx g T xs pl) (hU : uni T) (hc0 : clo T xs 0) (f : Nat) (k_f : T f = some (0, 256))  : Met l y_ME_proper w_ME_proper ({ frames := 0, cells := 0, slots := 0, locals := 0 } : Room) (va_Pc [.ref f] (pr (en g) g.1 vcl sz ([] ++ pl))) (va_Qv (fun (u : va_W) => (True) ∧ okx g T xs u) (po g.1 vcl (va_A ([] ++ pl) sz) (fun (u : va_W) => [] ++ u)) (va_A ([] ++ pl) sz)) 0 0 (va_A ([] ++ pl) sz) := by
  refine mc_entry (cc := c_ME_proper) (maxL := 2) (ret := none) (by decide) rfl (Nat.le_of_ble_eq_true rfl) ?_
  intro p e s m args below meth c ls F hr hlk hnm hsz hP hD hE hA hl
  obtain ⟨hx, hb, hml, hown, hts⟩ := id F
  have hK := hE.1
  generalize va_A ([] ++ pl) sz = A at hD hE hA ⊢
  have hS : va_S A s.heap s.heap [] := va_S.rf
  have hl : lv_has ls 2 [(0, .ref f)] := hl
  refine lv_iconst (v := nI 0) hx hb dME_proper_0 (by decide) ?_
  refine lv_istore_n (lv' := [(1, .int (nI 0)), (0, .ref f)]) hx hb dME_proper_1 rfl hl (by decide) rfl (fun ls hl => ?_)
  have lp21 : ∀ (n21 : Nat) (i21 : Nat) (pl : va_W) (ls : Array Slot) (H : Heap) (locs : List Loc), n21 + i21 = 256 → lv_has ls 2 [(1, .int (nI i21)), (0, .ref f)] → okx g T xs pl → va_P g.1 vcl ([] ++ pl) H → va_D A ([] ++ pl) → va_S A s.heap H locs → W p l e ({ frames := 0, cells := 0, slots := 0, locals := 0 } : Room) s m args below meth c H locs 0 0 (MQ below (va_Qv (fun (u : va_W) => (True) ∧ okx g T xs u) (po g.1 vcl A (fun (u : va_W) => [] ++ u)) A) args s 0 0 A) (F0 m 2 ls []) := by
    intro n21
    induction n21 with
    | zero =>
      intro i21 pl ls H locs hm21  hl hO hP hD hS
      refine lv_iload_n hx hb dME_proper_2 rfl (lv_at hl 0 rfl) ?_
      refine lv_sipush (v := nI 256) hx hb dME_proper_3 (by decide) ?_
      refine mi_ge (tgt := 24) hx hb dME_proper_6 (by decide) (by omega) (by omega) (fun h21 => ?_) (fun h21 => absurd h21 (by omega))
      exact mp_vret hx hb hr hlk hP hD hS pl ⟨trivial, hO⟩ [] rfl rfl rfl (by omega) (by omega) dME_proper_24
    | succ n21 ih21 =>
      intro i21 pl ls H locs hm21  hl hO hP hD hS
      refine lv_iload_n hx hb dME_proper_2 rfl (lv_at hl 0 rfl) ?_
      refine lv_sipush (v := nI 256) hx hb dME_proper_3 (by decide) ?_
      refine mi_ge (tgt := 24) hx hb dME_proper_6 (by decide) (by omega) (by omega) (fun h22 => absurd h22 (by omega)) (fun h22 => ?_)
      refine lv_aload_n hx hb dME_proper_9 rfl (lv_at hl 1 rfl) ?_
      refine lv_iload_n hx hb dME_proper_10 rfl (lv_at hl 0 rfl) ?_
      refine lv_dup2_11 hx hb dME_proper_11 rfl rfl ?_
      refine ty_iald hx hb hK hO k_f (nxg hc0 k_f rfl) hP (vp_in_nI (by omega) (by decide)) dME_proper_12 (fun z21 => ?_)
      refine lv_sipush (v := nI 3329) hx hb dME_proper_13 (by decide) ?_
      refine lv_irem hx hb dME_proper_16 (nI_ne0 (by omega) (by omega)) ?_
      refine mi_any (fun z22 => ?_)
      refine ty_iast hx hb hK hO k_f (nxg hc0 k_f rfl) hP hD hS (vp_in_nI (by omega) (by decide)) dME_proper_17 (fun pl H locs hO hP hD hS => ?_)
      refine mi_iinc (k := 0) (x := i21) (d := 1) (y := i21 + 1) (lv' := [(1, .int (nI (i21 + 1))), (0, .ref f)]) hx hb dME_proper_18 hl rfl (by decide) rfl (by decide) rfl (fun ls hl => ?_)
      refine lv_goto (tgt := 2) hx hb dME_proper_21 (by decide) ?_
      exact ih21 (i21 + 1) pl ls H locs (by omega) (lv_sub hl [0, 1] rfl) hO hP hD hS
  exact lp21 256 0 pl ls _ _ (by omega) (lv_sub hl [0, 1] rfl) hO hP hD hS
set_option maxHeartbeats 400000 in
set_option maxRecDepth 100000 in
theorem t_ME_write_1 (l : Launch) (g : Gd) (sz : Nat) (T : Ty) (xs : List Nat) (pl : va_W) (hO : okx g T xs pl) (hU : uni T) (hc0 : clo T xs 0) (f to n at_ : Nat) (k_f : T f = some (0, 256)) (k_to : T to = some (1, n)) (h1 : at_ + 32 ≤ n) (h2 : n < 65536)  : Met l y_ME_write w_ME_write ({ frames := 1, cells := 0, slots := 0, locals := 26 } : Room) (va_Pc [.ref f, .ref to, .int (nI at_), .int (nI 1)] (pr (en g) g.1 vcl sz ([] ++ pl))) (va_Qv (fun (u : va_W) => (True) ∧ okx g T xs u) (po g.1 vcl (va_A ([] ++ pl) sz) (fun (u : va_W) => [] ++ u)) (va_A ([] ++ pl) sz)) 0 0 (va_A ([] ++ pl) sz) := by
  refine mc_entry (cc := c_ME_write) (maxL := 5) (ret := none) (by decide) rfl (Nat.le_of_ble_eq_true rfl) ?_
  intro p e s m args below meth c ls F hr hlk hnm hsz hP hD hE hA hl
  obtain ⟨hx, hb, hml, hown, hts⟩ := id F
  have hK := hE.1
  generalize va_A ([] ++ pl) sz = A at hD hE hA ⊢
  have hS : va_S A s.heap s.heap [] := va_S.rf
  have hl : lv_has ls 5 [(0, .ref f), (1, .ref to), (2, .int (nI at_)), (3, .int (nI 1))] := hl
  refine lv_iconst (v := nI 0) hx hb dME_write_0 (by decide) ?_
  refine lv_istore (lv' := [(4, .int (nI 0)), (0, .ref f), (1, .ref to), (2, .int (nI at_)), (3, .int (nI 1))]) hx hb dME_write_1 hl (by decide) rfl (fun ls hl => ?_)
  have lp21 : ∀ (n21 : Nat) (i21 : Nat) (pl : va_W) (ls : Array Slot) (H : Heap) (locs : List Loc), n21 + i21 = 256 → lv_has ls 5 [(4, .int (nI i21)), (0, .ref f), (1, .ref to), (2, .int (nI at_)), (3, .int (nI 1))] → okx g T xs pl → va_P g.1 vcl ([] ++ pl) H → va_D A ([] ++ pl) → va_S A s.heap H locs → W p l e ({ frames := 1, cells := 0, slots := 0, locals := 26 } : Room) s m args below meth c H locs 0 0 (MQ below (va_Qv (fun (u : va_W) => (True) ∧ okx g T xs u) (po g.1 vcl A (fun (u : va_W) => [] ++ u)) A) args s 0 0 A) (F0 m 3 ls []) := by
    intro n21
    induction n21 with
    | zero =>
      intro i21 pl ls H locs hm21  hl hO hP hD hS
      refine lv_iload hx hb dME_write_3 (lv_at hl 0 rfl) ?_
      refine lv_sipush (v := nI 256) hx hb dME_write_5 (by decide) ?_
      refine mi_ge (tgt := 35) hx hb dME_write_8 (by decide) (by omega) (by omega) (fun h21 => ?_) (fun h21 => absurd h21 (by omega))
      exact mp_vret hx hb hr hlk hP hD hS pl ⟨trivial, hO⟩ [] rfl rfl rfl (by omega) (by omega) dME_write_35
    | succ n21 ih21 =>
      intro i21 pl ls H locs hm21  hl hO hP hD hS
      refine lv_iload hx hb dME_write_3 (lv_at hl 0 rfl) ?_
      refine lv_sipush (v := nI 256) hx hb dME_write_5 (by decide) ?_
      refine mi_ge (tgt := 35) hx hb dME_write_8 (by decide) (by omega) (by omega) (fun h22 => absurd h22 (by omega)) (fun h22 => ?_)
      refine lv_aload_n hx hb dME_write_11 rfl (lv_at hl 2 rfl) ?_
      refine lv_bipush (v := nI 8) hx hb dME_write_12 (by decide) ?_
      refine lv_iload_n hx hb dME_write_14 rfl (lv_at hl 3 rfl) ?_
      refine mi_imul hx hb dME_write_15 ?_
      refine lv_iload_n hx hb dME_write_16 rfl (lv_at hl 4 rfl) ?_
      refine lv_iload hx hb dME_write_17 (lv_at hl 0 rfl) ?_
      refine mi_imul hx hb dME_write_19 ?_
      refine mi_iadd hx hb dME_write_20 ?_
      refine lv_iload_n hx hb dME_write_21 rfl (lv_at hl 4 rfl) ?_
      refine lv_aload_n hx hb dME_write_22 rfl (lv_at hl 1 rfl) ?_
      refine lv_iload hx hb dME_write_23 (lv_at hl 0 rfl) ?_
      refine ty_iald hx hb hK hO k_f (nxg hc0 k_f rfl) hP (vp_in_nI (by omega) (by decide)) dME_write_25 (fun z21 => ?_)
      refine mp_v (cx := []) (wr := []) hP hD hS hA [] [] rfl rfl rfl (by decide) (va_runSN (As := [.ref to, .int (nI ((8 * at_) + (1 * i21))), .int (nI 1), .int z21]) (rest := []) F (t_M_pack l g _ T xs pl hO hU hc0 to n ((8 * at_) + (1 * i21)) 1 z21 k_to (by omega) (by omega)) ⟨va_cnB 4 hts (wg_in kw_1690) rfl rfl rfl (hE.2.2.2.2.2.2.2.2.1) (hts _ (wg_t kw_9)) (by decide +kernel) ⟨by decide, by decide⟩, hts _ (wg_t kw_1689), trivial⟩ (pp_S (en_ok g) hP hD hS hA hE [] rfl rfl) rfl rfl hl.1 rfl (lv_room (Nat.le_of_ble_eq_true rfl)) dME_write_26 ⟨by omega, by omega⟩) (fun  pl H locs hu21 hP hD hS => ?_)
      obtain ⟨hq21, hO⟩ := hu21
      have hP : va_P g.1 vcl ([] ++ pl) _ := hP
      have hD : va_D _ ([] ++ pl) := hD
      refine W.widen (k := 0) (n := 0) (by omega) (by omega) ?_
      refine mi_iinc (k := 0) (x := i21) (d := 1) (y := i21 + 1) (lv' := [(4, .int (nI (i21 + 1))), (0, .ref f), (1, .ref to), (2, .int (nI at_)), (3, .int (nI 1))]) hx hb dME_write_29 hl rfl (by decide) rfl (by decide) rfl (fun ls hl => ?_)
      refine lv_goto (tgt := 3) hx hb dME_write_32 (by decide) ?_
      exact ih21 (i21 + 1) pl ls H locs (by omega) (lv_sub hl [0, 1, 2, 3, 4] rfl) hO hP hD hS
  exact lp21 256 0 pl ls _ _ (by omega) (lv_sub hl [0, 1, 2, 3, 4] rfl) hO hP hD hS
set_option maxHeartbeats 400000 in
set_option maxRecDepth 100000 in
theorem t_ME_write_4 (l : Launch) (g : Gd) (sz : Nat) (T : Ty) (xs : List Nat) (pl : va_W) (hO : okx g T xs pl) (hU : uni T) (hc0 : clo T xs 0) (f to n at_ : Nat) (k_f : T f = some (0, 256)) (k_to : T to = some (1, n)) (h1 : at_ + 128 ≤ n) (h2 : n < 65536)  : Met l y_ME_write w_ME_write ({ frames := 1, cells := 0, slots := 0, locals := 26 } : Room) (va_Pc [.ref f, .ref to, .int (nI at_), .int (nI 4)] (pr (en g) g.1 vcl sz ([] ++ pl))) (va_Qv (fun (u : va_W) => (True) ∧ okx g T xs u) (po g.1 vcl (va_A ([] ++ pl) sz) (fun (u : va_W) => [] ++ u)) (va_A ([] ++ pl) sz)) 0 0 (va_A ([] ++ pl) sz) := by
  refine mc_entry (cc := c_ME_write) (maxL := 5) (ret := none) (by decide) rfl (Nat.le_of_ble_eq_true rfl) ?_
  intro p e s m args below meth c ls F hr hlk hnm hsz hP hD hE hA hl
  obtain ⟨hx, hb, hml, hown, hts⟩ := id F
  have hK := hE.1
  generalize va_A ([] ++ pl) sz = A at hD hE hA ⊢
  have hS : va_S A s.heap s.heap [] := va_S.rf
  have hl : lv_has ls 5 [(0, .ref f), (1, .ref to), (2, .int (nI at_)), (3, .int (nI 4))] := hl
  refine lv_iconst (v := nI 0) hx hb dME_write_0 (by decide) ?_
  refine lv_istore (lv' := [(4, .int (nI 0)), (0, .ref f), (1, .ref to), (2, .int (nI at_)), (3, .int (nI 4))]) hx hb dME_write_1 hl (by decide) rfl (fun ls hl => ?_)
  have lp21 : ∀ (n21 : Nat) (i21 : Nat) (pl : va_W) (ls : Array Slot) (H : Heap) (locs : List Loc), n21 + i21 = 256 → lv_has ls 5 [(4, .int (nI i21)), (0, .ref f), (1, .ref to), (2, .int (nI at_)), (3, .int (nI 4))] → okx g T xs pl → va_P g.1 vcl ([] ++ pl) H → va_D A ([] ++ pl) → va_S A s.heap H locs → W p l e ({ frames := 1, cells := 0, slots := 0, locals := 26 } : Room) s m args below meth c H locs 0 0 (MQ below (va_Qv (fun (u : va_W) => (True) ∧ okx g T xs u) (po g.1 vcl A (fun (u : va_W) => [] ++ u)) A) args s 0 0 A) (F0 m 3 ls []) := by
    intro n21
    induction n21 with
    | zero =>
      intro i21 pl ls H locs hm21  hl hO hP hD hS
      refine lv_iload hx hb dME_write_3 (lv_at hl 0 rfl) ?_
      refine lv_sipush (v := nI 256) hx hb dME_write_5 (by decide) ?_
      refine mi_ge (tgt := 35) hx hb dME_write_8 (by decide) (by omega) (by omega) (fun h21 => ?_) (fun h21 => absurd h21 (by omega))
      exact mp_vret hx hb hr hlk hP hD hS pl ⟨trivial, hO⟩ [] rfl rfl rfl (by omega) (by omega) dME_write_35
    | succ n21 ih21 =>
      intro i21 pl ls H locs hm21  hl hO hP hD hS
      refine lv_iload hx hb dME_write_3 (lv_at hl 0 rfl) ?_
      refine lv_sipush (v := nI 256) hx hb dME_write_5 (by decide) ?_
      refine mi_ge (tgt := 35) hx hb dME_write_8 (by decide) (by omega) (by omega) (fun h22 => absurd h22 (by omega)) (fun h22 => ?_)
      refine lv_aload_n hx hb dME_write_11 rfl (lv_at hl 2 rfl) ?_
      refine lv_bipush (v := nI 8) hx hb dME_write_12 (by decide) ?_
      refine lv_iload_n hx hb dME_write_14 rfl (lv_at hl 3 rfl) ?_
      refine mi_imul hx hb dME_write_15 ?_
      refine lv_iload_n hx hb dME_write_16 rfl (lv_at hl 4 rfl) ?_
      refine lv_iload hx hb dME_write_17 (lv_at hl 0 rfl) ?_
      refine mi_imul hx hb dME_write_19 ?_
      refine mi_iadd hx hb dME_write_20 ?_
      refine lv_iload_n hx hb dME_write_21 rfl (lv_at hl 4 rfl) ?_
      refine lv_aload_n hx hb dME_write_22 rfl (lv_at hl 1 rfl) ?_
      refine lv_iload hx hb dME_write_23 (lv_at hl 0 rfl) ?_
      refine ty_iald hx hb hK hO k_f (nxg hc0 k_f rfl) hP (vp_in_nI (by omega) (by decide)) dME_write_25 (fun z21 => ?_)
      refine mp_v (cx := []) (wr := []) hP hD hS hA [] [] rfl rfl rfl (by decide) (va_runSN (As := [.ref to, .int (nI ((8 * at_) + (4 * i21))), .int (nI 4), .int z21]) (rest := []) F (t_M_pack l g _ T xs pl hO hU hc0 to n ((8 * at_) + (4 * i21)) 4 z21 k_to (by omega) (by omega)) ⟨va_cnB 4 hts (wg_in kw_1690) rfl rfl rfl (hE.2.2.2.2.2.2.2.2.1) (hts _ (wg_t kw_9)) (by decide +kernel) ⟨by decide, by decide⟩, hts _ (wg_t kw_1689), trivial⟩ (pp_S (en_ok g) hP hD hS hA hE [] rfl rfl) rfl rfl hl.1 rfl (lv_room (Nat.le_of_ble_eq_true rfl)) dME_write_26 ⟨by omega, by omega⟩) (fun  pl H locs hu21 hP hD hS => ?_)
      obtain ⟨hq21, hO⟩ := hu21
      have hP : va_P g.1 vcl ([] ++ pl) _ := hP
      have hD : va_D _ ([] ++ pl) := hD
      refine W.widen (k := 0) (n := 0) (by omega) (by omega) ?_
      refine mi_iinc (k := 0) (x := i21) (d := 1) (y := i21 + 1) (lv' := [(4, .int (nI (i21 + 1))), (0, .ref f), (1, .ref to), (2, .int (nI at_)), (3, .int (nI 4))]) hx hb dME_write_29 hl rfl (by decide) rfl (by decide) rfl (fun ls hl => ?_)
      refine lv_goto (tgt := 3) hx hb dME_write_32 (by decide) ?_
      exact ih21 (i21 + 1) pl ls H locs (by omega) (lv_sub hl [0, 1, 2, 3, 4] rfl) hO hP hD hS
  exact lp21 256 0 pl ls _ _ (by omega) (lv_sub hl [0, 1, 2, 3, 4] rfl) hO hP hD hS
set_option maxHeartbeats 400000 in
set_option maxRecDepth 100000 in
theorem t_ME_write_5 (l : Launch) (g : Gd) (sz : Nat) (T : Ty) (xs : List Nat) (pl : va_W) (hO : okx g T xs pl) (hU : uni T) (hc0 : clo T xs 0) (f to n at_ : Nat) (k_f : T f = some (0, 256)) (k_to : T to = some (1, n)) (h1 : at_ + 160 ≤ n) (h2 : n < 65536)  : Met l y_ME_write w_ME_write ({ frames := 1, cells := 0, slots := 0, locals := 26 } : Room) (va_Pc [.ref f, .ref to, .int (nI at_), .int (nI 5)] (pr (en g) g.1 vcl sz ([] ++ pl))) (va_Qv (fun (u : va_W) => (True) ∧ okx g T xs u) (po g.1 vcl (va_A ([] ++ pl) sz) (fun (u : va_W) => [] ++ u)) (va_A ([] ++ pl) sz)) 0 0 (va_A ([] ++ pl) sz) := by
  refine mc_entry (cc := c_ME_write) (maxL := 5) (ret := none) (by decide) rfl (Nat.le_of_ble_eq_true rfl) ?_
  intro p e s m args below meth c ls F hr hlk hnm hsz hP hD hE hA hl
  obtain ⟨hx, hb, hml, hown, hts⟩ := id F
  have hK := hE.1
  generalize va_A ([] ++ pl) sz = A at hD hE hA ⊢
  have hS : va_S A s.heap s.heap [] := va_S.rf
  have hl : lv_has ls 5 [(0, .ref f), (1, .ref to), (2, .int (nI at_)), (3, .int (nI 5))] := hl
  refine lv_iconst (v := nI 0) hx hb dME_write_0 (by decide) ?_
  refine lv_istore (lv' := [(4, .int (nI 0)), (0, .ref f), (1, .ref to), (2, .int (nI at_)), (3, .int (nI 5))]) hx hb dME_write_1 hl (by decide) rfl (fun ls hl => ?_)
  have lp21 : ∀ (n21 : Nat) (i21 : Nat) (pl : va_W) (ls : Array Slot) (H : Heap) (locs : List Loc), n21 + i21 = 256 → lv_has ls 5 [(4, .int (nI i21)), (0, .ref f), (1, .ref to), (2, .int (nI at_)), (3, .int (nI 5))] → okx g T xs pl → va_P g.1 vcl ([] ++ pl) H → va_D A ([] ++ pl) → va_S A s.heap H locs → W p l e ({ frames := 1, cells := 0, slots := 0, locals := 26 } : Room) s m args below meth c H locs 0 0 (MQ below (va_Qv (fun (u : va_W) => (True) ∧ okx g T xs u) (po g.1 vcl A (fun (u : va_W) => [] ++ u)) A) args s 0 0 A) (F0 m 3 ls []) := by
    intro n21
    induction n21 with
    | zero =>
      intro i21 pl ls H locs hm21  hl hO hP hD hS
      refine lv_iload hx hb dME_write_3 (lv_at hl 0 rfl) ?_
      refine lv_sipush (v := nI 256) hx hb dME_write_5 (by decide) ?_
      refine mi_ge (tgt := 35) hx hb dME_write_8 (by decide) (by omega) (by omega) (fun h21 => ?_) (fun h21 => absurd h21 (by omega))
      exact mp_vret hx hb hr hlk hP hD hS pl ⟨trivial, hO⟩ [] rfl rfl rfl (by omega) (by omega) dME_write_35
    | succ n21 ih21 =>
      intro i21 pl ls H locs hm21  hl hO hP hD hS
      refine lv_iload hx hb dME_write_3 (lv_at hl 0 rfl) ?_
      refine lv_sipush (v := nI 256) hx hb dME_write_5 (by decide) ?_
      refine mi_ge (tgt := 35) hx hb dME_write_8 (by decide) (by omega) (by omega) (fun h22 => absurd h22 (by omega)) (fun h22 => ?_)
      refine lv_aload_n hx hb dME_write_11 rfl (lv_at hl 2 rfl) ?_
      refine lv_bipush (v := nI 8) hx hb dME_write_12 (by decide) ?_
      refine lv_iload_n hx hb dME_write_14 rfl (lv_at hl 3 rfl) ?_
      refine mi_imul hx hb dME_write_15 ?_
      refine lv_iload_n hx hb dME_write_16 rfl (lv_at hl 4 rfl) ?_
      refine lv_iload hx hb dME_write_17 (lv_at hl 0 rfl) ?_
      refine mi_imul hx hb dME_write_19 ?_
      refine mi_iadd hx hb dME_write_20 ?_
      refine lv_iload_n hx hb dME_write_21 rfl (lv_at hl 4 rfl) ?_
      refine lv_aload_n hx hb dME_write_22 rfl (lv_at hl 1 rfl) ?_
      refine lv_iload hx hb dME_write_23 (lv_at hl 0 rfl) ?_
      refine ty_iald hx hb hK hO k_f (nxg hc0 k_f rfl) hP (vp_in_nI (by omega) (by decide)) dME_write_25 (fun z21 => ?_)
      refine mp_v (cx := []) (wr := []) hP hD hS hA [] [] rfl rfl rfl (by decide) (va_runSN (As := [.ref to, .int (nI ((8 * at_) + (5 * i21))), .int (nI 5), .int z21]) (rest := []) F (t_M_pack l g _ T xs pl hO hU hc0 to n ((8 * at_) + (5 * i21)) 5 z21 k_to (by omega) (by omega)) ⟨va_cnB 4 hts (wg_in kw_1690) rfl rfl rfl (hE.2.2.2.2.2.2.2.2.1) (hts _ (wg_t kw_9)) (by decide +kernel) ⟨by decide, by decide⟩, hts _ (wg_t kw_1689), trivial⟩ (pp_S (en_ok g) hP hD hS hA hE [] rfl rfl) rfl rfl hl.1 rfl (lv_room (Nat.le_of_ble_eq_true rfl)) dME_write_26 ⟨by omega, by omega⟩) (fun  pl H locs hu21 hP hD hS => ?_)
      obtain ⟨hq21, hO⟩ := hu21
      have hP : va_P g.1 vcl ([] ++ pl) _ := hP
      have hD : va_D _ ([] ++ pl) := hD
      refine W.widen (k := 0) (n := 0) (by omega) (by omega) ?_
      refine mi_iinc (k := 0) (x := i21) (d := 1) (y := i21 + 1) (lv' := [(4, .int (nI (i21 + 1))), (0, .ref f), (1, .ref to), (2, .int (nI at_)), (3, .int (nI 5))]) hx hb dME_write_29 hl rfl (by decide) rfl (by decide) rfl (fun ls hl => ?_)
      refine lv_goto (tgt := 3) hx hb dME_write_32 (by decide) ?_
      exact ih21 (i21 + 1) pl ls H locs (by omega) (lv_sub hl [0, 1, 2, 3, 4] rfl) hO hP hD hS
  exact lp21 256 0 pl ls _ _ (by omega) (lv_sub hl [0, 1, 2, 3, 4] rfl) hO hP hD hS
set_option maxHeartbeats 400000 in
set_option maxRecDepth 100000 in
theorem t_ME_write_10 (l : Launch) (g : Gd) (sz : Nat) (T : Ty) (xs : List Nat) (pl : va_W) (hO : okx g T xs pl) (hU : uni T) (hc0 : clo T xs 0) (f to n at_ : Nat) (k_f : T f = some (0, 256)) (k_to : T to = some (1, n)) (h1 : at_ + 320 ≤ n) (h2 : n < 65536)  : Met l y_ME_write w_ME_write ({ frames := 1, cells := 0, slots := 0, locals := 26 } : Room) (va_Pc [.ref f, .ref to, .int (nI at_), .int (nI 10)] (pr (en g) g.1 vcl sz ([] ++ pl))) (va_Qv (fun (u : va_W) => (True) ∧ okx g T xs u) (po g.1 vcl (va_A ([] ++ pl) sz) (fun (u : va_W) => [] ++ u)) (va_A ([] ++ pl) sz)) 0 0 (va_A ([] ++ pl) sz) := by
  refine mc_entry (cc := c_ME_write) (maxL := 5) (ret := none) (by decide) rfl (Nat.le_of_ble_eq_true rfl) ?_
  intro p e s m args below meth c ls F hr hlk hnm hsz hP hD hE hA hl
  obtain ⟨hx, hb, hml, hown, hts⟩ := id F
  have hK := hE.1
  generalize va_A ([] ++ pl) sz = A at hD hE hA ⊢
  have hS : va_S A s.heap s.heap [] := va_S.rf
  have hl : lv_has ls 5 [(0, .ref f), (1, .ref to), (2, .int (nI at_)), (3, .int (nI 10))] := hl
  refine lv_iconst (v := nI 0) hx hb dME_write_0 (by decide) ?_
  refine lv_istore (lv' := [(4, .int (nI 0)), (0, .ref f), (1, .ref to), (2, .int (nI at_)), (3, .int (nI 10))]) hx hb dME_write_1 hl (by decide) rfl (fun ls hl => ?_)
  have lp21 : ∀ (n21 : Nat) (i21 : Nat) (pl : va_W) (ls : Array Slot) (H : Heap) (locs : List Loc), n21 + i21 = 256 → lv_has ls 5 [(4, .int (nI i21)), (0, .ref f), (1, .ref to), (2, .int (nI at_)), (3, .int (nI 10))] → okx g T xs pl → va_P g.1 vcl ([] ++ pl) H → va_D A ([] ++ pl) → va_S A s.heap H locs → W p l e ({ frames := 1, cells := 0, slots := 0, locals := 26 } : Room) s m args below meth c H locs 0 0 (MQ below (va_Qv (fun (u : va_W) => (True) ∧ okx g T xs u) (po g.1 vcl A (fun (u : va_W) => [] ++ u)) A) args s 0 0 A) (F0 m 3 ls []) := by
    intro n21
    induction n21 with
    | zero =>
      intro i21 pl ls H locs hm21  hl hO hP hD hS
      refine lv_iload hx hb dME_write_3 (lv_at hl 0 rfl) ?_
      refine lv_sipush (v := nI 256) hx hb dME_write_5 (by decide) ?_
      refine mi_ge (tgt := 35) hx hb dME_write_8 (by decide) (by omega) (by omega) (fun h21 => ?_) (fun h21 => absurd h21 (by omega))
      exact mp_vret hx hb hr hlk hP hD hS pl ⟨trivial, hO⟩ [] rfl rfl rfl (by omega) (by omega) dME_write_35
    | succ n21 ih21 =>
      intro i21 pl ls H locs hm21  hl hO hP hD hS
      refine lv_iload hx hb dME_write_3 (lv_at hl 0 rfl) ?_
      refine lv_sipush (v := nI 256) hx hb dME_write_5 (by decide) ?_
      refine mi_ge (tgt := 35) hx hb dME_write_8 (by decide) (by omega) (by omega) (fun h22 => absurd h22 (by omega)) (fun h22 => ?_)
      refine lv_aload_n hx hb dME_write_11 rfl (lv_at hl 2 rfl) ?_
      refine lv_bipush (v := nI 8) hx hb dME_write_12 (by decide) ?_
      refine lv_iload_n hx hb dME_write_14 rfl (lv_at hl 3 rfl) ?_
      refine mi_imul hx hb dME_write_15 ?_
      refine lv_iload_n hx hb dME_write_16 rfl (lv_at hl 4 rfl) ?_
      refine lv_iload hx hb dME_write_17 (lv_at hl 0 rfl) ?_
      refine mi_imul hx hb dME_write_19 ?_
      refine mi_iadd hx hb dME_write_20 ?_
      refine lv_iload_n hx hb dME_write_21 rfl (lv_at hl 4 rfl) ?_
      refine lv_aload_n hx hb dME_write_22 rfl (lv_at hl 1 rfl) ?_
      refine lv_iload hx hb dME_write_23 (lv_at hl 0 rfl) ?_
      refine ty_iald hx hb hK hO k_f (nxg hc0 k_f rfl) hP (vp_in_nI (by omega) (by decide)) dME_write_25 (fun z21 => ?_)
      refine mp_v (cx := []) (wr := []) hP hD hS hA [] [] rfl rfl rfl (by decide) (va_runSN (As := [.ref to, .int (nI ((8 * at_) + (10 * i21))), .int (nI 10), .int z21]) (rest := []) F (t_M_pack l g _ T xs pl hO hU hc0 to n ((8 * at_) + (10 * i21)) 10 z21 k_to (by omega) (by omega)) ⟨va_cnB 4 hts (wg_in kw_1690) rfl rfl rfl (hE.2.2.2.2.2.2.2.2.1) (hts _ (wg_t kw_9)) (by decide +kernel) ⟨by decide, by decide⟩, hts _ (wg_t kw_1689), trivial⟩ (pp_S (en_ok g) hP hD hS hA hE [] rfl rfl) rfl rfl hl.1 rfl (lv_room (Nat.le_of_ble_eq_true rfl)) dME_write_26 ⟨by omega, by omega⟩) (fun  pl H locs hu21 hP hD hS => ?_)
      obtain ⟨hq21, hO⟩ := hu21
      have hP : va_P g.1 vcl ([] ++ pl) _ := hP
      have hD : va_D _ ([] ++ pl) := hD
      refine W.widen (k := 0) (n := 0) (by omega) (by omega) ?_
      refine mi_iinc (k := 0) (x := i21) (d := 1) (y := i21 + 1) (lv' := [(4, .int (nI (i21 + 1))), (0, .ref f), (1, .ref to), (2, .int (nI at_)), (3, .int (nI 10))]) hx hb dME_write_29 hl rfl (by decide) rfl (by decide) rfl (fun ls hl => ?_)
      refine lv_goto (tgt := 3) hx hb dME_write_32 (by decide) ?_
      exact ih21 (i21 + 1) pl ls H locs (by omega) (lv_sub hl [0, 1, 2, 3, 4] rfl) hO hP hD hS
  exact lp21 256 0 pl ls _ _ (by omega) (lv_sub hl [0, 1, 2, 3, 4] rfl) hO hP hD hS
set_option maxHeartbeats 400000 in
set_option maxRecDepth 100000 in
theorem t_ME_write_11 (l : Launch) (g : Gd) (sz : Nat) (T : Ty) (xs : List Nat) (pl : va_W) (hO : okx g T xs pl) (hU : uni T) (hc0 : clo T xs 0) (f to n at_ : Nat) (k_f : T f = some (0, 256)) (k_to : T to = some (1, n)) (h1 : at_ + 352 ≤ n) (h2 : n < 65536)  : Met l y_ME_write w_ME_write ({ frames := 1, cells := 0, slots := 0, locals := 26 } : Room) (va_Pc [.ref f, .ref to, .int (nI at_), .int (nI 11)] (pr (en g) g.1 vcl sz ([] ++ pl))) (va_Qv (fun (u : va_W) => (True) ∧ okx g T xs u) (po g.1 vcl (va_A ([] ++ pl) sz) (fun (u : va_W) => [] ++ u)) (va_A ([] ++ pl) sz)) 0 0 (va_A ([] ++ pl) sz) := by
  refine mc_entry (cc := c_ME_write) (maxL := 5) (ret := none) (by decide) rfl (Nat.le_of_ble_eq_true rfl) ?_
  intro p e s m args below meth c ls F hr hlk hnm hsz hP hD hE hA hl
  obtain ⟨hx, hb, hml, hown, hts⟩ := id F
  have hK := hE.1
  generalize va_A ([] ++ pl) sz = A at hD hE hA ⊢
  have hS : va_S A s.heap s.heap [] := va_S.rf
  have hl : lv_has ls 5 [(0, .ref f), (1, .ref to), (2, .int (nI at_)), (3, .int (nI 11))] := hl
  refine lv_iconst (v := nI 0) hx hb dME_write_0 (by decide) ?_
  refine lv_istore (lv' := [(4, .int (nI 0)), (0, .ref f), (1, .ref to), (2, .int (nI at_)), (3, .int (nI 11))]) hx hb dME_write_1 hl (by decide) rfl (fun ls hl => ?_)
  have lp21 : ∀ (n21 : Nat) (i21 : Nat) (pl : va_W) (ls : Array Slot) (H : Heap) (locs : List Loc), n21 + i21 = 256 → lv_has ls 5 [(4, .int (nI i21)), (0, .ref f), (1, .ref to), (2, .int (nI at_)), (3, .int (nI 11))] → okx g T xs pl → va_P g.1 vcl ([] ++ pl) H → va_D A ([] ++ pl) → va_S A s.heap H locs → W p l e ({ frames := 1, cells := 0, slots := 0, locals := 26 } : Room) s m args below meth c H locs 0 0 (MQ below (va_Qv (fun (u : va_W) => (True) ∧ okx g T xs u) (po g.1 vcl A (fun (u : va_W) => [] ++ u)) A) args s 0 0 A) (F0 m 3 ls []) := by
    intro n21
    induction n21 with
    | zero =>
      intro i21 pl ls H locs hm21  hl hO hP hD hS
      refine lv_iload hx hb dME_write_3 (lv_at hl 0 rfl) ?_
      refine lv_sipush (v := nI 256) hx hb dME_write_5 (by decide) ?_
      refine mi_ge (tgt := 35) hx hb dME_write_8 (by decide) (by omega) (by omega) (fun h21 => ?_) (fun h21 => absurd h21 (by omega))
      exact mp_vret hx hb hr hlk hP hD hS pl ⟨trivial, hO⟩ [] rfl rfl rfl (by omega) (by omega) dME_write_35
    | succ n21 ih21 =>
      intro i21 pl ls H locs hm21  hl hO hP hD hS
      refine lv_iload hx hb dME_write_3 (lv_at hl 0 rfl) ?_
      refine lv_sipush (v := nI 256) hx hb dME_write_5 (by decide) ?_
      refine mi_ge (tgt := 35) hx hb dME_write_8 (by decide) (by omega) (by omega) (fun h22 => absurd h22 (by omega)) (fun h22 => ?_)
      refine lv_aload_n hx hb dME_write_11 rfl (lv_at hl 2 rfl) ?_
      refine lv_bipush (v := nI 8) hx hb dME_write_12 (by decide) ?_
      refine lv_iload_n hx hb dME_write_14 rfl (lv_at hl 3 rfl) ?_
      refine mi_imul hx hb dME_write_15 ?_
      refine lv_iload_n hx hb dME_write_16 rfl (lv_at hl 4 rfl) ?_
      refine lv_iload hx hb dME_write_17 (lv_at hl 0 rfl) ?_
      refine mi_imul hx hb dME_write_19 ?_
      refine mi_iadd hx hb dME_write_20 ?_
      refine lv_iload_n hx hb dME_write_21 rfl (lv_at hl 4 rfl) ?_
      refine lv_aload_n hx hb dME_write_22 rfl (lv_at hl 1 rfl) ?_
      refine lv_iload hx hb dME_write_23 (lv_at hl 0 rfl) ?_
      refine ty_iald hx hb hK hO k_f (nxg hc0 k_f rfl) hP (vp_in_nI (by omega) (by decide)) dME_write_25 (fun z21 => ?_)
      refine mp_v (cx := []) (wr := []) hP hD hS hA [] [] rfl rfl rfl (by decide) (va_runSN (As := [.ref to, .int (nI ((8 * at_) + (11 * i21))), .int (nI 11), .int z21]) (rest := []) F (t_M_pack l g _ T xs pl hO hU hc0 to n ((8 * at_) + (11 * i21)) 11 z21 k_to (by omega) (by omega)) ⟨va_cnB 4 hts (wg_in kw_1690) rfl rfl rfl (hE.2.2.2.2.2.2.2.2.1) (hts _ (wg_t kw_9)) (by decide +kernel) ⟨by decide, by decide⟩, hts _ (wg_t kw_1689), trivial⟩ (pp_S (en_ok g) hP hD hS hA hE [] rfl rfl) rfl rfl hl.1 rfl (lv_room (Nat.le_of_ble_eq_true rfl)) dME_write_26 ⟨by omega, by omega⟩) (fun  pl H locs hu21 hP hD hS => ?_)
      obtain ⟨hq21, hO⟩ := hu21
      have hP : va_P g.1 vcl ([] ++ pl) _ := hP
      have hD : va_D _ ([] ++ pl) := hD
      refine W.widen (k := 0) (n := 0) (by omega) (by omega) ?_
      refine mi_iinc (k := 0) (x := i21) (d := 1) (y := i21 + 1) (lv' := [(4, .int (nI (i21 + 1))), (0, .ref f), (1, .ref to), (2, .int (nI at_)), (3, .int (nI 11))]) hx hb dME_write_29 hl rfl (by decide) rfl (by decide) rfl (fun ls hl => ?_)
      refine lv_goto (tgt := 3) hx hb dME_write_32 (by decide) ?_
      exact ih21 (i21 + 1) pl ls H locs (by omega) (lv_sub hl [0, 1, 2, 3, 4] rfl) hO hP hD hS
  exact lp21 256 0 pl ls _ _ (by omega) (lv_sub hl [0, 1, 2, 3, 4] rfl) hO hP hD hS
set_option maxHeartbeats 400000 in
set_option maxRecDepth 100000 in
theorem t_ME_write_12 (l : Launch) (g : Gd) (sz : Nat) (T : Ty) (xs : List Nat) (pl : va_W) (hO : okx g T xs pl) (hU : uni T) (hc0 : clo T xs 0) (f to n at_ : Nat) (k_f : T f = some (0, 256)) (k_to : T to = some (1, n)) (h1 : at_ + 384 ≤ n) (h2 : n < 65536)  : Met l y_ME_write w_ME_write ({ frames := 1, cells := 0, slots := 0, locals := 26 } : Room) (va_Pc [.ref f, .ref to, .int (nI at_), .int (nI 12)] (pr (en g) g.1 vcl sz ([] ++ pl))) (va_Qv (fun (u : va_W) => (True) ∧ okx g T xs u) (po g.1 vcl (va_A ([] ++ pl) sz) (fun (u : va_W) => [] ++ u)) (va_A ([] ++ pl) sz)) 0 0 (va_A ([] ++ pl) sz) := by
  refine mc_entry (cc := c_ME_write) (maxL := 5) (ret := none) (by decide) rfl (Nat.le_of_ble_eq_true rfl) ?_
  intro p e s m args below meth c ls F hr hlk hnm hsz hP hD hE hA hl
  obtain ⟨hx, hb, hml, hown, hts⟩ := id F
  have hK := hE.1
  generalize va_A ([] ++ pl) sz = A at hD hE hA ⊢
  have hS : va_S A s.heap s.heap [] := va_S.rf
  have hl : lv_has ls 5 [(0, .ref f), (1, .ref to), (2, .int (nI at_)), (3, .int (nI 12))] := hl
  refine lv_iconst (v := nI 0) hx hb dME_write_0 (by decide) ?_
  refine lv_istore (lv' := [(4, .int (nI 0)), (0, .ref f), (1, .ref to), (2, .int (nI at_)), (3, .int (nI 12))]) hx hb dME_write_1 hl (by decide) rfl (fun ls hl => ?_)
  have lp21 : ∀ (n21 : Nat) (i21 : Nat) (pl : va_W) (ls : Array Slot) (H : Heap) (locs : List Loc), n21 + i21 = 256 → lv_has ls 5 [(4, .int (nI i21)), (0, .ref f), (1, .ref to), (2, .int (nI at_)), (3, .int (nI 12))] → okx g T xs pl → va_P g.1 vcl ([] ++ pl) H → va_D A ([] ++ pl) → va_S A s.heap H locs → W p l e ({ frames := 1, cells := 0, slots := 0, locals := 26 } : Room) s m args below meth c H locs 0 0 (MQ below (va_Qv (fun (u : va_W) => (True) ∧ okx g T xs u) (po g.1 vcl A (fun (u : va_W) => [] ++ u)) A) args s 0 0 A) (F0 m 3 ls []) := by
    intro n21
    induction n21 with
    | zero =>
      intro i21 pl ls H locs hm21  hl hO hP hD hS
      refine lv_iload hx hb dME_write_3 (lv_at hl 0 rfl) ?_
      refine lv_sipush (v := nI 256) hx hb dME_write_5 (by decide) ?_
      refine mi_ge (tgt := 35) hx hb dME_write_8 (by decide) (by omega) (by omega) (fun h21 => ?_) (fun h21 => absurd h21 (by omega))
      exact mp_vret hx hb hr hlk hP hD hS pl ⟨trivial, hO⟩ [] rfl rfl rfl (by omega) (by omega) dME_write_35
    | succ n21 ih21 =>
      intro i21 pl ls H locs hm21  hl hO hP hD hS
      refine lv_iload hx hb dME_write_3 (lv_at hl 0 rfl) ?_
      refine lv_sipush (v := nI 256) hx hb dME_write_5 (by decide) ?_
      refine mi_ge (tgt := 35) hx hb dME_write_8 (by decide) (by omega) (by omega) (fun h22 => absurd h22 (by omega)) (fun h22 => ?_)
      refine lv_aload_n hx hb dME_write_11 rfl (lv_at hl 2 rfl) ?_
      refine lv_bipush (v := nI 8) hx hb dME_write_12 (by decide) ?_
      refine lv_iload_n hx hb dME_write_14 rfl (lv_at hl 3 rfl) ?_
      refine mi_imul hx hb dME_write_15 ?_
      refine lv_iload_n hx hb dME_write_16 rfl (lv_at hl 4 rfl) ?_
      refine lv_iload hx hb dME_write_17 (lv_at hl 0 rfl) ?_
      refine mi_imul hx hb dME_write_19 ?_
      refine mi_iadd hx hb dME_write_20 ?_
      refine lv_iload_n hx hb dME_write_21 rfl (lv_at hl 4 rfl) ?_
      refine lv_aload_n hx hb dME_write_22 rfl (lv_at hl 1 rfl) ?_
      refine lv_iload hx hb dME_write_23 (lv_at hl 0 rfl) ?_
      refine ty_iald hx hb hK hO k_f (nxg hc0 k_f rfl) hP (vp_in_nI (by omega) (by decide)) dME_write_25 (fun z21 => ?_)
      refine mp_v (cx := []) (wr := []) hP hD hS hA [] [] rfl rfl rfl (by decide) (va_runSN (As := [.ref to, .int (nI ((8 * at_) + (12 * i21))), .int (nI 12), .int z21]) (rest := []) F (t_M_pack l g _ T xs pl hO hU hc0 to n ((8 * at_) + (12 * i21)) 12 z21 k_to (by omega) (by omega)) ⟨va_cnB 4 hts (wg_in kw_1690) rfl rfl rfl (hE.2.2.2.2.2.2.2.2.1) (hts _ (wg_t kw_9)) (by decide +kernel) ⟨by decide, by decide⟩, hts _ (wg_t kw_1689), trivial⟩ (pp_S (en_ok g) hP hD hS hA hE [] rfl rfl) rfl rfl hl.1 rfl (lv_room (Nat.le_of_ble_eq_true rfl)) dME_write_26 ⟨by omega, by omega⟩) (fun  pl H locs hu21 hP hD hS => ?_)
      obtain ⟨hq21, hO⟩ := hu21
      have hP : va_P g.1 vcl ([] ++ pl) _ := hP
      have hD : va_D _ ([] ++ pl) := hD
      refine W.widen (k := 0) (n := 0) (by omega) (by omega) ?_
      refine mi_iinc (k := 0) (x := i21) (d := 1) (y := i21 + 1) (lv' := [(4, .int (nI (i21 + 1))), (0, .ref f), (1, .ref to), (2, .int (nI at_)), (3, .int (nI 12))]) hx hb dME_write_29 hl rfl (by decide) rfl (by decide) rfl (fun ls hl => ?_)
      refine lv_goto (tgt := 3) hx hb dME_write_32 (by decide) ?_
      exact ih21 (i21 + 1) pl ls H locs (by omega) (lv_sub hl [0, 1, 2, 3, 4] rfl) hO hP hD hS
  exact lp21 256 0 pl ls _ _ (by omega) (lv_sub hl [0, 1, 2, 3, 4] rfl) hO hP hD hS
set_option maxHeartbeats 400000 in
set_option maxRecDepth 100000 in
theorem t_ME_read_1 (l : Launch) (g : Gd) (sz : Nat) (T : Ty) (xs : List Nat) (pl : va_W) (hO : okx g T xs pl) (hU : uni T) (hc0 : clo T xs 0) (fr f n at_ : Nat) (k_fr : T fr = some (1, n)) (k_f : T f = some (0, 256)) (h1 : at_ + 32 ≤ n) (h2 : n < 65536)  : Met l y_ME_read w_ME_read ({ frames := 1, cells := 0, slots := 0, locals := 24 } : Room) (va_Pc [.ref fr, .int (nI at_), .int (nI 1), .ref f] (pr (en g) g.1 vcl sz ([] ++ pl))) (va_Qv (fun (u : va_W) => (True) ∧ okx g T xs u) (po g.1 vcl (va_A ([] ++ pl) sz) (fun (u : va_W) => [] ++ u)) (va_A ([] ++ pl) sz)) 0 0 (va_A ([] ++ pl) sz) := by
  refine mc_entry (cc := c_ME_read) (maxL := 5) (ret := none) (by decide) rfl (Nat.le_of_ble_eq_true rfl) ?_
  intro p e s m args below meth c ls F hr hlk hnm hsz hP hD hE hA hl
  obtain ⟨hx, hb, hml, hown, hts⟩ := id F
  have hK := hE.1
  generalize va_A ([] ++ pl) sz = A at hD hE hA ⊢
  have hS : va_S A s.heap s.heap [] := va_S.rf
  have hl : lv_has ls 5 [(0, .ref fr), (1, .int (nI at_)), (2, .int (nI 1)), (3, .ref f)] := hl
  refine lv_iconst (v := nI 0) hx hb dME_read_0 (by decide) ?_
  refine lv_istore (lv' := [(4, .int (nI 0)), (0, .ref fr), (1, .int (nI at_)), (2, .int (nI 1)), (3, .ref f)]) hx hb dME_read_1 hl (by decide) rfl (fun ls hl => ?_)
  have lp21 : ∀ (n21 : Nat) (i21 : Nat) (pl : va_W) (ls : Array Slot) (H : Heap) (locs : List Loc), n21 + i21 = 256 → lv_has ls 5 [(4, .int (nI i21)), (0, .ref fr), (1, .int (nI at_)), (2, .int (nI 1)), (3, .ref f)] → okx g T xs pl → va_P g.1 vcl ([] ++ pl) H → va_D A ([] ++ pl) → va_S A s.heap H locs → W p l e ({ frames := 1, cells := 0, slots := 0, locals := 24 } : Room) s m args below meth c H locs 0 0 (MQ below (va_Qv (fun (u : va_W) => (True) ∧ okx g T xs u) (po g.1 vcl A (fun (u : va_W) => [] ++ u)) A) args s 0 0 A) (F0 m 3 ls []) := by
    intro n21
    induction n21 with
    | zero =>
      intro i21 pl ls H locs hm21  hl hO hP hD hS
      refine lv_iload hx hb dME_read_3 (lv_at hl 0 rfl) ?_
      refine lv_sipush (v := nI 256) hx hb dME_read_5 (by decide) ?_
      refine mi_ge (tgt := 35) hx hb dME_read_8 (by decide) (by omega) (by omega) (fun h21 => ?_) (fun h21 => absurd h21 (by omega))
      exact mp_vret hx hb hr hlk hP hD hS pl ⟨trivial, hO⟩ [] rfl rfl rfl (by omega) (by omega) dME_read_35
    | succ n21 ih21 =>
      intro i21 pl ls H locs hm21  hl hO hP hD hS
      refine lv_iload hx hb dME_read_3 (lv_at hl 0 rfl) ?_
      refine lv_sipush (v := nI 256) hx hb dME_read_5 (by decide) ?_
      refine mi_ge (tgt := 35) hx hb dME_read_8 (by decide) (by omega) (by omega) (fun h22 => absurd h22 (by omega)) (fun h22 => ?_)
      refine lv_aload_n hx hb dME_read_11 rfl (lv_at hl 4 rfl) ?_
      refine lv_iload hx hb dME_read_12 (lv_at hl 0 rfl) ?_
      refine lv_aload_n hx hb dME_read_14 rfl (lv_at hl 1 rfl) ?_
      refine lv_bipush (v := nI 8) hx hb dME_read_15 (by decide) ?_
      refine lv_iload_n hx hb dME_read_17 rfl (lv_at hl 2 rfl) ?_
      refine mi_imul hx hb dME_read_18 ?_
      refine lv_iload_n hx hb dME_read_19 rfl (lv_at hl 3 rfl) ?_
      refine lv_iload hx hb dME_read_20 (lv_at hl 0 rfl) ?_
      refine mi_imul hx hb dME_read_22 ?_
      refine mi_iadd hx hb dME_read_23 ?_
      refine lv_iload_n hx hb dME_read_24 rfl (lv_at hl 3 rfl) ?_
      refine mp_i (cx := []) (wr := []) hP hD hS hA [] [] rfl rfl rfl (by decide) (va_runSN (As := [.ref fr, .int (nI ((8 * at_) + (1 * i21))), .int (nI 1)]) (rest := [.int (nI i21), .ref f]) F (t_M_unpack l g _ T xs pl hO hU hc0 fr n ((8 * at_) + (1 * i21)) 1 k_fr (by omega) (by omega) (by omega)) ⟨va_cnB 3 hts (wg_in kw_1667) rfl rfl rfl (hE.2.2.2.2.2.2.2.1) (hts _ (wg_t kw_9)) (by decide +kernel) ⟨by decide, by decide⟩, hts _ (wg_t kw_1666), trivial⟩ (pp_S (en_ok g) hP hD hS hA hE [] rfl rfl) rfl rfl hl.1 rfl (lv_room (Nat.le_of_ble_eq_true rfl)) dME_read_25 ⟨by omega, by omega⟩) (fun r21 pl H locs hu21 hP hD hS => ?_)
      obtain ⟨hq21, hO⟩ := hu21
      have hP : va_P g.1 vcl ([] ++ pl) _ := hP
      have hD : va_D _ ([] ++ pl) := hD
      refine W.widen (k := 0) (n := 0) (by omega) (by omega) ?_
      refine ty_iast hx hb hK hO k_f (nxg hc0 k_f rfl) hP hD hS (vp_in_nI (by omega) (by decide)) dME_read_28 (fun pl H locs hO hP hD hS => ?_)
      refine mi_iinc (k := 0) (x := i21) (d := 1) (y := i21 + 1) (lv' := [(4, .int (nI (i21 + 1))), (0, .ref fr), (1, .int (nI at_)), (2, .int (nI 1)), (3, .ref f)]) hx hb dME_read_29 hl rfl (by decide) rfl (by decide) rfl (fun ls hl => ?_)
      refine lv_goto (tgt := 3) hx hb dME_read_32 (by decide) ?_
      exact ih21 (i21 + 1) pl ls H locs (by omega) (lv_sub hl [0, 1, 2, 3, 4] rfl) hO hP hD hS
  exact lp21 256 0 pl ls _ _ (by omega) (lv_sub hl [0, 1, 2, 3, 4] rfl) hO hP hD hS
set_option maxHeartbeats 400000 in
set_option maxRecDepth 100000 in
theorem t_ME_read_4 (l : Launch) (g : Gd) (sz : Nat) (T : Ty) (xs : List Nat) (pl : va_W) (hO : okx g T xs pl) (hU : uni T) (hc0 : clo T xs 0) (fr f n at_ : Nat) (k_fr : T fr = some (1, n)) (k_f : T f = some (0, 256)) (h1 : at_ + 128 ≤ n) (h2 : n < 65536)  : Met l y_ME_read w_ME_read ({ frames := 1, cells := 0, slots := 0, locals := 24 } : Room) (va_Pc [.ref fr, .int (nI at_), .int (nI 4), .ref f] (pr (en g) g.1 vcl sz ([] ++ pl))) (va_Qv (fun (u : va_W) => (True) ∧ okx g T xs u) (po g.1 vcl (va_A ([] ++ pl) sz) (fun (u : va_W) => [] ++ u)) (va_A ([] ++ pl) sz)) 0 0 (va_A ([] ++ pl) sz) := by
  refine mc_entry (cc := c_ME_read) (maxL := 5) (ret := none) (by decide) rfl (Nat.le_of_ble_eq_true rfl) ?_
  intro p e s m args below meth c ls F hr hlk hnm hsz hP hD hE hA hl
  obtain ⟨hx, hb, hml, hown, hts⟩ := id F
  have hK := hE.1
  generalize va_A ([] ++ pl) sz = A at hD hE hA ⊢
  have hS : va_S A s.heap s.heap [] := va_S.rf
  have hl : lv_has ls 5 [(0, .ref fr), (1, .int (nI at_)), (2, .int (nI 4)), (3, .ref f)] := hl
  refine lv_iconst (v := nI 0) hx hb dME_read_0 (by decide) ?_
  refine lv_istore (lv' := [(4, .int (nI 0)), (0, .ref fr), (1, .int (nI at_)), (2, .int (nI 4)), (3, .ref f)]) hx hb dME_read_1 hl (by decide) rfl (fun ls hl => ?_)
  have lp21 : ∀ (n21 : Nat) (i21 : Nat) (pl : va_W) (ls : Array Slot) (H : Heap) (locs : List Loc), n21 + i21 = 256 → lv_has ls 5 [(4, .int (nI i21)), (0, .ref fr), (1, .int (nI at_)), (2, .int (nI 4)), (3, .ref f)] → okx g T xs pl → va_P g.1 vcl ([] ++ pl) H → va_D A ([] ++ pl) → va_S A s.heap H locs → W p l e ({ frames := 1, cells := 0, slots := 0, locals := 24 } : Room) s m args below meth c H locs 0 0 (MQ below (va_Qv (fun (u : va_W) => (True) ∧ okx g T xs u) (po g.1 vcl A (fun (u : va_W) => [] ++ u)) A) args s 0 0 A) (F0 m 3 ls []) := by
    intro n21
    induction n21 with
    | zero =>
      intro i21 pl ls H locs hm21  hl hO hP hD hS
      refine lv_iload hx hb dME_read_3 (lv_at hl 0 rfl) ?_
      refine lv_sipush (v := nI 256) hx hb dME_read_5 (by decide) ?_
      refine mi_ge (tgt := 35) hx hb dME_read_8 (by decide) (by omega) (by omega) (fun h21 => ?_) (fun h21 => absurd h21 (by omega))
      exact mp_vret hx hb hr hlk hP hD hS pl ⟨trivial, hO⟩ [] rfl rfl rfl (by omega) (by omega) dME_read_35
    | succ n21 ih21 =>
      intro i21 pl ls H locs hm21  hl hO hP hD hS
      refine lv_iload hx hb dME_read_3 (lv_at hl 0 rfl) ?_
      refine lv_sipush (v := nI 256) hx hb dME_read_5 (by decide) ?_
      refine mi_ge (tgt := 35) hx hb dME_read_8 (by decide) (by omega) (by omega) (fun h22 => absurd h22 (by omega)) (fun h22 => ?_)
      refine lv_aload_n hx hb dME_read_11 rfl (lv_at hl 4 rfl) ?_
      refine lv_iload hx hb dME_read_12 (lv_at hl 0 rfl) ?_
      refine lv_aload_n hx hb dME_read_14 rfl (lv_at hl 1 rfl) ?_
      refine lv_bipush (v := nI 8) hx hb dME_read_15 (by decide) ?_
      refine lv_iload_n hx hb dME_read_17 rfl (lv_at hl 2 rfl) ?_
      refine mi_imul hx hb dME_read_18 ?_
      refine lv_iload_n hx hb dME_read_19 rfl (lv_at hl 3 rfl) ?_
      refine lv_iload hx hb dME_read_20 (lv_at hl 0 rfl) ?_
      refine mi_imul hx hb dME_read_22 ?_
      refine mi_iadd hx hb dME_read_23 ?_
      refine lv_iload_n hx hb dME_read_24 rfl (lv_at hl 3 rfl) ?_
      refine mp_i (cx := []) (wr := []) hP hD hS hA [] [] rfl rfl rfl (by decide) (va_runSN (As := [.ref fr, .int (nI ((8 * at_) + (4 * i21))), .int (nI 4)]) (rest := [.int (nI i21), .ref f]) F (t_M_unpack l g _ T xs pl hO hU hc0 fr n ((8 * at_) + (4 * i21)) 4 k_fr (by omega) (by omega) (by omega)) ⟨va_cnB 3 hts (wg_in kw_1667) rfl rfl rfl (hE.2.2.2.2.2.2.2.1) (hts _ (wg_t kw_9)) (by decide +kernel) ⟨by decide, by decide⟩, hts _ (wg_t kw_1666), trivial⟩ (pp_S (en_ok g) hP hD hS hA hE [] rfl rfl) rfl rfl hl.1 rfl (lv_room (Nat.le_of_ble_eq_true rfl)) dME_read_25 ⟨by omega, by omega⟩) (fun r21 pl H locs hu21 hP hD hS => ?_)
      obtain ⟨hq21, hO⟩ := hu21
      have hP : va_P g.1 vcl ([] ++ pl) _ := hP
      have hD : va_D _ ([] ++ pl) := hD
      refine W.widen (k := 0) (n := 0) (by omega) (by omega) ?_
      refine ty_iast hx hb hK hO k_f (nxg hc0 k_f rfl) hP hD hS (vp_in_nI (by omega) (by decide)) dME_read_28 (fun pl H locs hO hP hD hS => ?_)
      refine mi_iinc (k := 0) (x := i21) (d := 1) (y := i21 + 1) (lv' := [(4, .int (nI (i21 + 1))), (0, .ref fr), (1, .int (nI at_)), (2, .int (nI 4)), (3, .ref f)]) hx hb dME_read_29 hl rfl (by decide) rfl (by decide) rfl (fun ls hl => ?_)
      refine lv_goto (tgt := 3) hx hb dME_read_32 (by decide) ?_
      exact ih21 (i21 + 1) pl ls H locs (by omega) (lv_sub hl [0, 1, 2, 3, 4] rfl) hO hP hD hS
  exact lp21 256 0 pl ls _ _ (by omega) (lv_sub hl [0, 1, 2, 3, 4] rfl) hO hP hD hS
set_option maxHeartbeats 400000 in
set_option maxRecDepth 100000 in
theorem t_ME_read_5 (l : Launch) (g : Gd) (sz : Nat) (T : Ty) (xs : List Nat) (pl : va_W) (hO : okx g T xs pl) (hU : uni T) (hc0 : clo T xs 0) (fr f n at_ : Nat) (k_fr : T fr = some (1, n)) (k_f : T f = some (0, 256)) (h1 : at_ + 160 ≤ n) (h2 : n < 65536)  : Met l y_ME_read w_ME_read ({ frames := 1, cells := 0, slots := 0, locals := 24 } : Room) (va_Pc [.ref fr, .int (nI at_), .int (nI 5), .ref f] (pr (en g) g.1 vcl sz ([] ++ pl))) (va_Qv (fun (u : va_W) => (True) ∧ okx g T xs u) (po g.1 vcl (va_A ([] ++ pl) sz) (fun (u : va_W) => [] ++ u)) (va_A ([] ++ pl) sz)) 0 0 (va_A ([] ++ pl) sz) := by
  refine mc_entry (cc := c_ME_read) (maxL := 5) (ret := none) (by decide) rfl (Nat.le_of_ble_eq_true rfl) ?_
  intro p e s m args below meth c ls F hr hlk hnm hsz hP hD hE hA hl
  obtain ⟨hx, hb, hml, hown, hts⟩ := id F
  have hK := hE.1
  generalize va_A ([] ++ pl) sz = A at hD hE hA ⊢
  have hS : va_S A s.heap s.heap [] := va_S.rf
  have hl : lv_has ls 5 [(0, .ref fr), (1, .int (nI at_)), (2, .int (nI 5)), (3, .ref f)] := hl
  refine lv_iconst (v := nI 0) hx hb dME_read_0 (by decide) ?_
  refine lv_istore (lv' := [(4, .int (nI 0)), (0, .ref fr), (1, .int (nI at_)), (2, .int (nI 5)), (3, .ref f)]) hx hb dME_read_1 hl (by decide) rfl (fun ls hl => ?_)
  have lp21 : ∀ (n21 : Nat) (i21 : Nat) (pl : va_W) (ls : Array Slot) (H : Heap) (locs : List Loc), n21 + i21 = 256 → lv_has ls 5 [(4, .int (nI i21)), (0, .ref fr), (1, .int (nI at_)), (2, .int (nI 5)), (3, .ref f)] → okx g T xs pl → va_P g.1 vcl ([] ++ pl) H → va_D A ([] ++ pl) → va_S A s.heap H locs → W p l e ({ frames := 1, cells := 0, slots := 0, locals := 24 } : Room) s m args below meth c H locs 0 0 (MQ below (va_Qv (fun (u : va_W) => (True) ∧ okx g T xs u) (po g.1 vcl A (fun (u : va_W) => [] ++ u)) A) args s 0 0 A) (F0 m 3 ls []) := by
    intro n21
    induction n21 with
    | zero =>
      intro i21 pl ls H locs hm21  hl hO hP hD hS
      refine lv_iload hx hb dME_read_3 (lv_at hl 0 rfl) ?_
      refine lv_sipush (v := nI 256) hx hb dME_read_5 (by decide) ?_
      refine mi_ge (tgt := 35) hx hb dME_read_8 (by decide) (by omega) (by omega) (fun h21 => ?_) (fun h21 => absurd h21 (by omega))
      exact mp_vret hx hb hr hlk hP hD hS pl ⟨trivial, hO⟩ [] rfl rfl rfl (by omega) (by omega) dME_read_35
    | succ n21 ih21 =>
      intro i21 pl ls H locs hm21  hl hO hP hD hS
      refine lv_iload hx hb dME_read_3 (lv_at hl 0 rfl) ?_
      refine lv_sipush (v := nI 256) hx hb dME_read_5 (by decide) ?_
      refine mi_ge (tgt := 35) hx hb dME_read_8 (by decide) (by omega) (by omega) (fun h22 => absurd h22 (by omega)) (fun h22 => ?_)
      refine lv_aload_n hx hb dME_read_11 rfl (lv_at hl 4 rfl) ?_
      refine lv_iload hx hb dME_read_12 (lv_at hl 0 rfl) ?_
      refine lv_aload_n hx hb dME_read_14 rfl (lv_at hl 1 rfl) ?_
      refine lv_bipush (v := nI 8) hx hb dME_read_15 (by decide) ?_
      refine lv_iload_n hx hb dME_read_17 rfl (lv_at hl 2 rfl) ?_
      refine mi_imul hx hb dME_read_18 ?_
      refine lv_iload_n hx hb dME_read_19 rfl (lv_at hl 3 rfl) ?_
      refine lv_iload hx hb dME_read_20 (lv_at hl 0 rfl) ?_
      refine mi_imul hx hb dME_read_22 ?_
      refine mi_iadd hx hb dME_read_23 ?_
      refine lv_iload_n hx hb dME_read_24 rfl (lv_at hl 3 rfl) ?_
      refine mp_i (cx := []) (wr := []) hP hD hS hA [] [] rfl rfl rfl (by decide) (va_runSN (As := [.ref fr, .int (nI ((8 * at_) + (5 * i21))), .int (nI 5)]) (rest := [.int (nI i21), .ref f]) F (t_M_unpack l g _ T xs pl hO hU hc0 fr n ((8 * at_) + (5 * i21)) 5 k_fr (by omega) (by omega) (by omega)) ⟨va_cnB 3 hts (wg_in kw_1667) rfl rfl rfl (hE.2.2.2.2.2.2.2.1) (hts _ (wg_t kw_9)) (by decide +kernel) ⟨by decide, by decide⟩, hts _ (wg_t kw_1666), trivial⟩ (pp_S (en_ok g) hP hD hS hA hE [] rfl rfl) rfl rfl hl.1 rfl (lv_room (Nat.le_of_ble_eq_true rfl)) dME_read_25 ⟨by omega, by omega⟩) (fun r21 pl H locs hu21 hP hD hS => ?_)
      obtain ⟨hq21, hO⟩ := hu21
      have hP : va_P g.1 vcl ([] ++ pl) _ := hP
      have hD : va_D _ ([] ++ pl) := hD
      refine W.widen (k := 0) (n := 0) (by omega) (by omega) ?_
      refine ty_iast hx hb hK hO k_f (nxg hc0 k_f rfl) hP hD hS (vp_in_nI (by omega) (by decide)) dME_read_28 (fun pl H locs hO hP hD hS => ?_)
      refine mi_iinc (k := 0) (x := i21) (d := 1) (y := i21 + 1) (lv' := [(4, .int (nI (i21 + 1))), (0, .ref fr), (1, .int (nI at_)), (2, .int (nI 5)), (3, .ref f)]) hx hb dME_read_29 hl rfl (by decide) rfl (by decide) rfl (fun ls hl => ?_)
      refine lv_goto (tgt := 3) hx hb dME_read_32 (by decide) ?_
      exact ih21 (i21 + 1) pl ls H locs (by omega) (lv_sub hl [0, 1, 2, 3, 4] rfl) hO hP hD hS
  exact lp21 256 0 pl ls _ _ (by omega) (lv_sub hl [0, 1, 2, 3, 4] rfl) hO hP hD hS
set_option maxHeartbeats 400000 in
set_option maxRecDepth 100000 in
theorem t_ME_read_10 (l : Launch) (g : Gd) (sz : Nat) (T : Ty) (xs : List Nat) (pl : va_W) (hO : okx g T xs pl) (hU : uni T) (hc0 : clo T xs 0) (fr f n at_ : Nat) (k_fr : T fr = some (1, n)) (k_f : T f = some (0, 256)) (h1 : at_ + 320 ≤ n) (h2 : n < 65536)  : Met l y_ME_read w_ME_read ({ frames := 1, cells := 0, slots := 0, locals := 24 } : Room) (va_Pc [.ref fr, .int (nI at_), .int (nI 10), .ref f] (pr (en g) g.1 vcl sz ([] ++ pl))) (va_Qv (fun (u : va_W) => (True) ∧ okx g T xs u) (po g.1 vcl (va_A ([] ++ pl) sz) (fun (u : va_W) => [] ++ u)) (va_A ([] ++ pl) sz)) 0 0 (va_A ([] ++ pl) sz) := by
  refine mc_entry (cc := c_ME_read) (maxL := 5) (ret := none) (by decide) rfl (Nat.le_of_ble_eq_true rfl) ?_
  intro p e s m args below meth c ls F hr hlk hnm hsz hP hD hE hA hl
  obtain ⟨hx, hb, hml, hown, hts⟩ := id F
  have hK := hE.1
  generalize va_A ([] ++ pl) sz = A at hD hE hA ⊢
  have hS : va_S A s.heap s.heap [] := va_S.rf
  have hl : lv_has ls 5 [(0, .ref fr), (1, .int (nI at_)), (2, .int (nI 10)), (3, .ref f)] := hl
  refine lv_iconst (v := nI 0) hx hb dME_read_0 (by decide) ?_
  refine lv_istore (lv' := [(4, .int (nI 0)), (0, .ref fr), (1, .int (nI at_)), (2, .int (nI 10)), (3, .ref f)]) hx hb dME_read_1 hl (by decide) rfl (fun ls hl => ?_)
  have lp21 : ∀ (n21 : Nat) (i21 : Nat) (pl : va_W) (ls : Array Slot) (H : Heap) (locs : List Loc), n21 + i21 = 256 → lv_has ls 5 [(4, .int (nI i21)), (0, .ref fr), (1, .int (nI at_)), (2, .int (nI 10)), (3, .ref f)] → okx g T xs pl → va_P g.1 vcl ([] ++ pl) H → va_D A ([] ++ pl) → va_S A s.heap H locs → W p l e ({ frames := 1, cells := 0, slots := 0, locals := 24 } : Room) s m args below meth c H locs 0 0 (MQ below (va_Qv (fun (u : va_W) => (True) ∧ okx g T xs u) (po g.1 vcl A (fun (u : va_W) => [] ++ u)) A) args s 0 0 A) (F0 m 3 ls []) := by
    intro n21
    induction n21 with
    | zero =>
      intro i21 pl ls H locs hm21  hl hO hP hD hS
      refine lv_iload hx hb dME_read_3 (lv_at hl 0 rfl) ?_
      refine lv_sipush (v := nI 256) hx hb dME_read_5 (by decide) ?_
      refine mi_ge (tgt := 35) hx hb dME_read_8 (by decide) (by omega) (by omega) (fun h21 => ?_) (fun h21 => absurd h21 (by omega))
      exact mp_vret hx hb hr hlk hP hD hS pl ⟨trivial, hO⟩ [] rfl rfl rfl (by omega) (by omega) dME_read_35
    | succ n21 ih21 =>
      intro i21 pl ls H locs hm21  hl hO hP hD hS
      refine lv_iload hx hb dME_read_3 (lv_at hl 0 rfl) ?_
      refine lv_sipush (v := nI 256) hx hb dME_read_5 (by decide) ?_
      refine mi_ge (tgt := 35) hx hb dME_read_8 (by decide) (by omega) (by omega) (fun h22 => absurd h22 (by omega)) (fun h22 => ?_)
      refine lv_aload_n hx hb dME_read_11 rfl (lv_at hl 4 rfl) ?_
      refine lv_iload hx hb dME_read_12 (lv_at hl 0 rfl) ?_
      refine lv_aload_n hx hb dME_read_14 rfl (lv_at hl 1 rfl) ?_
      refine lv_bipush (v := nI 8) hx hb dME_read_15 (by decide) ?_
      refine lv_iload_n hx hb dME_read_17 rfl (lv_at hl 2 rfl) ?_
      refine mi_imul hx hb dME_read_18 ?_
      refine lv_iload_n hx hb dME_read_19 rfl (lv_at hl 3 rfl) ?_
      refine lv_iload hx hb dME_read_20 (lv_at hl 0 rfl) ?_
      refine mi_imul hx hb dME_read_22 ?_
      refine mi_iadd hx hb dME_read_23 ?_
      refine lv_iload_n hx hb dME_read_24 rfl (lv_at hl 3 rfl) ?_
      refine mp_i (cx := []) (wr := []) hP hD hS hA [] [] rfl rfl rfl (by decide) (va_runSN (As := [.ref fr, .int (nI ((8 * at_) + (10 * i21))), .int (nI 10)]) (rest := [.int (nI i21), .ref f]) F (t_M_unpack l g _ T xs pl hO hU hc0 fr n ((8 * at_) + (10 * i21)) 10 k_fr (by omega) (by omega) (by omega)) ⟨va_cnB 3 hts (wg_in kw_1667) rfl rfl rfl (hE.2.2.2.2.2.2.2.1) (hts _ (wg_t kw_9)) (by decide +kernel) ⟨by decide, by decide⟩, hts _ (wg_t kw_1666), trivial⟩ (pp_S (en_ok g) hP hD hS hA hE [] rfl rfl) rfl rfl hl.1 rfl (lv_room (Nat.le_of_ble_eq_true rfl)) dME_read_25 ⟨by omega, by omega⟩) (fun r21 pl H locs hu21 hP hD hS => ?_)
      obtain ⟨hq21, hO⟩ := hu21
      have hP : va_P g.1 vcl ([] ++ pl) _ := hP
      have hD : va_D _ ([] ++ pl) := hD
      refine W.widen (k := 0) (n := 0) (by omega) (by omega) ?_
      refine ty_iast hx hb hK hO k_f (nxg hc0 k_f rfl) hP hD hS (vp_in_nI (by omega) (by decide)) dME_read_28 (fun pl H locs hO hP hD hS => ?_)
      refine mi_iinc (k := 0) (x := i21) (d := 1) (y := i21 + 1) (lv' := [(4, .int (nI (i21 + 1))), (0, .ref fr), (1, .int (nI at_)), (2, .int (nI 10)), (3, .ref f)]) hx hb dME_read_29 hl rfl (by decide) rfl (by decide) rfl (fun ls hl => ?_)
      refine lv_goto (tgt := 3) hx hb dME_read_32 (by decide) ?_
      exact ih21 (i21 + 1) pl ls H locs (by omega) (lv_sub hl [0, 1, 2, 3, 4] rfl) hO hP hD hS
  exact lp21 256 0 pl ls _ _ (by omega) (lv_sub hl [0, 1, 2, 3, 4] rfl) hO hP hD hS
set_option maxHeartbeats 400000 in
set_option maxRecDepth 100000 in
theorem t_ME_read_11 (l : Launch) (g : Gd) (sz : Nat) (T : Ty) (xs : List Nat) (pl : va_W) (hO : okx g T xs pl) (hU : uni T) (hc0 : clo T xs 0) (fr f n at_ : Nat) (k_fr : T fr = some (1, n)) (k_f : T f = some (0, 256)) (h1 : at_ + 352 ≤ n) (h2 : n < 65536)  : Met l y_ME_read w_ME_read ({ frames := 1, cells := 0, slots := 0, locals := 24 } : Room) (va_Pc [.ref fr, .int (nI at_), .int (nI 11), .ref f] (pr (en g) g.1 vcl sz ([] ++ pl))) (va_Qv (fun (u : va_W) => (True) ∧ okx g T xs u) (po g.1 vcl (va_A ([] ++ pl) sz) (fun (u : va_W) => [] ++ u)) (va_A ([] ++ pl) sz)) 0 0 (va_A ([] ++ pl) sz) := by
  refine mc_entry (cc := c_ME_read) (maxL := 5) (ret := none) (by decide) rfl (Nat.le_of_ble_eq_true rfl) ?_
  intro p e s m args below meth c ls F hr hlk hnm hsz hP hD hE hA hl
  obtain ⟨hx, hb, hml, hown, hts⟩ := id F
  have hK := hE.1
  generalize va_A ([] ++ pl) sz = A at hD hE hA ⊢
  have hS : va_S A s.heap s.heap [] := va_S.rf
  have hl : lv_has ls 5 [(0, .ref fr), (1, .int (nI at_)), (2, .int (nI 11)), (3, .ref f)] := hl
  refine lv_iconst (v := nI 0) hx hb dME_read_0 (by decide) ?_
  refine lv_istore (lv' := [(4, .int (nI 0)), (0, .ref fr), (1, .int (nI at_)), (2, .int (nI 11)), (3, .ref f)]) hx hb dME_read_1 hl (by decide) rfl (fun ls hl => ?_)
  have lp21 : ∀ (n21 : Nat) (i21 : Nat) (pl : va_W) (ls : Array Slot) (H : Heap) (locs : List Loc), n21 + i21 = 256 → lv_has ls 5 [(4, .int (nI i21)), (0, .ref fr), (1, .int (nI at_)), (2, .int (nI 11)), (3, .ref f)] → okx g T xs pl → va_P g.1 vcl ([] ++ pl) H → va_D A ([] ++ pl) → va_S A s.heap H locs → W p l e ({ frames := 1, cells := 0, slots := 0, locals := 24 } : Room) s m args below meth c H locs 0 0 (MQ below (va_Qv (fun (u : va_W) => (True) ∧ okx g T xs u) (po g.1 vcl A (fun (u : va_W) => [] ++ u)) A) args s 0 0 A) (F0 m 3 ls []) := by
    intro n21
    induction n21 with
    | zero =>
      intro i21 pl ls H locs hm21  hl hO hP hD hS
      refine lv_iload hx hb dME_read_3 (lv_at hl 0 rfl) ?_
      refine lv_sipush (v := nI 256) hx hb dME_read_5 (by decide) ?_
      refine mi_ge (tgt := 35) hx hb dME_read_8 (by decide) (by omega) (by omega) (fun h21 => ?_) (fun h21 => absurd h21 (by omega))
      exact mp_vret hx hb hr hlk hP hD hS pl ⟨trivial, hO⟩ [] rfl rfl rfl (by omega) (by omega) dME_read_35
    | succ n21 ih21 =>
      intro i21 pl ls H locs hm21  hl hO hP hD hS
      refine lv_iload hx hb dME_read_3 (lv_at hl 0 rfl) ?_
      refine lv_sipush (v := nI 256) hx hb dME_read_5 (by decide) ?_
      refine mi_ge (tgt := 35) hx hb dME_read_8 (by decide) (by omega) (by omega) (fun h22 => absurd h22 (by omega)) (fun h22 => ?_)
      refine lv_aload_n hx hb dME_read_11 rfl (lv_at hl 4 rfl) ?_
      refine lv_iload hx hb dME_read_12 (lv_at hl 0 rfl) ?_
      refine lv_aload_n hx hb dME_read_14 rfl (lv_at hl 1 rfl) ?_
      refine lv_bipush (v := nI 8) hx hb dME_read_15 (by decide) ?_
      refine lv_iload_n hx hb dME_read_17 rfl (lv_at hl 2 rfl) ?_
      refine mi_imul hx hb dME_read_18 ?_
      refine lv_iload_n hx hb dME_read_19 rfl (lv_at hl 3 rfl) ?_
      refine lv_iload hx hb dME_read_20 (lv_at hl 0 rfl) ?_
      refine mi_imul hx hb dME_read_22 ?_
      refine mi_iadd hx hb dME_read_23 ?_
      refine lv_iload_n hx hb dME_read_24 rfl (lv_at hl 3 rfl) ?_
      refine mp_i (cx := []) (wr := []) hP hD hS hA [] [] rfl rfl rfl (by decide) (va_runSN (As := [.ref fr, .int (nI ((8 * at_) + (11 * i21))), .int (nI 11)]) (rest := [.int (nI i21), .ref f]) F (t_M_unpack l g _ T xs pl hO hU hc0 fr n ((8 * at_) + (11 * i21)) 11 k_fr (by omega) (by omega) (by omega)) ⟨va_cnB 3 hts (wg_in kw_1667) rfl rfl rfl (hE.2.2.2.2.2.2.2.1) (hts _ (wg_t kw_9)) (by decide +kernel) ⟨by decide, by decide⟩, hts _ (wg_t kw_1666), trivial⟩ (pp_S (en_ok g) hP hD hS hA hE [] rfl rfl) rfl rfl hl.1 rfl (lv_room (Nat.le_of_ble_eq_true rfl)) dME_read_25 ⟨by omega, by omega⟩) (fun r21 pl H locs hu21 hP hD hS => ?_)
      obtain ⟨hq21, hO⟩ := hu21
      have hP : va_P g.1 vcl ([] ++ pl) _ := hP
      have hD : va_D _ ([] ++ pl) := hD
      refine W.widen (k := 0) (n := 0) (by omega) (by omega) ?_
      refine ty_iast hx hb hK hO k_f (nxg hc0 k_f rfl) hP hD hS (vp_in_nI (by omega) (by decide)) dME_read_28 (fun pl H locs hO hP hD hS => ?_)
      refine mi_iinc (k := 0) (x := i21) (d := 1) (y := i21 + 1) (lv' := [(4, .int (nI (i21 + 1))), (0, .ref fr), (1, .int (nI at_)), (2, .int (nI 11)), (3, .ref f)]) hx hb dME_read_29 hl rfl (by decide) rfl (by decide) rfl (fun ls hl => ?_)
      refine lv_goto (tgt := 3) hx hb dME_read_32 (by decide) ?_
      exact ih21 (i21 + 1) pl ls H locs (by omega) (lv_sub hl [0, 1, 2, 3, 4] rfl) hO hP hD hS
  exact lp21 256 0 pl ls _ _ (by omega) (lv_sub hl [0, 1, 2, 3, 4] rfl) hO hP hD hS
set_option maxHeartbeats 400000 in
set_option maxRecDepth 100000 in
theorem t_ME_read_12 (l : Launch) (g : Gd) (sz : Nat) (T : Ty) (xs : List Nat) (pl : va_W) (hO : okx g T xs pl) (hU : uni T) (hc0 : clo T xs 0) (fr f n at_ : Nat) (k_fr : T fr = some (1, n)) (k_f : T f = some (0, 256)) (h1 : at_ + 384 ≤ n) (h2 : n < 65536)  : Met l y_ME_read w_ME_read ({ frames := 1, cells := 0, slots := 0, locals := 24 } : Room) (va_Pc [.ref fr, .int (nI at_), .int (nI 12), .ref f] (pr (en g) g.1 vcl sz ([] ++ pl))) (va_Qv (fun (u : va_W) => (True) ∧ okx g T xs u) (po g.1 vcl (va_A ([] ++ pl) sz) (fun (u : va_W) => [] ++ u)) (va_A ([] ++ pl) sz)) 0 0 (va_A ([] ++ pl) sz) := by
  refine mc_entry (cc := c_ME_read) (maxL := 5) (ret := none) (by decide) rfl (Nat.le_of_ble_eq_true rfl) ?_
  intro p e s m args below meth c ls F hr hlk hnm hsz hP hD hE hA hl
  obtain ⟨hx, hb, hml, hown, hts⟩ := id F
  have hK := hE.1
  generalize va_A ([] ++ pl) sz = A at hD hE hA ⊢
  have hS : va_S A s.heap s.heap [] := va_S.rf
  have hl : lv_has ls 5 [(0, .ref fr), (1, .int (nI at_)), (2, .int (nI 12)), (3, .ref f)] := hl
  refine lv_iconst (v := nI 0) hx hb dME_read_0 (by decide) ?_
  refine lv_istore (lv' := [(4, .int (nI 0)), (0, .ref fr), (1, .int (nI at_)), (2, .int (nI 12)), (3, .ref f)]) hx hb dME_read_1 hl (by decide) rfl (fun ls hl => ?_)
  have lp21 : ∀ (n21 : Nat) (i21 : Nat) (pl : va_W) (ls : Array Slot) (H : Heap) (locs : List Loc), n21 + i21 = 256 → lv_has ls 5 [(4, .int (nI i21)), (0, .ref fr), (1, .int (nI at_)), (2, .int (nI 12)), (3, .ref f)] → okx g T xs pl → va_P g.1 vcl ([] ++ pl) H → va_D A ([] ++ pl) → va_S A s.heap H locs → W p l e ({ frames := 1, cells := 0, slots := 0, locals := 24 } : Room) s m args below meth c H locs 0 0 (MQ below (va_Qv (fun (u : va_W) => (True) ∧ okx g T xs u) (po g.1 vcl A (fun (u : va_W) => [] ++ u)) A) args s 0 0 A) (F0 m 3 ls []) := by
    intro n21
    induction n21 with
    | zero =>
      intro i21 pl ls H locs hm21  hl hO hP hD hS
      refine lv_iload hx hb dME_read_3 (lv_at hl 0 rfl) ?_
      refine lv_sipush (v := nI 256) hx hb dME_read_5 (by decide) ?_
      refine mi_ge (tgt := 35) hx hb dME_read_8 (by decide) (by omega) (by omega) (fun h21 => ?_) (fun h21 => absurd h21 (by omega))
      exact mp_vret hx hb hr hlk hP hD hS pl ⟨trivial, hO⟩ [] rfl rfl rfl (by omega) (by omega) dME_read_35
    | succ n21 ih21 =>
      intro i21 pl ls H locs hm21  hl hO hP hD hS
      refine lv_iload hx hb dME_read_3 (lv_at hl 0 rfl) ?_
      refine lv_sipush (v := nI 256) hx hb dME_read_5 (by decide) ?_
      refine mi_ge (tgt := 35) hx hb dME_read_8 (by decide) (by omega) (by omega) (fun h22 => absurd h22 (by omega)) (fun h22 => ?_)
      refine lv_aload_n hx hb dME_read_11 rfl (lv_at hl 4 rfl) ?_
      refine lv_iload hx hb dME_read_12 (lv_at hl 0 rfl) ?_
      refine lv_aload_n hx hb dME_read_14 rfl (lv_at hl 1 rfl) ?_
      refine lv_bipush (v := nI 8) hx hb dME_read_15 (by decide) ?_
      refine lv_iload_n hx hb dME_read_17 rfl (lv_at hl 2 rfl) ?_
      refine mi_imul hx hb dME_read_18 ?_
      refine lv_iload_n hx hb dME_read_19 rfl (lv_at hl 3 rfl) ?_
      refine lv_iload hx hb dME_read_20 (lv_at hl 0 rfl) ?_
      refine mi_imul hx hb dME_read_22 ?_
      refine mi_iadd hx hb dME_read_23 ?_
      refine lv_iload_n hx hb dME_read_24 rfl (lv_at hl 3 rfl) ?_
      refine mp_i (cx := []) (wr := []) hP hD hS hA [] [] rfl rfl rfl (by decide) (va_runSN (As := [.ref fr, .int (nI ((8 * at_) + (12 * i21))), .int (nI 12)]) (rest := [.int (nI i21), .ref f]) F (t_M_unpack l g _ T xs pl hO hU hc0 fr n ((8 * at_) + (12 * i21)) 12 k_fr (by omega) (by omega) (by omega)) ⟨va_cnB 3 hts (wg_in kw_1667) rfl rfl rfl (hE.2.2.2.2.2.2.2.1) (hts _ (wg_t kw_9)) (by decide +kernel) ⟨by decide, by decide⟩, hts _ (wg_t kw_1666), trivial⟩ (pp_S (en_ok g) hP hD hS hA hE [] rfl rfl) rfl rfl hl.1 rfl (lv_room (Nat.le_of_ble_eq_true rfl)) dME_read_25 ⟨by omega, by omega⟩) (fun r21 pl H locs hu21 hP hD hS => ?_)
      obtain ⟨hq21, hO⟩ := hu21
      have hP : va_P g.1 vcl ([] ++ pl) _ := hP
      have hD : va_D _ ([] ++ pl) := hD
      refine W.widen (k := 0) (n := 0) (by omega) (by omega) ?_
      refine ty_iast hx hb hK hO k_f (nxg hc0 k_f rfl) hP hD hS (vp_in_nI (by omega) (by decide)) dME_read_28 (fun pl H locs hO hP hD hS => ?_)
      refine mi_iinc (k := 0) (x := i21) (d := 1) (y := i21 + 1) (lv' := [(4, .int (nI (i21 + 1))), (0, .ref fr), (1, .int (nI at_)), (2, .int (nI 12)), (3, .ref f)]) hx hb dME_read_29 hl rfl (by decide) rfl (by decide) rfl (fun ls hl => ?_)
      refine lv_goto (tgt := 3) hx hb dME_read_32 (by decide) ?_
      exact ih21 (i21 + 1) pl ls H locs (by omega) (lv_sub hl [0, 1, 2, 3, 4] rfl) hO hP hD hS
  exact lp21 256 0 pl ls _ _ (by omega) (lv_sub hl [0, 1, 2, 3, 4] rfl) hO hP hD hS
set_option maxHeartbeats 400000 in
set_option maxRecDepth 100000 in
theorem t_ME_less_1 (l : Launch) (g : Gd) (sz : Nat) (T : Ty) (xs : List Nat) (pl : va_W) (hO : okx g T xs pl) (hU : uni T) (hc0 : clo T xs 0) (f : Nat) (k_f : T f = some (0, 256))  : Met l y_ME_less w_ME_less ({ frames := 0, cells := 0, slots := 0, locals := 0 } : Room) (va_Pc [.ref f, .int (nI 1)] (pr (en g) g.1 vcl sz ([] ++ pl))) (va_Qv (fun (u : va_W) => (True) ∧ okx g T xs u) (po g.1 vcl (va_A ([] ++ pl) sz) (fun (u : va_W) => [] ++ u)) (va_A ([] ++ pl) sz)) 0 0 (va_A ([] ++ pl) sz) := by
  refine mc_entry (cc := c_ME_less) (maxL := 3) (ret := none) (by decide) rfl (Nat.le_of_ble_eq_true rfl) ?_
  intro p e s m args below meth c ls F hr hlk hnm hsz hP hD hE hA hl
  obtain ⟨hx, hb, hml, hown, hts⟩ := id F
  have hK := hE.1
  generalize va_A ([] ++ pl) sz = A at hD hE hA ⊢
  have hS : va_S A s.heap s.heap [] := va_S.rf
  have hl : lv_has ls 3 [(0, .ref f), (1, .int (nI 1))] := hl
  refine lv_iconst (v := nI 0) hx hb dME_less_0 (by decide) ?_
  refine lv_istore_n (lv' := [(2, .int (nI 0)), (0, .ref f), (1, .int (nI 1))]) hx hb dME_less_1 rfl hl (by decide) rfl (fun ls hl => ?_)
  have lp21 : ∀ (n21 : Nat) (i21 : Nat) (pl : va_W) (ls : Array Slot) (H : Heap) (locs : List Loc), n21 + i21 = 256 → lv_has ls 3 [(2, .int (nI i21)), (0, .ref f), (1, .int (nI 1))] → okx g T xs pl → va_P g.1 vcl ([] ++ pl) H → va_D A ([] ++ pl) → va_S A s.heap H locs → W p l e ({ frames := 0, cells := 0, slots := 0, locals := 0 } : Room) s m args below meth c H locs 0 0 (MQ below (va_Qv (fun (u : va_W) => (True) ∧ okx g T xs u) (po g.1 vcl A (fun (u : va_W) => [] ++ u)) A) args s 0 0 A) (F0 m 2 ls []) := by
    intro n21
    induction n21 with
    | zero =>
      intro i21 pl ls H locs hm21  hl hO hP hD hS
      refine lv_iload_n hx hb dME_less_2 rfl (lv_at hl 0 rfl) ?_
      refine lv_sipush (v := nI 256) hx hb dME_less_3 (by decide) ?_
      refine mi_ge (tgt := 37) hx hb dME_less_6 (by decide) (by omega) (by omega) (fun h21 => ?_) (fun h21 => absurd h21 (by omega))
      exact mp_vret hx hb hr hlk hP hD hS pl ⟨trivial, hO⟩ [] rfl rfl rfl (by omega) (by omega) dME_less_37
    | succ n21 ih21 =>
      intro i21 pl ls H locs hm21  hl hO hP hD hS
      refine lv_iload_n hx hb dME_less_2 rfl (lv_at hl 0 rfl) ?_
      refine lv_sipush (v := nI 256) hx hb dME_less_3 (by decide) ?_
      refine mi_ge (tgt := 37) hx hb dME_less_6 (by decide) (by omega) (by omega) (fun h22 => absurd h22 (by omega)) (fun h22 => ?_)
      refine lv_aload_n hx hb dME_less_9 rfl (lv_at hl 1 rfl) ?_
      refine lv_iload_n hx hb dME_less_10 rfl (lv_at hl 0 rfl) ?_
      refine lv_aload_n hx hb dME_less_11 rfl (lv_at hl 1 rfl) ?_
      refine lv_iload_n hx hb dME_less_12 rfl (lv_at hl 0 rfl) ?_
      refine ty_iald hx hb hK hO k_f (nxg hc0 k_f rfl) hP (vp_in_nI (by omega) (by decide)) dME_less_13 (fun z21 => ?_)
      refine lv_iload_n hx hb dME_less_14 rfl (lv_at hl 2 rfl) ?_
      refine lv_iconst (v := nI 1) hx hb dME_less_15 (by decide) ?_
      refine mi_iadd hx hb dME_less_16 ?_
      refine mi_as (show nI (1 + 1) = nI 2 from rfl) ?_
      refine lv_ishl hx hb dME_less_17 ?_
      refine mi_any (fun z22 => ?_)
      refine lv_sipush (v := nI 3329) hx hb dME_less_18 (by decide) ?_
      refine lv_iadd hx hb dME_less_21 ?_
      refine mi_any (fun z23 => ?_)
      refine lv_sipush (v := nI 6658) hx hb dME_less_22 (by decide) ?_
      refine lv_idiv hx hb dME_less_25 (nI_ne0 (by omega) (by omega)) ?_
      refine mi_any (fun z24 => ?_)
      refine lv_iconst (v := nI 1) hx hb dME_less_26 (by decide) ?_
      refine lv_iload_n hx hb dME_less_27 rfl (lv_at hl 2 rfl) ?_
      refine mi_ishl hx hb dME_less_28 (by decide) (by decide) ?_
      refine mi_as (show nI (1 * 2 ^ 1) = nI 2 from rfl) ?_
      refine lv_irem hx hb dME_less_29 (nI_ne0 (by omega) (by omega)) ?_
      refine mi_any (fun z25 => ?_)
      refine ty_iast hx hb hK hO k_f (nxg hc0 k_f rfl) hP hD hS (vp_in_nI (by omega) (by decide)) dME_less_30 (fun pl H locs hO hP hD hS => ?_)
      refine mi_iinc (k := 0) (x := i21) (d := 1) (y := i21 + 1) (lv' := [(2, .int (nI (i21 + 1))), (0, .ref f), (1, .int (nI 1))]) hx hb dME_less_31 hl rfl (by decide) rfl (by decide) rfl (fun ls hl => ?_)
      refine lv_goto (tgt := 2) hx hb dME_less_34 (by decide) ?_
      exact ih21 (i21 + 1) pl ls H locs (by omega) (lv_sub hl [0, 1, 2] rfl) hO hP hD hS
  exact lp21 256 0 pl ls _ _ (by omega) (lv_sub hl [0, 1, 2] rfl) hO hP hD hS
set_option maxHeartbeats 400000 in
set_option maxRecDepth 100000 in
theorem t_ME_less_4 (l : Launch) (g : Gd) (sz : Nat) (T : Ty) (xs : List Nat) (pl : va_W) (hO : okx g T xs pl) (hU : uni T) (hc0 : clo T xs 0) (f : Nat) (k_f : T f = some (0, 256))  : Met l y_ME_less w_ME_less ({ frames := 0, cells := 0, slots := 0, locals := 0 } : Room) (va_Pc [.ref f, .int (nI 4)] (pr (en g) g.1 vcl sz ([] ++ pl))) (va_Qv (fun (u : va_W) => (True) ∧ okx g T xs u) (po g.1 vcl (va_A ([] ++ pl) sz) (fun (u : va_W) => [] ++ u)) (va_A ([] ++ pl) sz)) 0 0 (va_A ([] ++ pl) sz) := by
  refine mc_entry (cc := c_ME_less) (maxL := 3) (ret := none) (by decide) rfl (Nat.le_of_ble_eq_true rfl) ?_
  intro p e s m args below meth c ls F hr hlk hnm hsz hP hD hE hA hl
  obtain ⟨hx, hb, hml, hown, hts⟩ := id F
  have hK := hE.1
  generalize va_A ([] ++ pl) sz = A at hD hE hA ⊢
  have hS : va_S A s.heap s.heap [] := va_S.rf
  have hl : lv_has ls 3 [(0, .ref f), (1, .int (nI 4))] := hl
  refine lv_iconst (v := nI 0) hx hb dME_less_0 (by decide) ?_
  refine lv_istore_n (lv' := [(2, .int (nI 0)), (0, .ref f), (1, .int (nI 4))]) hx hb dME_less_1 rfl hl (by decide) rfl (fun ls hl => ?_)
  have lp21 : ∀ (n21 : Nat) (i21 : Nat) (pl : va_W) (ls : Array Slot) (H : Heap) (locs : List Loc), n21 + i21 = 256 → lv_has ls 3 [(2, .int (nI i21)), (0, .ref f), (1, .int (nI 4))] → okx g T xs pl → va_P g.1 vcl ([] ++ pl) H → va_D A ([] ++ pl) → va_S A s.heap H locs → W p l e ({ frames := 0, cells := 0, slots := 0, locals := 0 } : Room) s m args below meth c H locs 0 0 (MQ below (va_Qv (fun (u : va_W) => (True) ∧ okx g T xs u) (po g.1 vcl A (fun (u : va_W) => [] ++ u)) A) args s 0 0 A) (F0 m 2 ls []) := by
    intro n21
    induction n21 with
    | zero =>
      intro i21 pl ls H locs hm21  hl hO hP hD hS
      refine lv_iload_n hx hb dME_less_2 rfl (lv_at hl 0 rfl) ?_
      refine lv_sipush (v := nI 256) hx hb dME_less_3 (by decide) ?_
      refine mi_ge (tgt := 37) hx hb dME_less_6 (by decide) (by omega) (by omega) (fun h21 => ?_) (fun h21 => absurd h21 (by omega))
      exact mp_vret hx hb hr hlk hP hD hS pl ⟨trivial, hO⟩ [] rfl rfl rfl (by omega) (by omega) dME_less_37
    | succ n21 ih21 =>
      intro i21 pl ls H locs hm21  hl hO hP hD hS
      refine lv_iload_n hx hb dME_less_2 rfl (lv_at hl 0 rfl) ?_
      refine lv_sipush (v := nI 256) hx hb dME_less_3 (by decide) ?_
      refine mi_ge (tgt := 37) hx hb dME_less_6 (by decide) (by omega) (by omega) (fun h22 => absurd h22 (by omega)) (fun h22 => ?_)
      refine lv_aload_n hx hb dME_less_9 rfl (lv_at hl 1 rfl) ?_
      refine lv_iload_n hx hb dME_less_10 rfl (lv_at hl 0 rfl) ?_
      refine lv_aload_n hx hb dME_less_11 rfl (lv_at hl 1 rfl) ?_
      refine lv_iload_n hx hb dME_less_12 rfl (lv_at hl 0 rfl) ?_
      refine ty_iald hx hb hK hO k_f (nxg hc0 k_f rfl) hP (vp_in_nI (by omega) (by decide)) dME_less_13 (fun z21 => ?_)
      refine lv_iload_n hx hb dME_less_14 rfl (lv_at hl 2 rfl) ?_
      refine lv_iconst (v := nI 1) hx hb dME_less_15 (by decide) ?_
      refine mi_iadd hx hb dME_less_16 ?_
      refine mi_as (show nI (4 + 1) = nI 5 from rfl) ?_
      refine lv_ishl hx hb dME_less_17 ?_
      refine mi_any (fun z22 => ?_)
      refine lv_sipush (v := nI 3329) hx hb dME_less_18 (by decide) ?_
      refine lv_iadd hx hb dME_less_21 ?_
      refine mi_any (fun z23 => ?_)
      refine lv_sipush (v := nI 6658) hx hb dME_less_22 (by decide) ?_
      refine lv_idiv hx hb dME_less_25 (nI_ne0 (by omega) (by omega)) ?_
      refine mi_any (fun z24 => ?_)
      refine lv_iconst (v := nI 1) hx hb dME_less_26 (by decide) ?_
      refine lv_iload_n hx hb dME_less_27 rfl (lv_at hl 2 rfl) ?_
      refine mi_ishl hx hb dME_less_28 (by decide) (by decide) ?_
      refine mi_as (show nI (1 * 2 ^ 4) = nI 16 from rfl) ?_
      refine lv_irem hx hb dME_less_29 (nI_ne0 (by omega) (by omega)) ?_
      refine mi_any (fun z25 => ?_)
      refine ty_iast hx hb hK hO k_f (nxg hc0 k_f rfl) hP hD hS (vp_in_nI (by omega) (by decide)) dME_less_30 (fun pl H locs hO hP hD hS => ?_)
      refine mi_iinc (k := 0) (x := i21) (d := 1) (y := i21 + 1) (lv' := [(2, .int (nI (i21 + 1))), (0, .ref f), (1, .int (nI 4))]) hx hb dME_less_31 hl rfl (by decide) rfl (by decide) rfl (fun ls hl => ?_)
      refine lv_goto (tgt := 2) hx hb dME_less_34 (by decide) ?_
      exact ih21 (i21 + 1) pl ls H locs (by omega) (lv_sub hl [0, 1, 2] rfl) hO hP hD hS
  exact lp21 256 0 pl ls _ _ (by omega) (lv_sub hl [0, 1, 2] rfl) hO hP hD hS
set_option maxHeartbeats 400000 in
set_option maxRecDepth 100000 in
theorem t_ME_less_5 (l : Launch) (g : Gd) (sz : Nat) (T : Ty) (xs : List Nat) (pl : va_W) (hO : okx g T xs pl) (hU : uni T) (hc0 : clo T xs 0) (f : Nat) (k_f : T f = some (0, 256))  : Met l y_ME_less w_ME_less ({ frames := 0, cells := 0, slots := 0, locals := 0 } : Room) (va_Pc [.ref f, .int (nI 5)] (pr (en g) g.1 vcl sz ([] ++ pl))) (va_Qv (fun (u : va_W) => (True) ∧ okx g T xs u) (po g.1 vcl (va_A ([] ++ pl) sz) (fun (u : va_W) => [] ++ u)) (va_A ([] ++ pl) sz)) 0 0 (va_A ([] ++ pl) sz) := by
  refine mc_entry (cc := c_ME_less) (maxL := 3) (ret := none) (by decide) rfl (Nat.le_of_ble_eq_true rfl) ?_
  intro p e s m args below meth c ls F hr hlk hnm hsz hP hD hE hA hl
  obtain ⟨hx, hb, hml, hown, hts⟩ := id F
  have hK := hE.1
  generalize va_A ([] ++ pl) sz = A at hD hE hA ⊢
  have hS : va_S A s.heap s.heap [] := va_S.rf
  have hl : lv_has ls 3 [(0, .ref f), (1, .int (nI 5))] := hl
  refine lv_iconst (v := nI 0) hx hb dME_less_0 (by decide) ?_
  refine lv_istore_n (lv' := [(2, .int (nI 0)), (0, .ref f), (1, .int (nI 5))]) hx hb dME_less_1 rfl hl (by decide) rfl (fun ls hl => ?_)
  have lp21 : ∀ (n21 : Nat) (i21 : Nat) (pl : va_W) (ls : Array Slot) (H : Heap) (locs : List Loc), n21 + i21 = 256 → lv_has ls 3 [(2, .int (nI i21)), (0, .ref f), (1, .int (nI 5))] → okx g T xs pl → va_P g.1 vcl ([] ++ pl) H → va_D A ([] ++ pl) → va_S A s.heap H locs → W p l e ({ frames := 0, cells := 0, slots := 0, locals := 0 } : Room) s m args below meth c H locs 0 0 (MQ below (va_Qv (fun (u : va_W) => (True) ∧ okx g T xs u) (po g.1 vcl A (fun (u : va_W) => [] ++ u)) A) args s 0 0 A) (F0 m 2 ls []) := by
    intro n21
    induction n21 with
    | zero =>
      intro i21 pl ls H locs hm21  hl hO hP hD hS
      refine lv_iload_n hx hb dME_less_2 rfl (lv_at hl 0 rfl) ?_
      refine lv_sipush (v := nI 256) hx hb dME_less_3 (by decide) ?_
      refine mi_ge (tgt := 37) hx hb dME_less_6 (by decide) (by omega) (by omega) (fun h21 => ?_) (fun h21 => absurd h21 (by omega))
      exact mp_vret hx hb hr hlk hP hD hS pl ⟨trivial, hO⟩ [] rfl rfl rfl (by omega) (by omega) dME_less_37
    | succ n21 ih21 =>
      intro i21 pl ls H locs hm21  hl hO hP hD hS
      refine lv_iload_n hx hb dME_less_2 rfl (lv_at hl 0 rfl) ?_
      refine lv_sipush (v := nI 256) hx hb dME_less_3 (by decide) ?_
      refine mi_ge (tgt := 37) hx hb dME_less_6 (by decide) (by omega) (by omega) (fun h22 => absurd h22 (by omega)) (fun h22 => ?_)
      refine lv_aload_n hx hb dME_less_9 rfl (lv_at hl 1 rfl) ?_
      refine lv_iload_n hx hb dME_less_10 rfl (lv_at hl 0 rfl) ?_
      refine lv_aload_n hx hb dME_less_11 rfl (lv_at hl 1 rfl) ?_
      refine lv_iload_n hx hb dME_less_12 rfl (lv_at hl 0 rfl) ?_
      refine ty_iald hx hb hK hO k_f (nxg hc0 k_f rfl) hP (vp_in_nI (by omega) (by decide)) dME_less_13 (fun z21 => ?_)
      refine lv_iload_n hx hb dME_less_14 rfl (lv_at hl 2 rfl) ?_
      refine lv_iconst (v := nI 1) hx hb dME_less_15 (by decide) ?_
      refine mi_iadd hx hb dME_less_16 ?_
      refine mi_as (show nI (5 + 1) = nI 6 from rfl) ?_
      refine lv_ishl hx hb dME_less_17 ?_
      refine mi_any (fun z22 => ?_)
      refine lv_sipush (v := nI 3329) hx hb dME_less_18 (by decide) ?_
      refine lv_iadd hx hb dME_less_21 ?_
      refine mi_any (fun z23 => ?_)
      refine lv_sipush (v := nI 6658) hx hb dME_less_22 (by decide) ?_
      refine lv_idiv hx hb dME_less_25 (nI_ne0 (by omega) (by omega)) ?_
      refine mi_any (fun z24 => ?_)
      refine lv_iconst (v := nI 1) hx hb dME_less_26 (by decide) ?_
      refine lv_iload_n hx hb dME_less_27 rfl (lv_at hl 2 rfl) ?_
      refine mi_ishl hx hb dME_less_28 (by decide) (by decide) ?_
      refine mi_as (show nI (1 * 2 ^ 5) = nI 32 from rfl) ?_
      refine lv_irem hx hb dME_less_29 (nI_ne0 (by omega) (by omega)) ?_
      refine mi_any (fun z25 => ?_)
      refine ty_iast hx hb hK hO k_f (nxg hc0 k_f rfl) hP hD hS (vp_in_nI (by omega) (by decide)) dME_less_30 (fun pl H locs hO hP hD hS => ?_)
      refine mi_iinc (k := 0) (x := i21) (d := 1) (y := i21 + 1) (lv' := [(2, .int (nI (i21 + 1))), (0, .ref f), (1, .int (nI 5))]) hx hb dME_less_31 hl rfl (by decide) rfl (by decide) rfl (fun ls hl => ?_)
      refine lv_goto (tgt := 2) hx hb dME_less_34 (by decide) ?_
      exact ih21 (i21 + 1) pl ls H locs (by omega) (lv_sub hl [0, 1, 2] rfl) hO hP hD hS
  exact lp21 256 0 pl ls _ _ (by omega) (lv_sub hl [0, 1, 2] rfl) hO hP hD hS
set_option maxHeartbeats 400000 in
set_option maxRecDepth 100000 in
theorem t_ME_less_10 (l : Launch) (g : Gd) (sz : Nat) (T : Ty) (xs : List Nat) (pl : va_W) (hO : okx g T xs pl) (hU : uni T) (hc0 : clo T xs 0) (f : Nat) (k_f : T f = some (0, 256))  : Met l y_ME_less w_ME_less ({ frames := 0, cells := 0, slots := 0, locals := 0 } : Room) (va_Pc [.ref f, .int (nI 10)] (pr (en g) g.1 vcl sz ([] ++ pl))) (va_Qv (fun (u : va_W) => (True) ∧ okx g T xs u) (po g.1 vcl (va_A ([] ++ pl) sz) (fun (u : va_W) => [] ++ u)) (va_A ([] ++ pl) sz)) 0 0 (va_A ([] ++ pl) sz) := by
  refine mc_entry (cc := c_ME_less) (maxL := 3) (ret := none) (by decide) rfl (Nat.le_of_ble_eq_true rfl) ?_
  intro p e s m args below meth c ls F hr hlk hnm hsz hP hD hE hA hl
  obtain ⟨hx, hb, hml, hown, hts⟩ := id F
  have hK := hE.1
  generalize va_A ([] ++ pl) sz = A at hD hE hA ⊢
  have hS : va_S A s.heap s.heap [] := va_S.rf
  have hl : lv_has ls 3 [(0, .ref f), (1, .int (nI 10))] := hl
  refine lv_iconst (v := nI 0) hx hb dME_less_0 (by decide) ?_
  refine lv_istore_n (lv' := [(2, .int (nI 0)), (0, .ref f), (1, .int (nI 10))]) hx hb dME_less_1 rfl hl (by decide) rfl (fun ls hl => ?_)
  have lp21 : ∀ (n21 : Nat) (i21 : Nat) (pl : va_W) (ls : Array Slot) (H : Heap) (locs : List Loc), n21 + i21 = 256 → lv_has ls 3 [(2, .int (nI i21)), (0, .ref f), (1, .int (nI 10))] → okx g T xs pl → va_P g.1 vcl ([] ++ pl) H → va_D A ([] ++ pl) → va_S A s.heap H locs → W p l e ({ frames := 0, cells := 0, slots := 0, locals := 0 } : Room) s m args below meth c H locs 0 0 (MQ below (va_Qv (fun (u : va_W) => (True) ∧ okx g T xs u) (po g.1 vcl A (fun (u : va_W) => [] ++ u)) A) args s 0 0 A) (F0 m 2 ls []) := by
    intro n21
    induction n21 with
    | zero =>
      intro i21 pl ls H locs hm21  hl hO hP hD hS
      refine lv_iload_n hx hb dME_less_2 rfl (lv_at hl 0 rfl) ?_
      refine lv_sipush (v := nI 256) hx hb dME_less_3 (by decide) ?_
      refine mi_ge (tgt := 37) hx hb dME_less_6 (by decide) (by omega) (by omega) (fun h21 => ?_) (fun h21 => absurd h21 (by omega))
      exact mp_vret hx hb hr hlk hP hD hS pl ⟨trivial, hO⟩ [] rfl rfl rfl (by omega) (by omega) dME_less_37
    | succ n21 ih21 =>
      intro i21 pl ls H locs hm21  hl hO hP hD hS
      refine lv_iload_n hx hb dME_less_2 rfl (lv_at hl 0 rfl) ?_
      refine lv_sipush (v := nI 256) hx hb dME_less_3 (by decide) ?_
      refine mi_ge (tgt := 37) hx hb dME_less_6 (by decide) (by omega) (by omega) (fun h22 => absurd h22 (by omega)) (fun h22 => ?_)
      refine lv_aload_n hx hb dME_less_9 rfl (lv_at hl 1 rfl) ?_
      refine lv_iload_n hx hb dME_less_10 rfl (lv_at hl 0 rfl) ?_
      refine lv_aload_n hx hb dME_less_11 rfl (lv_at hl 1 rfl) ?_
      refine lv_iload_n hx hb dME_less_12 rfl (lv_at hl 0 rfl) ?_
      refine ty_iald hx hb hK hO k_f (nxg hc0 k_f rfl) hP (vp_in_nI (by omega) (by decide)) dME_less_13 (fun z21 => ?_)
      refine lv_iload_n hx hb dME_less_14 rfl (lv_at hl 2 rfl) ?_
      refine lv_iconst (v := nI 1) hx hb dME_less_15 (by decide) ?_
      refine mi_iadd hx hb dME_less_16 ?_
      refine mi_as (show nI (10 + 1) = nI 11 from rfl) ?_
      refine lv_ishl hx hb dME_less_17 ?_
      refine mi_any (fun z22 => ?_)
      refine lv_sipush (v := nI 3329) hx hb dME_less_18 (by decide) ?_
      refine lv_iadd hx hb dME_less_21 ?_
      refine mi_any (fun z23 => ?_)
      refine lv_sipush (v := nI 6658) hx hb dME_less_22 (by decide) ?_
      refine lv_idiv hx hb dME_less_25 (nI_ne0 (by omega) (by omega)) ?_
      refine mi_any (fun z24 => ?_)
      refine lv_iconst (v := nI 1) hx hb dME_less_26 (by decide) ?_
      refine lv_iload_n hx hb dME_less_27 rfl (lv_at hl 2 rfl) ?_
      refine mi_ishl hx hb dME_less_28 (by decide) (by decide) ?_
      refine mi_as (show nI (1 * 2 ^ 10) = nI 1024 from rfl) ?_
      refine lv_irem hx hb dME_less_29 (nI_ne0 (by omega) (by omega)) ?_
      refine mi_any (fun z25 => ?_)
      refine ty_iast hx hb hK hO k_f (nxg hc0 k_f rfl) hP hD hS (vp_in_nI (by omega) (by decide)) dME_less_30 (fun pl H locs hO hP hD hS => ?_)
      refine mi_iinc (k := 0) (x := i21) (d := 1) (y := i21 + 1) (lv' := [(2, .int (nI (i21 + 1))), (0, .ref f), (1, .int (nI 10))]) hx hb dME_less_31 hl rfl (by decide) rfl (by decide) rfl (fun ls hl => ?_)
      refine lv_goto (tgt := 2) hx hb dME_less_34 (by decide) ?_
      exact ih21 (i21 + 1) pl ls H locs (by omega) (lv_sub hl [0, 1, 2] rfl) hO hP hD hS
  exact lp21 256 0 pl ls _ _ (by omega) (lv_sub hl [0, 1, 2] rfl) hO hP hD hS
set_option maxHeartbeats 400000 in
set_option maxRecDepth 100000 in
theorem t_ME_less_11 (l : Launch) (g : Gd) (sz : Nat) (T : Ty) (xs : List Nat) (pl : va_W) (hO : okx g T xs pl) (hU : uni T) (hc0 : clo T xs 0) (f : Nat) (k_f : T f = some (0, 256))  : Met l y_ME_less w_ME_less ({ frames := 0, cells := 0, slots := 0, locals := 0 } : Room) (va_Pc [.ref f, .int (nI 11)] (pr (en g) g.1 vcl sz ([] ++ pl))) (va_Qv (fun (u : va_W) => (True) ∧ okx g T xs u) (po g.1 vcl (va_A ([] ++ pl) sz) (fun (u : va_W) => [] ++ u)) (va_A ([] ++ pl) sz)) 0 0 (va_A ([] ++ pl) sz) := by
  refine mc_entry (cc := c_ME_less) (maxL := 3) (ret := none) (by decide) rfl (Nat.le_of_ble_eq_true rfl) ?_
  intro p e s m args below meth c ls F hr hlk hnm hsz hP hD hE hA hl
  obtain ⟨hx, hb, hml, hown, hts⟩ := id F
  have hK := hE.1
  generalize va_A ([] ++ pl) sz = A at hD hE hA ⊢
  have hS : va_S A s.heap s.heap [] := va_S.rf
  have hl : lv_has ls 3 [(0, .ref f), (1, .int (nI 11))] := hl
  refine lv_iconst (v := nI 0) hx hb dME_less_0 (by decide) ?_
  refine lv_istore_n (lv' := [(2, .int (nI 0)), (0, .ref f), (1, .int (nI 11))]) hx hb dME_less_1 rfl hl (by decide) rfl (fun ls hl => ?_)
  have lp21 : ∀ (n21 : Nat) (i21 : Nat) (pl : va_W) (ls : Array Slot) (H : Heap) (locs : List Loc), n21 + i21 = 256 → lv_has ls 3 [(2, .int (nI i21)), (0, .ref f), (1, .int (nI 11))] → okx g T xs pl → va_P g.1 vcl ([] ++ pl) H → va_D A ([] ++ pl) → va_S A s.heap H locs → W p l e ({ frames := 0, cells := 0, slots := 0, locals := 0 } : Room) s m args below meth c H locs 0 0 (MQ below (va_Qv (fun (u : va_W) => (True) ∧ okx g T xs u) (po g.1 vcl A (fun (u : va_W) => [] ++ u)) A) args s 0 0 A) (F0 m 2 ls []) := by
    intro n21
    induction n21 with
    | zero =>
      intro i21 pl ls H locs hm21  hl hO hP hD hS
      refine lv_iload_n hx hb dME_less_2 rfl (lv_at hl 0 rfl) ?_
      refine lv_sipush (v := nI 256) hx hb dME_less_3 (by decide) ?_
      refine mi_ge (tgt := 37) hx hb dME_less_6 (by decide) (by omega) (by omega) (fun h21 => ?_) (fun h21 => absurd h21 (by omega))
      exact mp_vret hx hb hr hlk hP hD hS pl ⟨trivial, hO⟩ [] rfl rfl rfl (by omega) (by omega) dME_less_37
    | succ n21 ih21 =>
      intro i21 pl ls H locs hm21  hl hO hP hD hS
      refine lv_iload_n hx hb dME_less_2 rfl (lv_at hl 0 rfl) ?_
      refine lv_sipush (v := nI 256) hx hb dME_less_3 (by decide) ?_
      refine mi_ge (tgt := 37) hx hb dME_less_6 (by decide) (by omega) (by omega) (fun h22 => absurd h22 (by omega)) (fun h22 => ?_)
      refine lv_aload_n hx hb dME_less_9 rfl (lv_at hl 1 rfl) ?_
      refine lv_iload_n hx hb dME_less_10 rfl (lv_at hl 0 rfl) ?_
      refine lv_aload_n hx hb dME_less_11 rfl (lv_at hl 1 rfl) ?_
      refine lv_iload_n hx hb dME_less_12 rfl (lv_at hl 0 rfl) ?_
      refine ty_iald hx hb hK hO k_f (nxg hc0 k_f rfl) hP (vp_in_nI (by omega) (by decide)) dME_less_13 (fun z21 => ?_)
      refine lv_iload_n hx hb dME_less_14 rfl (lv_at hl 2 rfl) ?_
      refine lv_iconst (v := nI 1) hx hb dME_less_15 (by decide) ?_
      refine mi_iadd hx hb dME_less_16 ?_
      refine mi_as (show nI (11 + 1) = nI 12 from rfl) ?_
      refine lv_ishl hx hb dME_less_17 ?_
      refine mi_any (fun z22 => ?_)
      refine lv_sipush (v := nI 3329) hx hb dME_less_18 (by decide) ?_
      refine lv_iadd hx hb dME_less_21 ?_
      refine mi_any (fun z23 => ?_)
      refine lv_sipush (v := nI 6658) hx hb dME_less_22 (by decide) ?_
      refine lv_idiv hx hb dME_less_25 (nI_ne0 (by omega) (by omega)) ?_
      refine mi_any (fun z24 => ?_)
      refine lv_iconst (v := nI 1) hx hb dME_less_26 (by decide) ?_
      refine lv_iload_n hx hb dME_less_27 rfl (lv_at hl 2 rfl) ?_
      refine mi_ishl hx hb dME_less_28 (by decide) (by decide) ?_
      refine mi_as (show nI (1 * 2 ^ 11) = nI 2048 from rfl) ?_
      refine lv_irem hx hb dME_less_29 (nI_ne0 (by omega) (by omega)) ?_
      refine mi_any (fun z25 => ?_)
      refine ty_iast hx hb hK hO k_f (nxg hc0 k_f rfl) hP hD hS (vp_in_nI (by omega) (by decide)) dME_less_30 (fun pl H locs hO hP hD hS => ?_)
      refine mi_iinc (k := 0) (x := i21) (d := 1) (y := i21 + 1) (lv' := [(2, .int (nI (i21 + 1))), (0, .ref f), (1, .int (nI 11))]) hx hb dME_less_31 hl rfl (by decide) rfl (by decide) rfl (fun ls hl => ?_)
      refine lv_goto (tgt := 2) hx hb dME_less_34 (by decide) ?_
      exact ih21 (i21 + 1) pl ls H locs (by omega) (lv_sub hl [0, 1, 2] rfl) hO hP hD hS
  exact lp21 256 0 pl ls _ _ (by omega) (lv_sub hl [0, 1, 2] rfl) hO hP hD hS
set_option maxHeartbeats 400000 in
set_option maxRecDepth 100000 in
theorem t_ME_less_12 (l : Launch) (g : Gd) (sz : Nat) (T : Ty) (xs : List Nat) (pl : va_W) (hO : okx g T xs pl) (hU : uni T) (hc0 : clo T xs 0) (f : Nat) (k_f : T f = some (0, 256))  : Met l y_ME_less w_ME_less ({ frames := 0, cells := 0, slots := 0, locals := 0 } : Room) (va_Pc [.ref f, .int (nI 12)] (pr (en g) g.1 vcl sz ([] ++ pl))) (va_Qv (fun (u : va_W) => (True) ∧ okx g T xs u) (po g.1 vcl (va_A ([] ++ pl) sz) (fun (u : va_W) => [] ++ u)) (va_A ([] ++ pl) sz)) 0 0 (va_A ([] ++ pl) sz) := by
  refine mc_entry (cc := c_ME_less) (maxL := 3) (ret := none) (by decide) rfl (Nat.le_of_ble_eq_true rfl) ?_
  intro p e s m args below meth c ls F hr hlk hnm hsz hP hD hE hA hl
  obtain ⟨hx, hb, hml, hown, hts⟩ := id F
  have hK := hE.1
  generalize va_A ([] ++ pl) sz = A at hD hE hA ⊢
  have hS : va_S A s.heap s.heap [] := va_S.rf
  have hl : lv_has ls 3 [(0, .ref f), (1, .int (nI 12))] := hl
  refine lv_iconst (v := nI 0) hx hb dME_less_0 (by decide) ?_
  refine lv_istore_n (lv' := [(2, .int (nI 0)), (0, .ref f), (1, .int (nI 12))]) hx hb dME_less_1 rfl hl (by decide) rfl (fun ls hl => ?_)
  have lp21 : ∀ (n21 : Nat) (i21 : Nat) (pl : va_W) (ls : Array Slot) (H : Heap) (locs : List Loc), n21 + i21 = 256 → lv_has ls 3 [(2, .int (nI i21)), (0, .ref f), (1, .int (nI 12))] → okx g T xs pl → va_P g.1 vcl ([] ++ pl) H → va_D A ([] ++ pl) → va_S A s.heap H locs → W p l e ({ frames := 0, cells := 0, slots := 0, locals := 0 } : Room) s m args below meth c H locs 0 0 (MQ below (va_Qv (fun (u : va_W) => (True) ∧ okx g T xs u) (po g.1 vcl A (fun (u : va_W) => [] ++ u)) A) args s 0 0 A) (F0 m 2 ls []) := by
    intro n21
    induction n21 with
    | zero =>
      intro i21 pl ls H locs hm21  hl hO hP hD hS
      refine lv_iload_n hx hb dME_less_2 rfl (lv_at hl 0 rfl) ?_
      refine lv_sipush (v := nI 256) hx hb dME_less_3 (by decide) ?_
      refine mi_ge (tgt := 37) hx hb dME_less_6 (by decide) (by omega) (by omega) (fun h21 => ?_) (fun h21 => absurd h21 (by omega))
      exact mp_vret hx hb hr hlk hP hD hS pl ⟨trivial, hO⟩ [] rfl rfl rfl (by omega) (by omega) dME_less_37
    | succ n21 ih21 =>
      intro i21 pl ls H locs hm21  hl hO hP hD hS
      refine lv_iload_n hx hb dME_less_2 rfl (lv_at hl 0 rfl) ?_
      refine lv_sipush (v := nI 256) hx hb dME_less_3 (by decide) ?_
      refine mi_ge (tgt := 37) hx hb dME_less_6 (by decide) (by omega) (by omega) (fun h22 => absurd h22 (by omega)) (fun h22 => ?_)
      refine lv_aload_n hx hb dME_less_9 rfl (lv_at hl 1 rfl) ?_
      refine lv_iload_n hx hb dME_less_10 rfl (lv_at hl 0 rfl) ?_
      refine lv_aload_n hx hb dME_less_11 rfl (lv_at hl 1 rfl) ?_
      refine lv_iload_n hx hb dME_less_12 rfl (lv_at hl 0 rfl) ?_
      refine ty_iald hx hb hK hO k_f (nxg hc0 k_f rfl) hP (vp_in_nI (by omega) (by decide)) dME_less_13 (fun z21 => ?_)
      refine lv_iload_n hx hb dME_less_14 rfl (lv_at hl 2 rfl) ?_
      refine lv_iconst (v := nI 1) hx hb dME_less_15 (by decide) ?_
      refine mi_iadd hx hb dME_less_16 ?_
      refine mi_as (show nI (12 + 1) = nI 13 from rfl) ?_
      refine lv_ishl hx hb dME_less_17 ?_
      refine mi_any (fun z22 => ?_)
      refine lv_sipush (v := nI 3329) hx hb dME_less_18 (by decide) ?_
      refine lv_iadd hx hb dME_less_21 ?_
      refine mi_any (fun z23 => ?_)
      refine lv_sipush (v := nI 6658) hx hb dME_less_22 (by decide) ?_
      refine lv_idiv hx hb dME_less_25 (nI_ne0 (by omega) (by omega)) ?_
      refine mi_any (fun z24 => ?_)
      refine lv_iconst (v := nI 1) hx hb dME_less_26 (by decide) ?_
      refine lv_iload_n hx hb dME_less_27 rfl (lv_at hl 2 rfl) ?_
      refine mi_ishl hx hb dME_less_28 (by decide) (by decide) ?_
      refine mi_as (show nI (1 * 2 ^ 12) = nI 4096 from rfl) ?_
      refine lv_irem hx hb dME_less_29 (nI_ne0 (by omega) (by omega)) ?_
      refine mi_any (fun z25 => ?_)
      refine ty_iast hx hb hK hO k_f (nxg hc0 k_f rfl) hP hD hS (vp_in_nI (by omega) (by decide)) dME_less_30 (fun pl H locs hO hP hD hS => ?_)
      refine mi_iinc (k := 0) (x := i21) (d := 1) (y := i21 + 1) (lv' := [(2, .int (nI (i21 + 1))), (0, .ref f), (1, .int (nI 12))]) hx hb dME_less_31 hl rfl (by decide) rfl (by decide) rfl (fun ls hl => ?_)
      refine lv_goto (tgt := 2) hx hb dME_less_34 (by decide) ?_
      exact ih21 (i21 + 1) pl ls H locs (by omega) (lv_sub hl [0, 1, 2] rfl) hO hP hD hS
  exact lp21 256 0 pl ls _ _ (by omega) (lv_sub hl [0, 1, 2] rfl) hO hP hD hS
set_option maxHeartbeats 400000 in
set_option maxRecDepth 100000 in
theorem t_ME_more_1 (l : Launch) (g : Gd) (sz : Nat) (T : Ty) (xs : List Nat) (pl : va_W) (hO : okx g T xs pl) (hU : uni T) (hc0 : clo T xs 0) (f : Nat) (k_f : T f = some (0, 256))  : Met l y_ME_more w_ME_more ({ frames := 0, cells := 0, slots := 0, locals := 0 } : Room) (va_Pc [.ref f, .int (nI 1)] (pr (en g) g.1 vcl sz ([] ++ pl))) (va_Qv (fun (u : va_W) => (True) ∧ okx g T xs u) (po g.1 vcl (va_A ([] ++ pl) sz) (fun (u : va_W) => [] ++ u)) (va_A ([] ++ pl) sz)) 0 0 (va_A ([] ++ pl) sz) := by
  refine mc_entry (cc := c_ME_more) (maxL := 3) (ret := none) (by decide) rfl (Nat.le_of_ble_eq_true rfl) ?_
  intro p e s m args below meth c ls F hr hlk hnm hsz hP hD hE hA hl
  obtain ⟨hx, hb, hml, hown, hts⟩ := id F
  have hK := hE.1
  generalize va_A ([] ++ pl) sz = A at hD hE hA ⊢
  have hS : va_S A s.heap s.heap [] := va_S.rf
  have hl : lv_has ls 3 [(0, .ref f), (1, .int (nI 1))] := hl
  refine lv_iconst (v := nI 0) hx hb dME_more_0 (by decide) ?_
  refine lv_istore_n (lv' := [(2, .int (nI 0)), (0, .ref f), (1, .int (nI 1))]) hx hb dME_more_1 rfl hl (by decide) rfl (fun ls hl => ?_)
  have lp21 : ∀ (n21 : Nat) (i21 : Nat) (pl : va_W) (ls : Array Slot) (H : Heap) (locs : List Loc), n21 + i21 = 256 → lv_has ls 3 [(2, .int (nI i21)), (0, .ref f), (1, .int (nI 1))] → okx g T xs pl → va_P g.1 vcl ([] ++ pl) H → va_D A ([] ++ pl) → va_S A s.heap H locs → W p l e ({ frames := 0, cells := 0, slots := 0, locals := 0 } : Room) s m args below meth c H locs 0 0 (MQ below (va_Qv (fun (u : va_W) => (True) ∧ okx g T xs u) (po g.1 vcl A (fun (u : va_W) => [] ++ u)) A) args s 0 0 A) (F0 m 2 ls []) := by
    intro n21
    induction n21 with
    | zero =>
      intro i21 pl ls H locs hm21  hl hO hP hD hS
      refine lv_iload_n hx hb dME_more_2 rfl (lv_at hl 0 rfl) ?_
      refine lv_sipush (v := nI 256) hx hb dME_more_3 (by decide) ?_
      refine mi_ge (tgt := 33) hx hb dME_more_6 (by decide) (by omega) (by omega) (fun h21 => ?_) (fun h21 => absurd h21 (by omega))
      exact mp_vret hx hb hr hlk hP hD hS pl ⟨trivial, hO⟩ [] rfl rfl rfl (by omega) (by omega) dME_more_33
    | succ n21 ih21 =>
      intro i21 pl ls H locs hm21  hl hO hP hD hS
      refine lv_iload_n hx hb dME_more_2 rfl (lv_at hl 0 rfl) ?_
      refine lv_sipush (v := nI 256) hx hb dME_more_3 (by decide) ?_
      refine mi_ge (tgt := 33) hx hb dME_more_6 (by decide) (by omega) (by omega) (fun h22 => absurd h22 (by omega)) (fun h22 => ?_)
      refine lv_aload_n hx hb dME_more_9 rfl (lv_at hl 1 rfl) ?_
      refine lv_iload_n hx hb dME_more_10 rfl (lv_at hl 0 rfl) ?_
      refine lv_aload_n hx hb dME_more_11 rfl (lv_at hl 1 rfl) ?_
      refine lv_iload_n hx hb dME_more_12 rfl (lv_at hl 0 rfl) ?_
      refine ty_iald hx hb hK hO k_f (nxg hc0 k_f rfl) hP (vp_in_nI (by omega) (by decide)) dME_more_13 (fun z21 => ?_)
      refine lv_sipush (v := nI 3329) hx hb dME_more_14 (by decide) ?_
      refine lv_imul hx hb dME_more_17 ?_
      refine mi_any (fun z22 => ?_)
      refine lv_iconst (v := nI 1) hx hb dME_more_18 (by decide) ?_
      refine lv_iload_n hx hb dME_more_19 rfl (lv_at hl 2 rfl) ?_
      refine lv_iconst (v := nI 1) hx hb dME_more_20 (by decide) ?_
      refine mi_isub hx hb dME_more_21 (by omega) ?_
      refine mi_as (show nI (1 - 1) = nI 0 from rfl) ?_
      refine mi_ishl hx hb dME_more_22 (by decide) (by decide) ?_
      refine mi_as (show nI (1 * 2 ^ 0) = nI 1 from rfl) ?_
      refine lv_iadd hx hb dME_more_23 ?_
      refine mi_any (fun z23 => ?_)
      refine lv_iload_n hx hb dME_more_24 rfl (lv_at hl 2 rfl) ?_
      refine lv_ishr hx hb dME_more_25 ?_
      refine mi_any (fun z24 => ?_)
      refine ty_iast hx hb hK hO k_f (nxg hc0 k_f rfl) hP hD hS (vp_in_nI (by omega) (by decide)) dME_more_26 (fun pl H locs hO hP hD hS => ?_)
      refine mi_iinc (k := 0) (x := i21) (d := 1) (y := i21 + 1) (lv' := [(2, .int (nI (i21 + 1))), (0, .ref f), (1, .int (nI 1))]) hx hb dME_more_27 hl rfl (by decide) rfl (by decide) rfl (fun ls hl => ?_)
      refine lv_goto (tgt := 2) hx hb dME_more_30 (by decide) ?_
      exact ih21 (i21 + 1) pl ls H locs (by omega) (lv_sub hl [0, 1, 2] rfl) hO hP hD hS
  exact lp21 256 0 pl ls _ _ (by omega) (lv_sub hl [0, 1, 2] rfl) hO hP hD hS
set_option maxHeartbeats 400000 in
set_option maxRecDepth 100000 in
theorem t_ME_more_4 (l : Launch) (g : Gd) (sz : Nat) (T : Ty) (xs : List Nat) (pl : va_W) (hO : okx g T xs pl) (hU : uni T) (hc0 : clo T xs 0) (f : Nat) (k_f : T f = some (0, 256))  : Met l y_ME_more w_ME_more ({ frames := 0, cells := 0, slots := 0, locals := 0 } : Room) (va_Pc [.ref f, .int (nI 4)] (pr (en g) g.1 vcl sz ([] ++ pl))) (va_Qv (fun (u : va_W) => (True) ∧ okx g T xs u) (po g.1 vcl (va_A ([] ++ pl) sz) (fun (u : va_W) => [] ++ u)) (va_A ([] ++ pl) sz)) 0 0 (va_A ([] ++ pl) sz) := by
  refine mc_entry (cc := c_ME_more) (maxL := 3) (ret := none) (by decide) rfl (Nat.le_of_ble_eq_true rfl) ?_
  intro p e s m args below meth c ls F hr hlk hnm hsz hP hD hE hA hl
  obtain ⟨hx, hb, hml, hown, hts⟩ := id F
  have hK := hE.1
  generalize va_A ([] ++ pl) sz = A at hD hE hA ⊢
  have hS : va_S A s.heap s.heap [] := va_S.rf
  have hl : lv_has ls 3 [(0, .ref f), (1, .int (nI 4))] := hl
  refine lv_iconst (v := nI 0) hx hb dME_more_0 (by decide) ?_
  refine lv_istore_n (lv' := [(2, .int (nI 0)), (0, .ref f), (1, .int (nI 4))]) hx hb dME_more_1 rfl hl (by decide) rfl (fun ls hl => ?_)
  have lp21 : ∀ (n21 : Nat) (i21 : Nat) (pl : va_W) (ls : Array Slot) (H : Heap) (locs : List Loc), n21 + i21 = 256 → lv_has ls 3 [(2, .int (nI i21)), (0, .ref f), (1, .int (nI 4))] → okx g T xs pl → va_P g.1 vcl ([] ++ pl) H → va_D A ([] ++ pl) → va_S A s.heap H locs → W p l e ({ frames := 0, cells := 0, slots := 0, locals := 0 } : Room) s m args below meth c H locs 0 0 (MQ below (va_Qv (fun (u : va_W) => (True) ∧ okx g T xs u) (po g.1 vcl A (fun (u : va_W) => [] ++ u)) A) args s 0 0 A) (F0 m 2 ls []) := by
    intro n21
    induction n21 with
    | zero =>
      intro i21 pl ls H locs hm21  hl hO hP hD hS
      refine lv_iload_n hx hb dME_more_2 rfl (lv_at hl 0 rfl) ?_
      refine lv_sipush (v := nI 256) hx hb dME_more_3 (by decide) ?_
      refine mi_ge (tgt := 33) hx hb dME_more_6 (by decide) (by omega) (by omega) (fun h21 => ?_) (fun h21 => absurd h21 (by omega))
      exact mp_vret hx hb hr hlk hP hD hS pl ⟨trivial, hO⟩ [] rfl rfl rfl (by omega) (by omega) dME_more_33
    | succ n21 ih21 =>
      intro i21 pl ls H locs hm21  hl hO hP hD hS
      refine lv_iload_n hx hb dME_more_2 rfl (lv_at hl 0 rfl) ?_
      refine lv_sipush (v := nI 256) hx hb dME_more_3 (by decide) ?_
      refine mi_ge (tgt := 33) hx hb dME_more_6 (by decide) (by omega) (by omega) (fun h22 => absurd h22 (by omega)) (fun h22 => ?_)
      refine lv_aload_n hx hb dME_more_9 rfl (lv_at hl 1 rfl) ?_
      refine lv_iload_n hx hb dME_more_10 rfl (lv_at hl 0 rfl) ?_
      refine lv_aload_n hx hb dME_more_11 rfl (lv_at hl 1 rfl) ?_
      refine lv_iload_n hx hb dME_more_12 rfl (lv_at hl 0 rfl) ?_
      refine ty_iald hx hb hK hO k_f (nxg hc0 k_f rfl) hP (vp_in_nI (by omega) (by decide)) dME_more_13 (fun z21 => ?_)
      refine lv_sipush (v := nI 3329) hx hb dME_more_14 (by decide) ?_
      refine lv_imul hx hb dME_more_17 ?_
      refine mi_any (fun z22 => ?_)
      refine lv_iconst (v := nI 1) hx hb dME_more_18 (by decide) ?_
      refine lv_iload_n hx hb dME_more_19 rfl (lv_at hl 2 rfl) ?_
      refine lv_iconst (v := nI 1) hx hb dME_more_20 (by decide) ?_
      refine mi_isub hx hb dME_more_21 (by omega) ?_
      refine mi_as (show nI (4 - 1) = nI 3 from rfl) ?_
      refine mi_ishl hx hb dME_more_22 (by decide) (by decide) ?_
      refine mi_as (show nI (1 * 2 ^ 3) = nI 8 from rfl) ?_
      refine lv_iadd hx hb dME_more_23 ?_
      refine mi_any (fun z23 => ?_)
      refine lv_iload_n hx hb dME_more_24 rfl (lv_at hl 2 rfl) ?_
      refine lv_ishr hx hb dME_more_25 ?_
      refine mi_any (fun z24 => ?_)
      refine ty_iast hx hb hK hO k_f (nxg hc0 k_f rfl) hP hD hS (vp_in_nI (by omega) (by decide)) dME_more_26 (fun pl H locs hO hP hD hS => ?_)
      refine mi_iinc (k := 0) (x := i21) (d := 1) (y := i21 + 1) (lv' := [(2, .int (nI (i21 + 1))), (0, .ref f), (1, .int (nI 4))]) hx hb dME_more_27 hl rfl (by decide) rfl (by decide) rfl (fun ls hl => ?_)
      refine lv_goto (tgt := 2) hx hb dME_more_30 (by decide) ?_
      exact ih21 (i21 + 1) pl ls H locs (by omega) (lv_sub hl [0, 1, 2] rfl) hO hP hD hS
  exact lp21 256 0 pl ls _ _ (by omega) (lv_sub hl [0, 1, 2] rfl) hO hP hD hS
set_option maxHeartbeats 400000 in
set_option maxRecDepth 100000 in
theorem t_ME_more_5 (l : Launch) (g : Gd) (sz : Nat) (T : Ty) (xs : List Nat) (pl : va_W) (hO : okx g T xs pl) (hU : uni T) (hc0 : clo T xs 0) (f : Nat) (k_f : T f = some (0, 256))  : Met l y_ME_more w_ME_more ({ frames := 0, cells := 0, slots := 0, locals := 0 } : Room) (va_Pc [.ref f, .int (nI 5)] (pr (en g) g.1 vcl sz ([] ++ pl))) (va_Qv (fun (u : va_W) => (True) ∧ okx g T xs u) (po g.1 vcl (va_A ([] ++ pl) sz) (fun (u : va_W) => [] ++ u)) (va_A ([] ++ pl) sz)) 0 0 (va_A ([] ++ pl) sz) := by
  refine mc_entry (cc := c_ME_more) (maxL := 3) (ret := none) (by decide) rfl (Nat.le_of_ble_eq_true rfl) ?_
  intro p e s m args below meth c ls F hr hlk hnm hsz hP hD hE hA hl
  obtain ⟨hx, hb, hml, hown, hts⟩ := id F
  have hK := hE.1
  generalize va_A ([] ++ pl) sz = A at hD hE hA ⊢
  have hS : va_S A s.heap s.heap [] := va_S.rf
  have hl : lv_has ls 3 [(0, .ref f), (1, .int (nI 5))] := hl
  refine lv_iconst (v := nI 0) hx hb dME_more_0 (by decide) ?_
  refine lv_istore_n (lv' := [(2, .int (nI 0)), (0, .ref f), (1, .int (nI 5))]) hx hb dME_more_1 rfl hl (by decide) rfl (fun ls hl => ?_)
  have lp21 : ∀ (n21 : Nat) (i21 : Nat) (pl : va_W) (ls : Array Slot) (H : Heap) (locs : List Loc), n21 + i21 = 256 → lv_has ls 3 [(2, .int (nI i21)), (0, .ref f), (1, .int (nI 5))] → okx g T xs pl → va_P g.1 vcl ([] ++ pl) H → va_D A ([] ++ pl) → va_S A s.heap H locs → W p l e ({ frames := 0, cells := 0, slots := 0, locals := 0 } : Room) s m args below meth c H locs 0 0 (MQ below (va_Qv (fun (u : va_W) => (True) ∧ okx g T xs u) (po g.1 vcl A (fun (u : va_W) => [] ++ u)) A) args s 0 0 A) (F0 m 2 ls []) := by
    intro n21
    induction n21 with
    | zero =>
      intro i21 pl ls H locs hm21  hl hO hP hD hS
      refine lv_iload_n hx hb dME_more_2 rfl (lv_at hl 0 rfl) ?_
      refine lv_sipush (v := nI 256) hx hb dME_more_3 (by decide) ?_
      refine mi_ge (tgt := 33) hx hb dME_more_6 (by decide) (by omega) (by omega) (fun h21 => ?_) (fun h21 => absurd h21 (by omega))
      exact mp_vret hx hb hr hlk hP hD hS pl ⟨trivial, hO⟩ [] rfl rfl rfl (by omega) (by omega) dME_more_33
    | succ n21 ih21 =>
      intro i21 pl ls H locs hm21  hl hO hP hD hS
      refine lv_iload_n hx hb dME_more_2 rfl (lv_at hl 0 rfl) ?_
      refine lv_sipush (v := nI 256) hx hb dME_more_3 (by decide) ?_
      refine mi_ge (tgt := 33) hx hb dME_more_6 (by decide) (by omega) (by omega) (fun h22 => absurd h22 (by omega)) (fun h22 => ?_)
      refine lv_aload_n hx hb dME_more_9 rfl (lv_at hl 1 rfl) ?_
      refine lv_iload_n hx hb dME_more_10 rfl (lv_at hl 0 rfl) ?_
      refine lv_aload_n hx hb dME_more_11 rfl (lv_at hl 1 rfl) ?_
      refine lv_iload_n hx hb dME_more_12 rfl (lv_at hl 0 rfl) ?_
      refine ty_iald hx hb hK hO k_f (nxg hc0 k_f rfl) hP (vp_in_nI (by omega) (by decide)) dME_more_13 (fun z21 => ?_)
      refine lv_sipush (v := nI 3329) hx hb dME_more_14 (by decide) ?_
      refine lv_imul hx hb dME_more_17 ?_
      refine mi_any (fun z22 => ?_)
      refine lv_iconst (v := nI 1) hx hb dME_more_18 (by decide) ?_
      refine lv_iload_n hx hb dME_more_19 rfl (lv_at hl 2 rfl) ?_
      refine lv_iconst (v := nI 1) hx hb dME_more_20 (by decide) ?_
      refine mi_isub hx hb dME_more_21 (by omega) ?_
      refine mi_as (show nI (5 - 1) = nI 4 from rfl) ?_
      refine mi_ishl hx hb dME_more_22 (by decide) (by decide) ?_
      refine mi_as (show nI (1 * 2 ^ 4) = nI 16 from rfl) ?_
      refine lv_iadd hx hb dME_more_23 ?_
      refine mi_any (fun z23 => ?_)
      refine lv_iload_n hx hb dME_more_24 rfl (lv_at hl 2 rfl) ?_
      refine lv_ishr hx hb dME_more_25 ?_
      refine mi_any (fun z24 => ?_)
      refine ty_iast hx hb hK hO k_f (nxg hc0 k_f rfl) hP hD hS (vp_in_nI (by omega) (by decide)) dME_more_26 (fun pl H locs hO hP hD hS => ?_)
      refine mi_iinc (k := 0) (x := i21) (d := 1) (y := i21 + 1) (lv' := [(2, .int (nI (i21 + 1))), (0, .ref f), (1, .int (nI 5))]) hx hb dME_more_27 hl rfl (by decide) rfl (by decide) rfl (fun ls hl => ?_)
      refine lv_goto (tgt := 2) hx hb dME_more_30 (by decide) ?_
      exact ih21 (i21 + 1) pl ls H locs (by omega) (lv_sub hl [0, 1, 2] rfl) hO hP hD hS
  exact lp21 256 0 pl ls _ _ (by omega) (lv_sub hl [0, 1, 2] rfl) hO hP hD hS
set_option maxHeartbeats 400000 in
set_option maxRecDepth 100000 in
theorem t_ME_more_10 (l : Launch) (g : Gd) (sz : Nat) (T : Ty) (xs : List Nat) (pl : va_W) (hO : okx g T xs pl) (hU : uni T) (hc0 : clo T xs 0) (f : Nat) (k_f : T f = some (0, 256))  : Met l y_ME_more w_ME_more ({ frames := 0, cells := 0, slots := 0, locals := 0 } : Room) (va_Pc [.ref f, .int (nI 10)] (pr (en g) g.1 vcl sz ([] ++ pl))) (va_Qv (fun (u : va_W) => (True) ∧ okx g T xs u) (po g.1 vcl (va_A ([] ++ pl) sz) (fun (u : va_W) => [] ++ u)) (va_A ([] ++ pl) sz)) 0 0 (va_A ([] ++ pl) sz) := by
  refine mc_entry (cc := c_ME_more) (maxL := 3) (ret := none) (by decide) rfl (Nat.le_of_ble_eq_true rfl) ?_
  intro p e s m args below meth c ls F hr hlk hnm hsz hP hD hE hA hl
  obtain ⟨hx, hb, hml, hown, hts⟩ := id F
  have hK := hE.1
  generalize va_A ([] ++ pl) sz = A at hD hE hA ⊢
  have hS : va_S A s.heap s.heap [] := va_S.rf
  have hl : lv_has ls 3 [(0, .ref f), (1, .int (nI 10))] := hl
  refine lv_iconst (v := nI 0) hx hb dME_more_0 (by decide) ?_
  refine lv_istore_n (lv' := [(2, .int (nI 0)), (0, .ref f), (1, .int (nI 10))]) hx hb dME_more_1 rfl hl (by decide) rfl (fun ls hl => ?_)
  have lp21 : ∀ (n21 : Nat) (i21 : Nat) (pl : va_W) (ls : Array Slot) (H : Heap) (locs : List Loc), n21 + i21 = 256 → lv_has ls 3 [(2, .int (nI i21)), (0, .ref f), (1, .int (nI 10))] → okx g T xs pl → va_P g.1 vcl ([] ++ pl) H → va_D A ([] ++ pl) → va_S A s.heap H locs → W p l e ({ frames := 0, cells := 0, slots := 0, locals := 0 } : Room) s m args below meth c H locs 0 0 (MQ below (va_Qv (fun (u : va_W) => (True) ∧ okx g T xs u) (po g.1 vcl A (fun (u : va_W) => [] ++ u)) A) args s 0 0 A) (F0 m 2 ls []) := by
    intro n21
    induction n21 with
    | zero =>
      intro i21 pl ls H locs hm21  hl hO hP hD hS
      refine lv_iload_n hx hb dME_more_2 rfl (lv_at hl 0 rfl) ?_
      refine lv_sipush (v := nI 256) hx hb dME_more_3 (by decide) ?_
      refine mi_ge (tgt := 33) hx hb dME_more_6 (by decide) (by omega) (by omega) (fun h21 => ?_) (fun h21 => absurd h21 (by omega))
      exact mp_vret hx hb hr hlk hP hD hS pl ⟨trivial, hO⟩ [] rfl rfl rfl (by omega) (by omega) dME_more_33
    | succ n21 ih21 =>
      intro i21 pl ls H locs hm21  hl hO hP hD hS
      refine lv_iload_n hx hb dME_more_2 rfl (lv_at hl 0 rfl) ?_
      refine lv_sipush (v := nI 256) hx hb dME_more_3 (by decide) ?_
      refine mi_ge (tgt := 33) hx hb dME_more_6 (by decide) (by omega) (by omega) (fun h22 => absurd h22 (by omega)) (fun h22 => ?_)
      refine lv_aload_n hx hb dME_more_9 rfl (lv_at hl 1 rfl) ?_
      refine lv_iload_n hx hb dME_more_10 rfl (lv_at hl 0 rfl) ?_
      refine lv_aload_n hx hb dME_more_11 rfl (lv_at hl 1 rfl) ?_
      refine lv_iload_n hx hb dME_more_12 rfl (lv_at hl 0 rfl) ?_
      refine ty_iald hx hb hK hO k_f (nxg hc0 k_f rfl) hP (vp_in_nI (by omega) (by decide)) dME_more_13 (fun z21 => ?_)
      refine lv_sipush (v := nI 3329) hx hb dME_more_14 (by decide) ?_
      refine lv_imul hx hb dME_more_17 ?_
      refine mi_any (fun z22 => ?_)
      refine lv_iconst (v := nI 1) hx hb dME_more_18 (by decide) ?_
      refine lv_iload_n hx hb dME_more_19 rfl (lv_at hl 2 rfl) ?_
      refine lv_iconst (v := nI 1) hx hb dME_more_20 (by decide) ?_
      refine mi_isub hx hb dME_more_21 (by omega) ?_
      refine mi_as (show nI (10 - 1) = nI 9 from rfl) ?_
      refine mi_ishl hx hb dME_more_22 (by decide) (by decide) ?_
      refine mi_as (show nI (1 * 2 ^ 9) = nI 512 from rfl) ?_
      refine lv_iadd hx hb dME_more_23 ?_
      refine mi_any (fun z23 => ?_)
      refine lv_iload_n hx hb dME_more_24 rfl (lv_at hl 2 rfl) ?_
      refine lv_ishr hx hb dME_more_25 ?_
      refine mi_any (fun z24 => ?_)
      refine ty_iast hx hb hK hO k_f (nxg hc0 k_f rfl) hP hD hS (vp_in_nI (by omega) (by decide)) dME_more_26 (fun pl H locs hO hP hD hS => ?_)
      refine mi_iinc (k := 0) (x := i21) (d := 1) (y := i21 + 1) (lv' := [(2, .int (nI (i21 + 1))), (0, .ref f), (1, .int (nI 10))]) hx hb dME_more_27 hl rfl (by decide) rfl (by decide) rfl (fun ls hl => ?_)
      refine lv_goto (tgt := 2) hx hb dME_more_30 (by decide) ?_
      exact ih21 (i21 + 1) pl ls H locs (by omega) (lv_sub hl [0, 1, 2] rfl) hO hP hD hS
  exact lp21 256 0 pl ls _ _ (by omega) (lv_sub hl [0, 1, 2] rfl) hO hP hD hS
set_option maxHeartbeats 400000 in
set_option maxRecDepth 100000 in
theorem t_ME_more_11 (l : Launch) (g : Gd) (sz : Nat) (T : Ty) (xs : List Nat) (pl : va_W) (hO : okx g T xs pl) (hU : uni T) (hc0 : clo T xs 0) (f : Nat) (k_f : T f = some (0, 256))  : Met l y_ME_more w_ME_more ({ frames := 0, cells := 0, slots := 0, locals := 0 } : Room) (va_Pc [.ref f, .int (nI 11)] (pr (en g) g.1 vcl sz ([] ++ pl))) (va_Qv (fun (u : va_W) => (True) ∧ okx g T xs u) (po g.1 vcl (va_A ([] ++ pl) sz) (fun (u : va_W) => [] ++ u)) (va_A ([] ++ pl) sz)) 0 0 (va_A ([] ++ pl) sz) := by
  refine mc_entry (cc := c_ME_more) (maxL := 3) (ret := none) (by decide) rfl (Nat.le_of_ble_eq_true rfl) ?_
  intro p e s m args below meth c ls F hr hlk hnm hsz hP hD hE hA hl
  obtain ⟨hx, hb, hml, hown, hts⟩ := id F
  have hK := hE.1
  generalize va_A ([] ++ pl) sz = A at hD hE hA ⊢
  have hS : va_S A s.heap s.heap [] := va_S.rf
  have hl : lv_has ls 3 [(0, .ref f), (1, .int (nI 11))] := hl
  refine lv_iconst (v := nI 0) hx hb dME_more_0 (by decide) ?_
  refine lv_istore_n (lv' := [(2, .int (nI 0)), (0, .ref f), (1, .int (nI 11))]) hx hb dME_more_1 rfl hl (by decide) rfl (fun ls hl => ?_)
  have lp21 : ∀ (n21 : Nat) (i21 : Nat) (pl : va_W) (ls : Array Slot) (H : Heap) (locs : List Loc), n21 + i21 = 256 → lv_has ls 3 [(2, .int (nI i21)), (0, .ref f), (1, .int (nI 11))] → okx g T xs pl → va_P g.1 vcl ([] ++ pl) H → va_D A ([] ++ pl) → va_S A s.heap H locs → W p l e ({ frames := 0, cells := 0, slots := 0, locals := 0 } : Room) s m args below meth c H locs 0 0 (MQ below (va_Qv (fun (u : va_W) => (True) ∧ okx g T xs u) (po g.1 vcl A (fun (u : va_W) => [] ++ u)) A) args s 0 0 A) (F0 m 2 ls []) := by
    intro n21
    induction n21 with
    | zero =>
      intro i21 pl ls H locs hm21  hl hO hP hD hS
      refine lv_iload_n hx hb dME_more_2 rfl (lv_at hl 0 rfl) ?_
      refine lv_sipush (v := nI 256) hx hb dME_more_3 (by decide) ?_
      refine mi_ge (tgt := 33) hx hb dME_more_6 (by decide) (by omega) (by omega) (fun h21 => ?_) (fun h21 => absurd h21 (by omega))
      exact mp_vret hx hb hr hlk hP hD hS pl ⟨trivial, hO⟩ [] rfl rfl rfl (by omega) (by omega) dME_more_33
    | succ n21 ih21 =>
      intro i21 pl ls H locs hm21  hl hO hP hD hS
      refine lv_iload_n hx hb dME_more_2 rfl (lv_at hl 0 rfl) ?_
      refine lv_sipush (v := nI 256) hx hb dME_more_3 (by decide) ?_
      refine mi_ge (tgt := 33) hx hb dME_more_6 (by decide) (by omega) (by omega) (fun h22 => absurd h22 (by omega)) (fun h22 => ?_)
      refine lv_aload_n hx hb dME_more_9 rfl (lv_at hl 1 rfl) ?_
      refine lv_iload_n hx hb dME_more_10 rfl (lv_at hl 0 rfl) ?_
      refine lv_aload_n hx hb dME_more_11 rfl (lv_at hl 1 rfl) ?_
      refine lv_iload_n hx hb dME_more_12 rfl (lv_at hl 0 rfl) ?_
      refine ty_iald hx hb hK hO k_f (nxg hc0 k_f rfl) hP (vp_in_nI (by omega) (by decide)) dME_more_13 (fun z21 => ?_)
      refine lv_sipush (v := nI 3329) hx hb dME_more_14 (by decide) ?_
      refine lv_imul hx hb dME_more_17 ?_
      refine mi_any (fun z22 => ?_)
      refine lv_iconst (v := nI 1) hx hb dME_more_18 (by decide) ?_
      refine lv_iload_n hx hb dME_more_19 rfl (lv_at hl 2 rfl) ?_
      refine lv_iconst (v := nI 1) hx hb dME_more_20 (by decide) ?_
      refine mi_isub hx hb dME_more_21 (by omega) ?_
      refine mi_as (show nI (11 - 1) = nI 10 from rfl) ?_
      refine mi_ishl hx hb dME_more_22 (by decide) (by decide) ?_
      refine mi_as (show nI (1 * 2 ^ 10) = nI 1024 from rfl) ?_
      refine lv_iadd hx hb dME_more_23 ?_
      refine mi_any (fun z23 => ?_)
      refine lv_iload_n hx hb dME_more_24 rfl (lv_at hl 2 rfl) ?_
      refine lv_ishr hx hb dME_more_25 ?_
      refine mi_any (fun z24 => ?_)
      refine ty_iast hx hb hK hO k_f (nxg hc0 k_f rfl) hP hD hS (vp_in_nI (by omega) (by decide)) dME_more_26 (fun pl H locs hO hP hD hS => ?_)
      refine mi_iinc (k := 0) (x := i21) (d := 1) (y := i21 + 1) (lv' := [(2, .int (nI (i21 + 1))), (0, .ref f), (1, .int (nI 11))]) hx hb dME_more_27 hl rfl (by decide) rfl (by decide) rfl (fun ls hl => ?_)
      refine lv_goto (tgt := 2) hx hb dME_more_30 (by decide) ?_
      exact ih21 (i21 + 1) pl ls H locs (by omega) (lv_sub hl [0, 1, 2] rfl) hO hP hD hS
  exact lp21 256 0 pl ls _ _ (by omega) (lv_sub hl [0, 1, 2] rfl) hO hP hD hS
set_option maxHeartbeats 400000 in
set_option maxRecDepth 100000 in
theorem t_ME_more_12 (l : Launch) (g : Gd) (sz : Nat) (T : Ty) (xs : List Nat) (pl : va_W) (hO : okx g T xs pl) (hU : uni T) (hc0 : clo T xs 0) (f : Nat) (k_f : T f = some (0, 256))  : Met l y_ME_more w_ME_more ({ frames := 0, cells := 0, slots := 0, locals := 0 } : Room) (va_Pc [.ref f, .int (nI 12)] (pr (en g) g.1 vcl sz ([] ++ pl))) (va_Qv (fun (u : va_W) => (True) ∧ okx g T xs u) (po g.1 vcl (va_A ([] ++ pl) sz) (fun (u : va_W) => [] ++ u)) (va_A ([] ++ pl) sz)) 0 0 (va_A ([] ++ pl) sz) := by
  refine mc_entry (cc := c_ME_more) (maxL := 3) (ret := none) (by decide) rfl (Nat.le_of_ble_eq_true rfl) ?_
  intro p e s m args below meth c ls F hr hlk hnm hsz hP hD hE hA hl
  obtain ⟨hx, hb, hml, hown, hts⟩ := id F
  have hK := hE.1
  generalize va_A ([] ++ pl) sz = A at hD hE hA ⊢
  have hS : va_S A s.heap s.heap [] := va_S.rf
  have hl : lv_has ls 3 [(0, .ref f), (1, .int (nI 12))] := hl
  refine lv_iconst (v := nI 0) hx hb dME_more_0 (by decide) ?_
  refine lv_istore_n (lv' := [(2, .int (nI 0)), (0, .ref f), (1, .int (nI 12))]) hx hb dME_more_1 rfl hl (by decide) rfl (fun ls hl => ?_)
  have lp21 : ∀ (n21 : Nat) (i21 : Nat) (pl : va_W) (ls : Array Slot) (H : Heap) (locs : List Loc), n21 + i21 = 256 → lv_has ls 3 [(2, .int (nI i21)), (0, .ref f), (1, .int (nI 12))] → okx g T xs pl → va_P g.1 vcl ([] ++ pl) H → va_D A ([] ++ pl) → va_S A s.heap H locs → W p l e ({ frames := 0, cells := 0, slots := 0, locals := 0 } : Room) s m args below meth c H locs 0 0 (MQ below (va_Qv (fun (u : va_W) => (True) ∧ okx g T xs u) (po g.1 vcl A (fun (u : va_W) => [] ++ u)) A) args s 0 0 A) (F0 m 2 ls []) := by
    intro n21
    induction n21 with
    | zero =>
      intro i21 pl ls H locs hm21  hl hO hP hD hS
      refine lv_iload_n hx hb dME_more_2 rfl (lv_at hl 0 rfl) ?_
      refine lv_sipush (v := nI 256) hx hb dME_more_3 (by decide) ?_
      refine mi_ge (tgt := 33) hx hb dME_more_6 (by decide) (by omega) (by omega) (fun h21 => ?_) (fun h21 => absurd h21 (by omega))
      exact mp_vret hx hb hr hlk hP hD hS pl ⟨trivial, hO⟩ [] rfl rfl rfl (by omega) (by omega) dME_more_33
    | succ n21 ih21 =>
      intro i21 pl ls H locs hm21  hl hO hP hD hS
      refine lv_iload_n hx hb dME_more_2 rfl (lv_at hl 0 rfl) ?_
      refine lv_sipush (v := nI 256) hx hb dME_more_3 (by decide) ?_
      refine mi_ge (tgt := 33) hx hb dME_more_6 (by decide) (by omega) (by omega) (fun h22 => absurd h22 (by omega)) (fun h22 => ?_)
      refine lv_aload_n hx hb dME_more_9 rfl (lv_at hl 1 rfl) ?_
      refine lv_iload_n hx hb dME_more_10 rfl (lv_at hl 0 rfl) ?_
      refine lv_aload_n hx hb dME_more_11 rfl (lv_at hl 1 rfl) ?_
      refine lv_iload_n hx hb dME_more_12 rfl (lv_at hl 0 rfl) ?_
      refine ty_iald hx hb hK hO k_f (nxg hc0 k_f rfl) hP (vp_in_nI (by omega) (by decide)) dME_more_13 (fun z21 => ?_)
      refine lv_sipush (v := nI 3329) hx hb dME_more_14 (by decide) ?_
      refine lv_imul hx hb dME_more_17 ?_
      refine mi_any (fun z22 => ?_)
      refine lv_iconst (v := nI 1) hx hb dME_more_18 (by decide) ?_
      refine lv_iload_n hx hb dME_more_19 rfl (lv_at hl 2 rfl) ?_
      refine lv_iconst (v := nI 1) hx hb dME_more_20 (by decide) ?_
      refine mi_isub hx hb dME_more_21 (by omega) ?_
      refine mi_as (show nI (12 - 1) = nI 11 from rfl) ?_
      refine mi_ishl hx hb dME_more_22 (by decide) (by decide) ?_
      refine mi_as (show nI (1 * 2 ^ 11) = nI 2048 from rfl) ?_
      refine lv_iadd hx hb dME_more_23 ?_
      refine mi_any (fun z23 => ?_)
      refine lv_iload_n hx hb dME_more_24 rfl (lv_at hl 2 rfl) ?_
      refine lv_ishr hx hb dME_more_25 ?_
      refine mi_any (fun z24 => ?_)
      refine ty_iast hx hb hK hO k_f (nxg hc0 k_f rfl) hP hD hS (vp_in_nI (by omega) (by decide)) dME_more_26 (fun pl H locs hO hP hD hS => ?_)
      refine mi_iinc (k := 0) (x := i21) (d := 1) (y := i21 + 1) (lv' := [(2, .int (nI (i21 + 1))), (0, .ref f), (1, .int (nI 12))]) hx hb dME_more_27 hl rfl (by decide) rfl (by decide) rfl (fun ls hl => ?_)
      refine lv_goto (tgt := 2) hx hb dME_more_30 (by decide) ?_
      exact ih21 (i21 + 1) pl ls H locs (by omega) (lv_sub hl [0, 1, 2] rfl) hO hP hD hS
  exact lp21 256 0 pl ls _ _ (by omega) (lv_sub hl [0, 1, 2] rfl) hO hP hD hS
set_option maxHeartbeats 400000 in
set_option maxRecDepth 100000 in
theorem t_ME_noise_2 (l : Launch) (g : Gd) (sz : Nat) (T : Ty) (xs : List Nat) (pl : va_W) (hO : okx g T xs pl) (hU : uni T) (hc0 : clo T xs 0) (hc9 : clo T xs 9) (h0 f b n at_ : Nat) (wh : Int32) (k_h0 : T h0 = some (23, 0)) (k_f : T f = some (0, 256)) (k_b : T b = some (1, n)) (h1 : at_ + 32 ≤ n) (h2 : n < 65536)  : Met l y_ME_noise w_ME_noise ({ frames := 4, cells := 0, slots := 0, locals := 98 } : Room) (va_Pc [.ref h0, .ref f, .ref b, .int (nI at_), .int wh, .int (nI 2)] (pr (en g) g.1 vcl sz ([] ++ pl))) (va_Qv (fun (u : va_W) => (True) ∧ okx g T xs u) (po g.1 vcl (va_A ([] ++ pl) sz) (fun (u : va_W) => [] ++ u)) (va_A ([] ++ pl) sz)) 0 0 (va_A ([] ++ pl) sz) := by
  refine mc_entry (cc := c_ME_noise) (maxL := 9) (ret := none) (by decide) rfl (Nat.le_of_ble_eq_true rfl) ?_
  intro p e s m args below meth c ls F hr hlk hnm hsz hP hD hE hA hl
  obtain ⟨hx, hb, hml, hown, hts⟩ := id F
  have hK := hE.1
  generalize va_A ([] ++ pl) sz = A at hD hE hA ⊢
  have hS : va_S A s.heap s.heap [] := va_S.rf
  have hl : lv_has ls 9 [(0, .ref h0), (1, .ref f), (2, .ref b), (3, .int (nI at_)), (4, .int wh), (5, .int (nI 2))] := hl
  refine lv_aload_n hx hb dME_noise_0 rfl (lv_at hl 0 rfl) ?_
  refine ty_get (ci := 11) (C := "LatticeKeysModel$Secrets") (TT := T_ME) (N := 14) (kd := (23, 0)) hx hb hts (wg_ft i_ME) hown hK hO k_h0 (nxg hc0 k_h0 rfl) hP (fun _ h9 => h9) rfl 0 (by decide) (hts _ (wg_t kw_1379)) (fun _ h9 => h9) (cd := (3, 20, 0)) rfl dME_noise_1 (fun v21 hv21 => ?_)
  obtain ⟨r21, rfl, kr21⟩ := (show ∃ r : Nat, v21 = .ref r ∧ T r = some (20, 0) from hv21)
  obtain ⟨e21, pl, hP, hD, hk21, hO⟩ := open1 hP hD hO kr21 (nxg hc9 kr21 rfl)
  obtain ⟨am21, am22, am23, am24, am25, rt21, ps21, x21, rfl, km21, km22, km23, km24, km25, hr21, hr22, hr23⟩ := hk21
  obtain ⟨e22, pl, hP, hD, hk22, hO⟩ := open1 hP hD hO km21 (nmc (knd_ne km21 kr21 (by decide)) (nxg hc9 km21 rfl))
  obtain ⟨f21, rfl⟩ := hk22
  obtain ⟨e23, pl, hP, hD, hk23, hO⟩ := open1 hP hD hO km22 (nmc (knd_ne km22 km21 (by decide)) (nmc (knd_ne km22 kr21 (by decide)) (nxg hc9 km22 rfl)))
  obtain ⟨f22, rfl⟩ := hk23
  obtain ⟨e24, pl, hP, hD, hk24, hO⟩ := open1 hP hD hO km23 (nmc (knd_ne km23 km22 (by decide)) (nmc (knd_ne km23 km21 (by decide)) (nmc (knd_ne km23 kr21 (by decide)) (nxg hc9 km23 rfl))))
  obtain ⟨f23, rfl⟩ := hk24
  obtain ⟨e25, pl, hP, hD, hk25, hO⟩ := open1 hP hD hO km24 (nmc (knd_ne km24 km23 (by decide)) (nmc (knd_ne km24 km22 (by decide)) (nmc (knd_ne km24 km21 (by decide)) (nmc (knd_ne km24 kr21 (by decide)) (nxg hc9 km24 rfl)))))
  obtain ⟨f24, rfl⟩ := hk25
  obtain ⟨e26, pl, hP, hD, hk26, hO⟩ := open1 hP hD hO km25 (nmc (knd_ne km25 km24 (by decide)) (nmc (knd_ne km25 km23 (by decide)) (nmc (knd_ne km25 km22 (by decide)) (nmc (knd_ne km25 km21 (by decide)) (nmc (knd_ne km25 kr21 (by decide)) (nxg hc9 km25 rfl))))))
  obtain ⟨f25, rfl⟩ := hk26
  have hP : va_P g.1 vcl ([(r21, .inr (9, [.ref am21, .ref am22, .ref am23, .ref am24, .ref am25, .int (nI rt21), .int (nI ps21), .int x21])), (am21, .inl (g.2.1 2, 25, .inr (.inl f21))), (am22, .inl (g.2.1 2, 25, .inr (.inl f22))), (am23, .inl (g.2.1 2, 5, .inr (.inl f23))), (am24, .inl (g.2.1 2, 24, .inr (.inl f24))), (am25, .inl (g.2.1 0, 25, .inl f25))] ++ pl) _ := hP
  have hD : va_D _ ([(r21, .inr (9, [.ref am21, .ref am22, .ref am23, .ref am24, .ref am25, .int (nI rt21), .int (nI ps21), .int x21])), (am21, .inl (g.2.1 2, 25, .inr (.inl f21))), (am22, .inl (g.2.1 2, 25, .inr (.inl f22))), (am23, .inl (g.2.1 2, 5, .inr (.inl f23))), (am24, .inl (g.2.1 2, 24, .inr (.inl f24))), (am25, .inl (g.2.1 0, 25, .inl f25))] ++ pl) := hD
  refine mp_v (cx := [(r21, .inr (9, [.ref am21, .ref am22, .ref am23, .ref am24, .ref am25, .int (nI rt21), .int (nI ps21), .int x21])), (am21, .inl (g.2.1 2, 25, .inr (.inl f21))), (am22, .inl (g.2.1 2, 25, .inr (.inl f22))), (am23, .inl (g.2.1 2, 5, .inr (.inl f23))), (am24, .inl (g.2.1 2, 24, .inr (.inl f24))), (am25, .inl (g.2.1 0, 25, .inl f25))]) (wr := []) hP hD hS hA [0, 1, 2, 3, 4, 5] [] rfl rfl rfl (by decide) (va_runV (As := []) (rest := []) F (t_MS_shake l g _ T (am25 :: (am24 :: (am23 :: (am22 :: (am21 :: (r21 :: xs)))))) pl hO hU  r21 am21 am22 am23 am24 am25 rt21 ps21 x21 f21 f22 f23 f24 f25) (cwV 0 hts (wg_app (wg_c kw_1660 (wg_c kw_1661 (wg_c kw_1662 (wg_c kw_10 wg_n)))) kw_1663) rfl rfl rfl (by decide +kernel) ⟨by decide, by decide⟩) (pp_V (en_ok g) (q0 := 0) hK hP hD hS hA hE [0, 1, 2, 3, 4, 5] rfl rfl rfl rfl) rfl rfl hl.1 rfl (lv_room (Nat.le_of_ble_eq_true rfl)) dME_noise_4 ⟨by omega, by omega⟩) (fun  u21 H locs hu21 hP hD hS => ?_)
  obtain ⟨u22, pl⟩ := u21
  obtain ⟨hq21, hO⟩ := hu21
  obtain ⟨ps22, f26, f27, f28⟩ := u22
  have hP : va_P g.1 vcl ([(r21, .inr (9, [.ref am21, .ref am22, .ref am23, .ref am24, .ref am25, .int (nI 136), .int (nI ps22), .int (nI 31)])), (am21, .inl (g.2.1 2, 25, .inr (.inl f26))), (am22, .inl (g.2.1 2, 25, .inr (.inl f27))), (am23, .inl (g.2.1 2, 5, .inr (.inl f28))), (am24, .inl (g.2.1 2, 24, .inr (.inl f24))), (am25, .inl (g.2.1 0, 25, .inl f25))] ++ pl) _ := hP
  have hD : va_D _ ([(r21, .inr (9, [.ref am21, .ref am22, .ref am23, .ref am24, .ref am25, .int (nI 136), .int (nI ps22), .int (nI 31)])), (am21, .inl (g.2.1 2, 25, .inr (.inl f26))), (am22, .inl (g.2.1 2, 25, .inr (.inl f27))), (am23, .inl (g.2.1 2, 5, .inr (.inl f28))), (am24, .inl (g.2.1 2, 24, .inr (.inl f24))), (am25, .inl (g.2.1 0, 25, .inl f25))] ++ pl) := hD
  have hq21 : ps22 ≤ 136 := hq21
  refine W.widen (k := 0) (n := 0) (by omega) (by omega) ?_
  refine lv_aload_n hx hb dME_noise_7 rfl (lv_at hl 0 rfl) ?_
  refine ty_get (ci := 11) (C := "LatticeKeysModel$Secrets") (TT := T_ME) (N := 14) (kd := (23, 0)) hx hb hts (wg_ft i_ME) hown hK hO k_h0 (nxg (clo_cons (clo_cons (clo_cons (clo_cons (clo_cons (clo_cons hc0 kr21 (by decide)) km21 (by decide)) km22 (by decide)) km23 (by decide)) km24 (by decide)) km25 (by decide)) k_h0 rfl) hP (fun _ h9 => h9) rfl 0 (by decide) (hts _ (wg_t kw_1379)) (fun _ h9 => h9) (cd := (3, 20, 0)) rfl dME_noise_8 (fun v22 hv22 => ?_)
  obtain ⟨r22, rfl, kr22⟩ := (show ∃ r : Nat, v22 = .ref r ∧ T r = some (20, 0) from hv22)
  obtain rfl : r21 = r22 := hU _ _ _ (by decide) kr21 kr22
  refine lv_aload_n hx hb dME_noise_11 rfl (lv_at hl 2 rfl) ?_
  refine lv_iload_n hx hb dME_noise_12 rfl (lv_at hl 3 rfl) ?_
  refine lv_bipush (v := nI 32) hx hb dME_noise_13 (by decide) ?_
  refine mp_v (cx := [(r21, .inr (9, [.ref am21, .ref am22, .ref am23, .ref am24, .ref am25, .int (nI 136), .int (nI ps22), .int (nI 31)])), (am21, .inl (g.2.1 2, 25, .inr (.inl f26))), (am22, .inl (g.2.1 2, 25, .inr (.inl f27))), (am23, .inl (g.2.1 2, 5, .inr (.inl f28))), (am24, .inl (g.2.1 2, 24, .inr (.inl f24))), (am25, .inl (g.2.1 0, 25, .inl f25))]) (wr := []) hP hD hS hA [0, 1, 2, 3, 4, 5] [] rfl rfl rfl (by decide) (va_runV (As := [.ref b, .int (nI at_), .int (nI 32)]) (rest := []) F (t_MS_puts l g _ T (am25 :: (am24 :: (am23 :: (am22 :: (am21 :: (r21 :: xs)))))) pl hO hU (clo_cons (clo_cons (clo_cons (clo_cons (clo_cons (clo_cons hc0 kr21 (by decide)) km21 (by decide)) km22 (by decide)) km23 (by decide)) km24 (by decide)) km25 (by decide)) b n at_ 32 r21 am21 am22 am23 am24 am25 136 ps22 (nI 31) f26 f27 f28 f24 f25 k_b (by omega) (by omega) (by omega) (by omega)) (cwV 3 hts (wg_app (wg_c kw_1611 (wg_c kw_1612 (wg_c kw_1613 (wg_c kw_10 wg_n)))) kw_1614) rfl rfl rfl (by decide +kernel) ⟨by decide, by decide⟩) (pp_V (en_ok g) (q0 := 0) hK hP hD hS hA hE [0, 1, 2, 3, 4, 5] rfl rfl rfl rfl) rfl rfl hl.1 rfl (lv_room (Nat.le_of_ble_eq_true rfl)) dME_noise_15 ⟨by omega, by omega⟩) (fun  u23 H locs hu22 hP hD hS => ?_)
  obtain ⟨u24, pl⟩ := u23
  obtain ⟨hq22, hO⟩ := hu22
  obtain ⟨ps23, f29, f30, f31⟩ := u24
  have hP : va_P g.1 vcl ([(r21, .inr (9, [.ref am21, .ref am22, .ref am23, .ref am24, .ref am25, .int (nI 136), .int (nI ps23), .int (nI 31)])), (am21, .inl (g.2.1 2, 25, .inr (.inl f29))), (am22, .inl (g.2.1 2, 25, .inr (.inl f30))), (am23, .inl (g.2.1 2, 5, .inr (.inl f31))), (am24, .inl (g.2.1 2, 24, .inr (.inl f24))), (am25, .inl (g.2.1 0, 25, .inl f25))] ++ pl) _ := hP
  have hD : va_D _ ([(r21, .inr (9, [.ref am21, .ref am22, .ref am23, .ref am24, .ref am25, .int (nI 136), .int (nI ps23), .int (nI 31)])), (am21, .inl (g.2.1 2, 25, .inr (.inl f29))), (am22, .inl (g.2.1 2, 25, .inr (.inl f30))), (am23, .inl (g.2.1 2, 5, .inr (.inl f31))), (am24, .inl (g.2.1 2, 24, .inr (.inl f24))), (am25, .inl (g.2.1 0, 25, .inl f25))] ++ pl) := hD
  have hq22 : ps23 ≤ 136 := hq22
  refine W.widen (k := 0) (n := 0) (by omega) (by omega) ?_
  refine lv_aload_n hx hb dME_noise_18 rfl (lv_at hl 0 rfl) ?_
  refine ty_get (ci := 11) (C := "LatticeKeysModel$Secrets") (TT := T_ME) (N := 14) (kd := (23, 0)) hx hb hts (wg_ft i_ME) hown hK hO k_h0 (nxg (clo_cons (clo_cons (clo_cons (clo_cons (clo_cons (clo_cons hc0 kr21 (by decide)) km21 (by decide)) km22 (by decide)) km23 (by decide)) km24 (by decide)) km25 (by decide)) k_h0 rfl) hP (fun _ h9 => h9) rfl 0 (by decide) (hts _ (wg_t kw_1379)) (fun _ h9 => h9) (cd := (3, 20, 0)) rfl dME_noise_19 (fun v23 hv23 => ?_)
  obtain ⟨r23, rfl, kr23⟩ := (show ∃ r : Nat, v23 = .ref r ∧ T r = some (20, 0) from hv23)
  obtain rfl : r21 = r23 := hU _ _ _ (by decide) kr21 kr23
  refine lv_iload hx hb dME_noise_22 (lv_at hl 4 rfl) ?_
  refine mp_v (cx := [(r21, .inr (9, [.ref am21, .ref am22, .ref am23, .ref am24, .ref am25, .int (nI 136), .int (nI ps23), .int (nI 31)])), (am21, .inl (g.2.1 2, 25, .inr (.inl f29))), (am22, .inl (g.2.1 2, 25, .inr (.inl f30))), (am23, .inl (g.2.1 2, 5, .inr (.inl f31))), (am24, .inl (g.2.1 2, 24, .inr (.inl f24))), (am25, .inl (g.2.1 0, 25, .inl f25))]) (wr := []) hP hD hS hA [0, 1, 2, 3, 4, 5] [] rfl rfl rfl (by decide) (va_runV (As := [.int wh]) (rest := []) F (t_MS_put l g _ T (am25 :: (am24 :: (am23 :: (am22 :: (am21 :: (r21 :: xs)))))) pl hO hU  wh r21 am21 am22 am23 am24 am25 136 ps23 (nI 31) f29 f30 f31 f24 f25 (by omega) (by omega)) (cwV 1 hts (wg_app (wg_c kw_1632 (wg_c kw_1616 (wg_c kw_1617 (wg_c kw_10 wg_n)))) kw_1618) rfl rfl rfl (by decide +kernel) ⟨by decide, by decide⟩) (pp_V (en_ok g) (q0 := 0) hK hP hD hS hA hE [0, 1, 2, 3, 4, 5] rfl rfl rfl rfl) rfl rfl hl.1 rfl (lv_room (Nat.le_of_ble_eq_true rfl)) dME_noise_24 ⟨by omega, by omega⟩) (fun  u25 H locs hu23 hP hD hS => ?_)
  obtain ⟨u26, pl⟩ := u25
  obtain ⟨hq23, hO⟩ := hu23
  obtain ⟨ps24, f32, f33, f34⟩ := u26
  have hP : va_P g.1 vcl ([(r21, .inr (9, [.ref am21, .ref am22, .ref am23, .ref am24, .ref am25, .int (nI 136), .int (nI ps24), .int (nI 31)])), (am21, .inl (g.2.1 2, 25, .inr (.inl f32))), (am22, .inl (g.2.1 2, 25, .inr (.inl f33))), (am23, .inl (g.2.1 2, 5, .inr (.inl f34))), (am24, .inl (g.2.1 2, 24, .inr (.inl f24))), (am25, .inl (g.2.1 0, 25, .inl f25))] ++ pl) _ := hP
  have hD : va_D _ ([(r21, .inr (9, [.ref am21, .ref am22, .ref am23, .ref am24, .ref am25, .int (nI 136), .int (nI ps24), .int (nI 31)])), (am21, .inl (g.2.1 2, 25, .inr (.inl f32))), (am22, .inl (g.2.1 2, 25, .inr (.inl f33))), (am23, .inl (g.2.1 2, 5, .inr (.inl f34))), (am24, .inl (g.2.1 2, 24, .inr (.inl f24))), (am25, .inl (g.2.1 0, 25, .inl f25))] ++ pl) := hD
  have hq23 : ps24 ≤ 136 := hq23
  refine W.widen (k := 0) (n := 0) (by omega) (by omega) ?_
  refine lv_aload_n hx hb dME_noise_27 rfl (lv_at hl 0 rfl) ?_
  refine ty_get (ci := 11) (C := "LatticeKeysModel$Secrets") (TT := T_ME) (N := 14) (kd := (23, 0)) hx hb hts (wg_ft i_ME) hown hK hO k_h0 (nxg (clo_cons (clo_cons (clo_cons (clo_cons (clo_cons (clo_cons hc0 kr21 (by decide)) km21 (by decide)) km22 (by decide)) km23 (by decide)) km24 (by decide)) km25 (by decide)) k_h0 rfl) hP (fun _ h9 => h9) rfl 0 (by decide) (hts _ (wg_t kw_1379)) (fun _ h9 => h9) (cd := (3, 20, 0)) rfl dME_noise_28 (fun v24 hv24 => ?_)
  obtain ⟨r24, rfl, kr24⟩ := (show ∃ r : Nat, v24 = .ref r ∧ T r = some (20, 0) from hv24)
  obtain rfl : r21 = r24 := hU _ _ _ (by decide) kr21 kr24
  refine mp_v (cx := [(r21, .inr (9, [.ref am21, .ref am22, .ref am23, .ref am24, .ref am25, .int (nI 136), .int (nI ps24), .int (nI 31)])), (am21, .inl (g.2.1 2, 25, .inr (.inl f32))), (am22, .inl (g.2.1 2, 25, .inr (.inl f33))), (am23, .inl (g.2.1 2, 5, .inr (.inl f34))), (am24, .inl (g.2.1 2, 24, .inr (.inl f24))), (am25, .inl (g.2.1 0, 25, .inl f25))]) (wr := []) hP hD hS hA [0, 1, 2, 3, 4, 5] [] rfl rfl rfl (by decide) (va_runV (As := []) (rest := []) F (t_MS_end l g _ T (am25 :: (am24 :: (am23 :: (am22 :: (am21 :: (r21 :: xs)))))) pl hO hU  r21 am21 am22 am23 am24 am25 136 ps24 (nI 31) f32 f33 f34 f24 f25 (by omega) (by omega)) (cwV 0 hts (wg_app (wg_c kw_1633 (wg_c kw_1634 (wg_c kw_1635 (wg_c kw_10 wg_n)))) kw_1636) rfl rfl rfl (by decide +kernel) ⟨by decide, by decide⟩) (pp_V (en_ok g) (q0 := 0) hK hP hD hS hA hE [0, 1, 2, 3, 4, 5] rfl rfl rfl rfl) rfl rfl hl.1 rfl (lv_room (Nat.le_of_ble_eq_true rfl)) dME_noise_31 ⟨by omega, by omega⟩) (fun  u27 H locs hu24 hP hD hS => ?_)
  obtain ⟨u28, pl⟩ := u27
  obtain ⟨hq24, hO⟩ := hu24
  obtain ⟨ps25, f35, f36, f37⟩ := u28
  have hP : va_P g.1 vcl ([(r21, .inr (9, [.ref am21, .ref am22, .ref am23, .ref am24, .ref am25, .int (nI 136), .int (nI ps25), .int (nI 31)])), (am21, .inl (g.2.1 2, 25, .inr (.inl f35))), (am22, .inl (g.2.1 2, 25, .inr (.inl f36))), (am23, .inl (g.2.1 2, 5, .inr (.inl f37))), (am24, .inl (g.2.1 2, 24, .inr (.inl f24))), (am25, .inl (g.2.1 0, 25, .inl f25))] ++ pl) _ := hP
  have hD : va_D _ ([(r21, .inr (9, [.ref am21, .ref am22, .ref am23, .ref am24, .ref am25, .int (nI 136), .int (nI ps25), .int (nI 31)])), (am21, .inl (g.2.1 2, 25, .inr (.inl f35))), (am22, .inl (g.2.1 2, 25, .inr (.inl f36))), (am23, .inl (g.2.1 2, 5, .inr (.inl f37))), (am24, .inl (g.2.1 2, 24, .inr (.inl f24))), (am25, .inl (g.2.1 0, 25, .inl f25))] ++ pl) := hD
  have hq24 : ps25 ≤ 136 := hq24
  refine W.widen (k := 0) (n := 0) (by omega) (by omega) ?_
  refine lv_aload_n hx hb dME_noise_34 rfl (lv_at hl 0 rfl) ?_
  refine ty_get (ci := 11) (C := "LatticeKeysModel$Secrets") (TT := T_ME) (N := 14) (kd := (23, 0)) hx hb hts (wg_ft i_ME) hown hK hO k_h0 (nxg (clo_cons (clo_cons (clo_cons (clo_cons (clo_cons (clo_cons hc0 kr21 (by decide)) km21 (by decide)) km22 (by decide)) km23 (by decide)) km24 (by decide)) km25 (by decide)) k_h0 rfl) hP (fun _ h9 => h9) rfl 0 (by decide) (hts _ (wg_t kw_1379)) (fun _ h9 => h9) (cd := (3, 20, 0)) rfl dME_noise_35 (fun v25 hv25 => ?_)
  obtain ⟨r25, rfl, kr25⟩ := (show ∃ r : Nat, v25 = .ref r ∧ T r = some (20, 0) from hv25)
  obtain rfl : r21 = r25 := hU _ _ _ (by decide) kr21 kr25
  refine lv_aload_n hx hb dME_noise_38 rfl (lv_at hl 0 rfl) ?_
  refine ty_get (ci := 11) (C := "LatticeKeysModel$Secrets") (TT := T_ME) (N := 14) (kd := (23, 0)) hx hb hts (wg_ft i_ME) hown hK hO k_h0 (nxg (clo_cons (clo_cons (clo_cons (clo_cons (clo_cons (clo_cons hc0 kr21 (by decide)) km21 (by decide)) km22 (by decide)) km23 (by decide)) km24 (by decide)) km25 (by decide)) k_h0 rfl) hP (fun _ h9 => h9) rfl 10 (by decide) (hts _ (wg_t kw_1389)) (fun _ h9 => h9) (cd := (3, 1, 192)) rfl dME_noise_39 (fun v26 hv26 => ?_)
  obtain ⟨r26, rfl, kr26⟩ := (show ∃ r : Nat, v26 = .ref r ∧ T r = some (1, 192) from hv26)
  refine lv_iconst (v := nI 0) hx hb dME_noise_42 (by decide) ?_
  refine lv_bipush (v := nI 64) hx hb dME_noise_43 (by decide) ?_
  refine lv_iload hx hb dME_noise_45 (lv_at hl 5 rfl) ?_
  refine mi_imul hx hb dME_noise_47 ?_
  refine mi_as (show nI (64 * 2) = nI 128 from rfl) ?_
  refine mp_v (cx := [(r21, .inr (9, [.ref am21, .ref am22, .ref am23, .ref am24, .ref am25, .int (nI 136), .int (nI ps25), .int (nI 31)])), (am21, .inl (g.2.1 2, 25, .inr (.inl f35))), (am22, .inl (g.2.1 2, 25, .inr (.inl f36))), (am23, .inl (g.2.1 2, 5, .inr (.inl f37))), (am24, .inl (g.2.1 2, 24, .inr (.inl f24))), (am25, .inl (g.2.1 0, 25, .inl f25))]) (wr := []) hP hD hS hA [0, 1, 2, 3, 4, 5] [] rfl rfl rfl (by decide) (va_runV (As := [.ref r26, .int (nI 0), .int (nI 128)]) (rest := []) F (t_MS_take l g _ T (am25 :: (am24 :: (am23 :: (am22 :: (am21 :: (r21 :: xs)))))) pl hO hU (clo_cons (clo_cons (clo_cons (clo_cons (clo_cons (clo_cons hc0 kr21 (by decide)) km21 (by decide)) km22 (by decide)) km23 (by decide)) km24 (by decide)) km25 (by decide)) r26 192 0 128 r21 am21 am22 am23 am24 am25 136 ps25 (nI 31) f35 f36 f37 f24 f25 kr26 (by omega) (by omega) (by omega) (by omega)) (cwV 3 hts (wg_app (wg_c kw_1637 (wg_c kw_1638 (wg_c kw_1639 (wg_c kw_10 wg_n)))) kw_1640) rfl rfl rfl (by decide +kernel) ⟨by decide, by decide⟩) (pp_V (en_ok g) (q0 := 0) hK hP hD hS hA hE [0, 1, 2, 3, 4, 5] rfl rfl rfl rfl) rfl rfl hl.1 rfl (lv_room (Nat.le_of_ble_eq_true rfl)) dME_noise_48 ⟨by omega, by omega⟩) (fun  u29 H locs hu25 hP hD hS => ?_)
  obtain ⟨u30, pl⟩ := u29
  obtain ⟨hq25, hO⟩ := hu25
  obtain ⟨ps26, f38, f39, f40⟩ := u30
  have hP : va_P g.1 vcl ([(r21, .inr (9, [.ref am21, .ref am22, .ref am23, .ref am24, .ref am25, .int (nI 136), .int (nI ps26), .int (nI 31)])), (am21, .inl (g.2.1 2, 25, .inr (.inl f38))), (am22, .inl (g.2.1 2, 25, .inr (.inl f39))), (am23, .inl (g.2.1 2, 5, .inr (.inl f40))), (am24, .inl (g.2.1 2, 24, .inr (.inl f24))), (am25, .inl (g.2.1 0, 25, .inl f25))] ++ pl) _ := hP
  have hD : va_D _ ([(r21, .inr (9, [.ref am21, .ref am22, .ref am23, .ref am24, .ref am25, .int (nI 136), .int (nI ps26), .int (nI 31)])), (am21, .inl (g.2.1 2, 25, .inr (.inl f38))), (am22, .inl (g.2.1 2, 25, .inr (.inl f39))), (am23, .inl (g.2.1 2, 5, .inr (.inl f40))), (am24, .inl (g.2.1 2, 24, .inr (.inl f24))), (am25, .inl (g.2.1 0, 25, .inl f25))] ++ pl) := hD
  have hq25 : ps26 ≤ 136 := hq25
  refine W.widen (k := 0) (n := 0) (by omega) (by omega) ?_
  refine lv_iconst (v := nI 0) hx hb dME_noise_51 (by decide) ?_
  refine lv_istore (lv' := [(6, .int (nI 0)), (0, .ref h0), (1, .ref f), (2, .ref b), (3, .int (nI at_)), (4, .int wh), (5, .int (nI 2))]) hx hb dME_noise_52 hl (by decide) rfl (fun ls hl => ?_)
  have hO := close1 (e := .inl (g.2.1 0, 25, .inl f25)) hO km25 ⟨_, rfl⟩
  have hO := close1 (e := .inl (g.2.1 2, 24, .inr (.inl f24))) hO km24 ⟨_, rfl⟩
  have hO := close1 (e := .inl (g.2.1 2, 5, .inr (.inl f40))) hO km23 ⟨_, rfl⟩
  have hO := close1 (e := .inl (g.2.1 2, 25, .inr (.inl f39))) hO km22 ⟨_, rfl⟩
  have hO := close1 (e := .inl (g.2.1 2, 25, .inr (.inl f38))) hO km21 ⟨_, rfl⟩
  have hO := close1 (e := .inr (9, [.ref am21, .ref am22, .ref am23, .ref am24, .ref am25, .int (nI 136), .int (nI ps26), .int (nI 31)])) hO kr21 ⟨_, _, _, _, _, _, _, _, rfl, km21, km22, km23, km24, km25, by omega, by omega, by omega⟩
  have hO : okx g T xs ((r21, .inr (9, [.ref am21, .ref am22, .ref am23, .ref am24, .ref am25, .int (nI 136), .int (nI ps26), .int (nI 31)])) :: (am21, .inl (g.2.1 2, 25, .inr (.inl f38))) :: (am22, .inl (g.2.1 2, 25, .inr (.inl f39))) :: (am23, .inl (g.2.1 2, 5, .inr (.inl f40))) :: (am24, .inl (g.2.1 2, 24, .inr (.inl f24))) :: (am25, .inl (g.2.1 0, 25, .inl f25)) :: pl) := hO
  have hP : va_P g.1 vcl ([] ++ ((r21, .inr (9, [.ref am21, .ref am22, .ref am23, .ref am24, .ref am25, .int (nI 136), .int (nI ps26), .int (nI 31)])) :: (am21, .inl (g.2.1 2, 25, .inr (.inl f38))) :: (am22, .inl (g.2.1 2, 25, .inr (.inl f39))) :: (am23, .inl (g.2.1 2, 5, .inr (.inl f40))) :: (am24, .inl (g.2.1 2, 24, .inr (.inl f24))) :: (am25, .inl (g.2.1 0, 25, .inl f25)) :: pl)) _ := hP
  have hD : va_D _ ([] ++ ((r21, .inr (9, [.ref am21, .ref am22, .ref am23, .ref am24, .ref am25, .int (nI 136), .int (nI ps26), .int (nI 31)])) :: (am21, .inl (g.2.1 2, 25, .inr (.inl f38))) :: (am22, .inl (g.2.1 2, 25, .inr (.inl f39))) :: (am23, .inl (g.2.1 2, 5, .inr (.inl f40))) :: (am24, .inl (g.2.1 2, 24, .inr (.inl f24))) :: (am25, .inl (g.2.1 0, 25, .inl f25)) :: pl)) := hD
  generalize ((r21, .inr (9, [.ref am21, .ref am22, .ref am23, .ref am24, .ref am25, .int (nI 136), .int (nI ps26), .int (nI 31)])) :: (am21, .inl (g.2.1 2, 25, .inr (.inl f38))) :: (am22, .inl (g.2.1 2, 25, .inr (.inl f39))) :: (am23, .inl (g.2.1 2, 5, .inr (.inl f40))) :: (am24, .inl (g.2.1 2, 24, .inr (.inl f24))) :: (am25, .inl (g.2.1 0, 25, .inl f25)) :: pl) = pl at hO hP hD
  have lp21 : ∀ (n21 : Nat) (i21 : Nat) (pl : va_W) (ls : Array Slot) (H : Heap) (locs : List Loc), n21 + i21 = 256 → lv_has ls 9 [(6, .int (nI i21)), (0, .ref h0), (1, .ref f), (5, .int (nI 2))] → okx g T xs pl → va_P g.1 vcl ([] ++ pl) H → va_D A ([] ++ pl) → va_S A s.heap H locs → W p l e ({ frames := 4, cells := 0, slots := 0, locals := 98 } : Room) s m args below meth c H locs 0 0 (MQ below (va_Qv (fun (u : va_W) => (True) ∧ okx g T xs u) (po g.1 vcl A (fun (u : va_W) => [] ++ u)) A) args s 0 0 A) (F0 m 54 ls []) := by
    intro n21
    induction n21 with
    | zero =>
      intro i21 pl ls H locs hm21  hl hO hP hD hS
      refine lv_iload hx hb dME_noise_54 (lv_at hl 0 rfl) ?_
      refine lv_sipush (v := nI 256) hx hb dME_noise_56 (by decide) ?_
      refine mi_ge (tgt := 152) hx hb dME_noise_59 (by decide) (by omega) (by omega) (fun h21 => ?_) (fun h21 => absurd h21 (by omega))
      exact mp_vret hx hb hr hlk hP hD hS pl ⟨trivial, hO⟩ [] rfl rfl rfl (by omega) (by omega) dME_noise_152
    | succ n21 ih21 =>
      intro i21 pl ls H locs hm21  hl hO hP hD hS
      refine lv_iload hx hb dME_noise_54 (lv_at hl 0 rfl) ?_
      refine lv_sipush (v := nI 256) hx hb dME_noise_56 (by decide) ?_
      refine mi_ge (tgt := 152) hx hb dME_noise_59 (by decide) (by omega) (by omega) (fun h22 => absurd h22 (by omega)) (fun h22 => ?_)
      refine lv_iconst (v := nI 0) hx hb dME_noise_62 (by decide) ?_
      refine lv_istore (lv' := [(7, .int (nI 0)), (6, .int (nI i21)), (0, .ref h0), (1, .ref f), (5, .int (nI 2))]) hx hb dME_noise_63 hl (by decide) rfl (fun ls hl => ?_)
      refine lv_iconst (v := nI 0) hx hb dME_noise_65 (by decide) ?_
      refine lv_istore (lv' := [(8, .int (nI 0)), (7, .int (nI 0)), (6, .int (nI i21)), (0, .ref h0), (1, .ref f), (5, .int (nI 2))]) hx hb dME_noise_66 hl (by decide) rfl (fun ls hl => ?_)
      have lp22 : ∀ (n22 : Nat) (i22 : Nat) (z21 : Int32) (pl : va_W) (ls : Array Slot) (H : Heap) (locs : List Loc), n22 + i22 = 2 → lv_has ls 9 [(8, .int (nI i22)), (7, .int z21), (6, .int (nI i21)), (0, .ref h0), (1, .ref f), (5, .int (nI 2))] → okx g T xs pl → va_P g.1 vcl ([] ++ pl) H → va_D A ([] ++ pl) → va_S A s.heap H locs → W p l e ({ frames := 4, cells := 0, slots := 0, locals := 98 } : Room) s m args below meth c H locs 0 0 (MQ below (va_Qv (fun (u : va_W) => (True) ∧ okx g T xs u) (po g.1 vcl A (fun (u : va_W) => [] ++ u)) A) args s 0 0 A) (F0 m 68 ls []) := by
        intro n22
        induction n22 with
        | zero =>
          intro i22 z21 pl ls H locs hm22  hl hO hP hD hS
          refine lv_iload hx hb dME_noise_68 (lv_at hl 0 rfl) ?_
          refine lv_iload hx hb dME_noise_70 (lv_at hl 5 rfl) ?_
          refine mi_ge (tgt := 126) hx hb dME_noise_72 (by decide) (by omega) (by omega) (fun h23 => ?_) (fun h23 => absurd h23 (by omega))
          refine lv_aload_n hx hb dME_noise_126 rfl (lv_at hl 4 rfl) ?_
          refine lv_iload hx hb dME_noise_127 (lv_at hl 2 rfl) ?_
          refine lv_iload hx hb dME_noise_129 (lv_at hl 1 rfl) ?_
          refine lv_if_ge (tgt := 143) hx hb dME_noise_131 (by decide) (fun h24 => ?_) (fun h24 => ?_)
          · refine lv_iload hx hb dME_noise_143 (lv_at hl 1 rfl) ?_
            refine ty_iast hx hb hK hO k_f (nxg hc0 k_f rfl) hP hD hS (vp_in_nI (by omega) (by decide)) dME_noise_145 (fun pl H locs hO hP hD hS => ?_)
            refine mi_iinc (k := 2) (x := i21) (d := 1) (y := i21 + 1) (lv' := [(6, .int (nI (i21 + 1))), (8, .int (nI i22)), (7, .int z21), (0, .ref h0), (1, .ref f), (5, .int (nI 2))]) hx hb dME_noise_146 hl rfl (by decide) rfl (by decide) rfl (fun ls hl => ?_)
            refine lv_goto (tgt := 54) hx hb dME_noise_149 (by decide) ?_
            exact ih21 (i21 + 1) pl ls H locs (by omega) (lv_sub hl [0, 3, 4, 5] rfl) hO hP hD hS
          · refine lv_iload hx hb dME_noise_134 (lv_at hl 1 rfl) ?_
            refine lv_sipush (v := nI 3329) hx hb dME_noise_136 (by decide) ?_
            refine lv_iadd hx hb dME_noise_139 ?_
            refine mi_any (fun z22 => ?_)
            refine lv_goto (tgt := 145) hx hb dME_noise_140 (by decide) ?_
            refine ty_iast hx hb hK hO k_f (nxg hc0 k_f rfl) hP hD hS (vp_in_nI (by omega) (by decide)) dME_noise_145 (fun pl H locs hO hP hD hS => ?_)
            refine mi_iinc (k := 2) (x := i21) (d := 1) (y := i21 + 1) (lv' := [(6, .int (nI (i21 + 1))), (8, .int (nI i22)), (7, .int z21), (0, .ref h0), (1, .ref f), (5, .int (nI 2))]) hx hb dME_noise_146 hl rfl (by decide) rfl (by decide) rfl (fun ls hl => ?_)
            refine lv_goto (tgt := 54) hx hb dME_noise_149 (by decide) ?_
            exact ih21 (i21 + 1) pl ls H locs (by omega) (lv_sub hl [0, 3, 4, 5] rfl) hO hP hD hS
        | succ n22 ih22 =>
          intro i22 z21 pl ls H locs hm22  hl hO hP hD hS
          refine lv_iload hx hb dME_noise_68 (lv_at hl 0 rfl) ?_
          refine lv_iload hx hb dME_noise_70 (lv_at hl 5 rfl) ?_
          refine mi_ge (tgt := 126) hx hb dME_noise_72 (by decide) (by omega) (by omega) (fun h25 => absurd h25 (by omega)) (fun h25 => ?_)
          refine lv_iload hx hb dME_noise_75 (lv_at hl 1 rfl) ?_
          refine lv_aload_n hx hb dME_noise_77 rfl (lv_at hl 3 rfl) ?_
          refine ty_get (ci := 11) (C := "LatticeKeysModel$Secrets") (TT := T_ME) (N := 14) (kd := (23, 0)) hx hb hts (wg_ft i_ME) hown hK hO k_h0 (nxg hc0 k_h0 rfl) hP (fun _ h9 => h9) rfl 10 (by decide) (hts _ (wg_t kw_1389)) (fun _ h9 => h9) (cd := (3, 1, 192)) rfl dME_noise_78 (fun v27 hv27 => ?_)
          obtain ⟨r27, rfl, kr27⟩ := (show ∃ r : Nat, v27 = .ref r ∧ T r = some (1, 192) from hv27)
          refine lv_iconst (v := nI 2) hx hb dME_noise_81 (by decide) ?_
          refine lv_iload hx hb dME_noise_82 (lv_at hl 2 rfl) ?_
          refine mi_imul hx hb dME_noise_84 ?_
          refine lv_iload hx hb dME_noise_85 (lv_at hl 5 rfl) ?_
          refine mi_imul hx hb dME_noise_87 ?_
          refine lv_iload hx hb dME_noise_88 (lv_at hl 0 rfl) ?_
          refine mi_iadd hx hb dME_noise_90 ?_
          refine lv_iconst (v := nI 1) hx hb dME_noise_91 (by decide) ?_
          refine mp_i (cx := []) (wr := []) hP hD hS hA [] [] rfl rfl rfl (by decide) (va_runSN (As := [.ref r27, .int (nI (((2 * i21) * 2) + i22)), .int (nI 1)]) (rest := [.int z21]) F (t_M_unpack l g _ T xs pl hO hU hc0 r27 192 (((2 * i21) * 2) + i22) 1 kr27 (by omega) (by omega) (by omega)) ⟨va_cnB 3 hts (wg_in kw_1667) rfl rfl rfl (hE.2.2.2.2.2.2.2.1) (hts _ (wg_t kw_9)) (by decide +kernel) ⟨by decide, by decide⟩, hts _ (wg_t kw_1666), trivial⟩ (pp_S (en_ok g) hP hD hS hA hE [] rfl rfl) rfl rfl hl.1 rfl (lv_room (Nat.le_of_ble_eq_true rfl)) dME_noise_92 ⟨by omega, by omega⟩) (fun r28 pl H locs hu26 hP hD hS => ?_)
          obtain ⟨hq26, hO⟩ := hu26
          have hP : va_P g.1 vcl ([] ++ pl) _ := hP
          have hD : va_D _ ([] ++ pl) := hD
          refine W.widen (k := 0) (n := 0) (by omega) (by omega) ?_
          refine lv_aload_n hx hb dME_noise_95 rfl (lv_at hl 3 rfl) ?_
          refine ty_get (ci := 11) (C := "LatticeKeysModel$Secrets") (TT := T_ME) (N := 14) (kd := (23, 0)) hx hb hts (wg_ft i_ME) hown hK hO k_h0 (nxg hc0 k_h0 rfl) hP (fun _ h9 => h9) rfl 10 (by decide) (hts _ (wg_t kw_1389)) (fun _ h9 => h9) (cd := (3, 1, 192)) rfl dME_noise_96 (fun v28 hv28 => ?_)
          obtain ⟨r29, rfl, kr28⟩ := (show ∃ r : Nat, v28 = .ref r ∧ T r = some (1, 192) from hv28)
          refine lv_iconst (v := nI 2) hx hb dME_noise_99 (by decide) ?_
          refine lv_iload hx hb dME_noise_100 (lv_at hl 2 rfl) ?_
          refine mi_imul hx hb dME_noise_102 ?_
          refine lv_iload hx hb dME_noise_103 (lv_at hl 5 rfl) ?_
          refine mi_imul hx hb dME_noise_105 ?_
          refine lv_iload hx hb dME_noise_106 (lv_at hl 5 rfl) ?_
          refine mi_iadd hx hb dME_noise_108 ?_
          refine lv_iload hx hb dME_noise_109 (lv_at hl 0 rfl) ?_
          refine mi_iadd hx hb dME_noise_111 ?_
          refine lv_iconst (v := nI 1) hx hb dME_noise_112 (by decide) ?_
          refine mp_i (cx := []) (wr := []) hP hD hS hA [] [] rfl rfl rfl (by decide) (va_runSN (As := [.ref r29, .int (nI ((((2 * i21) * 2) + 2) + i22)), .int (nI 1)]) (rest := [.int r28, .int z21]) F (t_M_unpack l g _ T xs pl hO hU hc0 r29 192 ((((2 * i21) * 2) + 2) + i22) 1 kr28 (by omega) (by omega) (by omega)) ⟨va_cnB 3 hts (wg_in kw_1667) rfl rfl rfl (hE.2.2.2.2.2.2.2.1) (hts _ (wg_t kw_9)) (by decide +kernel) ⟨by decide, by decide⟩, hts _ (wg_t kw_1666), trivial⟩ (pp_S (en_ok g) hP hD hS hA hE [] rfl rfl) rfl rfl hl.1 rfl (lv_room (Nat.le_of_ble_eq_true rfl)) dME_noise_113 ⟨by omega, by omega⟩) (fun r30 pl H locs hu27 hP hD hS => ?_)
          obtain ⟨hq27, hO⟩ := hu27
          have hP : va_P g.1 vcl ([] ++ pl) _ := hP
          have hD : va_D _ ([] ++ pl) := hD
          refine W.widen (k := 0) (n := 0) (by omega) (by omega) ?_
          refine lv_isub hx hb dME_noise_116 ?_
          refine mi_any (fun z23 => ?_)
          refine lv_iadd hx hb dME_noise_117 ?_
          refine mi_any (fun z24 => ?_)
          refine lv_istore (lv' := [(7, .int z24), (8, .int (nI i22)), (6, .int (nI i21)), (0, .ref h0), (1, .ref f), (5, .int (nI 2))]) hx hb dME_noise_118 hl (by decide) rfl (fun ls hl => ?_)
          refine mi_iinc (k := 1) (x := i22) (d := 1) (y := i22 + 1) (lv' := [(8, .int (nI (i22 + 1))), (7, .int z24), (6, .int (nI i21)), (0, .ref h0), (1, .ref f), (5, .int (nI 2))]) hx hb dME_noise_120 hl rfl (by decide) rfl (by decide) rfl (fun ls hl => ?_)
          refine lv_goto (tgt := 68) hx hb dME_noise_123 (by decide) ?_
          exact ih22 (i22 + 1) z24 pl ls H locs (by omega) (lv_sub hl [0, 1, 2, 3, 4, 5] rfl) hO hP hD hS
      exact lp22 2 0 (nI 0) pl ls _ _ (by omega) (lv_sub hl [0, 1, 2, 3, 4, 5] rfl) hO hP hD hS
  exact lp21 256 0 pl ls _ _ (by omega) (lv_sub hl [0, 1, 2, 6] rfl) hO hP hD hS
set_option maxHeartbeats 400000 in
set_option maxRecDepth 100000 in
theorem t_ME_noise_3 (l : Launch) (g : Gd) (sz : Nat) (T : Ty) (xs : List Nat) (pl : va_W) (hO : okx g T xs pl) (hU : uni T) (hc0 : clo T xs 0) (hc9 : clo T xs 9) (h0 f b n at_ : Nat) (wh : Int32) (k_h0 : T h0 = some (23, 0)) (k_f : T f = some (0, 256)) (k_b : T b = some (1, n)) (h1 : at_ + 32 ≤ n) (h2 : n < 65536)  : Met l y_ME_noise w_ME_noise ({ frames := 4, cells := 0, slots := 0, locals := 98 } : Room) (va_Pc [.ref h0, .ref f, .ref b, .int (nI at_), .int wh, .int (nI 3)] (pr (en g) g.1 vcl sz ([] ++ pl))) (va_Qv (fun (u : va_W) => (True) ∧ okx g T xs u) (po g.1 vcl (va_A ([] ++ pl) sz) (fun (u : va_W) => [] ++ u)) (va_A ([] ++ pl) sz)) 0 0 (va_A ([] ++ pl) sz) := by
  refine mc_entry (cc := c_ME_noise) (maxL := 9) (ret := none) (by decide) rfl (Nat.le_of_ble_eq_true rfl) ?_
  intro p e s m args below meth c ls F hr hlk hnm hsz hP hD hE hA hl
  obtain ⟨hx, hb, hml, hown, hts⟩ := id F
  have hK := hE.1
  generalize va_A ([] ++ pl) sz = A at hD hE hA ⊢
  have hS : va_S A s.heap s.heap [] := va_S.rf
  have hl : lv_has ls 9 [(0, .ref h0), (1, .ref f), (2, .ref b), (3, .int (nI at_)), (4, .int wh), (5, .int (nI 3))] := hl
  refine lv_aload_n hx hb dME_noise_0 rfl (lv_at hl 0 rfl) ?_
  refine ty_get (ci := 11) (C := "LatticeKeysModel$Secrets") (TT := T_ME) (N := 14) (kd := (23, 0)) hx hb hts (wg_ft i_ME) hown hK hO k_h0 (nxg hc0 k_h0 rfl) hP (fun _ h9 => h9) rfl 0 (by decide) (hts _ (wg_t kw_1379)) (fun _ h9 => h9) (cd := (3, 20, 0)) rfl dME_noise_1 (fun v21 hv21 => ?_)
  obtain ⟨r21, rfl, kr21⟩ := (show ∃ r : Nat, v21 = .ref r ∧ T r = some (20, 0) from hv21)
  obtain ⟨e21, pl, hP, hD, hk21, hO⟩ := open1 hP hD hO kr21 (nxg hc9 kr21 rfl)
  obtain ⟨am21, am22, am23, am24, am25, rt21, ps21, x21, rfl, km21, km22, km23, km24, km25, hr21, hr22, hr23⟩ := hk21
  obtain ⟨e22, pl, hP, hD, hk22, hO⟩ := open1 hP hD hO km21 (nmc (knd_ne km21 kr21 (by decide)) (nxg hc9 km21 rfl))
  obtain ⟨f21, rfl⟩ := hk22
  obtain ⟨e23, pl, hP, hD, hk23, hO⟩ := open1 hP hD hO km22 (nmc (knd_ne km22 km21 (by decide)) (nmc (knd_ne km22 kr21 (by decide)) (nxg hc9 km22 rfl)))
  obtain ⟨f22, rfl⟩ := hk23
  obtain ⟨e24, pl, hP, hD, hk24, hO⟩ := open1 hP hD hO km23 (nmc (knd_ne km23 km22 (by decide)) (nmc (knd_ne km23 km21 (by decide)) (nmc (knd_ne km23 kr21 (by decide)) (nxg hc9 km23 rfl))))
  obtain ⟨f23, rfl⟩ := hk24
  obtain ⟨e25, pl, hP, hD, hk25, hO⟩ := open1 hP hD hO km24 (nmc (knd_ne km24 km23 (by decide)) (nmc (knd_ne km24 km22 (by decide)) (nmc (knd_ne km24 km21 (by decide)) (nmc (knd_ne km24 kr21 (by decide)) (nxg hc9 km24 rfl)))))
  obtain ⟨f24, rfl⟩ := hk25
  obtain ⟨e26, pl, hP, hD, hk26, hO⟩ := open1 hP hD hO km25 (nmc (knd_ne km25 km24 (by decide)) (nmc (knd_ne km25 km23 (by decide)) (nmc (knd_ne km25 km22 (by decide)) (nmc (knd_ne km25 km21 (by decide)) (nmc (knd_ne km25 kr21 (by decide)) (nxg hc9 km25 rfl))))))
  obtain ⟨f25, rfl⟩ := hk26
  have hP : va_P g.1 vcl ([(r21, .inr (9, [.ref am21, .ref am22, .ref am23, .ref am24, .ref am25, .int (nI rt21), .int (nI ps21), .int x21])), (am21, .inl (g.2.1 2, 25, .inr (.inl f21))), (am22, .inl (g.2.1 2, 25, .inr (.inl f22))), (am23, .inl (g.2.1 2, 5, .inr (.inl f23))), (am24, .inl (g.2.1 2, 24, .inr (.inl f24))), (am25, .inl (g.2.1 0, 25, .inl f25))] ++ pl) _ := hP
  have hD : va_D _ ([(r21, .inr (9, [.ref am21, .ref am22, .ref am23, .ref am24, .ref am25, .int (nI rt21), .int (nI ps21), .int x21])), (am21, .inl (g.2.1 2, 25, .inr (.inl f21))), (am22, .inl (g.2.1 2, 25, .inr (.inl f22))), (am23, .inl (g.2.1 2, 5, .inr (.inl f23))), (am24, .inl (g.2.1 2, 24, .inr (.inl f24))), (am25, .inl (g.2.1 0, 25, .inl f25))] ++ pl) := hD
  refine mp_v (cx := [(r21, .inr (9, [.ref am21, .ref am22, .ref am23, .ref am24, .ref am25, .int (nI rt21), .int (nI ps21), .int x21])), (am21, .inl (g.2.1 2, 25, .inr (.inl f21))), (am22, .inl (g.2.1 2, 25, .inr (.inl f22))), (am23, .inl (g.2.1 2, 5, .inr (.inl f23))), (am24, .inl (g.2.1 2, 24, .inr (.inl f24))), (am25, .inl (g.2.1 0, 25, .inl f25))]) (wr := []) hP hD hS hA [0, 1, 2, 3, 4, 5] [] rfl rfl rfl (by decide) (va_runV (As := []) (rest := []) F (t_MS_shake l g _ T (am25 :: (am24 :: (am23 :: (am22 :: (am21 :: (r21 :: xs)))))) pl hO hU  r21 am21 am22 am23 am24 am25 rt21 ps21 x21 f21 f22 f23 f24 f25) (cwV 0 hts (wg_app (wg_c kw_1660 (wg_c kw_1661 (wg_c kw_1662 (wg_c kw_10 wg_n)))) kw_1663) rfl rfl rfl (by decide +kernel) ⟨by decide, by decide⟩) (pp_V (en_ok g) (q0 := 0) hK hP hD hS hA hE [0, 1, 2, 3, 4, 5] rfl rfl rfl rfl) rfl rfl hl.1 rfl (lv_room (Nat.le_of_ble_eq_true rfl)) dME_noise_4 ⟨by omega, by omega⟩) (fun  u21 H locs hu21 hP hD hS => ?_)
  obtain ⟨u22, pl⟩ := u21
  obtain ⟨hq21, hO⟩ := hu21
  obtain ⟨ps22, f26, f27, f28⟩ := u22
  have hP : va_P g.1 vcl ([(r21, .inr (9, [.ref am21, .ref am22, .ref am23, .ref am24, .ref am25, .int (nI 136), .int (nI ps22), .int (nI 31)])), (am21, .inl (g.2.1 2, 25, .inr (.inl f26))), (am22, .inl (g.2.1 2, 25, .inr (.inl f27))), (am23, .inl (g.2.1 2, 5, .inr (.inl f28))), (am24, .inl (g.2.1 2, 24, .inr (.inl f24))), (am25, .inl (g.2.1 0, 25, .inl f25))] ++ pl) _ := hP
  have hD : va_D _ ([(r21, .inr (9, [.ref am21, .ref am22, .ref am23, .ref am24, .ref am25, .int (nI 136), .int (nI ps22), .int (nI 31)])), (am21, .inl (g.2.1 2, 25, .inr (.inl f26))), (am22, .inl (g.2.1 2, 25, .inr (.inl f27))), (am23, .inl (g.2.1 2, 5, .inr (.inl f28))), (am24, .inl (g.2.1 2, 24, .inr (.inl f24))), (am25, .inl (g.2.1 0, 25, .inl f25))] ++ pl) := hD
  have hq21 : ps22 ≤ 136 := hq21
  refine W.widen (k := 0) (n := 0) (by omega) (by omega) ?_
  refine lv_aload_n hx hb dME_noise_7 rfl (lv_at hl 0 rfl) ?_
  refine ty_get (ci := 11) (C := "LatticeKeysModel$Secrets") (TT := T_ME) (N := 14) (kd := (23, 0)) hx hb hts (wg_ft i_ME) hown hK hO k_h0 (nxg (clo_cons (clo_cons (clo_cons (clo_cons (clo_cons (clo_cons hc0 kr21 (by decide)) km21 (by decide)) km22 (by decide)) km23 (by decide)) km24 (by decide)) km25 (by decide)) k_h0 rfl) hP (fun _ h9 => h9) rfl 0 (by decide) (hts _ (wg_t kw_1379)) (fun _ h9 => h9) (cd := (3, 20, 0)) rfl dME_noise_8 (fun v22 hv22 => ?_)
  obtain ⟨r22, rfl, kr22⟩ := (show ∃ r : Nat, v22 = .ref r ∧ T r = some (20, 0) from hv22)
  obtain rfl : r21 = r22 := hU _ _ _ (by decide) kr21 kr22
  refine lv_aload_n hx hb dME_noise_11 rfl (lv_at hl 2 rfl) ?_
  refine lv_iload_n hx hb dME_noise_12 rfl (lv_at hl 3 rfl) ?_
  refine lv_bipush (v := nI 32) hx hb dME_noise_13 (by decide) ?_
  refine mp_v (cx := [(r21, .inr (9, [.ref am21, .ref am22, .ref am23, .ref am24, .ref am25, .int (nI 136), .int (nI ps22), .int (nI 31)])), (am21, .inl (g.2.1 2, 25, .inr (.inl f26))), (am22, .inl (g.2.1 2, 25, .inr (.inl f27))), (am23, .inl (g.2.1 2, 5, .inr (.inl f28))), (am24, .inl (g.2.1 2, 24, .inr (.inl f24))), (am25, .inl (g.2.1 0, 25, .inl f25))]) (wr := []) hP hD hS hA [0, 1, 2, 3, 4, 5] [] rfl rfl rfl (by decide) (va_runV (As := [.ref b, .int (nI at_), .int (nI 32)]) (rest := []) F (t_MS_puts l g _ T (am25 :: (am24 :: (am23 :: (am22 :: (am21 :: (r21 :: xs)))))) pl hO hU (clo_cons (clo_cons (clo_cons (clo_cons (clo_cons (clo_cons hc0 kr21 (by decide)) km21 (by decide)) km22 (by decide)) km23 (by decide)) km24 (by decide)) km25 (by decide)) b n at_ 32 r21 am21 am22 am23 am24 am25 136 ps22 (nI 31) f26 f27 f28 f24 f25 k_b (by omega) (by omega) (by omega) (by omega)) (cwV 3 hts (wg_app (wg_c kw_1611 (wg_c kw_1612 (wg_c kw_1613 (wg_c kw_10 wg_n)))) kw_1614) rfl rfl rfl (by decide +kernel) ⟨by decide, by decide⟩) (pp_V (en_ok g) (q0 := 0) hK hP hD hS hA hE [0, 1, 2, 3, 4, 5] rfl rfl rfl rfl) rfl rfl hl.1 rfl (lv_room (Nat.le_of_ble_eq_true rfl)) dME_noise_15 ⟨by omega, by omega⟩) (fun  u23 H locs hu22 hP hD hS => ?_)
  obtain ⟨u24, pl⟩ := u23
  obtain ⟨hq22, hO⟩ := hu22
  obtain ⟨ps23, f29, f30, f31⟩ := u24
  have hP : va_P g.1 vcl ([(r21, .inr (9, [.ref am21, .ref am22, .ref am23, .ref am24, .ref am25, .int (nI 136), .int (nI ps23), .int (nI 31)])), (am21, .inl (g.2.1 2, 25, .inr (.inl f29))), (am22, .inl (g.2.1 2, 25, .inr (.inl f30))), (am23, .inl (g.2.1 2, 5, .inr (.inl f31))), (am24, .inl (g.2.1 2, 24, .inr (.inl f24))), (am25, .inl (g.2.1 0, 25, .inl f25))] ++ pl) _ := hP
  have hD : va_D _ ([(r21, .inr (9, [.ref am21, .ref am22, .ref am23, .ref am24, .ref am25, .int (nI 136), .int (nI ps23), .int (nI 31)])), (am21, .inl (g.2.1 2, 25, .inr (.inl f29))), (am22, .inl (g.2.1 2, 25, .inr (.inl f30))), (am23, .inl (g.2.1 2, 5, .inr (.inl f31))), (am24, .inl (g.2.1 2, 24, .inr (.inl f24))), (am25, .inl (g.2.1 0, 25, .inl f25))] ++ pl) := hD
  have hq22 : ps23 ≤ 136 := hq22
  refine W.widen (k := 0) (n := 0) (by omega) (by omega) ?_
  refine lv_aload_n hx hb dME_noise_18 rfl (lv_at hl 0 rfl) ?_
  refine ty_get (ci := 11) (C := "LatticeKeysModel$Secrets") (TT := T_ME) (N := 14) (kd := (23, 0)) hx hb hts (wg_ft i_ME) hown hK hO k_h0 (nxg (clo_cons (clo_cons (clo_cons (clo_cons (clo_cons (clo_cons hc0 kr21 (by decide)) km21 (by decide)) km22 (by decide)) km23 (by decide)) km24 (by decide)) km25 (by decide)) k_h0 rfl) hP (fun _ h9 => h9) rfl 0 (by decide) (hts _ (wg_t kw_1379)) (fun _ h9 => h9) (cd := (3, 20, 0)) rfl dME_noise_19 (fun v23 hv23 => ?_)
  obtain ⟨r23, rfl, kr23⟩ := (show ∃ r : Nat, v23 = .ref r ∧ T r = some (20, 0) from hv23)
  obtain rfl : r21 = r23 := hU _ _ _ (by decide) kr21 kr23
  refine lv_iload hx hb dME_noise_22 (lv_at hl 4 rfl) ?_
  refine mp_v (cx := [(r21, .inr (9, [.ref am21, .ref am22, .ref am23, .ref am24, .ref am25, .int (nI 136), .int (nI ps23), .int (nI 31)])), (am21, .inl (g.2.1 2, 25, .inr (.inl f29))), (am22, .inl (g.2.1 2, 25, .inr (.inl f30))), (am23, .inl (g.2.1 2, 5, .inr (.inl f31))), (am24, .inl (g.2.1 2, 24, .inr (.inl f24))), (am25, .inl (g.2.1 0, 25, .inl f25))]) (wr := []) hP hD hS hA [0, 1, 2, 3, 4, 5] [] rfl rfl rfl (by decide) (va_runV (As := [.int wh]) (rest := []) F (t_MS_put l g _ T (am25 :: (am24 :: (am23 :: (am22 :: (am21 :: (r21 :: xs)))))) pl hO hU  wh r21 am21 am22 am23 am24 am25 136 ps23 (nI 31) f29 f30 f31 f24 f25 (by omega) (by omega)) (cwV 1 hts (wg_app (wg_c kw_1632 (wg_c kw_1616 (wg_c kw_1617 (wg_c kw_10 wg_n)))) kw_1618) rfl rfl rfl (by decide +kernel) ⟨by decide, by decide⟩) (pp_V (en_ok g) (q0 := 0) hK hP hD hS hA hE [0, 1, 2, 3, 4, 5] rfl rfl rfl rfl) rfl rfl hl.1 rfl (lv_room (Nat.le_of_ble_eq_true rfl)) dME_noise_24 ⟨by omega, by omega⟩) (fun  u25 H locs hu23 hP hD hS => ?_)
  obtain ⟨u26, pl⟩ := u25
  obtain ⟨hq23, hO⟩ := hu23
  obtain ⟨ps24, f32, f33, f34⟩ := u26
  have hP : va_P g.1 vcl ([(r21, .inr (9, [.ref am21, .ref am22, .ref am23, .ref am24, .ref am25, .int (nI 136), .int (nI ps24), .int (nI 31)])), (am21, .inl (g.2.1 2, 25, .inr (.inl f32))), (am22, .inl (g.2.1 2, 25, .inr (.inl f33))), (am23, .inl (g.2.1 2, 5, .inr (.inl f34))), (am24, .inl (g.2.1 2, 24, .inr (.inl f24))), (am25, .inl (g.2.1 0, 25, .inl f25))] ++ pl) _ := hP
  have hD : va_D _ ([(r21, .inr (9, [.ref am21, .ref am22, .ref am23, .ref am24, .ref am25, .int (nI 136), .int (nI ps24), .int (nI 31)])), (am21, .inl (g.2.1 2, 25, .inr (.inl f32))), (am22, .inl (g.2.1 2, 25, .inr (.inl f33))), (am23, .inl (g.2.1 2, 5, .inr (.inl f34))), (am24, .inl (g.2.1 2, 24, .inr (.inl f24))), (am25, .inl (g.2.1 0, 25, .inl f25))] ++ pl) := hD
  have hq23 : ps24 ≤ 136 := hq23
  refine W.widen (k := 0) (n := 0) (by omega) (by omega) ?_
  refine lv_aload_n hx hb dME_noise_27 rfl (lv_at hl 0 rfl) ?_
  refine ty_get (ci := 11) (C := "LatticeKeysModel$Secrets") (TT := T_ME) (N := 14) (kd := (23, 0)) hx hb hts (wg_ft i_ME) hown hK hO k_h0 (nxg (clo_cons (clo_cons (clo_cons (clo_cons (clo_cons (clo_cons hc0 kr21 (by decide)) km21 (by decide)) km22 (by decide)) km23 (by decide)) km24 (by decide)) km25 (by decide)) k_h0 rfl) hP (fun _ h9 => h9) rfl 0 (by decide) (hts _ (wg_t kw_1379)) (fun _ h9 => h9) (cd := (3, 20, 0)) rfl dME_noise_28 (fun v24 hv24 => ?_)
  obtain ⟨r24, rfl, kr24⟩ := (show ∃ r : Nat, v24 = .ref r ∧ T r = some (20, 0) from hv24)
  obtain rfl : r21 = r24 := hU _ _ _ (by decide) kr21 kr24
  refine mp_v (cx := [(r21, .inr (9, [.ref am21, .ref am22, .ref am23, .ref am24, .ref am25, .int (nI 136), .int (nI ps24), .int (nI 31)])), (am21, .inl (g.2.1 2, 25, .inr (.inl f32))), (am22, .inl (g.2.1 2, 25, .inr (.inl f33))), (am23, .inl (g.2.1 2, 5, .inr (.inl f34))), (am24, .inl (g.2.1 2, 24, .inr (.inl f24))), (am25, .inl (g.2.1 0, 25, .inl f25))]) (wr := []) hP hD hS hA [0, 1, 2, 3, 4, 5] [] rfl rfl rfl (by decide) (va_runV (As := []) (rest := []) F (t_MS_end l g _ T (am25 :: (am24 :: (am23 :: (am22 :: (am21 :: (r21 :: xs)))))) pl hO hU  r21 am21 am22 am23 am24 am25 136 ps24 (nI 31) f32 f33 f34 f24 f25 (by omega) (by omega)) (cwV 0 hts (wg_app (wg_c kw_1633 (wg_c kw_1634 (wg_c kw_1635 (wg_c kw_10 wg_n)))) kw_1636) rfl rfl rfl (by decide +kernel) ⟨by decide, by decide⟩) (pp_V (en_ok g) (q0 := 0) hK hP hD hS hA hE [0, 1, 2, 3, 4, 5] rfl rfl rfl rfl) rfl rfl hl.1 rfl (lv_room (Nat.le_of_ble_eq_true rfl)) dME_noise_31 ⟨by omega, by omega⟩) (fun  u27 H locs hu24 hP hD hS => ?_)
  obtain ⟨u28, pl⟩ := u27
  obtain ⟨hq24, hO⟩ := hu24
  obtain ⟨ps25, f35, f36, f37⟩ := u28
  have hP : va_P g.1 vcl ([(r21, .inr (9, [.ref am21, .ref am22, .ref am23, .ref am24, .ref am25, .int (nI 136), .int (nI ps25), .int (nI 31)])), (am21, .inl (g.2.1 2, 25, .inr (.inl f35))), (am22, .inl (g.2.1 2, 25, .inr (.inl f36))), (am23, .inl (g.2.1 2, 5, .inr (.inl f37))), (am24, .inl (g.2.1 2, 24, .inr (.inl f24))), (am25, .inl (g.2.1 0, 25, .inl f25))] ++ pl) _ := hP
  have hD : va_D _ ([(r21, .inr (9, [.ref am21, .ref am22, .ref am23, .ref am24, .ref am25, .int (nI 136), .int (nI ps25), .int (nI 31)])), (am21, .inl (g.2.1 2, 25, .inr (.inl f35))), (am22, .inl (g.2.1 2, 25, .inr (.inl f36))), (am23, .inl (g.2.1 2, 5, .inr (.inl f37))), (am24, .inl (g.2.1 2, 24, .inr (.inl f24))), (am25, .inl (g.2.1 0, 25, .inl f25))] ++ pl) := hD
  have hq24 : ps25 ≤ 136 := hq24
  refine W.widen (k := 0) (n := 0) (by omega) (by omega) ?_
  refine lv_aload_n hx hb dME_noise_34 rfl (lv_at hl 0 rfl) ?_
  refine ty_get (ci := 11) (C := "LatticeKeysModel$Secrets") (TT := T_ME) (N := 14) (kd := (23, 0)) hx hb hts (wg_ft i_ME) hown hK hO k_h0 (nxg (clo_cons (clo_cons (clo_cons (clo_cons (clo_cons (clo_cons hc0 kr21 (by decide)) km21 (by decide)) km22 (by decide)) km23 (by decide)) km24 (by decide)) km25 (by decide)) k_h0 rfl) hP (fun _ h9 => h9) rfl 0 (by decide) (hts _ (wg_t kw_1379)) (fun _ h9 => h9) (cd := (3, 20, 0)) rfl dME_noise_35 (fun v25 hv25 => ?_)
  obtain ⟨r25, rfl, kr25⟩ := (show ∃ r : Nat, v25 = .ref r ∧ T r = some (20, 0) from hv25)
  obtain rfl : r21 = r25 := hU _ _ _ (by decide) kr21 kr25
  refine lv_aload_n hx hb dME_noise_38 rfl (lv_at hl 0 rfl) ?_
  refine ty_get (ci := 11) (C := "LatticeKeysModel$Secrets") (TT := T_ME) (N := 14) (kd := (23, 0)) hx hb hts (wg_ft i_ME) hown hK hO k_h0 (nxg (clo_cons (clo_cons (clo_cons (clo_cons (clo_cons (clo_cons hc0 kr21 (by decide)) km21 (by decide)) km22 (by decide)) km23 (by decide)) km24 (by decide)) km25 (by decide)) k_h0 rfl) hP (fun _ h9 => h9) rfl 10 (by decide) (hts _ (wg_t kw_1389)) (fun _ h9 => h9) (cd := (3, 1, 192)) rfl dME_noise_39 (fun v26 hv26 => ?_)
  obtain ⟨r26, rfl, kr26⟩ := (show ∃ r : Nat, v26 = .ref r ∧ T r = some (1, 192) from hv26)
  refine lv_iconst (v := nI 0) hx hb dME_noise_42 (by decide) ?_
  refine lv_bipush (v := nI 64) hx hb dME_noise_43 (by decide) ?_
  refine lv_iload hx hb dME_noise_45 (lv_at hl 5 rfl) ?_
  refine mi_imul hx hb dME_noise_47 ?_
  refine mi_as (show nI (64 * 3) = nI 192 from rfl) ?_
  refine mp_v (cx := [(r21, .inr (9, [.ref am21, .ref am22, .ref am23, .ref am24, .ref am25, .int (nI 136), .int (nI ps25), .int (nI 31)])), (am21, .inl (g.2.1 2, 25, .inr (.inl f35))), (am22, .inl (g.2.1 2, 25, .inr (.inl f36))), (am23, .inl (g.2.1 2, 5, .inr (.inl f37))), (am24, .inl (g.2.1 2, 24, .inr (.inl f24))), (am25, .inl (g.2.1 0, 25, .inl f25))]) (wr := []) hP hD hS hA [0, 1, 2, 3, 4, 5] [] rfl rfl rfl (by decide) (va_runV (As := [.ref r26, .int (nI 0), .int (nI 192)]) (rest := []) F (t_MS_take l g _ T (am25 :: (am24 :: (am23 :: (am22 :: (am21 :: (r21 :: xs)))))) pl hO hU (clo_cons (clo_cons (clo_cons (clo_cons (clo_cons (clo_cons hc0 kr21 (by decide)) km21 (by decide)) km22 (by decide)) km23 (by decide)) km24 (by decide)) km25 (by decide)) r26 192 0 192 r21 am21 am22 am23 am24 am25 136 ps25 (nI 31) f35 f36 f37 f24 f25 kr26 (by omega) (by omega) (by omega) (by omega)) (cwV 3 hts (wg_app (wg_c kw_1637 (wg_c kw_1638 (wg_c kw_1639 (wg_c kw_10 wg_n)))) kw_1640) rfl rfl rfl (by decide +kernel) ⟨by decide, by decide⟩) (pp_V (en_ok g) (q0 := 0) hK hP hD hS hA hE [0, 1, 2, 3, 4, 5] rfl rfl rfl rfl) rfl rfl hl.1 rfl (lv_room (Nat.le_of_ble_eq_true rfl)) dME_noise_48 ⟨by omega, by omega⟩) (fun  u29 H locs hu25 hP hD hS => ?_)
  obtain ⟨u30, pl⟩ := u29
  obtain ⟨hq25, hO⟩ := hu25
  obtain ⟨ps26, f38, f39, f40⟩ := u30
  have hP : va_P g.1 vcl ([(r21, .inr (9, [.ref am21, .ref am22, .ref am23, .ref am24, .ref am25, .int (nI 136), .int (nI ps26), .int (nI 31)])), (am21, .inl (g.2.1 2, 25, .inr (.inl f38))), (am22, .inl (g.2.1 2, 25, .inr (.inl f39))), (am23, .inl (g.2.1 2, 5, .inr (.inl f40))), (am24, .inl (g.2.1 2, 24, .inr (.inl f24))), (am25, .inl (g.2.1 0, 25, .inl f25))] ++ pl) _ := hP
  have hD : va_D _ ([(r21, .inr (9, [.ref am21, .ref am22, .ref am23, .ref am24, .ref am25, .int (nI 136), .int (nI ps26), .int (nI 31)])), (am21, .inl (g.2.1 2, 25, .inr (.inl f38))), (am22, .inl (g.2.1 2, 25, .inr (.inl f39))), (am23, .inl (g.2.1 2, 5, .inr (.inl f40))), (am24, .inl (g.2.1 2, 24, .inr (.inl f24))), (am25, .inl (g.2.1 0, 25, .inl f25))] ++ pl) := hD
  have hq25 : ps26 ≤ 136 := hq25
  refine W.widen (k := 0) (n := 0) (by omega) (by omega) ?_
  refine lv_iconst (v := nI 0) hx hb dME_noise_51 (by decide) ?_
  refine lv_istore (lv' := [(6, .int (nI 0)), (0, .ref h0), (1, .ref f), (2, .ref b), (3, .int (nI at_)), (4, .int wh), (5, .int (nI 3))]) hx hb dME_noise_52 hl (by decide) rfl (fun ls hl => ?_)
  have hO := close1 (e := .inl (g.2.1 0, 25, .inl f25)) hO km25 ⟨_, rfl⟩
  have hO := close1 (e := .inl (g.2.1 2, 24, .inr (.inl f24))) hO km24 ⟨_, rfl⟩
  have hO := close1 (e := .inl (g.2.1 2, 5, .inr (.inl f40))) hO km23 ⟨_, rfl⟩
  have hO := close1 (e := .inl (g.2.1 2, 25, .inr (.inl f39))) hO km22 ⟨_, rfl⟩
  have hO := close1 (e := .inl (g.2.1 2, 25, .inr (.inl f38))) hO km21 ⟨_, rfl⟩
  have hO := close1 (e := .inr (9, [.ref am21, .ref am22, .ref am23, .ref am24, .ref am25, .int (nI 136), .int (nI ps26), .int (nI 31)])) hO kr21 ⟨_, _, _, _, _, _, _, _, rfl, km21, km22, km23, km24, km25, by omega, by omega, by omega⟩
  have hO : okx g T xs ((r21, .inr (9, [.ref am21, .ref am22, .ref am23, .ref am24, .ref am25, .int (nI 136), .int (nI ps26), .int (nI 31)])) :: (am21, .inl (g.2.1 2, 25, .inr (.inl f38))) :: (am22, .inl (g.2.1 2, 25, .inr (.inl f39))) :: (am23, .inl (g.2.1 2, 5, .inr (.inl f40))) :: (am24, .inl (g.2.1 2, 24, .inr (.inl f24))) :: (am25, .inl (g.2.1 0, 25, .inl f25)) :: pl) := hO
  have hP : va_P g.1 vcl ([] ++ ((r21, .inr (9, [.ref am21, .ref am22, .ref am23, .ref am24, .ref am25, .int (nI 136), .int (nI ps26), .int (nI 31)])) :: (am21, .inl (g.2.1 2, 25, .inr (.inl f38))) :: (am22, .inl (g.2.1 2, 25, .inr (.inl f39))) :: (am23, .inl (g.2.1 2, 5, .inr (.inl f40))) :: (am24, .inl (g.2.1 2, 24, .inr (.inl f24))) :: (am25, .inl (g.2.1 0, 25, .inl f25)) :: pl)) _ := hP
  have hD : va_D _ ([] ++ ((r21, .inr (9, [.ref am21, .ref am22, .ref am23, .ref am24, .ref am25, .int (nI 136), .int (nI ps26), .int (nI 31)])) :: (am21, .inl (g.2.1 2, 25, .inr (.inl f38))) :: (am22, .inl (g.2.1 2, 25, .inr (.inl f39))) :: (am23, .inl (g.2.1 2, 5, .inr (.inl f40))) :: (am24, .inl (g.2.1 2, 24, .inr (.inl f24))) :: (am25, .inl (g.2.1 0, 25, .inl f25)) :: pl)) := hD
  generalize ((r21, .inr (9, [.ref am21, .ref am22, .ref am23, .ref am24, .ref am25, .int (nI 136), .int (nI ps26), .int (nI 31)])) :: (am21, .inl (g.2.1 2, 25, .inr (.inl f38))) :: (am22, .inl (g.2.1 2, 25, .inr (.inl f39))) :: (am23, .inl (g.2.1 2, 5, .inr (.inl f40))) :: (am24, .inl (g.2.1 2, 24, .inr (.inl f24))) :: (am25, .inl (g.2.1 0, 25, .inl f25)) :: pl) = pl at hO hP hD
  have lp21 : ∀ (n21 : Nat) (i21 : Nat) (pl : va_W) (ls : Array Slot) (H : Heap) (locs : List Loc), n21 + i21 = 256 → lv_has ls 9 [(6, .int (nI i21)), (0, .ref h0), (1, .ref f), (5, .int (nI 3))] → okx g T xs pl → va_P g.1 vcl ([] ++ pl) H → va_D A ([] ++ pl) → va_S A s.heap H locs → W p l e ({ frames := 4, cells := 0, slots := 0, locals := 98 } : Room) s m args below meth c H locs 0 0 (MQ below (va_Qv (fun (u : va_W) => (True) ∧ okx g T xs u) (po g.1 vcl A (fun (u : va_W) => [] ++ u)) A) args s 0 0 A) (F0 m 54 ls []) := by
    intro n21
    induction n21 with
    | zero =>
      intro i21 pl ls H locs hm21  hl hO hP hD hS
      refine lv_iload hx hb dME_noise_54 (lv_at hl 0 rfl) ?_
      refine lv_sipush (v := nI 256) hx hb dME_noise_56 (by decide) ?_
      refine mi_ge (tgt := 152) hx hb dME_noise_59 (by decide) (by omega) (by omega) (fun h21 => ?_) (fun h21 => absurd h21 (by omega))
      exact mp_vret hx hb hr hlk hP hD hS pl ⟨trivial, hO⟩ [] rfl rfl rfl (by omega) (by omega) dME_noise_152
    | succ n21 ih21 =>
      intro i21 pl ls H locs hm21  hl hO hP hD hS
      refine lv_iload hx hb dME_noise_54 (lv_at hl 0 rfl) ?_
      refine lv_sipush (v := nI 256) hx hb dME_noise_56 (by decide) ?_
      refine mi_ge (tgt := 152) hx hb dME_noise_59 (by decide) (by omega) (by omega) (fun h22 => absurd h22 (by omega)) (fun h22 => ?_)
      refine lv_iconst (v := nI 0) hx hb dME_noise_62 (by decide) ?_
      refine lv_istore (lv' := [(7, .int (nI 0)), (6, .int (nI i21)), (0, .ref h0), (1, .ref f), (5, .int (nI 3))]) hx hb dME_noise_63 hl (by decide) rfl (fun ls hl => ?_)
      refine lv_iconst (v := nI 0) hx hb dME_noise_65 (by decide) ?_
      refine lv_istore (lv' := [(8, .int (nI 0)), (7, .int (nI 0)), (6, .int (nI i21)), (0, .ref h0), (1, .ref f), (5, .int (nI 3))]) hx hb dME_noise_66 hl (by decide) rfl (fun ls hl => ?_)
      have lp22 : ∀ (n22 : Nat) (i22 : Nat) (z21 : Int32) (pl : va_W) (ls : Array Slot) (H : Heap) (locs : List Loc), n22 + i22 = 3 → lv_has ls 9 [(8, .int (nI i22)), (7, .int z21), (6, .int (nI i21)), (0, .ref h0), (1, .ref f), (5, .int (nI 3))] → okx g T xs pl → va_P g.1 vcl ([] ++ pl) H → va_D A ([] ++ pl) → va_S A s.heap H locs → W p l e ({ frames := 4, cells := 0, slots := 0, locals := 98 } : Room) s m args below meth c H locs 0 0 (MQ below (va_Qv (fun (u : va_W) => (True) ∧ okx g T xs u) (po g.1 vcl A (fun (u : va_W) => [] ++ u)) A) args s 0 0 A) (F0 m 68 ls []) := by
        intro n22
        induction n22 with
        | zero =>
          intro i22 z21 pl ls H locs hm22  hl hO hP hD hS
          refine lv_iload hx hb dME_noise_68 (lv_at hl 0 rfl) ?_
          refine lv_iload hx hb dME_noise_70 (lv_at hl 5 rfl) ?_
          refine mi_ge (tgt := 126) hx hb dME_noise_72 (by decide) (by omega) (by omega) (fun h23 => ?_) (fun h23 => absurd h23 (by omega))
          refine lv_aload_n hx hb dME_noise_126 rfl (lv_at hl 4 rfl) ?_
          refine lv_iload hx hb dME_noise_127 (lv_at hl 2 rfl) ?_
          refine lv_iload hx hb dME_noise_129 (lv_at hl 1 rfl) ?_
          refine lv_if_ge (tgt := 143) hx hb dME_noise_131 (by decide) (fun h24 => ?_) (fun h24 => ?_)
          · refine lv_iload hx hb dME_noise_143 (lv_at hl 1 rfl) ?_
            refine ty_iast hx hb hK hO k_f (nxg hc0 k_f rfl) hP hD hS (vp_in_nI (by omega) (by decide)) dME_noise_145 (fun pl H locs hO hP hD hS => ?_)
            refine mi_iinc (k := 2) (x := i21) (d := 1) (y := i21 + 1) (lv' := [(6, .int (nI (i21 + 1))), (8, .int (nI i22)), (7, .int z21), (0, .ref h0), (1, .ref f), (5, .int (nI 3))]) hx hb dME_noise_146 hl rfl (by decide) rfl (by decide) rfl (fun ls hl => ?_)
            refine lv_goto (tgt := 54) hx hb dME_noise_149 (by decide) ?_
            exact ih21 (i21 + 1) pl ls H locs (by omega) (lv_sub hl [0, 3, 4, 5] rfl) hO hP hD hS
          · refine lv_iload hx hb dME_noise_134 (lv_at hl 1 rfl) ?_
            refine lv_sipush (v := nI 3329) hx hb dME_noise_136 (by decide) ?_
            refine lv_iadd hx hb dME_noise_139 ?_
            refine mi_any (fun z22 => ?_)
            refine lv_goto (tgt := 145) hx hb dME_noise_140 (by decide) ?_
            refine ty_iast hx hb hK hO k_f (nxg hc0 k_f rfl) hP hD hS (vp_in_nI (by omega) (by decide)) dME_noise_145 (fun pl H locs hO hP hD hS => ?_)
            refine mi_iinc (k := 2) (x := i21) (d := 1) (y := i21 + 1) (lv' := [(6, .int (nI (i21 + 1))), (8, .int (nI i22)), (7, .int z21), (0, .ref h0), (1, .ref f), (5, .int (nI 3))]) hx hb dME_noise_146 hl rfl (by decide) rfl (by decide) rfl (fun ls hl => ?_)
            refine lv_goto (tgt := 54) hx hb dME_noise_149 (by decide) ?_
            exact ih21 (i21 + 1) pl ls H locs (by omega) (lv_sub hl [0, 3, 4, 5] rfl) hO hP hD hS
        | succ n22 ih22 =>
          intro i22 z21 pl ls H locs hm22  hl hO hP hD hS
          refine lv_iload hx hb dME_noise_68 (lv_at hl 0 rfl) ?_
          refine lv_iload hx hb dME_noise_70 (lv_at hl 5 rfl) ?_
          refine mi_ge (tgt := 126) hx hb dME_noise_72 (by decide) (by omega) (by omega) (fun h25 => absurd h25 (by omega)) (fun h25 => ?_)
          refine lv_iload hx hb dME_noise_75 (lv_at hl 1 rfl) ?_
          refine lv_aload_n hx hb dME_noise_77 rfl (lv_at hl 3 rfl) ?_
          refine ty_get (ci := 11) (C := "LatticeKeysModel$Secrets") (TT := T_ME) (N := 14) (kd := (23, 0)) hx hb hts (wg_ft i_ME) hown hK hO k_h0 (nxg hc0 k_h0 rfl) hP (fun _ h9 => h9) rfl 10 (by decide) (hts _ (wg_t kw_1389)) (fun _ h9 => h9) (cd := (3, 1, 192)) rfl dME_noise_78 (fun v27 hv27 => ?_)
          obtain ⟨r27, rfl, kr27⟩ := (show ∃ r : Nat, v27 = .ref r ∧ T r = some (1, 192) from hv27)
          refine lv_iconst (v := nI 2) hx hb dME_noise_81 (by decide) ?_
          refine lv_iload hx hb dME_noise_82 (lv_at hl 2 rfl) ?_
          refine mi_imul hx hb dME_noise_84 ?_
          refine lv_iload hx hb dME_noise_85 (lv_at hl 5 rfl) ?_
          refine mi_imul hx hb dME_noise_87 ?_
          refine lv_iload hx hb dME_noise_88 (lv_at hl 0 rfl) ?_
          refine mi_iadd hx hb dME_noise_90 ?_
          refine lv_iconst (v := nI 1) hx hb dME_noise_91 (by decide) ?_
          refine mp_i (cx := []) (wr := []) hP hD hS hA [] [] rfl rfl rfl (by decide) (va_runSN (As := [.ref r27, .int (nI (((2 * i21) * 3) + i22)), .int (nI 1)]) (rest := [.int z21]) F (t_M_unpack l g _ T xs pl hO hU hc0 r27 192 (((2 * i21) * 3) + i22) 1 kr27 (by omega) (by omega) (by omega)) ⟨va_cnB 3 hts (wg_in kw_1667) rfl rfl rfl (hE.2.2.2.2.2.2.2.1) (hts _ (wg_t kw_9)) (by decide +kernel) ⟨by decide, by decide⟩, hts _ (wg_t kw_1666), trivial⟩ (pp_S (en_ok g) hP hD hS hA hE [] rfl rfl) rfl rfl hl.1 rfl (lv_room (Nat.le_of_ble_eq_true rfl)) dME_noise_92 ⟨by omega, by omega⟩) (fun r28 pl H locs hu26 hP hD hS => ?_)
          obtain ⟨hq26, hO⟩ := hu26
          have hP : va_P g.1 vcl ([] ++ pl) _ := hP
          have hD : va_D _ ([] ++ pl) := hD
          refine W.widen (k := 0) (n := 0) (by omega) (by omega) ?_
          refine lv_aload_n hx hb dME_noise_95 rfl (lv_at hl 3 rfl) ?_
          refine ty_get (ci := 11) (C := "LatticeKeysModel$Secrets") (TT := T_ME) (N := 14) (kd := (23, 0)) hx hb hts (wg_ft i_ME) hown hK hO k_h0 (nxg hc0 k_h0 rfl) hP (fun _ h9 => h9) rfl 10 (by decide) (hts _ (wg_t kw_1389)) (fun _ h9 => h9) (cd := (3, 1, 192)) rfl dME_noise_96 (fun v28 hv28 => ?_)
          obtain ⟨r29, rfl, kr28⟩ := (show ∃ r : Nat, v28 = .ref r ∧ T r = some (1, 192) from hv28)
          refine lv_iconst (v := nI 2) hx hb dME_noise_99 (by decide) ?_
          refine lv_iload hx hb dME_noise_100 (lv_at hl 2 rfl) ?_
          refine mi_imul hx hb dME_noise_102 ?_
          refine lv_iload hx hb dME_noise_103 (lv_at hl 5 rfl) ?_
          refine mi_imul hx hb dME_noise_105 ?_
          refine lv_iload hx hb dME_noise_106 (lv_at hl 5 rfl) ?_
          refine mi_iadd hx hb dME_noise_108 ?_
          refine lv_iload hx hb dME_noise_109 (lv_at hl 0 rfl) ?_
          refine mi_iadd hx hb dME_noise_111 ?_
          refine lv_iconst (v := nI 1) hx hb dME_noise_112 (by decide) ?_
          refine mp_i (cx := []) (wr := []) hP hD hS hA [] [] rfl rfl rfl (by decide) (va_runSN (As := [.ref r29, .int (nI ((((2 * i21) * 3) + 3) + i22)), .int (nI 1)]) (rest := [.int r28, .int z21]) F (t_M_unpack l g _ T xs pl hO hU hc0 r29 192 ((((2 * i21) * 3) + 3) + i22) 1 kr28 (by omega) (by omega) (by omega)) ⟨va_cnB 3 hts (wg_in kw_1667) rfl rfl rfl (hE.2.2.2.2.2.2.2.1) (hts _ (wg_t kw_9)) (by decide +kernel) ⟨by decide, by decide⟩, hts _ (wg_t kw_1666), trivial⟩ (pp_S (en_ok g) hP hD hS hA hE [] rfl rfl) rfl rfl hl.1 rfl (lv_room (Nat.le_of_ble_eq_true rfl)) dME_noise_113 ⟨by omega, by omega⟩) (fun r30 pl H locs hu27 hP hD hS => ?_)
          obtain ⟨hq27, hO⟩ := hu27
          have hP : va_P g.1 vcl ([] ++ pl) _ := hP
          have hD : va_D _ ([] ++ pl) := hD
          refine W.widen (k := 0) (n := 0) (by omega) (by omega) ?_
          refine lv_isub hx hb dME_noise_116 ?_
          refine mi_any (fun z23 => ?_)
          refine lv_iadd hx hb dME_noise_117 ?_
          refine mi_any (fun z24 => ?_)
          refine lv_istore (lv' := [(7, .int z24), (8, .int (nI i22)), (6, .int (nI i21)), (0, .ref h0), (1, .ref f), (5, .int (nI 3))]) hx hb dME_noise_118 hl (by decide) rfl (fun ls hl => ?_)
          refine mi_iinc (k := 1) (x := i22) (d := 1) (y := i22 + 1) (lv' := [(8, .int (nI (i22 + 1))), (7, .int z24), (6, .int (nI i21)), (0, .ref h0), (1, .ref f), (5, .int (nI 3))]) hx hb dME_noise_120 hl rfl (by decide) rfl (by decide) rfl (fun ls hl => ?_)
          refine lv_goto (tgt := 68) hx hb dME_noise_123 (by decide) ?_
          exact ih22 (i22 + 1) z24 pl ls H locs (by omega) (lv_sub hl [0, 1, 2, 3, 4, 5] rfl) hO hP hD hS
      exact lp22 3 0 (nI 0) pl ls _ _ (by omega) (lv_sub hl [0, 1, 2, 3, 4, 5] rfl) hO hP hD hS
  exact lp21 256 0 pl ls _ _ (by omega) (lv_sub hl [0, 1, 2, 6] rfl) hO hP hD hS
set_option maxHeartbeats 400000 in
set_option maxRecDepth 100000 in
theorem t_ME_hash (l : Launch) (g : Gd) (sz : Nat) (T : Ty) (xs : List Nat) (pl : va_W) (hO : okx g T xs pl) (hU : uni T) (hc0 : clo T xs 0) (hc9 : clo T xs 9) (h0 b to n nt at_ len wh : Nat) (k_h0 : T h0 = some (23, 0)) (k_b : T b = some (1, n)) (k_to : T to = some (1, nt)) (h1 : at_ + len ≤ n) (h2 : n < 65536) (h3 : wh + 32 ≤ nt) (h4 : nt < 65536)  : Met l y_ME_hash w_ME_hash ({ frames := 4, cells := 0, slots := 0, locals := 98 } : Room) (va_Pc [.ref h0, .ref b, .int (nI at_), .int (nI len), .ref to, .int (nI wh)] (pr (en g) g.1 vcl sz ([] ++ pl))) (va_Qv (fun (u : va_W) => (True) ∧ okx g T xs u) (po g.1 vcl (va_A ([] ++ pl) sz) (fun (u : va_W) => [] ++ u)) (va_A ([] ++ pl) sz)) 0 0 (va_A ([] ++ pl) sz) := by
  refine mc_entry (cc := c_ME_hash) (maxL := 6) (ret := none) (by decide) rfl (Nat.le_of_ble_eq_true rfl) ?_
  intro p e s m args below meth c ls F hr hlk hnm hsz hP hD hE hA hl
  obtain ⟨hx, hb, hml, hown, hts⟩ := id F
  have hK := hE.1
  generalize va_A ([] ++ pl) sz = A at hD hE hA ⊢
  have hS : va_S A s.heap s.heap [] := va_S.rf
  have hl : lv_has ls 6 [(0, .ref h0), (1, .ref b), (2, .int (nI at_)), (3, .int (nI len)), (4, .ref to), (5, .int (nI wh))] := hl
  refine lv_aload_n hx hb dME_hash_0 rfl (lv_at hl 0 rfl) ?_
  refine ty_get (ci := 11) (C := "LatticeKeysModel$Secrets") (TT := T_ME) (N := 14) (kd := (23, 0)) hx hb hts (wg_ft i_ME) hown hK hO k_h0 (nxg hc0 k_h0 rfl) hP (fun _ h9 => h9) rfl 0 (by decide) (hts _ (wg_t kw_1379)) (fun _ h9 => h9) (cd := (3, 20, 0)) rfl dME_hash_1 (fun v21 hv21 => ?_)
  obtain ⟨r21, rfl, kr21⟩ := (show ∃ r : Nat, v21 = .ref r ∧ T r = some (20, 0) from hv21)
  refine lv_sipush (v := nI 136) hx hb dME_hash_4 (by decide) ?_
  refine lv_bipush (v := nI 6) hx hb dME_hash_7 (by decide) ?_
  obtain ⟨e21, pl, hP, hD, hk21, hO⟩ := open1 hP hD hO kr21 (nxg hc9 kr21 rfl)
  obtain ⟨am21, am22, am23, am24, am25, rt21, ps21, x21, rfl, km21, km22, km23, km24, km25, hr21, hr22, hr23⟩ := hk21
  obtain ⟨e22, pl, hP, hD, hk22, hO⟩ := open1 hP hD hO km21 (nmc (knd_ne km21 kr21 (by decide)) (nxg hc9 km21 rfl))
  obtain ⟨f21, rfl⟩ := hk22
  obtain ⟨e23, pl, hP, hD, hk23, hO⟩ := open1 hP hD hO km22 (nmc (knd_ne km22 km21 (by decide)) (nmc (knd_ne km22 kr21 (by decide)) (nxg hc9 km22 rfl)))
  obtain ⟨f22, rfl⟩ := hk23
  obtain ⟨e24, pl, hP, hD, hk24, hO⟩ := open1 hP hD hO km23 (nmc (knd_ne km23 km22 (by decide)) (nmc (knd_ne km23 km21 (by decide)) (nmc (knd_ne km23 kr21 (by decide)) (nxg hc9 km23 rfl))))
  obtain ⟨f23, rfl⟩ := hk24
  obtain ⟨e25, pl, hP, hD, hk25, hO⟩ := open1 hP hD hO km24 (nmc (knd_ne km24 km23 (by decide)) (nmc (knd_ne km24 km22 (by decide)) (nmc (knd_ne km24 km21 (by decide)) (nmc (knd_ne km24 kr21 (by decide)) (nxg hc9 km24 rfl)))))
  obtain ⟨f24, rfl⟩ := hk25
  obtain ⟨e26, pl, hP, hD, hk26, hO⟩ := open1 hP hD hO km25 (nmc (knd_ne km25 km24 (by decide)) (nmc (knd_ne km25 km23 (by decide)) (nmc (knd_ne km25 km22 (by decide)) (nmc (knd_ne km25 km21 (by decide)) (nmc (knd_ne km25 kr21 (by decide)) (nxg hc9 km25 rfl))))))
  obtain ⟨f25, rfl⟩ := hk26
  have hP : va_P g.1 vcl ([(r21, .inr (9, [.ref am21, .ref am22, .ref am23, .ref am24, .ref am25, .int (nI rt21), .int (nI ps21), .int x21])), (am21, .inl (g.2.1 2, 25, .inr (.inl f21))), (am22, .inl (g.2.1 2, 25, .inr (.inl f22))), (am23, .inl (g.2.1 2, 5, .inr (.inl f23))), (am24, .inl (g.2.1 2, 24, .inr (.inl f24))), (am25, .inl (g.2.1 0, 25, .inl f25))] ++ pl) _ := hP
  have hD : va_D _ ([(r21, .inr (9, [.ref am21, .ref am22, .ref am23, .ref am24, .ref am25, .int (nI rt21), .int (nI ps21), .int x21])), (am21, .inl (g.2.1 2, 25, .inr (.inl f21))), (am22, .inl (g.2.1 2, 25, .inr (.inl f22))), (am23, .inl (g.2.1 2, 5, .inr (.inl f23))), (am24, .inl (g.2.1 2, 24, .inr (.inl f24))), (am25, .inl (g.2.1 0, 25, .inl f25))] ++ pl) := hD
  refine mp_v (cx := [(r21, .inr (9, [.ref am21, .ref am22, .ref am23, .ref am24, .ref am25, .int (nI rt21), .int (nI ps21), .int x21])), (am21, .inl (g.2.1 2, 25, .inr (.inl f21))), (am22, .inl (g.2.1 2, 25, .inr (.inl f22))), (am23, .inl (g.2.1 2, 5, .inr (.inl f23))), (am24, .inl (g.2.1 2, 24, .inr (.inl f24))), (am25, .inl (g.2.1 0, 25, .inl f25))]) (wr := []) hP hD hS hA [0, 1, 2, 3, 4, 5] [] rfl rfl rfl (by decide) (va_runV (As := [.int (nI 136), .int (nI 6)]) (rest := []) F (t_MS_begin l g _ T (am25 :: (am24 :: (am23 :: (am22 :: (am21 :: (r21 :: xs)))))) pl hO hU  136 (nI 6) r21 am21 am22 am23 am24 am25 rt21 ps21 x21 f21 f22 f23 f24 f25 (by omega)) (cwV 2 hts (wg_app (wg_c kw_1607 (wg_c kw_1608 (wg_c kw_1609 (wg_c kw_10 wg_n)))) kw_1610) rfl rfl rfl (by decide +kernel) ⟨by decide, by decide⟩) (pp_V (en_ok g) (q0 := 0) hK hP hD hS hA hE [0, 1, 2, 3, 4, 5] rfl rfl rfl rfl) rfl rfl hl.1 rfl (lv_room (Nat.le_of_ble_eq_true rfl)) dME_hash_9 ⟨by omega, by omega⟩) (fun  u21 H locs hu21 hP hD hS => ?_)
  obtain ⟨u22, pl⟩ := u21
  obtain ⟨hq21, hO⟩ := hu21
  obtain ⟨ps22, f26, f27, f28⟩ := u22
  have hP : va_P g.1 vcl ([(r21, .inr (9, [.ref am21, .ref am22, .ref am23, .ref am24, .ref am25, .int (nI 136), .int (nI ps22), .int (nI 6)])), (am21, .inl (g.2.1 2, 25, .inr (.inl f26))), (am22, .inl (g.2.1 2, 25, .inr (.inl f27))), (am23, .inl (g.2.1 2, 5, .inr (.inl f28))), (am24, .inl (g.2.1 2, 24, .inr (.inl f24))), (am25, .inl (g.2.1 0, 25, .inl f25))] ++ pl) _ := hP
  have hD : va_D _ ([(r21, .inr (9, [.ref am21, .ref am22, .ref am23, .ref am24, .ref am25, .int (nI 136), .int (nI ps22), .int (nI 6)])), (am21, .inl (g.2.1 2, 25, .inr (.inl f26))), (am22, .inl (g.2.1 2, 25, .inr (.inl f27))), (am23, .inl (g.2.1 2, 5, .inr (.inl f28))), (am24, .inl (g.2.1 2, 24, .inr (.inl f24))), (am25, .inl (g.2.1 0, 25, .inl f25))] ++ pl) := hD
  have hq21 : ps22 ≤ 136 := hq21
  refine W.widen (k := 0) (n := 0) (by omega) (by omega) ?_
  refine lv_aload_n hx hb dME_hash_12 rfl (lv_at hl 0 rfl) ?_
  refine ty_get (ci := 11) (C := "LatticeKeysModel$Secrets") (TT := T_ME) (N := 14) (kd := (23, 0)) hx hb hts (wg_ft i_ME) hown hK hO k_h0 (nxg (clo_cons (clo_cons (clo_cons (clo_cons (clo_cons (clo_cons hc0 kr21 (by decide)) km21 (by decide)) km22 (by decide)) km23 (by decide)) km24 (by decide)) km25 (by decide)) k_h0 rfl) hP (fun _ h9 => h9) rfl 0 (by decide) (hts _ (wg_t kw_1379)) (fun _ h9 => h9) (cd := (3, 20, 0)) rfl dME_hash_13 (fun v22 hv22 => ?_)
  obtain ⟨r22, rfl, kr22⟩ := (show ∃ r : Nat, v22 = .ref r ∧ T r = some (20, 0) from hv22)
  obtain rfl : r21 = r22 := hU _ _ _ (by decide) kr21 kr22
  refine lv_aload_n hx hb dME_hash_16 rfl (lv_at hl 1 rfl) ?_
  refine lv_iload_n hx hb dME_hash_17 rfl (lv_at hl 2 rfl) ?_
  refine lv_iload_n hx hb dME_hash_18 rfl (lv_at hl 3 rfl) ?_
  refine mp_v (cx := [(r21, .inr (9, [.ref am21, .ref am22, .ref am23, .ref am24, .ref am25, .int (nI 136), .int (nI ps22), .int (nI 6)])), (am21, .inl (g.2.1 2, 25, .inr (.inl f26))), (am22, .inl (g.2.1 2, 25, .inr (.inl f27))), (am23, .inl (g.2.1 2, 5, .inr (.inl f28))), (am24, .inl (g.2.1 2, 24, .inr (.inl f24))), (am25, .inl (g.2.1 0, 25, .inl f25))]) (wr := []) hP hD hS hA [0, 1, 2, 3, 4, 5] [] rfl rfl rfl (by decide) (va_runV (As := [.ref b, .int (nI at_), .int (nI len)]) (rest := []) F (t_MS_puts l g _ T (am25 :: (am24 :: (am23 :: (am22 :: (am21 :: (r21 :: xs)))))) pl hO hU (clo_cons (clo_cons (clo_cons (clo_cons (clo_cons (clo_cons hc0 kr21 (by decide)) km21 (by decide)) km22 (by decide)) km23 (by decide)) km24 (by decide)) km25 (by decide)) b n at_ len r21 am21 am22 am23 am24 am25 136 ps22 (nI 6) f26 f27 f28 f24 f25 k_b (by omega) (by omega) (by omega) (by omega)) (cwV 3 hts (wg_app (wg_c kw_1611 (wg_c kw_1612 (wg_c kw_1613 (wg_c kw_10 wg_n)))) kw_1614) rfl rfl rfl (by decide +kernel) ⟨by decide, by decide⟩) (pp_V (en_ok g) (q0 := 0) hK hP hD hS hA hE [0, 1, 2, 3, 4, 5] rfl rfl rfl rfl) rfl rfl hl.1 rfl (lv_room (Nat.le_of_ble_eq_true rfl)) dME_hash_19 ⟨by omega, by omega⟩) (fun  u23 H locs hu22 hP hD hS => ?_)
  obtain ⟨u24, pl⟩ := u23
  obtain ⟨hq22, hO⟩ := hu22
  obtain ⟨ps23, f29, f30, f31⟩ := u24
  have hP : va_P g.1 vcl ([(r21, .inr (9, [.ref am21, .ref am22, .ref am23, .ref am24, .ref am25, .int (nI 136), .int (nI ps23), .int (nI 6)])), (am21, .inl (g.2.1 2, 25, .inr (.inl f29))), (am22, .inl (g.2.1 2, 25, .inr (.inl f30))), (am23, .inl (g.2.1 2, 5, .inr (.inl f31))), (am24, .inl (g.2.1 2, 24, .inr (.inl f24))), (am25, .inl (g.2.1 0, 25, .inl f25))] ++ pl) _ := hP
  have hD : va_D _ ([(r21, .inr (9, [.ref am21, .ref am22, .ref am23, .ref am24, .ref am25, .int (nI 136), .int (nI ps23), .int (nI 6)])), (am21, .inl (g.2.1 2, 25, .inr (.inl f29))), (am22, .inl (g.2.1 2, 25, .inr (.inl f30))), (am23, .inl (g.2.1 2, 5, .inr (.inl f31))), (am24, .inl (g.2.1 2, 24, .inr (.inl f24))), (am25, .inl (g.2.1 0, 25, .inl f25))] ++ pl) := hD
  have hq22 : ps23 ≤ 136 := hq22
  refine W.widen (k := 0) (n := 0) (by omega) (by omega) ?_
  refine lv_aload_n hx hb dME_hash_22 rfl (lv_at hl 0 rfl) ?_
  refine ty_get (ci := 11) (C := "LatticeKeysModel$Secrets") (TT := T_ME) (N := 14) (kd := (23, 0)) hx hb hts (wg_ft i_ME) hown hK hO k_h0 (nxg (clo_cons (clo_cons (clo_cons (clo_cons (clo_cons (clo_cons hc0 kr21 (by decide)) km21 (by decide)) km22 (by decide)) km23 (by decide)) km24 (by decide)) km25 (by decide)) k_h0 rfl) hP (fun _ h9 => h9) rfl 0 (by decide) (hts _ (wg_t kw_1379)) (fun _ h9 => h9) (cd := (3, 20, 0)) rfl dME_hash_23 (fun v23 hv23 => ?_)
  obtain ⟨r23, rfl, kr23⟩ := (show ∃ r : Nat, v23 = .ref r ∧ T r = some (20, 0) from hv23)
  obtain rfl : r21 = r23 := hU _ _ _ (by decide) kr21 kr23
  refine mp_v (cx := [(r21, .inr (9, [.ref am21, .ref am22, .ref am23, .ref am24, .ref am25, .int (nI 136), .int (nI ps23), .int (nI 6)])), (am21, .inl (g.2.1 2, 25, .inr (.inl f29))), (am22, .inl (g.2.1 2, 25, .inr (.inl f30))), (am23, .inl (g.2.1 2, 5, .inr (.inl f31))), (am24, .inl (g.2.1 2, 24, .inr (.inl f24))), (am25, .inl (g.2.1 0, 25, .inl f25))]) (wr := []) hP hD hS hA [0, 1, 2, 3, 4, 5] [] rfl rfl rfl (by decide) (va_runV (As := []) (rest := []) F (t_MS_end l g _ T (am25 :: (am24 :: (am23 :: (am22 :: (am21 :: (r21 :: xs)))))) pl hO hU  r21 am21 am22 am23 am24 am25 136 ps23 (nI 6) f29 f30 f31 f24 f25 (by omega) (by omega)) (cwV 0 hts (wg_app (wg_c kw_1633 (wg_c kw_1634 (wg_c kw_1635 (wg_c kw_10 wg_n)))) kw_1636) rfl rfl rfl (by decide +kernel) ⟨by decide, by decide⟩) (pp_V (en_ok g) (q0 := 0) hK hP hD hS hA hE [0, 1, 2, 3, 4, 5] rfl rfl rfl rfl) rfl rfl hl.1 rfl (lv_room (Nat.le_of_ble_eq_true rfl)) dME_hash_26 ⟨by omega, by omega⟩) (fun  u25 H locs hu23 hP hD hS => ?_)
  obtain ⟨u26, pl⟩ := u25
  obtain ⟨hq23, hO⟩ := hu23
  obtain ⟨ps24, f32, f33, f34⟩ := u26
  have hP : va_P g.1 vcl ([(r21, .inr (9, [.ref am21, .ref am22, .ref am23, .ref am24, .ref am25, .int (nI 136), .int (nI ps24), .int (nI 6)])), (am21, .inl (g.2.1 2, 25, .inr (.inl f32))), (am22, .inl (g.2.1 2, 25, .inr (.inl f33))), (am23, .inl (g.2.1 2, 5, .inr (.inl f34))), (am24, .inl (g.2.1 2, 24, .inr (.inl f24))), (am25, .inl (g.2.1 0, 25, .inl f25))] ++ pl) _ := hP
  have hD : va_D _ ([(r21, .inr (9, [.ref am21, .ref am22, .ref am23, .ref am24, .ref am25, .int (nI 136), .int (nI ps24), .int (nI 6)])), (am21, .inl (g.2.1 2, 25, .inr (.inl f32))), (am22, .inl (g.2.1 2, 25, .inr (.inl f33))), (am23, .inl (g.2.1 2, 5, .inr (.inl f34))), (am24, .inl (g.2.1 2, 24, .inr (.inl f24))), (am25, .inl (g.2.1 0, 25, .inl f25))] ++ pl) := hD
  have hq23 : ps24 ≤ 136 := hq23
  refine W.widen (k := 0) (n := 0) (by omega) (by omega) ?_
  refine lv_aload_n hx hb dME_hash_29 rfl (lv_at hl 0 rfl) ?_
  refine ty_get (ci := 11) (C := "LatticeKeysModel$Secrets") (TT := T_ME) (N := 14) (kd := (23, 0)) hx hb hts (wg_ft i_ME) hown hK hO k_h0 (nxg (clo_cons (clo_cons (clo_cons (clo_cons (clo_cons (clo_cons hc0 kr21 (by decide)) km21 (by decide)) km22 (by decide)) km23 (by decide)) km24 (by decide)) km25 (by decide)) k_h0 rfl) hP (fun _ h9 => h9) rfl 0 (by decide) (hts _ (wg_t kw_1379)) (fun _ h9 => h9) (cd := (3, 20, 0)) rfl dME_hash_30 (fun v24 hv24 => ?_)
  obtain ⟨r24, rfl, kr24⟩ := (show ∃ r : Nat, v24 = .ref r ∧ T r = some (20, 0) from hv24)
  obtain rfl : r21 = r24 := hU _ _ _ (by decide) kr21 kr24
  refine lv_aload hx hb dME_hash_33 (lv_at hl 4 rfl) ?_
  refine lv_iload hx hb dME_hash_35 (lv_at hl 5 rfl) ?_
  refine lv_bipush (v := nI 32) hx hb dME_hash_37 (by decide) ?_
  refine mp_v (cx := [(r21, .inr (9, [.ref am21, .ref am22, .ref am23, .ref am24, .ref am25, .int (nI 136), .int (nI ps24), .int (nI 6)])), (am21, .inl (g.2.1 2, 25, .inr (.inl f32))), (am22, .inl (g.2.1 2, 25, .inr (.inl f33))), (am23, .inl (g.2.1 2, 5, .inr (.inl f34))), (am24, .inl (g.2.1 2, 24, .inr (.inl f24))), (am25, .inl (g.2.1 0, 25, .inl f25))]) (wr := []) hP hD hS hA [0, 1, 2, 3, 4, 5] [] rfl rfl rfl (by decide) (va_runV (As := [.ref to, .int (nI wh), .int (nI 32)]) (rest := []) F (t_MS_take l g _ T (am25 :: (am24 :: (am23 :: (am22 :: (am21 :: (r21 :: xs)))))) pl hO hU (clo_cons (clo_cons (clo_cons (clo_cons (clo_cons (clo_cons hc0 kr21 (by decide)) km21 (by decide)) km22 (by decide)) km23 (by decide)) km24 (by decide)) km25 (by decide)) to nt wh 32 r21 am21 am22 am23 am24 am25 136 ps24 (nI 6) f32 f33 f34 f24 f25 k_to (by omega) (by omega) (by omega) (by omega)) (cwV 3 hts (wg_app (wg_c kw_1637 (wg_c kw_1638 (wg_c kw_1639 (wg_c kw_10 wg_n)))) kw_1640) rfl rfl rfl (by decide +kernel) ⟨by decide, by decide⟩) (pp_V (en_ok g) (q0 := 0) hK hP hD hS hA hE [0, 1, 2, 3, 4, 5] rfl rfl rfl rfl) rfl rfl hl.1 rfl (lv_room (Nat.le_of_ble_eq_true rfl)) dME_hash_39 ⟨by omega, by omega⟩) (fun  u27 H locs hu24 hP hD hS => ?_)
  obtain ⟨u28, pl⟩ := u27
  obtain ⟨hq24, hO⟩ := hu24
  obtain ⟨ps25, f35, f36, f37⟩ := u28
  have hP : va_P g.1 vcl ([(r21, .inr (9, [.ref am21, .ref am22, .ref am23, .ref am24, .ref am25, .int (nI 136), .int (nI ps25), .int (nI 6)])), (am21, .inl (g.2.1 2, 25, .inr (.inl f35))), (am22, .inl (g.2.1 2, 25, .inr (.inl f36))), (am23, .inl (g.2.1 2, 5, .inr (.inl f37))), (am24, .inl (g.2.1 2, 24, .inr (.inl f24))), (am25, .inl (g.2.1 0, 25, .inl f25))] ++ pl) _ := hP
  have hD : va_D _ ([(r21, .inr (9, [.ref am21, .ref am22, .ref am23, .ref am24, .ref am25, .int (nI 136), .int (nI ps25), .int (nI 6)])), (am21, .inl (g.2.1 2, 25, .inr (.inl f35))), (am22, .inl (g.2.1 2, 25, .inr (.inl f36))), (am23, .inl (g.2.1 2, 5, .inr (.inl f37))), (am24, .inl (g.2.1 2, 24, .inr (.inl f24))), (am25, .inl (g.2.1 0, 25, .inl f25))] ++ pl) := hD
  have hq24 : ps25 ≤ 136 := hq24
  refine W.widen (k := 0) (n := 0) (by omega) (by omega) ?_
  have hO := close1 (e := .inl (g.2.1 0, 25, .inl f25)) hO km25 ⟨_, rfl⟩
  have hO := close1 (e := .inl (g.2.1 2, 24, .inr (.inl f24))) hO km24 ⟨_, rfl⟩
  have hO := close1 (e := .inl (g.2.1 2, 5, .inr (.inl f37))) hO km23 ⟨_, rfl⟩
  have hO := close1 (e := .inl (g.2.1 2, 25, .inr (.inl f36))) hO km22 ⟨_, rfl⟩
  have hO := close1 (e := .inl (g.2.1 2, 25, .inr (.inl f35))) hO km21 ⟨_, rfl⟩
  have hO := close1 (e := .inr (9, [.ref am21, .ref am22, .ref am23, .ref am24, .ref am25, .int (nI 136), .int (nI ps25), .int (nI 6)])) hO kr21 ⟨_, _, _, _, _, _, _, _, rfl, km21, km22, km23, km24, km25, by omega, by omega, by omega⟩
  have hO : okx g T xs ((r21, .inr (9, [.ref am21, .ref am22, .ref am23, .ref am24, .ref am25, .int (nI 136), .int (nI ps25), .int (nI 6)])) :: (am21, .inl (g.2.1 2, 25, .inr (.inl f35))) :: (am22, .inl (g.2.1 2, 25, .inr (.inl f36))) :: (am23, .inl (g.2.1 2, 5, .inr (.inl f37))) :: (am24, .inl (g.2.1 2, 24, .inr (.inl f24))) :: (am25, .inl (g.2.1 0, 25, .inl f25)) :: pl) := hO
  have hP : va_P g.1 vcl ([] ++ ((r21, .inr (9, [.ref am21, .ref am22, .ref am23, .ref am24, .ref am25, .int (nI 136), .int (nI ps25), .int (nI 6)])) :: (am21, .inl (g.2.1 2, 25, .inr (.inl f35))) :: (am22, .inl (g.2.1 2, 25, .inr (.inl f36))) :: (am23, .inl (g.2.1 2, 5, .inr (.inl f37))) :: (am24, .inl (g.2.1 2, 24, .inr (.inl f24))) :: (am25, .inl (g.2.1 0, 25, .inl f25)) :: pl)) _ := hP
  have hD : va_D _ ([] ++ ((r21, .inr (9, [.ref am21, .ref am22, .ref am23, .ref am24, .ref am25, .int (nI 136), .int (nI ps25), .int (nI 6)])) :: (am21, .inl (g.2.1 2, 25, .inr (.inl f35))) :: (am22, .inl (g.2.1 2, 25, .inr (.inl f36))) :: (am23, .inl (g.2.1 2, 5, .inr (.inl f37))) :: (am24, .inl (g.2.1 2, 24, .inr (.inl f24))) :: (am25, .inl (g.2.1 0, 25, .inl f25)) :: pl)) := hD
  generalize ((r21, .inr (9, [.ref am21, .ref am22, .ref am23, .ref am24, .ref am25, .int (nI 136), .int (nI ps25), .int (nI 6)])) :: (am21, .inl (g.2.1 2, 25, .inr (.inl f35))) :: (am22, .inl (g.2.1 2, 25, .inr (.inl f36))) :: (am23, .inl (g.2.1 2, 5, .inr (.inl f37))) :: (am24, .inl (g.2.1 2, 24, .inr (.inl f24))) :: (am25, .inl (g.2.1 0, 25, .inl f25)) :: pl) = pl at hO hP hD
  exact mp_vret hx hb hr hlk hP hD hS pl ⟨trivial, hO⟩ [] rfl rfl rfl (by omega) (by omega) dME_hash_42
set_option maxHeartbeats 400000 in
set_option maxRecDepth 100000 in
theorem t_ME_both (l : Launch) (g : Gd) (sz : Nat) (T : Ty) (xs : List Nat) (pl : va_W) (hO : okx g T xs pl) (hU : uni T) (hc0 : clo T xs 0) (hc9 : clo T xs 9) (h0 b n : Nat) (k_h0 : T h0 = some (23, 0)) (k_b : T b = some (1, n)) (h1 : 32 ≤ n) (h2 : n < 65536)  : Met l y_ME_both w_ME_both ({ frames := 4, cells := 0, slots := 0, locals := 98 } : Room) (va_Pc [.ref h0, .ref b] (pr (en g) g.1 vcl sz ([] ++ pl))) (va_Qv (fun (u : va_W) => (True) ∧ okx g T xs u) (po g.1 vcl (va_A ([] ++ pl) sz) (fun (u : va_W) => [] ++ u)) (va_A ([] ++ pl) sz)) 0 0 (va_A ([] ++ pl) sz) := by
  refine mc_entry (cc := c_ME_both) (maxL := 2) (ret := none) (by decide) rfl (Nat.le_of_ble_eq_true rfl) ?_
  intro p e s m args below meth c ls F hr hlk hnm hsz hP hD hE hA hl
  obtain ⟨hx, hb, hml, hown, hts⟩ := id F
  have hK := hE.1
  generalize va_A ([] ++ pl) sz = A at hD hE hA ⊢
  have hS : va_S A s.heap s.heap [] := va_S.rf
  have hl : lv_has ls 2 [(0, .ref h0), (1, .ref b)] := hl
  refine lv_aload_n hx hb dME_both_0 rfl (lv_at hl 0 rfl) ?_
  refine ty_get (ci := 11) (C := "LatticeKeysModel$Secrets") (TT := T_ME) (N := 14) (kd := (23, 0)) hx hb hts (wg_ft i_ME) hown hK hO k_h0 (nxg hc0 k_h0 rfl) hP (fun _ h9 => h9) rfl 0 (by decide) (hts _ (wg_t kw_1379)) (fun _ h9 => h9) (cd := (3, 20, 0)) rfl dME_both_1 (fun v21 hv21 => ?_)
  obtain ⟨r21, rfl, kr21⟩ := (show ∃ r : Nat, v21 = .ref r ∧ T r = some (20, 0) from hv21)
  refine lv_bipush (v := nI 72) hx hb dME_both_4 (by decide) ?_
  refine lv_bipush (v := nI 6) hx hb dME_both_6 (by decide) ?_
  obtain ⟨e21, pl, hP, hD, hk21, hO⟩ := open1 hP hD hO kr21 (nxg hc9 kr21 rfl)
  obtain ⟨am21, am22, am23, am24, am25, rt21, ps21, x21, rfl, km21, km22, km23, km24, km25, hr21, hr22, hr23⟩ := hk21
  obtain ⟨e22, pl, hP, hD, hk22, hO⟩ := open1 hP hD hO km21 (nmc (knd_ne km21 kr21 (by decide)) (nxg hc9 km21 rfl))
  obtain ⟨f21, rfl⟩ := hk22
  obtain ⟨e23, pl, hP, hD, hk23, hO⟩ := open1 hP hD hO km22 (nmc (knd_ne km22 km21 (by decide)) (nmc (knd_ne km22 kr21 (by decide)) (nxg hc9 km22 rfl)))
  obtain ⟨f22, rfl⟩ := hk23
  obtain ⟨e24, pl, hP, hD, hk24, hO⟩ := open1 hP hD hO km23 (nmc (knd_ne km23 km22 (by decide)) (nmc (knd_ne km23 km21 (by decide)) (nmc (knd_ne km23 kr21 (by decide)) (nxg hc9 km23 rfl))))
  obtain ⟨f23, rfl⟩ := hk24
  obtain ⟨e25, pl, hP, hD, hk25, hO⟩ := open1 hP hD hO km24 (nmc (knd_ne km24 km23 (by decide)) (nmc (knd_ne km24 km22 (by decide)) (nmc (knd_ne km24 km21 (by decide)) (nmc (knd_ne km24 kr21 (by decide)) (nxg hc9 km24 rfl)))))
  obtain ⟨f24, rfl⟩ := hk25
  obtain ⟨e26, pl, hP, hD, hk26, hO⟩ := open1 hP hD hO km25 (nmc (knd_ne km25 km24 (by decide)) (nmc (knd_ne km25 km23 (by decide)) (nmc (knd_ne km25 km22 (by decide)) (nmc (knd_ne km25 km21 (by decide)) (nmc (knd_ne km25 kr21 (by decide)) (nxg hc9 km25 rfl))))))
  obtain ⟨f25, rfl⟩ := hk26
  have hP : va_P g.1 vcl ([(r21, .inr (9, [.ref am21, .ref am22, .ref am23, .ref am24, .ref am25, .int (nI rt21), .int (nI ps21), .int x21])), (am21, .inl (g.2.1 2, 25, .inr (.inl f21))), (am22, .inl (g.2.1 2, 25, .inr (.inl f22))), (am23, .inl (g.2.1 2, 5, .inr (.inl f23))), (am24, .inl (g.2.1 2, 24, .inr (.inl f24))), (am25, .inl (g.2.1 0, 25, .inl f25))] ++ pl) _ := hP
  have hD : va_D _ ([(r21, .inr (9, [.ref am21, .ref am22, .ref am23, .ref am24, .ref am25, .int (nI rt21), .int (nI ps21), .int x21])), (am21, .inl (g.2.1 2, 25, .inr (.inl f21))), (am22, .inl (g.2.1 2, 25, .inr (.inl f22))), (am23, .inl (g.2.1 2, 5, .inr (.inl f23))), (am24, .inl (g.2.1 2, 24, .inr (.inl f24))), (am25, .inl (g.2.1 0, 25, .inl f25))] ++ pl) := hD
  refine mp_v (cx := [(r21, .inr (9, [.ref am21, .ref am22, .ref am23, .ref am24, .ref am25, .int (nI rt21), .int (nI ps21), .int x21])), (am21, .inl (g.2.1 2, 25, .inr (.inl f21))), (am22, .inl (g.2.1 2, 25, .inr (.inl f22))), (am23, .inl (g.2.1 2, 5, .inr (.inl f23))), (am24, .inl (g.2.1 2, 24, .inr (.inl f24))), (am25, .inl (g.2.1 0, 25, .inl f25))]) (wr := []) hP hD hS hA [0, 1, 2, 3, 4, 5] [] rfl rfl rfl (by decide) (va_runV (As := [.int (nI 72), .int (nI 6)]) (rest := []) F (t_MS_begin l g _ T (am25 :: (am24 :: (am23 :: (am22 :: (am21 :: (r21 :: xs)))))) pl hO hU  72 (nI 6) r21 am21 am22 am23 am24 am25 rt21 ps21 x21 f21 f22 f23 f24 f25 (by omega)) (cwV 2 hts (wg_app (wg_c kw_1607 (wg_c kw_1608 (wg_c kw_1609 (wg_c kw_10 wg_n)))) kw_1610) rfl rfl rfl (by decide +kernel) ⟨by decide, by decide⟩) (pp_V (en_ok g) (q0 := 0) hK hP hD hS hA hE [0, 1, 2, 3, 4, 5] rfl rfl rfl rfl) rfl rfl hl.1 rfl (lv_room (Nat.le_of_ble_eq_true rfl)) dME_both_8 ⟨by omega, by omega⟩) (fun  u21 H locs hu21 hP hD hS => ?_)
  obtain ⟨u22, pl⟩ := u21
  obtain ⟨hq21, hO⟩ := hu21
  obtain ⟨ps22, f26, f27, f28⟩ := u22
  have hP : va_P g.1 vcl ([(r21, .inr (9, [.ref am21, .ref am22, .ref am23, .ref am24, .ref am25, .int (nI 72), .int (nI ps22), .int (nI 6)])), (am21, .inl (g.2.1 2, 25, .inr (.inl f26))), (am22, .inl (g.2.1 2, 25, .inr (.inl f27))), (am23, .inl (g.2.1 2, 5, .inr (.inl f28))), (am24, .inl (g.2.1 2, 24, .inr (.inl f24))), (am25, .inl (g.2.1 0, 25, .inl f25))] ++ pl) _ := hP
  have hD : va_D _ ([(r21, .inr (9, [.ref am21, .ref am22, .ref am23, .ref am24, .ref am25, .int (nI 72), .int (nI ps22), .int (nI 6)])), (am21, .inl (g.2.1 2, 25, .inr (.inl f26))), (am22, .inl (g.2.1 2, 25, .inr (.inl f27))), (am23, .inl (g.2.1 2, 5, .inr (.inl f28))), (am24, .inl (g.2.1 2, 24, .inr (.inl f24))), (am25, .inl (g.2.1 0, 25, .inl f25))] ++ pl) := hD
  have hq21 : ps22 ≤ 72 := hq21
  refine W.widen (k := 0) (n := 0) (by omega) (by omega) ?_
  refine lv_aload_n hx hb dME_both_11 rfl (lv_at hl 0 rfl) ?_
  refine ty_get (ci := 11) (C := "LatticeKeysModel$Secrets") (TT := T_ME) (N := 14) (kd := (23, 0)) hx hb hts (wg_ft i_ME) hown hK hO k_h0 (nxg (clo_cons (clo_cons (clo_cons (clo_cons (clo_cons (clo_cons hc0 kr21 (by decide)) km21 (by decide)) km22 (by decide)) km23 (by decide)) km24 (by decide)) km25 (by decide)) k_h0 rfl) hP (fun _ h9 => h9) rfl 0 (by decide) (hts _ (wg_t kw_1379)) (fun _ h9 => h9) (cd := (3, 20, 0)) rfl dME_both_12 (fun v22 hv22 => ?_)
  obtain ⟨r22, rfl, kr22⟩ := (show ∃ r : Nat, v22 = .ref r ∧ T r = some (20, 0) from hv22)
  obtain rfl : r21 = r22 := hU _ _ _ (by decide) kr21 kr22
  refine lv_aload_n hx hb dME_both_15 rfl (lv_at hl 1 rfl) ?_
  refine lv_iconst (v := nI 0) hx hb dME_both_16 (by decide) ?_
  refine lv_bipush (v := nI 32) hx hb dME_both_17 (by decide) ?_
  refine mp_v (cx := [(r21, .inr (9, [.ref am21, .ref am22, .ref am23, .ref am24, .ref am25, .int (nI 72), .int (nI ps22), .int (nI 6)])), (am21, .inl (g.2.1 2, 25, .inr (.inl f26))), (am22, .inl (g.2.1 2, 25, .inr (.inl f27))), (am23, .inl (g.2.1 2, 5, .inr (.inl f28))), (am24, .inl (g.2.1 2, 24, .inr (.inl f24))), (am25, .inl (g.2.1 0, 25, .inl f25))]) (wr := []) hP hD hS hA [0, 1, 2, 3, 4, 5] [] rfl rfl rfl (by decide) (va_runV (As := [.ref b, .int (nI 0), .int (nI 32)]) (rest := []) F (t_MS_puts l g _ T (am25 :: (am24 :: (am23 :: (am22 :: (am21 :: (r21 :: xs)))))) pl hO hU (clo_cons (clo_cons (clo_cons (clo_cons (clo_cons (clo_cons hc0 kr21 (by decide)) km21 (by decide)) km22 (by decide)) km23 (by decide)) km24 (by decide)) km25 (by decide)) b n 0 32 r21 am21 am22 am23 am24 am25 72 ps22 (nI 6) f26 f27 f28 f24 f25 k_b (by omega) (by omega) (by omega) (by omega)) (cwV 3 hts (wg_app (wg_c kw_1611 (wg_c kw_1612 (wg_c kw_1613 (wg_c kw_10 wg_n)))) kw_1614) rfl rfl rfl (by decide +kernel) ⟨by decide, by decide⟩) (pp_V (en_ok g) (q0 := 0) hK hP hD hS hA hE [0, 1, 2, 3, 4, 5] rfl rfl rfl rfl) rfl rfl hl.1 rfl (lv_room (Nat.le_of_ble_eq_true rfl)) dME_both_19 ⟨by omega, by omega⟩) (fun  u23 H locs hu22 hP hD hS => ?_)
  obtain ⟨u24, pl⟩ := u23
  obtain ⟨hq22, hO⟩ := hu22
  obtain ⟨ps23, f29, f30, f31⟩ := u24
  have hP : va_P g.1 vcl ([(r21, .inr (9, [.ref am21, .ref am22, .ref am23, .ref am24, .ref am25, .int (nI 72), .int (nI ps23), .int (nI 6)])), (am21, .inl (g.2.1 2, 25, .inr (.inl f29))), (am22, .inl (g.2.1 2, 25, .inr (.inl f30))), (am23, .inl (g.2.1 2, 5, .inr (.inl f31))), (am24, .inl (g.2.1 2, 24, .inr (.inl f24))), (am25, .inl (g.2.1 0, 25, .inl f25))] ++ pl) _ := hP
  have hD : va_D _ ([(r21, .inr (9, [.ref am21, .ref am22, .ref am23, .ref am24, .ref am25, .int (nI 72), .int (nI ps23), .int (nI 6)])), (am21, .inl (g.2.1 2, 25, .inr (.inl f29))), (am22, .inl (g.2.1 2, 25, .inr (.inl f30))), (am23, .inl (g.2.1 2, 5, .inr (.inl f31))), (am24, .inl (g.2.1 2, 24, .inr (.inl f24))), (am25, .inl (g.2.1 0, 25, .inl f25))] ++ pl) := hD
  have hq22 : ps23 ≤ 72 := hq22
  refine W.widen (k := 0) (n := 0) (by omega) (by omega) ?_
  refine lv_aload_n hx hb dME_both_22 rfl (lv_at hl 0 rfl) ?_
  refine ty_get (ci := 11) (C := "LatticeKeysModel$Secrets") (TT := T_ME) (N := 14) (kd := (23, 0)) hx hb hts (wg_ft i_ME) hown hK hO k_h0 (nxg (clo_cons (clo_cons (clo_cons (clo_cons (clo_cons (clo_cons hc0 kr21 (by decide)) km21 (by decide)) km22 (by decide)) km23 (by decide)) km24 (by decide)) km25 (by decide)) k_h0 rfl) hP (fun _ h9 => h9) rfl 0 (by decide) (hts _ (wg_t kw_1379)) (fun _ h9 => h9) (cd := (3, 20, 0)) rfl dME_both_23 (fun v23 hv23 => ?_)
  obtain ⟨r23, rfl, kr23⟩ := (show ∃ r : Nat, v23 = .ref r ∧ T r = some (20, 0) from hv23)
  obtain rfl : r21 = r23 := hU _ _ _ (by decide) kr21 kr23
  refine lv_aload_n hx hb dME_both_26 rfl (lv_at hl 0 rfl) ?_
  refine ty_get (ci := 11) (C := "LatticeKeysModel$Secrets") (TT := T_ME) (N := 14) (kd := (23, 0)) hx hb hts (wg_ft i_ME) hown hK hO k_h0 (nxg (clo_cons (clo_cons (clo_cons (clo_cons (clo_cons (clo_cons hc0 kr21 (by decide)) km21 (by decide)) km22 (by decide)) km23 (by decide)) km24 (by decide)) km25 (by decide)) k_h0 rfl) hP (fun _ h9 => h9) rfl 11 (by decide) (hts _ (wg_t kw_1390)) (fun _ h9 => h9) (cd := (3, 1, 32)) rfl dME_both_27 (fun v24 hv24 => ?_)
  obtain ⟨r24, rfl, kr24⟩ := (show ∃ r : Nat, v24 = .ref r ∧ T r = some (1, 32) from hv24)
  refine lv_iconst (v := nI 0) hx hb dME_both_30 (by decide) ?_
  refine lv_bipush (v := nI 32) hx hb dME_both_31 (by decide) ?_
  refine mp_v (cx := [(r21, .inr (9, [.ref am21, .ref am22, .ref am23, .ref am24, .ref am25, .int (nI 72), .int (nI ps23), .int (nI 6)])), (am21, .inl (g.2.1 2, 25, .inr (.inl f29))), (am22, .inl (g.2.1 2, 25, .inr (.inl f30))), (am23, .inl (g.2.1 2, 5, .inr (.inl f31))), (am24, .inl (g.2.1 2, 24, .inr (.inl f24))), (am25, .inl (g.2.1 0, 25, .inl f25))]) (wr := []) hP hD hS hA [0, 1, 2, 3, 4, 5] [] rfl rfl rfl (by decide) (va_runV (As := [.ref r24, .int (nI 0), .int (nI 32)]) (rest := []) F (t_MS_puts l g _ T (am25 :: (am24 :: (am23 :: (am22 :: (am21 :: (r21 :: xs)))))) pl hO hU (clo_cons (clo_cons (clo_cons (clo_cons (clo_cons (clo_cons hc0 kr21 (by decide)) km21 (by decide)) km22 (by decide)) km23 (by decide)) km24 (by decide)) km25 (by decide)) r24 32 0 32 r21 am21 am22 am23 am24 am25 72 ps23 (nI 6) f29 f30 f31 f24 f25 kr24 (by omega) (by omega) (by omega) (by omega)) (cwV 3 hts (wg_app (wg_c kw_1611 (wg_c kw_1612 (wg_c kw_1613 (wg_c kw_10 wg_n)))) kw_1614) rfl rfl rfl (by decide +kernel) ⟨by decide, by decide⟩) (pp_V (en_ok g) (q0 := 0) hK hP hD hS hA hE [0, 1, 2, 3, 4, 5] rfl rfl rfl rfl) rfl rfl hl.1 rfl (lv_room (Nat.le_of_ble_eq_true rfl)) dME_both_33 ⟨by omega, by omega⟩) (fun  u25 H locs hu23 hP hD hS => ?_)
  obtain ⟨u26, pl⟩ := u25
  obtain ⟨hq23, hO⟩ := hu23
  obtain ⟨ps24, f32, f33, f34⟩ := u26
  have hP : va_P g.1 vcl ([(r21, .inr (9, [.ref am21, .ref am22, .ref am23, .ref am24, .ref am25, .int (nI 72), .int (nI ps24), .int (nI 6)])), (am21, .inl (g.2.1 2, 25, .inr (.inl f32))), (am22, .inl (g.2.1 2, 25, .inr (.inl f33))), (am23, .inl (g.2.1 2, 5, .inr (.inl f34))), (am24, .inl (g.2.1 2, 24, .inr (.inl f24))), (am25, .inl (g.2.1 0, 25, .inl f25))] ++ pl) _ := hP
  have hD : va_D _ ([(r21, .inr (9, [.ref am21, .ref am22, .ref am23, .ref am24, .ref am25, .int (nI 72), .int (nI ps24), .int (nI 6)])), (am21, .inl (g.2.1 2, 25, .inr (.inl f32))), (am22, .inl (g.2.1 2, 25, .inr (.inl f33))), (am23, .inl (g.2.1 2, 5, .inr (.inl f34))), (am24, .inl (g.2.1 2, 24, .inr (.inl f24))), (am25, .inl (g.2.1 0, 25, .inl f25))] ++ pl) := hD
  have hq23 : ps24 ≤ 72 := hq23
  refine W.widen (k := 0) (n := 0) (by omega) (by omega) ?_
  refine lv_aload_n hx hb dME_both_36 rfl (lv_at hl 0 rfl) ?_
  refine ty_get (ci := 11) (C := "LatticeKeysModel$Secrets") (TT := T_ME) (N := 14) (kd := (23, 0)) hx hb hts (wg_ft i_ME) hown hK hO k_h0 (nxg (clo_cons (clo_cons (clo_cons (clo_cons (clo_cons (clo_cons hc0 kr21 (by decide)) km21 (by decide)) km22 (by decide)) km23 (by decide)) km24 (by decide)) km25 (by decide)) k_h0 rfl) hP (fun _ h9 => h9) rfl 0 (by decide) (hts _ (wg_t kw_1379)) (fun _ h9 => h9) (cd := (3, 20, 0)) rfl dME_both_37 (fun v25 hv25 => ?_)
  obtain ⟨r25, rfl, kr25⟩ := (show ∃ r : Nat, v25 = .ref r ∧ T r = some (20, 0) from hv25)
  obtain rfl : r21 = r25 := hU _ _ _ (by decide) kr21 kr25
  refine mp_v (cx := [(r21, .inr (9, [.ref am21, .ref am22, .ref am23, .ref am24, .ref am25, .int (nI 72), .int (nI ps24), .int (nI 6)])), (am21, .inl (g.2.1 2, 25, .inr (.inl f32))), (am22, .inl (g.2.1 2, 25, .inr (.inl f33))), (am23, .inl (g.2.1 2, 5, .inr (.inl f34))), (am24, .inl (g.2.1 2, 24, .inr (.inl f24))), (am25, .inl (g.2.1 0, 25, .inl f25))]) (wr := []) hP hD hS hA [0, 1, 2, 3, 4, 5] [] rfl rfl rfl (by decide) (va_runV (As := []) (rest := []) F (t_MS_end l g _ T (am25 :: (am24 :: (am23 :: (am22 :: (am21 :: (r21 :: xs)))))) pl hO hU  r21 am21 am22 am23 am24 am25 72 ps24 (nI 6) f32 f33 f34 f24 f25 (by omega) (by omega)) (cwV 0 hts (wg_app (wg_c kw_1633 (wg_c kw_1634 (wg_c kw_1635 (wg_c kw_10 wg_n)))) kw_1636) rfl rfl rfl (by decide +kernel) ⟨by decide, by decide⟩) (pp_V (en_ok g) (q0 := 0) hK hP hD hS hA hE [0, 1, 2, 3, 4, 5] rfl rfl rfl rfl) rfl rfl hl.1 rfl (lv_room (Nat.le_of_ble_eq_true rfl)) dME_both_40 ⟨by omega, by omega⟩) (fun  u27 H locs hu24 hP hD hS => ?_)
  obtain ⟨u28, pl⟩ := u27
  obtain ⟨hq24, hO⟩ := hu24
  obtain ⟨ps25, f35, f36, f37⟩ := u28
  have hP : va_P g.1 vcl ([(r21, .inr (9, [.ref am21, .ref am22, .ref am23, .ref am24, .ref am25, .int (nI 72), .int (nI ps25), .int (nI 6)])), (am21, .inl (g.2.1 2, 25, .inr (.inl f35))), (am22, .inl (g.2.1 2, 25, .inr (.inl f36))), (am23, .inl (g.2.1 2, 5, .inr (.inl f37))), (am24, .inl (g.2.1 2, 24, .inr (.inl f24))), (am25, .inl (g.2.1 0, 25, .inl f25))] ++ pl) _ := hP
  have hD : va_D _ ([(r21, .inr (9, [.ref am21, .ref am22, .ref am23, .ref am24, .ref am25, .int (nI 72), .int (nI ps25), .int (nI 6)])), (am21, .inl (g.2.1 2, 25, .inr (.inl f35))), (am22, .inl (g.2.1 2, 25, .inr (.inl f36))), (am23, .inl (g.2.1 2, 5, .inr (.inl f37))), (am24, .inl (g.2.1 2, 24, .inr (.inl f24))), (am25, .inl (g.2.1 0, 25, .inl f25))] ++ pl) := hD
  have hq24 : ps25 ≤ 72 := hq24
  refine W.widen (k := 0) (n := 0) (by omega) (by omega) ?_
  refine lv_aload_n hx hb dME_both_43 rfl (lv_at hl 0 rfl) ?_
  refine ty_get (ci := 11) (C := "LatticeKeysModel$Secrets") (TT := T_ME) (N := 14) (kd := (23, 0)) hx hb hts (wg_ft i_ME) hown hK hO k_h0 (nxg (clo_cons (clo_cons (clo_cons (clo_cons (clo_cons (clo_cons hc0 kr21 (by decide)) km21 (by decide)) km22 (by decide)) km23 (by decide)) km24 (by decide)) km25 (by decide)) k_h0 rfl) hP (fun _ h9 => h9) rfl 0 (by decide) (hts _ (wg_t kw_1379)) (fun _ h9 => h9) (cd := (3, 20, 0)) rfl dME_both_44 (fun v26 hv26 => ?_)
  obtain ⟨r26, rfl, kr26⟩ := (show ∃ r : Nat, v26 = .ref r ∧ T r = some (20, 0) from hv26)
  obtain rfl : r21 = r26 := hU _ _ _ (by decide) kr21 kr26
  refine lv_aload_n hx hb dME_both_47 rfl (lv_at hl 0 rfl) ?_
  refine ty_get (ci := 11) (C := "LatticeKeysModel$Secrets") (TT := T_ME) (N := 14) (kd := (23, 0)) hx hb hts (wg_ft i_ME) hown hK hO k_h0 (nxg (clo_cons (clo_cons (clo_cons (clo_cons (clo_cons (clo_cons hc0 kr21 (by decide)) km21 (by decide)) km22 (by decide)) km23 (by decide)) km24 (by decide)) km25 (by decide)) k_h0 rfl) hP (fun _ h9 => h9) rfl 9 (by decide) (hts _ (wg_t kw_1388)) (fun _ h9 => h9) (cd := (3, 1, 64)) rfl dME_both_48 (fun v27 hv27 => ?_)
  obtain ⟨r27, rfl, kr27⟩ := (show ∃ r : Nat, v27 = .ref r ∧ T r = some (1, 64) from hv27)
  refine lv_iconst (v := nI 0) hx hb dME_both_51 (by decide) ?_
  refine lv_bipush (v := nI 64) hx hb dME_both_52 (by decide) ?_
  refine mp_v (cx := [(r21, .inr (9, [.ref am21, .ref am22, .ref am23, .ref am24, .ref am25, .int (nI 72), .int (nI ps25), .int (nI 6)])), (am21, .inl (g.2.1 2, 25, .inr (.inl f35))), (am22, .inl (g.2.1 2, 25, .inr (.inl f36))), (am23, .inl (g.2.1 2, 5, .inr (.inl f37))), (am24, .inl (g.2.1 2, 24, .inr (.inl f24))), (am25, .inl (g.2.1 0, 25, .inl f25))]) (wr := []) hP hD hS hA [0, 1, 2, 3, 4, 5] [] rfl rfl rfl (by decide) (va_runV (As := [.ref r27, .int (nI 0), .int (nI 64)]) (rest := []) F (t_MS_take l g _ T (am25 :: (am24 :: (am23 :: (am22 :: (am21 :: (r21 :: xs)))))) pl hO hU (clo_cons (clo_cons (clo_cons (clo_cons (clo_cons (clo_cons hc0 kr21 (by decide)) km21 (by decide)) km22 (by decide)) km23 (by decide)) km24 (by decide)) km25 (by decide)) r27 64 0 64 r21 am21 am22 am23 am24 am25 72 ps25 (nI 6) f35 f36 f37 f24 f25 kr27 (by omega) (by omega) (by omega) (by omega)) (cwV 3 hts (wg_app (wg_c kw_1637 (wg_c kw_1638 (wg_c kw_1639 (wg_c kw_10 wg_n)))) kw_1640) rfl rfl rfl (by decide +kernel) ⟨by decide, by decide⟩) (pp_V (en_ok g) (q0 := 0) hK hP hD hS hA hE [0, 1, 2, 3, 4, 5] rfl rfl rfl rfl) rfl rfl hl.1 rfl (lv_room (Nat.le_of_ble_eq_true rfl)) dME_both_54 ⟨by omega, by omega⟩) (fun  u29 H locs hu25 hP hD hS => ?_)
  obtain ⟨u30, pl⟩ := u29
  obtain ⟨hq25, hO⟩ := hu25
  obtain ⟨ps26, f38, f39, f40⟩ := u30
  have hP : va_P g.1 vcl ([(r21, .inr (9, [.ref am21, .ref am22, .ref am23, .ref am24, .ref am25, .int (nI 72), .int (nI ps26), .int (nI 6)])), (am21, .inl (g.2.1 2, 25, .inr (.inl f38))), (am22, .inl (g.2.1 2, 25, .inr (.inl f39))), (am23, .inl (g.2.1 2, 5, .inr (.inl f40))), (am24, .inl (g.2.1 2, 24, .inr (.inl f24))), (am25, .inl (g.2.1 0, 25, .inl f25))] ++ pl) _ := hP
  have hD : va_D _ ([(r21, .inr (9, [.ref am21, .ref am22, .ref am23, .ref am24, .ref am25, .int (nI 72), .int (nI ps26), .int (nI 6)])), (am21, .inl (g.2.1 2, 25, .inr (.inl f38))), (am22, .inl (g.2.1 2, 25, .inr (.inl f39))), (am23, .inl (g.2.1 2, 5, .inr (.inl f40))), (am24, .inl (g.2.1 2, 24, .inr (.inl f24))), (am25, .inl (g.2.1 0, 25, .inl f25))] ++ pl) := hD
  have hq25 : ps26 ≤ 72 := hq25
  refine W.widen (k := 0) (n := 0) (by omega) (by omega) ?_
  have hO := close1 (e := .inl (g.2.1 0, 25, .inl f25)) hO km25 ⟨_, rfl⟩
  have hO := close1 (e := .inl (g.2.1 2, 24, .inr (.inl f24))) hO km24 ⟨_, rfl⟩
  have hO := close1 (e := .inl (g.2.1 2, 5, .inr (.inl f40))) hO km23 ⟨_, rfl⟩
  have hO := close1 (e := .inl (g.2.1 2, 25, .inr (.inl f39))) hO km22 ⟨_, rfl⟩
  have hO := close1 (e := .inl (g.2.1 2, 25, .inr (.inl f38))) hO km21 ⟨_, rfl⟩
  have hO := close1 (e := .inr (9, [.ref am21, .ref am22, .ref am23, .ref am24, .ref am25, .int (nI 72), .int (nI ps26), .int (nI 6)])) hO kr21 ⟨_, _, _, _, _, _, _, _, rfl, km21, km22, km23, km24, km25, by omega, by omega, by omega⟩
  have hO : okx g T xs ((r21, .inr (9, [.ref am21, .ref am22, .ref am23, .ref am24, .ref am25, .int (nI 72), .int (nI ps26), .int (nI 6)])) :: (am21, .inl (g.2.1 2, 25, .inr (.inl f38))) :: (am22, .inl (g.2.1 2, 25, .inr (.inl f39))) :: (am23, .inl (g.2.1 2, 5, .inr (.inl f40))) :: (am24, .inl (g.2.1 2, 24, .inr (.inl f24))) :: (am25, .inl (g.2.1 0, 25, .inl f25)) :: pl) := hO
  have hP : va_P g.1 vcl ([] ++ ((r21, .inr (9, [.ref am21, .ref am22, .ref am23, .ref am24, .ref am25, .int (nI 72), .int (nI ps26), .int (nI 6)])) :: (am21, .inl (g.2.1 2, 25, .inr (.inl f38))) :: (am22, .inl (g.2.1 2, 25, .inr (.inl f39))) :: (am23, .inl (g.2.1 2, 5, .inr (.inl f40))) :: (am24, .inl (g.2.1 2, 24, .inr (.inl f24))) :: (am25, .inl (g.2.1 0, 25, .inl f25)) :: pl)) _ := hP
  have hD : va_D _ ([] ++ ((r21, .inr (9, [.ref am21, .ref am22, .ref am23, .ref am24, .ref am25, .int (nI 72), .int (nI ps26), .int (nI 6)])) :: (am21, .inl (g.2.1 2, 25, .inr (.inl f38))) :: (am22, .inl (g.2.1 2, 25, .inr (.inl f39))) :: (am23, .inl (g.2.1 2, 5, .inr (.inl f40))) :: (am24, .inl (g.2.1 2, 24, .inr (.inl f24))) :: (am25, .inl (g.2.1 0, 25, .inl f25)) :: pl)) := hD
  generalize ((r21, .inr (9, [.ref am21, .ref am22, .ref am23, .ref am24, .ref am25, .int (nI 72), .int (nI ps26), .int (nI 6)])) :: (am21, .inl (g.2.1 2, 25, .inr (.inl f38))) :: (am22, .inl (g.2.1 2, 25, .inr (.inl f39))) :: (am23, .inl (g.2.1 2, 5, .inr (.inl f40))) :: (am24, .inl (g.2.1 2, 24, .inr (.inl f24))) :: (am25, .inl (g.2.1 0, 25, .inl f25)) :: pl) = pl at hO hP hD
  exact mp_vret hx hb hr hlk hP hD hS pl ⟨trivial, hO⟩ [] rfl rfl rfl (by omega) (by omega) dME_both_57
set_option maxHeartbeats 400000 in
set_option maxRecDepth 100000 in
theorem t_ME_openSize_0 (l : Launch) (g : Gd) (sz : Nat) (T : Ty) (xs : List Nat) (pl : va_W) (hO : okx g T xs pl) (hU : uni T)  : Met l y_ME_openSize w_ME_openSize ({ frames := 0, cells := 0, slots := 0, locals := 0 } : Room) (va_Pc [.int (nI 0)] (pr (en g) g.1 vcl sz ([] ++ pl))) (va_Qi (fun (r : Int32) (u : va_W) => (r = nI 800) ∧ okx g T xs u) (po g.1 vcl (va_A ([] ++ pl) sz) (fun (u : va_W) => [] ++ u)) (va_A ([] ++ pl) sz)) 0 0 (va_A ([] ++ pl) sz) := by
  refine mc_entry (cc := c_ME_openSize) (maxL := 1) (ret := (some .int)) (by decide) rfl (Nat.le_of_ble_eq_true rfl) ?_
  intro p e s m args below meth c ls F hr hlk hnm hsz hP hD hE hA hl
  obtain ⟨hx, hb, hml, hown, hts⟩ := id F
  have hK := hE.1
  generalize va_A ([] ++ pl) sz = A at hD hE hA ⊢
  have hS : va_S A s.heap s.heap [] := va_S.rf
  have hl : lv_has ls 1 [(0, .int (nI 0))] := hl
  refine lv_sipush (v := nI 384) hx hb dME_openSize_0 (by decide) ?_
  refine va_gets hx hb (hE.2.1 19 _ rfl).1 hS hown (hts _ (wg_t kw_1605)) (fun _ h9 => h9) dME_openSize_3 ?_
  refine lv_iload_n hx hb dME_openSize_6 rfl (lv_at hl 0 rfl) ?_
  refine va_ti (v := .int (nI 2)) hx hb (hE.2.1 19 _ rfl).2 hS (vp_in_nI (by decide) (by decide)) (by decide +kernel) dME_openSize_7 ?_
  refine mi_imul hx hb dME_openSize_8 ?_
  refine mi_as (show nI (384 * 2) = nI 768 from rfl) ?_
  refine lv_bipush (v := nI 32) hx hb dME_openSize_9 (by decide) ?_
  refine mi_iadd hx hb dME_openSize_11 ?_
  refine mi_as (show nI (768 + 32) = nI 800 from rfl) ?_
  exact mp_iret hx hb hr hlk hP hD hS pl ⟨rfl, hO⟩ [] rfl rfl rfl (by omega) (by omega) dME_openSize_12
set_option maxHeartbeats 400000 in
set_option maxRecDepth 100000 in
theorem t_ME_openSize_1 (l : Launch) (g : Gd) (sz : Nat) (T : Ty) (xs : List Nat) (pl : va_W) (hO : okx g T xs pl) (hU : uni T)  : Met l y_ME_openSize w_ME_openSize ({ frames := 0, cells := 0, slots := 0, locals := 0 } : Room) (va_Pc [.int (nI 1)] (pr (en g) g.1 vcl sz ([] ++ pl))) (va_Qi (fun (r : Int32) (u : va_W) => (r = nI 1184) ∧ okx g T xs u) (po g.1 vcl (va_A ([] ++ pl) sz) (fun (u : va_W) => [] ++ u)) (va_A ([] ++ pl) sz)) 0 0 (va_A ([] ++ pl) sz) := by
  refine mc_entry (cc := c_ME_openSize) (maxL := 1) (ret := (some .int)) (by decide) rfl (Nat.le_of_ble_eq_true rfl) ?_
  intro p e s m args below meth c ls F hr hlk hnm hsz hP hD hE hA hl
  obtain ⟨hx, hb, hml, hown, hts⟩ := id F
  have hK := hE.1
  generalize va_A ([] ++ pl) sz = A at hD hE hA ⊢
  have hS : va_S A s.heap s.heap [] := va_S.rf
  have hl : lv_has ls 1 [(0, .int (nI 1))] := hl
  refine lv_sipush (v := nI 384) hx hb dME_openSize_0 (by decide) ?_
  refine va_gets hx hb (hE.2.1 19 _ rfl).1 hS hown (hts _ (wg_t kw_1605)) (fun _ h9 => h9) dME_openSize_3 ?_
  refine lv_iload_n hx hb dME_openSize_6 rfl (lv_at hl 0 rfl) ?_
  refine va_ti (v := .int (nI 3)) hx hb (hE.2.1 19 _ rfl).2 hS (vp_in_nI (by decide) (by decide)) (by decide +kernel) dME_openSize_7 ?_
  refine mi_imul hx hb dME_openSize_8 ?_
  refine mi_as (show nI (384 * 3) = nI 1152 from rfl) ?_
  refine lv_bipush (v := nI 32) hx hb dME_openSize_9 (by decide) ?_
  refine mi_iadd hx hb dME_openSize_11 ?_
  refine mi_as (show nI (1152 + 32) = nI 1184 from rfl) ?_
  exact mp_iret hx hb hr hlk hP hD hS pl ⟨rfl, hO⟩ [] rfl rfl rfl (by omega) (by omega) dME_openSize_12
set_option maxHeartbeats 400000 in
set_option maxRecDepth 100000 in
theorem t_ME_openSize_2 (l : Launch) (g : Gd) (sz : Nat) (T : Ty) (xs : List Nat) (pl : va_W) (hO : okx g T xs pl) (hU : uni T)  : Met l y_ME_openSize w_ME_openSize ({ frames := 0, cells := 0, slots := 0, locals := 0 } : Room) (va_Pc [.int (nI 2)] (pr (en g) g.1 vcl sz ([] ++ pl))) (va_Qi (fun (r : Int32) (u : va_W) => (r = nI 1568) ∧ okx g T xs u) (po g.1 vcl (va_A ([] ++ pl) sz) (fun (u : va_W) => [] ++ u)) (va_A ([] ++ pl) sz)) 0 0 (va_A ([] ++ pl) sz) := by
  refine mc_entry (cc := c_ME_openSize) (maxL := 1) (ret := (some .int)) (by decide) rfl (Nat.le_of_ble_eq_true rfl) ?_
  intro p e s m args below meth c ls F hr hlk hnm hsz hP hD hE hA hl
  obtain ⟨hx, hb, hml, hown, hts⟩ := id F
  have hK := hE.1
  generalize va_A ([] ++ pl) sz = A at hD hE hA ⊢
  have hS : va_S A s.heap s.heap [] := va_S.rf
  have hl : lv_has ls 1 [(0, .int (nI 2))] := hl
  refine lv_sipush (v := nI 384) hx hb dME_openSize_0 (by decide) ?_
  refine va_gets hx hb (hE.2.1 19 _ rfl).1 hS hown (hts _ (wg_t kw_1605)) (fun _ h9 => h9) dME_openSize_3 ?_
  refine lv_iload_n hx hb dME_openSize_6 rfl (lv_at hl 0 rfl) ?_
  refine va_ti (v := .int (nI 4)) hx hb (hE.2.1 19 _ rfl).2 hS (vp_in_nI (by decide) (by decide)) (by decide +kernel) dME_openSize_7 ?_
  refine mi_imul hx hb dME_openSize_8 ?_
  refine mi_as (show nI (384 * 4) = nI 1536 from rfl) ?_
  refine lv_bipush (v := nI 32) hx hb dME_openSize_9 (by decide) ?_
  refine mi_iadd hx hb dME_openSize_11 ?_
  refine mi_as (show nI (1536 + 32) = nI 1568 from rfl) ?_
  exact mp_iret hx hb hr hlk hP hD hS pl ⟨rfl, hO⟩ [] rfl rfl rfl (by omega) (by omega) dME_openSize_12
set_option maxHeartbeats 400000 in
set_option maxRecDepth 100000 in
theorem t_ME_sealedSize_0 (l : Launch) (g : Gd) (sz : Nat) (T : Ty) (xs : List Nat) (pl : va_W) (hO : okx g T xs pl) (hU : uni T)  : Met l y_ME_sealedSize w_ME_sealedSize ({ frames := 0, cells := 0, slots := 0, locals := 0 } : Room) (va_Pc [.int (nI 0)] (pr (en g) g.1 vcl sz ([] ++ pl))) (va_Qi (fun (r : Int32) (u : va_W) => (r = nI 768) ∧ okx g T xs u) (po g.1 vcl (va_A ([] ++ pl) sz) (fun (u : va_W) => [] ++ u)) (va_A ([] ++ pl) sz)) 0 0 (va_A ([] ++ pl) sz) := by
  refine mc_entry (cc := c_ME_sealedSize) (maxL := 1) (ret := (some .int)) (by decide) rfl (Nat.le_of_ble_eq_true rfl) ?_
  intro p e s m args below meth c ls F hr hlk hnm hsz hP hD hE hA hl
  obtain ⟨hx, hb, hml, hown, hts⟩ := id F
  have hK := hE.1
  generalize va_A ([] ++ pl) sz = A at hD hE hA ⊢
  have hS : va_S A s.heap s.heap [] := va_S.rf
  have hl : lv_has ls 1 [(0, .int (nI 0))] := hl
  refine lv_bipush (v := nI 32) hx hb dME_sealedSize_0 (by decide) ?_
  refine va_gets hx hb (hE.2.1 21 _ rfl).1 hS hown (hts _ (wg_t kw_1830)) (fun _ h9 => h9) dME_sealedSize_2 ?_
  refine lv_iload_n hx hb dME_sealedSize_5 rfl (lv_at hl 0 rfl) ?_
  refine va_ti (v := .int (nI 10)) hx hb (hE.2.1 21 _ rfl).2 hS (vp_in_nI (by decide) (by decide)) (by decide +kernel) dME_sealedSize_6 ?_
  refine va_gets hx hb (hE.2.1 19 _ rfl).1 hS hown (hts _ (wg_t kw_1605)) (fun _ h9 => h9) dME_sealedSize_7 ?_
  refine lv_iload_n hx hb dME_sealedSize_10 rfl (lv_at hl 0 rfl) ?_
  refine va_ti (v := .int (nI 2)) hx hb (hE.2.1 19 _ rfl).2 hS (vp_in_nI (by decide) (by decide)) (by decide +kernel) dME_sealedSize_11 ?_
  refine mi_imul hx hb dME_sealedSize_12 ?_
  refine mi_as (show nI (10 * 2) = nI 20 from rfl) ?_
  refine va_gets hx hb (hE.2.1 22 _ rfl).1 hS hown (hts _ (wg_t kw_1838)) (fun _ h9 => h9) dME_sealedSize_13 ?_
  refine lv_iload_n hx hb dME_sealedSize_16 rfl (lv_at hl 0 rfl) ?_
  refine va_ti (v := .int (nI 4)) hx hb (hE.2.1 22 _ rfl).2 hS (vp_in_nI (by decide) (by decide)) (by decide +kernel) dME_sealedSize_17 ?_
  refine mi_iadd hx hb dME_sealedSize_18 ?_
  refine mi_as (show nI (20 + 4) = nI 24 from rfl) ?_
  refine mi_imul hx hb dME_sealedSize_19 ?_
  refine mi_as (show nI (32 * 24) = nI 768 from rfl) ?_
  exact mp_iret hx hb hr hlk hP hD hS pl ⟨rfl, hO⟩ [] rfl rfl rfl (by omega) (by omega) dME_sealedSize_20
set_option maxHeartbeats 400000 in
set_option maxRecDepth 100000 in
theorem t_ME_sealedSize_1 (l : Launch) (g : Gd) (sz : Nat) (T : Ty) (xs : List Nat) (pl : va_W) (hO : okx g T xs pl) (hU : uni T)  : Met l y_ME_sealedSize w_ME_sealedSize ({ frames := 0, cells := 0, slots := 0, locals := 0 } : Room) (va_Pc [.int (nI 1)] (pr (en g) g.1 vcl sz ([] ++ pl))) (va_Qi (fun (r : Int32) (u : va_W) => (r = nI 1088) ∧ okx g T xs u) (po g.1 vcl (va_A ([] ++ pl) sz) (fun (u : va_W) => [] ++ u)) (va_A ([] ++ pl) sz)) 0 0 (va_A ([] ++ pl) sz) := by
  refine mc_entry (cc := c_ME_sealedSize) (maxL := 1) (ret := (some .int)) (by decide) rfl (Nat.le_of_ble_eq_true rfl) ?_
  intro p e s m args below meth c ls F hr hlk hnm hsz hP hD hE hA hl
  obtain ⟨hx, hb, hml, hown, hts⟩ := id F
  have hK := hE.1
  generalize va_A ([] ++ pl) sz = A at hD hE hA ⊢
  have hS : va_S A s.heap s.heap [] := va_S.rf
  have hl : lv_has ls 1 [(0, .int (nI 1))] := hl
  refine lv_bipush (v := nI 32) hx hb dME_sealedSize_0 (by decide) ?_
  refine va_gets hx hb (hE.2.1 21 _ rfl).1 hS hown (hts _ (wg_t kw_1830)) (fun _ h9 => h9) dME_sealedSize_2 ?_
  refine lv_iload_n hx hb dME_sealedSize_5 rfl (lv_at hl 0 rfl) ?_
  refine va_ti (v := .int (nI 10)) hx hb (hE.2.1 21 _ rfl).2 hS (vp_in_nI (by decide) (by decide)) (by decide +kernel) dME_sealedSize_6 ?_
  refine va_gets hx hb (hE.2.1 19 _ rfl).1 hS hown (hts _ (wg_t kw_1605)) (fun _ h9 => h9) dME_sealedSize_7 ?_
  refine lv_iload_n hx hb dME_sealedSize_10 rfl (lv_at hl 0 rfl) ?_
  refine va_ti (v := .int (nI 3)) hx hb (hE.2.1 19 _ rfl).2 hS (vp_in_nI (by decide) (by decide)) (by decide +kernel) dME_sealedSize_11 ?_
  refine mi_imul hx hb dME_sealedSize_12 ?_
  refine mi_as (show nI (10 * 3) = nI 30 from rfl) ?_
  refine va_gets hx hb (hE.2.1 22 _ rfl).1 hS hown (hts _ (wg_t kw_1838)) (fun _ h9 => h9) dME_sealedSize_13 ?_
  refine lv_iload_n hx hb dME_sealedSize_16 rfl (lv_at hl 0 rfl) ?_
  refine va_ti (v := .int (nI 4)) hx hb (hE.2.1 22 _ rfl).2 hS (vp_in_nI (by decide) (by decide)) (by decide +kernel) dME_sealedSize_17 ?_
  refine mi_iadd hx hb dME_sealedSize_18 ?_
  refine mi_as (show nI (30 + 4) = nI 34 from rfl) ?_
  refine mi_imul hx hb dME_sealedSize_19 ?_
  refine mi_as (show nI (32 * 34) = nI 1088 from rfl) ?_
  exact mp_iret hx hb hr hlk hP hD hS pl ⟨rfl, hO⟩ [] rfl rfl rfl (by omega) (by omega) dME_sealedSize_20
set_option maxHeartbeats 400000 in
set_option maxRecDepth 100000 in
theorem t_ME_sealedSize_2 (l : Launch) (g : Gd) (sz : Nat) (T : Ty) (xs : List Nat) (pl : va_W) (hO : okx g T xs pl) (hU : uni T)  : Met l y_ME_sealedSize w_ME_sealedSize ({ frames := 0, cells := 0, slots := 0, locals := 0 } : Room) (va_Pc [.int (nI 2)] (pr (en g) g.1 vcl sz ([] ++ pl))) (va_Qi (fun (r : Int32) (u : va_W) => (r = nI 1568) ∧ okx g T xs u) (po g.1 vcl (va_A ([] ++ pl) sz) (fun (u : va_W) => [] ++ u)) (va_A ([] ++ pl) sz)) 0 0 (va_A ([] ++ pl) sz) := by
  refine mc_entry (cc := c_ME_sealedSize) (maxL := 1) (ret := (some .int)) (by decide) rfl (Nat.le_of_ble_eq_true rfl) ?_
  intro p e s m args below meth c ls F hr hlk hnm hsz hP hD hE hA hl
  obtain ⟨hx, hb, hml, hown, hts⟩ := id F
  have hK := hE.1
  generalize va_A ([] ++ pl) sz = A at hD hE hA ⊢
  have hS : va_S A s.heap s.heap [] := va_S.rf
  have hl : lv_has ls 1 [(0, .int (nI 2))] := hl
  refine lv_bipush (v := nI 32) hx hb dME_sealedSize_0 (by decide) ?_
  refine va_gets hx hb (hE.2.1 21 _ rfl).1 hS hown (hts _ (wg_t kw_1830)) (fun _ h9 => h9) dME_sealedSize_2 ?_
  refine lv_iload_n hx hb dME_sealedSize_5 rfl (lv_at hl 0 rfl) ?_
  refine va_ti (v := .int (nI 11)) hx hb (hE.2.1 21 _ rfl).2 hS (vp_in_nI (by decide) (by decide)) (by decide +kernel) dME_sealedSize_6 ?_
  refine va_gets hx hb (hE.2.1 19 _ rfl).1 hS hown (hts _ (wg_t kw_1605)) (fun _ h9 => h9) dME_sealedSize_7 ?_
  refine lv_iload_n hx hb dME_sealedSize_10 rfl (lv_at hl 0 rfl) ?_
  refine va_ti (v := .int (nI 4)) hx hb (hE.2.1 19 _ rfl).2 hS (vp_in_nI (by decide) (by decide)) (by decide +kernel) dME_sealedSize_11 ?_
  refine mi_imul hx hb dME_sealedSize_12 ?_
  refine mi_as (show nI (11 * 4) = nI 44 from rfl) ?_
  refine va_gets hx hb (hE.2.1 22 _ rfl).1 hS hown (hts _ (wg_t kw_1838)) (fun _ h9 => h9) dME_sealedSize_13 ?_
  refine lv_iload_n hx hb dME_sealedSize_16 rfl (lv_at hl 0 rfl) ?_
  refine va_ti (v := .int (nI 5)) hx hb (hE.2.1 22 _ rfl).2 hS (vp_in_nI (by decide) (by decide)) (by decide +kernel) dME_sealedSize_17 ?_
  refine mi_iadd hx hb dME_sealedSize_18 ?_
  refine mi_as (show nI (44 + 5) = nI 49 from rfl) ?_
  refine mi_imul hx hb dME_sealedSize_19 ?_
  refine mi_as (show nI (32 * 49) = nI 1568 from rfl) ?_
  exact mp_iret hx hb hr hlk hP hD hS pl ⟨rfl, hO⟩ [] rfl rfl rfl (by omega) (by omega) dME_sealedSize_20
set_option maxHeartbeats 400000 in
set_option maxRecDepth 100000 in
theorem t_ME_hiddenSize_0 (l : Launch) (g : Gd) (sz : Nat) (T : Ty) (xs : List Nat) (pl : va_W) (hO : okx g T xs pl) (hU : uni T)  : Met l y_ME_hiddenSize w_ME_hiddenSize ({ frames := 0, cells := 0, slots := 0, locals := 0 } : Room) (va_Pc [.int (nI 0)] (pr (en g) g.1 vcl sz ([] ++ pl))) (va_Qi (fun (r : Int32) (u : va_W) => (r = nI 1632) ∧ okx g T xs u) (po g.1 vcl (va_A ([] ++ pl) sz) (fun (u : va_W) => [] ++ u)) (va_A ([] ++ pl) sz)) 0 0 (va_A ([] ++ pl) sz) := by
  refine mc_entry (cc := c_ME_hiddenSize) (maxL := 1) (ret := (some .int)) (by decide) rfl (Nat.le_of_ble_eq_true rfl) ?_
  intro p e s m args below meth c ls F hr hlk hnm hsz hP hD hE hA hl
  obtain ⟨hx, hb, hml, hown, hts⟩ := id F
  have hK := hE.1
  generalize va_A ([] ++ pl) sz = A at hD hE hA ⊢
  have hS : va_S A s.heap s.heap [] := va_S.rf
  have hl : lv_has ls 1 [(0, .int (nI 0))] := hl
  refine lv_sipush (v := nI 768) hx hb dME_hiddenSize_0 (by decide) ?_
  refine va_gets hx hb (hE.2.1 19 _ rfl).1 hS hown (hts _ (wg_t kw_1605)) (fun _ h9 => h9) dME_hiddenSize_3 ?_
  refine lv_iload_n hx hb dME_hiddenSize_6 rfl (lv_at hl 0 rfl) ?_
  refine va_ti (v := .int (nI 2)) hx hb (hE.2.1 19 _ rfl).2 hS (vp_in_nI (by decide) (by decide)) (by decide +kernel) dME_hiddenSize_7 ?_
  refine mi_imul hx hb dME_hiddenSize_8 ?_
  refine mi_as (show nI (768 * 2) = nI 1536 from rfl) ?_
  refine lv_bipush (v := nI 96) hx hb dME_hiddenSize_9 (by decide) ?_
  refine mi_iadd hx hb dME_hiddenSize_11 ?_
  refine mi_as (show nI (1536 + 96) = nI 1632 from rfl) ?_
  exact mp_iret hx hb hr hlk hP hD hS pl ⟨rfl, hO⟩ [] rfl rfl rfl (by omega) (by omega) dME_hiddenSize_12
set_option maxHeartbeats 400000 in
set_option maxRecDepth 100000 in
theorem t_ME_hiddenSize_1 (l : Launch) (g : Gd) (sz : Nat) (T : Ty) (xs : List Nat) (pl : va_W) (hO : okx g T xs pl) (hU : uni T)  : Met l y_ME_hiddenSize w_ME_hiddenSize ({ frames := 0, cells := 0, slots := 0, locals := 0 } : Room) (va_Pc [.int (nI 1)] (pr (en g) g.1 vcl sz ([] ++ pl))) (va_Qi (fun (r : Int32) (u : va_W) => (r = nI 2400) ∧ okx g T xs u) (po g.1 vcl (va_A ([] ++ pl) sz) (fun (u : va_W) => [] ++ u)) (va_A ([] ++ pl) sz)) 0 0 (va_A ([] ++ pl) sz) := by
  refine mc_entry (cc := c_ME_hiddenSize) (maxL := 1) (ret := (some .int)) (by decide) rfl (Nat.le_of_ble_eq_true rfl) ?_
  intro p e s m args below meth c ls F hr hlk hnm hsz hP hD hE hA hl
  obtain ⟨hx, hb, hml, hown, hts⟩ := id F
  have hK := hE.1
  generalize va_A ([] ++ pl) sz = A at hD hE hA ⊢
  have hS : va_S A s.heap s.heap [] := va_S.rf
  have hl : lv_has ls 1 [(0, .int (nI 1))] := hl
  refine lv_sipush (v := nI 768) hx hb dME_hiddenSize_0 (by decide) ?_
  refine va_gets hx hb (hE.2.1 19 _ rfl).1 hS hown (hts _ (wg_t kw_1605)) (fun _ h9 => h9) dME_hiddenSize_3 ?_
  refine lv_iload_n hx hb dME_hiddenSize_6 rfl (lv_at hl 0 rfl) ?_
  refine va_ti (v := .int (nI 3)) hx hb (hE.2.1 19 _ rfl).2 hS (vp_in_nI (by decide) (by decide)) (by decide +kernel) dME_hiddenSize_7 ?_
  refine mi_imul hx hb dME_hiddenSize_8 ?_
  refine mi_as (show nI (768 * 3) = nI 2304 from rfl) ?_
  refine lv_bipush (v := nI 96) hx hb dME_hiddenSize_9 (by decide) ?_
  refine mi_iadd hx hb dME_hiddenSize_11 ?_
  refine mi_as (show nI (2304 + 96) = nI 2400 from rfl) ?_
  exact mp_iret hx hb hr hlk hP hD hS pl ⟨rfl, hO⟩ [] rfl rfl rfl (by omega) (by omega) dME_hiddenSize_12
set_option maxHeartbeats 400000 in
set_option maxRecDepth 100000 in
theorem t_ME_hiddenSize_2 (l : Launch) (g : Gd) (sz : Nat) (T : Ty) (xs : List Nat) (pl : va_W) (hO : okx g T xs pl) (hU : uni T)  : Met l y_ME_hiddenSize w_ME_hiddenSize ({ frames := 0, cells := 0, slots := 0, locals := 0 } : Room) (va_Pc [.int (nI 2)] (pr (en g) g.1 vcl sz ([] ++ pl))) (va_Qi (fun (r : Int32) (u : va_W) => (r = nI 3168) ∧ okx g T xs u) (po g.1 vcl (va_A ([] ++ pl) sz) (fun (u : va_W) => [] ++ u)) (va_A ([] ++ pl) sz)) 0 0 (va_A ([] ++ pl) sz) := by
  refine mc_entry (cc := c_ME_hiddenSize) (maxL := 1) (ret := (some .int)) (by decide) rfl (Nat.le_of_ble_eq_true rfl) ?_
  intro p e s m args below meth c ls F hr hlk hnm hsz hP hD hE hA hl
  obtain ⟨hx, hb, hml, hown, hts⟩ := id F
  have hK := hE.1
  generalize va_A ([] ++ pl) sz = A at hD hE hA ⊢
  have hS : va_S A s.heap s.heap [] := va_S.rf
  have hl : lv_has ls 1 [(0, .int (nI 2))] := hl
  refine lv_sipush (v := nI 768) hx hb dME_hiddenSize_0 (by decide) ?_
  refine va_gets hx hb (hE.2.1 19 _ rfl).1 hS hown (hts _ (wg_t kw_1605)) (fun _ h9 => h9) dME_hiddenSize_3 ?_
  refine lv_iload_n hx hb dME_hiddenSize_6 rfl (lv_at hl 0 rfl) ?_
  refine va_ti (v := .int (nI 4)) hx hb (hE.2.1 19 _ rfl).2 hS (vp_in_nI (by decide) (by decide)) (by decide +kernel) dME_hiddenSize_7 ?_
  refine mi_imul hx hb dME_hiddenSize_8 ?_
  refine mi_as (show nI (768 * 4) = nI 3072 from rfl) ?_
  refine lv_bipush (v := nI 96) hx hb dME_hiddenSize_9 (by decide) ?_
  refine mi_iadd hx hb dME_hiddenSize_11 ?_
  refine mi_as (show nI (3072 + 96) = nI 3168 from rfl) ?_
  exact mp_iret hx hb hr hlk hP hD hS pl ⟨rfl, hO⟩ [] rfl rfl rfl (by omega) (by omega) dME_hiddenSize_12
