set_option linter.all false
abbrev c_ME_forth : ByteArray := prog_15_method_8_code
abbrev y_ME_forth : MethodName := ⟨"LatticeKeysModel$Secrets", "forth", "([I)V"⟩
abbrev w_ME_forth : List Cond := Cond.code y_ME_forth c_ME_forth 3 none :: WG
theorem dME_forth_0 : decode c_ME_forth 0 = .ok (.aload_n 0, 1) := by decide +kernel
theorem dME_forth_1 : decode c_ME_forth 1 = .ok (.getfield 14, 3) := by decide +kernel
theorem dME_forth_4 : decode c_ME_forth 4 = .ok (.aload_n 1, 1) := by decide +kernel
theorem dME_forth_5 : decode c_ME_forth 5 = .ok (.aload_n 0, 1) := by decide +kernel
theorem dME_forth_6 : decode c_ME_forth 6 = .ok (.getfield 39, 3) := by decide +kernel
theorem dME_forth_9 : decode c_ME_forth 9 = .ok (.iconst 2, 1) := by decide +kernel
theorem dME_forth_10 : decode c_ME_forth 10 = .ok (.iconst 0, 1) := by decide +kernel
theorem dME_forth_11 : decode c_ME_forth 11 = .ok (.invokevirtual 107, 3) := by decide +kernel
theorem dME_forth_14 : decode c_ME_forth 14 = .ok (.aload_n 0, 1) := by decide +kernel
theorem dME_forth_15 : decode c_ME_forth 15 = .ok (.getfield 14, 3) := by decide +kernel
theorem dME_forth_18 : decode c_ME_forth 18 = .ok (.aload_n 1, 1) := by decide +kernel
theorem dME_forth_19 : decode c_ME_forth 19 = .ok (.aload_n 0, 1) := by decide +kernel
theorem dME_forth_20 : decode c_ME_forth 20 = .ok (.getfield 39, 3) := by decide +kernel
theorem dME_forth_23 : decode c_ME_forth 23 = .ok (.iconst 2, 1) := by decide +kernel
theorem dME_forth_24 : decode c_ME_forth 24 = .ok (.iconst 1, 1) := by decide +kernel
theorem dME_forth_25 : decode c_ME_forth 25 = .ok (.invokevirtual 107, 3) := by decide +kernel
theorem dME_forth_28 : decode c_ME_forth 28 = .ok (.iconst 0, 1) := by decide +kernel
theorem dME_forth_29 : decode c_ME_forth 29 = .ok (.istore_n 2, 1) := by decide +kernel
theorem dME_forth_30 : decode c_ME_forth 30 = .ok (.iload_n 2, 1) := by decide +kernel
theorem dME_forth_31 : decode c_ME_forth 31 = .ok (.sipush 256, 3) := by decide +kernel
theorem dME_forth_34 : decode c_ME_forth 34 = .ok (.if_icmp .ge 18, 3) := by decide +kernel
theorem dME_forth_37 : decode c_ME_forth 37 = .ok (.aload_n 1, 1) := by decide +kernel
theorem dME_forth_38 : decode c_ME_forth 38 = .ok (.iload_n 2, 1) := by decide +kernel
theorem dME_forth_39 : decode c_ME_forth 39 = .ok (.aload_n 0, 1) := by decide +kernel
theorem dME_forth_40 : decode c_ME_forth 40 = .ok (.getfield 39, 3) := by decide +kernel
theorem dME_forth_43 : decode c_ME_forth 43 = .ok (.iload_n 2, 1) := by decide +kernel
theorem dME_forth_44 : decode c_ME_forth 44 = .ok (.iaload, 1) := by decide +kernel
theorem dME_forth_45 : decode c_ME_forth 45 = .ok (.iastore, 1) := by decide +kernel
theorem dME_forth_46 : decode c_ME_forth 46 = .ok (.iinc 2 1, 3) := by decide +kernel
theorem dME_forth_49 : decode c_ME_forth 49 = .ok (.goto (-19), 3) := by decide +kernel
theorem dME_forth_52 : decode c_ME_forth 52 = .ok (.return_, 1) := by decide +kernel
abbrev c_ME_back : ByteArray := prog_15_method_9_code
abbrev y_ME_back : MethodName := ⟨"LatticeKeysModel$Secrets", "back", "([I)V"⟩
abbrev w_ME_back : List Cond := Cond.code y_ME_back c_ME_back 3 none :: WG
theorem dME_back_0 : decode c_ME_back 0 = .ok (.aload_n 0, 1) := by decide +kernel
theorem dME_back_1 : decode c_ME_back 1 = .ok (.getfield 14, 3) := by decide +kernel
theorem dME_back_4 : decode c_ME_back 4 = .ok (.aload_n 1, 1) := by decide +kernel
theorem dME_back_5 : decode c_ME_back 5 = .ok (.aload_n 0, 1) := by decide +kernel
theorem dME_back_6 : decode c_ME_back 6 = .ok (.getfield 39, 3) := by decide +kernel
theorem dME_back_9 : decode c_ME_back 9 = .ok (.iconst 2, 1) := by decide +kernel
theorem dME_back_10 : decode c_ME_back 10 = .ok (.iconst 0, 1) := by decide +kernel
theorem dME_back_11 : decode c_ME_back 11 = .ok (.invokevirtual 111, 3) := by decide +kernel
theorem dME_back_14 : decode c_ME_back 14 = .ok (.aload_n 0, 1) := by decide +kernel
theorem dME_back_15 : decode c_ME_back 15 = .ok (.getfield 14, 3) := by decide +kernel
theorem dME_back_18 : decode c_ME_back 18 = .ok (.aload_n 1, 1) := by decide +kernel
theorem dME_back_19 : decode c_ME_back 19 = .ok (.aload_n 0, 1) := by decide +kernel
theorem dME_back_20 : decode c_ME_back 20 = .ok (.getfield 39, 3) := by decide +kernel
theorem dME_back_23 : decode c_ME_back 23 = .ok (.iconst 2, 1) := by decide +kernel
theorem dME_back_24 : decode c_ME_back 24 = .ok (.iconst 1, 1) := by decide +kernel
theorem dME_back_25 : decode c_ME_back 25 = .ok (.invokevirtual 111, 3) := by decide +kernel
theorem dME_back_28 : decode c_ME_back 28 = .ok (.iconst 0, 1) := by decide +kernel
theorem dME_back_29 : decode c_ME_back 29 = .ok (.istore_n 2, 1) := by decide +kernel
theorem dME_back_30 : decode c_ME_back 30 = .ok (.iload_n 2, 1) := by decide +kernel
theorem dME_back_31 : decode c_ME_back 31 = .ok (.sipush 256, 3) := by decide +kernel
theorem dME_back_34 : decode c_ME_back 34 = .ok (.if_icmp .ge 18, 3) := by decide +kernel
theorem dME_back_37 : decode c_ME_back 37 = .ok (.aload_n 1, 1) := by decide +kernel
theorem dME_back_38 : decode c_ME_back 38 = .ok (.iload_n 2, 1) := by decide +kernel
theorem dME_back_39 : decode c_ME_back 39 = .ok (.aload_n 0, 1) := by decide +kernel
theorem dME_back_40 : decode c_ME_back 40 = .ok (.getfield 39, 3) := by decide +kernel
theorem dME_back_43 : decode c_ME_back 43 = .ok (.iload_n 2, 1) := by decide +kernel
theorem dME_back_44 : decode c_ME_back 44 = .ok (.iaload, 1) := by decide +kernel
theorem dME_back_45 : decode c_ME_back 45 = .ok (.iastore, 1) := by decide +kernel
theorem dME_back_46 : decode c_ME_back 46 = .ok (.iinc 2 1, 3) := by decide +kernel
theorem dME_back_49 : decode c_ME_back 49 = .ok (.goto (-19), 3) := by decide +kernel
theorem dME_back_52 : decode c_ME_back 52 = .ok (.return_, 1) := by decide +kernel
abbrev c_ME_product : ByteArray := prog_15_method_10_code
abbrev y_ME_product : MethodName := ⟨"LatticeKeysModel$Secrets", "product", "([I[I[I)V"⟩
abbrev w_ME_product : List Cond := Cond.code y_ME_product c_ME_product 8 none :: WG
theorem dME_product_0 : decode c_ME_product 0 = .ok (.iconst 0, 1) := by decide +kernel
theorem dME_product_1 : decode c_ME_product 1 = .ok (.istore 4, 2) := by decide +kernel
theorem dME_product_3 : decode c_ME_product 3 = .ok (.iload 4, 2) := by decide +kernel
theorem dME_product_5 : decode c_ME_product 5 = .ok (.sipush 256, 3) := by decide +kernel
theorem dME_product_8 : decode c_ME_product 8 = .ok (.if_icmp .ge 113, 3) := by decide +kernel
theorem dME_product_11 : decode c_ME_product 11 = .ok (.aload_n 1, 1) := by decide +kernel
theorem dME_product_12 : decode c_ME_product 12 = .ok (.iload 4, 2) := by decide +kernel
theorem dME_product_14 : decode c_ME_product 14 = .ok (.iaload, 1) := by decide +kernel
theorem dME_product_15 : decode c_ME_product 15 = .ok (.aload_n 2, 1) := by decide +kernel
theorem dME_product_16 : decode c_ME_product 16 = .ok (.iload 4, 2) := by decide +kernel
theorem dME_product_18 : decode c_ME_product 18 = .ok (.iaload, 1) := by decide +kernel
theorem dME_product_19 : decode c_ME_product 19 = .ok (.imul, 1) := by decide +kernel
theorem dME_product_20 : decode c_ME_product 20 = .ok (.i2l, 1) := by decide +kernel
theorem dME_product_21 : decode c_ME_product 21 = .ok (.aload_n 1, 1) := by decide +kernel
theorem dME_product_22 : decode c_ME_product 22 = .ok (.iload 4, 2) := by decide +kernel
theorem dME_product_24 : decode c_ME_product 24 = .ok (.iconst 1, 1) := by decide +kernel
theorem dME_product_25 : decode c_ME_product 25 = .ok (.iadd, 1) := by decide +kernel
theorem dME_product_26 : decode c_ME_product 26 = .ok (.iaload, 1) := by decide +kernel
theorem dME_product_27 : decode c_ME_product 27 = .ok (.aload_n 2, 1) := by decide +kernel
theorem dME_product_28 : decode c_ME_product 28 = .ok (.iload 4, 2) := by decide +kernel
theorem dME_product_30 : decode c_ME_product 30 = .ok (.iconst 1, 1) := by decide +kernel
theorem dME_product_31 : decode c_ME_product 31 = .ok (.iadd, 1) := by decide +kernel
theorem dME_product_32 : decode c_ME_product 32 = .ok (.iaload, 1) := by decide +kernel
theorem dME_product_33 : decode c_ME_product 33 = .ok (.imul, 1) := by decide +kernel
theorem dME_product_34 : decode c_ME_product 34 = .ok (.sipush 3329, 3) := by decide +kernel
theorem dME_product_37 : decode c_ME_product 37 = .ok (.irem, 1) := by decide +kernel
theorem dME_product_38 : decode c_ME_product 38 = .ok (.i2l, 1) := by decide +kernel
theorem dME_product_39 : decode c_ME_product 39 = .ok (.aload_n 0, 1) := by decide +kernel
theorem dME_product_40 : decode c_ME_product 40 = .ok (.getfield 14, 3) := by decide +kernel
theorem dME_product_43 : decode c_ME_product 43 = .ok (.iload 4, 2) := by decide +kernel
theorem dME_product_45 : decode c_ME_product 45 = .ok (.iconst 2, 1) := by decide +kernel
theorem dME_product_46 : decode c_ME_product 46 = .ok (.idiv, 1) := by decide +kernel
theorem dME_product_47 : decode c_ME_product 47 = .ok (.invokevirtual 114, 3) := by decide +kernel
theorem dME_product_50 : decode c_ME_product 50 = .ok (.lmul, 1) := by decide +kernel
theorem dME_product_51 : decode c_ME_product 51 = .ok (.ladd, 1) := by decide +kernel
theorem dME_product_52 : decode c_ME_product 52 = .ok (.lstore 5, 2) := by decide +kernel
theorem dME_product_54 : decode c_ME_product 54 = .ok (.aload_n 1, 1) := by decide +kernel
theorem dME_product_55 : decode c_ME_product 55 = .ok (.iload 4, 2) := by decide +kernel
theorem dME_product_57 : decode c_ME_product 57 = .ok (.iaload, 1) := by decide +kernel
theorem dME_product_58 : decode c_ME_product 58 = .ok (.aload_n 2, 1) := by decide +kernel
theorem dME_product_59 : decode c_ME_product 59 = .ok (.iload 4, 2) := by decide +kernel
theorem dME_product_61 : decode c_ME_product 61 = .ok (.iconst 1, 1) := by decide +kernel
theorem dME_product_62 : decode c_ME_product 62 = .ok (.iadd, 1) := by decide +kernel
theorem dME_product_63 : decode c_ME_product 63 = .ok (.iaload, 1) := by decide +kernel
theorem dME_product_64 : decode c_ME_product 64 = .ok (.imul, 1) := by decide +kernel
theorem dME_product_65 : decode c_ME_product 65 = .ok (.aload_n 1, 1) := by decide +kernel
theorem dME_product_66 : decode c_ME_product 66 = .ok (.iload 4, 2) := by decide +kernel
theorem dME_product_68 : decode c_ME_product 68 = .ok (.iconst 1, 1) := by decide +kernel
theorem dME_product_69 : decode c_ME_product 69 = .ok (.iadd, 1) := by decide +kernel
theorem dME_product_70 : decode c_ME_product 70 = .ok (.iaload, 1) := by decide +kernel
theorem dME_product_71 : decode c_ME_product 71 = .ok (.aload_n 2, 1) := by decide +kernel
theorem dME_product_72 : decode c_ME_product 72 = .ok (.iload 4, 2) := by decide +kernel
theorem dME_product_74 : decode c_ME_product 74 = .ok (.iaload, 1) := by decide +kernel
theorem dME_product_75 : decode c_ME_product 75 = .ok (.imul, 1) := by decide +kernel
theorem dME_product_76 : decode c_ME_product 76 = .ok (.iadd, 1) := by decide +kernel
theorem dME_product_77 : decode c_ME_product 77 = .ok (.istore 7, 2) := by decide +kernel
theorem dME_product_79 : decode c_ME_product 79 = .ok (.aload_n 3, 1) := by decide +kernel
theorem dME_product_80 : decode c_ME_product 80 = .ok (.iload 4, 2) := by decide +kernel
theorem dME_product_82 : decode c_ME_product 82 = .ok (.aload_n 3, 1) := by decide +kernel
theorem dME_product_83 : decode c_ME_product 83 = .ok (.iload 4, 2) := by decide +kernel
theorem dME_product_85 : decode c_ME_product 85 = .ok (.iaload, 1) := by decide +kernel
theorem dME_product_86 : decode c_ME_product 86 = .ok (.i2l, 1) := by decide +kernel
theorem dME_product_87 : decode c_ME_product 87 = .ok (.lload 5, 2) := by decide +kernel
theorem dME_product_89 : decode c_ME_product 89 = .ok (.ladd, 1) := by decide +kernel
theorem dME_product_90 : decode c_ME_product 90 = .ok (.ldc2_w 118, 3) := by decide +kernel
theorem dME_product_93 : decode c_ME_product 93 = .ok (.lrem, 1) := by decide +kernel
theorem dME_product_94 : decode c_ME_product 94 = .ok (.l2i, 1) := by decide +kernel
theorem dME_product_95 : decode c_ME_product 95 = .ok (.iastore, 1) := by decide +kernel
theorem dME_product_96 : decode c_ME_product 96 = .ok (.aload_n 3, 1) := by decide +kernel
theorem dME_product_97 : decode c_ME_product 97 = .ok (.iload 4, 2) := by decide +kernel
theorem dME_product_99 : decode c_ME_product 99 = .ok (.iconst 1, 1) := by decide +kernel
theorem dME_product_100 : decode c_ME_product 100 = .ok (.iadd, 1) := by decide +kernel
theorem dME_product_101 : decode c_ME_product 101 = .ok (.aload_n 3, 1) := by decide +kernel
theorem dME_product_102 : decode c_ME_product 102 = .ok (.iload 4, 2) := by decide +kernel
theorem dME_product_104 : decode c_ME_product 104 = .ok (.iconst 1, 1) := by decide +kernel
theorem dME_product_105 : decode c_ME_product 105 = .ok (.iadd, 1) := by decide +kernel
theorem dME_product_106 : decode c_ME_product 106 = .ok (.iaload, 1) := by decide +kernel
theorem dME_product_107 : decode c_ME_product 107 = .ok (.iload 7, 2) := by decide +kernel
theorem dME_product_109 : decode c_ME_product 109 = .ok (.iadd, 1) := by decide +kernel
theorem dME_product_110 : decode c_ME_product 110 = .ok (.sipush 3329, 3) := by decide +kernel
theorem dME_product_113 : decode c_ME_product 113 = .ok (.irem, 1) := by decide +kernel
theorem dME_product_114 : decode c_ME_product 114 = .ok (.iastore, 1) := by decide +kernel
theorem dME_product_115 : decode c_ME_product 115 = .ok (.iinc 4 2, 3) := by decide +kernel
theorem dME_product_118 : decode c_ME_product 118 = .ok (.goto (-115), 3) := by decide +kernel
theorem dME_product_121 : decode c_ME_product 121 = .ok (.return_, 1) := by decide +kernel
abbrev c_ME_clear : ByteArray := prog_15_method_11_code
abbrev y_ME_clear : MethodName := ⟨"LatticeKeysModel$Secrets", "clear", "([I)V"⟩
abbrev w_ME_clear : List Cond := Cond.code y_ME_clear c_ME_clear 2 none :: WG
theorem dME_clear_0 : decode c_ME_clear 0 = .ok (.iconst 0, 1) := by decide +kernel
theorem dME_clear_1 : decode c_ME_clear 1 = .ok (.istore_n 1, 1) := by decide +kernel
theorem dME_clear_2 : decode c_ME_clear 2 = .ok (.iload_n 1, 1) := by decide +kernel
theorem dME_clear_3 : decode c_ME_clear 3 = .ok (.sipush 256, 3) := by decide +kernel
theorem dME_clear_6 : decode c_ME_clear 6 = .ok (.if_icmp .ge 13, 3) := by decide +kernel
theorem dME_clear_9 : decode c_ME_clear 9 = .ok (.aload_n 0, 1) := by decide +kernel
theorem dME_clear_10 : decode c_ME_clear 10 = .ok (.iload_n 1, 1) := by decide +kernel
theorem dME_clear_11 : decode c_ME_clear 11 = .ok (.iconst 0, 1) := by decide +kernel
theorem dME_clear_12 : decode c_ME_clear 12 = .ok (.iastore, 1) := by decide +kernel
theorem dME_clear_13 : decode c_ME_clear 13 = .ok (.iinc 1 1, 3) := by decide +kernel
theorem dME_clear_16 : decode c_ME_clear 16 = .ok (.goto (-14), 3) := by decide +kernel
theorem dME_clear_19 : decode c_ME_clear 19 = .ok (.return_, 1) := by decide +kernel
abbrev c_ME_plus : ByteArray := prog_15_method_12_code
abbrev y_ME_plus : MethodName := ⟨"LatticeKeysModel$Secrets", "plus", "([I[I)V"⟩
abbrev w_ME_plus : List Cond := Cond.code y_ME_plus c_ME_plus 3 none :: WG
theorem dME_plus_0 : decode c_ME_plus 0 = .ok (.iconst 0, 1) := by decide +kernel
theorem dME_plus_1 : decode c_ME_plus 1 = .ok (.istore_n 2, 1) := by decide +kernel
theorem dME_plus_2 : decode c_ME_plus 2 = .ok (.iload_n 2, 1) := by decide +kernel
theorem dME_plus_3 : decode c_ME_plus 3 = .ok (.sipush 256, 3) := by decide +kernel
theorem dME_plus_6 : decode c_ME_plus 6 = .ok (.if_icmp .ge 23, 3) := by decide +kernel
theorem dME_plus_9 : decode c_ME_plus 9 = .ok (.aload_n 0, 1) := by decide +kernel
theorem dME_plus_10 : decode c_ME_plus 10 = .ok (.iload_n 2, 1) := by decide +kernel
theorem dME_plus_11 : decode c_ME_plus 11 = .ok (.aload_n 0, 1) := by decide +kernel
theorem dME_plus_12 : decode c_ME_plus 12 = .ok (.iload_n 2, 1) := by decide +kernel
theorem dME_plus_13 : decode c_ME_plus 13 = .ok (.iaload, 1) := by decide +kernel
theorem dME_plus_14 : decode c_ME_plus 14 = .ok (.aload_n 1, 1) := by decide +kernel
theorem dME_plus_15 : decode c_ME_plus 15 = .ok (.iload_n 2, 1) := by decide +kernel
theorem dME_plus_16 : decode c_ME_plus 16 = .ok (.iaload, 1) := by decide +kernel
theorem dME_plus_17 : decode c_ME_plus 17 = .ok (.iadd, 1) := by decide +kernel
theorem dME_plus_18 : decode c_ME_plus 18 = .ok (.sipush 3329, 3) := by decide +kernel
theorem dME_plus_21 : decode c_ME_plus 21 = .ok (.irem, 1) := by decide +kernel
theorem dME_plus_22 : decode c_ME_plus 22 = .ok (.iastore, 1) := by decide +kernel
theorem dME_plus_23 : decode c_ME_plus 23 = .ok (.iinc 2 1, 3) := by decide +kernel
theorem dME_plus_26 : decode c_ME_plus 26 = .ok (.goto (-24), 3) := by decide +kernel
theorem dME_plus_29 : decode c_ME_plus 29 = .ok (.return_, 1) := by decide +kernel
abbrev c_ME_proper : ByteArray := prog_15_method_17_code
abbrev y_ME_proper : MethodName := ⟨"LatticeKeysModel$Secrets", "proper", "([I)V"⟩
abbrev w_ME_proper : List Cond := Cond.code y_ME_proper c_ME_proper 2 none :: WG
theorem dME_proper_0 : decode c_ME_proper 0 = .ok (.iconst 0, 1) := by decide +kernel
theorem dME_proper_1 : decode c_ME_proper 1 = .ok (.istore_n 1, 1) := by decide +kernel
theorem dME_proper_2 : decode c_ME_proper 2 = .ok (.iload_n 1, 1) := by decide +kernel
theorem dME_proper_3 : decode c_ME_proper 3 = .ok (.sipush 256, 3) := by decide +kernel
theorem dME_proper_6 : decode c_ME_proper 6 = .ok (.if_icmp .ge 18, 3) := by decide +kernel
theorem dME_proper_9 : decode c_ME_proper 9 = .ok (.aload_n 0, 1) := by decide +kernel
theorem dME_proper_10 : decode c_ME_proper 10 = .ok (.iload_n 1, 1) := by decide +kernel
theorem dME_proper_11 : decode c_ME_proper 11 = .ok (.dup2, 1) := by decide +kernel
theorem dME_proper_12 : decode c_ME_proper 12 = .ok (.iaload, 1) := by decide +kernel
theorem dME_proper_13 : decode c_ME_proper 13 = .ok (.sipush 3329, 3) := by decide +kernel
theorem dME_proper_16 : decode c_ME_proper 16 = .ok (.irem, 1) := by decide +kernel
theorem dME_proper_17 : decode c_ME_proper 17 = .ok (.iastore, 1) := by decide +kernel
theorem dME_proper_18 : decode c_ME_proper 18 = .ok (.iinc 1 1, 3) := by decide +kernel
theorem dME_proper_21 : decode c_ME_proper 21 = .ok (.goto (-19), 3) := by decide +kernel
theorem dME_proper_24 : decode c_ME_proper 24 = .ok (.return_, 1) := by decide +kernel
abbrev c_ME_write : ByteArray := prog_15_method_13_code
abbrev y_ME_write : MethodName := ⟨"LatticeKeysModel$Secrets", "write", "([I[BII)V"⟩
abbrev w_ME_write : List Cond := Cond.code y_ME_write c_ME_write 5 none :: WG
theorem dME_write_0 : decode c_ME_write 0 = .ok (.iconst 0, 1) := by decide +kernel
theorem dME_write_1 : decode c_ME_write 1 = .ok (.istore 4, 2) := by decide +kernel
theorem dME_write_3 : decode c_ME_write 3 = .ok (.iload 4, 2) := by decide +kernel
theorem dME_write_5 : decode c_ME_write 5 = .ok (.sipush 256, 3) := by decide +kernel
theorem dME_write_8 : decode c_ME_write 8 = .ok (.if_icmp .ge 27, 3) := by decide +kernel
theorem dME_write_11 : decode c_ME_write 11 = .ok (.aload_n 1, 1) := by decide +kernel
theorem dME_write_12 : decode c_ME_write 12 = .ok (.bipush 8, 2) := by decide +kernel
theorem dME_write_14 : decode c_ME_write 14 = .ok (.iload_n 2, 1) := by decide +kernel
theorem dME_write_15 : decode c_ME_write 15 = .ok (.imul, 1) := by decide +kernel
theorem dME_write_16 : decode c_ME_write 16 = .ok (.iload_n 3, 1) := by decide +kernel
theorem dME_write_17 : decode c_ME_write 17 = .ok (.iload 4, 2) := by decide +kernel
theorem dME_write_19 : decode c_ME_write 19 = .ok (.imul, 1) := by decide +kernel
theorem dME_write_20 : decode c_ME_write 20 = .ok (.iadd, 1) := by decide +kernel
theorem dME_write_21 : decode c_ME_write 21 = .ok (.iload_n 3, 1) := by decide +kernel
theorem dME_write_22 : decode c_ME_write 22 = .ok (.aload_n 0, 1) := by decide +kernel
theorem dME_write_23 : decode c_ME_write 23 = .ok (.iload 4, 2) := by decide +kernel
theorem dME_write_25 : decode c_ME_write 25 = .ok (.iaload, 1) := by decide +kernel
theorem dME_write_26 : decode c_ME_write 26 = .ok (.invokestatic 120, 3) := by decide +kernel
theorem dME_write_29 : decode c_ME_write 29 = .ok (.iinc 4 1, 3) := by decide +kernel
theorem dME_write_32 : decode c_ME_write 32 = .ok (.goto (-29), 3) := by decide +kernel
theorem dME_write_35 : decode c_ME_write 35 = .ok (.return_, 1) := by decide +kernel
abbrev c_ME_read : ByteArray := prog_15_method_14_code
abbrev y_ME_read : MethodName := ⟨"LatticeKeysModel$Secrets", "read", "([BII[I)V"⟩
abbrev w_ME_read : List Cond := Cond.code y_ME_read c_ME_read 5 none :: WG
theorem dME_read_0 : decode c_ME_read 0 = .ok (.iconst 0, 1) := by decide +kernel
theorem dME_read_1 : decode c_ME_read 1 = .ok (.istore 4, 2) := by decide +kernel
theorem dME_read_3 : decode c_ME_read 3 = .ok (.iload 4, 2) := by decide +kernel
theorem dME_read_5 : decode c_ME_read 5 = .ok (.sipush 256, 3) := by decide +kernel
theorem dME_read_8 : decode c_ME_read 8 = .ok (.if_icmp .ge 27, 3) := by decide +kernel
theorem dME_read_11 : decode c_ME_read 11 = .ok (.aload_n 3, 1) := by decide +kernel
theorem dME_read_12 : decode c_ME_read 12 = .ok (.iload 4, 2) := by decide +kernel
theorem dME_read_14 : decode c_ME_read 14 = .ok (.aload_n 0, 1) := by decide +kernel
theorem dME_read_15 : decode c_ME_read 15 = .ok (.bipush 8, 2) := by decide +kernel
theorem dME_read_17 : decode c_ME_read 17 = .ok (.iload_n 1, 1) := by decide +kernel
theorem dME_read_18 : decode c_ME_read 18 = .ok (.imul, 1) := by decide +kernel
theorem dME_read_19 : decode c_ME_read 19 = .ok (.iload_n 2, 1) := by decide +kernel
theorem dME_read_20 : decode c_ME_read 20 = .ok (.iload 4, 2) := by decide +kernel
theorem dME_read_22 : decode c_ME_read 22 = .ok (.imul, 1) := by decide +kernel
theorem dME_read_23 : decode c_ME_read 23 = .ok (.iadd, 1) := by decide +kernel
theorem dME_read_24 : decode c_ME_read 24 = .ok (.iload_n 2, 1) := by decide +kernel
theorem dME_read_25 : decode c_ME_read 25 = .ok (.invokestatic 101, 3) := by decide +kernel
theorem dME_read_28 : decode c_ME_read 28 = .ok (.iastore, 1) := by decide +kernel
theorem dME_read_29 : decode c_ME_read 29 = .ok (.iinc 4 1, 3) := by decide +kernel
theorem dME_read_32 : decode c_ME_read 32 = .ok (.goto (-29), 3) := by decide +kernel
theorem dME_read_35 : decode c_ME_read 35 = .ok (.return_, 1) := by decide +kernel
abbrev c_ME_less : ByteArray := prog_15_method_15_code
abbrev y_ME_less : MethodName := ⟨"LatticeKeysModel$Secrets", "less", "([II)V"⟩
abbrev w_ME_less : List Cond := Cond.code y_ME_less c_ME_less 3 none :: WG
theorem dME_less_0 : decode c_ME_less 0 = .ok (.iconst 0, 1) := by decide +kernel
theorem dME_less_1 : decode c_ME_less 1 = .ok (.istore_n 2, 1) := by decide +kernel
theorem dME_less_2 : decode c_ME_less 2 = .ok (.iload_n 2, 1) := by decide +kernel
theorem dME_less_3 : decode c_ME_less 3 = .ok (.sipush 256, 3) := by decide +kernel
theorem dME_less_6 : decode c_ME_less 6 = .ok (.if_icmp .ge 31, 3) := by decide +kernel
theorem dME_less_9 : decode c_ME_less 9 = .ok (.aload_n 0, 1) := by decide +kernel
theorem dME_less_10 : decode c_ME_less 10 = .ok (.iload_n 2, 1) := by decide +kernel
theorem dME_less_11 : decode c_ME_less 11 = .ok (.aload_n 0, 1) := by decide +kernel
theorem dME_less_12 : decode c_ME_less 12 = .ok (.iload_n 2, 1) := by decide +kernel
theorem dME_less_13 : decode c_ME_less 13 = .ok (.iaload, 1) := by decide +kernel
theorem dME_less_14 : decode c_ME_less 14 = .ok (.iload_n 1, 1) := by decide +kernel
theorem dME_less_15 : decode c_ME_less 15 = .ok (.iconst 1, 1) := by decide +kernel
theorem dME_less_16 : decode c_ME_less 16 = .ok (.iadd, 1) := by decide +kernel
theorem dME_less_17 : decode c_ME_less 17 = .ok (.ishl, 1) := by decide +kernel
theorem dME_less_18 : decode c_ME_less 18 = .ok (.sipush 3329, 3) := by decide +kernel
theorem dME_less_21 : decode c_ME_less 21 = .ok (.iadd, 1) := by decide +kernel
theorem dME_less_22 : decode c_ME_less 22 = .ok (.sipush 6658, 3) := by decide +kernel
theorem dME_less_25 : decode c_ME_less 25 = .ok (.idiv, 1) := by decide +kernel
theorem dME_less_26 : decode c_ME_less 26 = .ok (.iconst 1, 1) := by decide +kernel
theorem dME_less_27 : decode c_ME_less 27 = .ok (.iload_n 1, 1) := by decide +kernel
theorem dME_less_28 : decode c_ME_less 28 = .ok (.ishl, 1) := by decide +kernel
theorem dME_less_29 : decode c_ME_less 29 = .ok (.irem, 1) := by decide +kernel
theorem dME_less_30 : decode c_ME_less 30 = .ok (.iastore, 1) := by decide +kernel
theorem dME_less_31 : decode c_ME_less 31 = .ok (.iinc 2 1, 3) := by decide +kernel
theorem dME_less_34 : decode c_ME_less 34 = .ok (.goto (-32), 3) := by decide +kernel
theorem dME_less_37 : decode c_ME_less 37 = .ok (.return_, 1) := by decide +kernel
abbrev c_ME_more : ByteArray := prog_15_method_16_code
abbrev y_ME_more : MethodName := ⟨"LatticeKeysModel$Secrets", "more", "([II)V"⟩
abbrev w_ME_more : List Cond := Cond.code y_ME_more c_ME_more 3 none :: WG
theorem dME_more_0 : decode c_ME_more 0 = .ok (.iconst 0, 1) := by decide +kernel
theorem dME_more_1 : decode c_ME_more 1 = .ok (.istore_n 2, 1) := by decide +kernel
theorem dME_more_2 : decode c_ME_more 2 = .ok (.iload_n 2, 1) := by decide +kernel
theorem dME_more_3 : decode c_ME_more 3 = .ok (.sipush 256, 3) := by decide +kernel
theorem dME_more_6 : decode c_ME_more 6 = .ok (.if_icmp .ge 27, 3) := by decide +kernel
theorem dME_more_9 : decode c_ME_more 9 = .ok (.aload_n 0, 1) := by decide +kernel
theorem dME_more_10 : decode c_ME_more 10 = .ok (.iload_n 2, 1) := by decide +kernel
theorem dME_more_11 : decode c_ME_more 11 = .ok (.aload_n 0, 1) := by decide +kernel
theorem dME_more_12 : decode c_ME_more 12 = .ok (.iload_n 2, 1) := by decide +kernel
theorem dME_more_13 : decode c_ME_more 13 = .ok (.iaload, 1) := by decide +kernel
theorem dME_more_14 : decode c_ME_more 14 = .ok (.sipush 3329, 3) := by decide +kernel
theorem dME_more_17 : decode c_ME_more 17 = .ok (.imul, 1) := by decide +kernel
theorem dME_more_18 : decode c_ME_more 18 = .ok (.iconst 1, 1) := by decide +kernel
theorem dME_more_19 : decode c_ME_more 19 = .ok (.iload_n 1, 1) := by decide +kernel
theorem dME_more_20 : decode c_ME_more 20 = .ok (.iconst 1, 1) := by decide +kernel
theorem dME_more_21 : decode c_ME_more 21 = .ok (.isub, 1) := by decide +kernel
theorem dME_more_22 : decode c_ME_more 22 = .ok (.ishl, 1) := by decide +kernel
theorem dME_more_23 : decode c_ME_more 23 = .ok (.iadd, 1) := by decide +kernel
theorem dME_more_24 : decode c_ME_more 24 = .ok (.iload_n 1, 1) := by decide +kernel
theorem dME_more_25 : decode c_ME_more 25 = .ok (.ishr, 1) := by decide +kernel
theorem dME_more_26 : decode c_ME_more 26 = .ok (.iastore, 1) := by decide +kernel
theorem dME_more_27 : decode c_ME_more 27 = .ok (.iinc 2 1, 3) := by decide +kernel
theorem dME_more_30 : decode c_ME_more 30 = .ok (.goto (-28), 3) := by decide +kernel
theorem dME_more_33 : decode c_ME_more 33 = .ok (.return_, 1) := by decide +kernel
abbrev c_ME_noise : ByteArray := prog_15_method_7_code
abbrev y_ME_noise : MethodName := ⟨"LatticeKeysModel$Secrets", "noise", "([I[BIII)V"⟩
abbrev w_ME_noise : List Cond := Cond.code y_ME_noise c_ME_noise 9 none :: WG
theorem dME_noise_0 : decode c_ME_noise 0 = .ok (.aload_n 0, 1) := by decide +kernel
theorem dME_noise_1 : decode c_ME_noise 1 = .ok (.getfield 58, 3) := by decide +kernel
theorem dME_noise_4 : decode c_ME_noise 4 = .ok (.invokevirtual 95, 3) := by decide +kernel
theorem dME_noise_7 : decode c_ME_noise 7 = .ok (.aload_n 0, 1) := by decide +kernel
theorem dME_noise_8 : decode c_ME_noise 8 = .ok (.getfield 58, 3) := by decide +kernel
theorem dME_noise_11 : decode c_ME_noise 11 = .ok (.aload_n 2, 1) := by decide +kernel
theorem dME_noise_12 : decode c_ME_noise 12 = .ok (.iload_n 3, 1) := by decide +kernel
theorem dME_noise_13 : decode c_ME_noise 13 = .ok (.bipush 32, 2) := by decide +kernel
theorem dME_noise_15 : decode c_ME_noise 15 = .ok (.invokevirtual 77, 3) := by decide +kernel
theorem dME_noise_18 : decode c_ME_noise 18 = .ok (.aload_n 0, 1) := by decide +kernel
theorem dME_noise_19 : decode c_ME_noise 19 = .ok (.getfield 58, 3) := by decide +kernel
theorem dME_noise_22 : decode c_ME_noise 22 = .ok (.iload 4, 2) := by decide +kernel
theorem dME_noise_24 : decode c_ME_noise 24 = .ok (.invokevirtual 81, 3) := by decide +kernel
theorem dME_noise_27 : decode c_ME_noise 27 = .ok (.aload_n 0, 1) := by decide +kernel
theorem dME_noise_28 : decode c_ME_noise 28 = .ok (.getfield 58, 3) := by decide +kernel
theorem dME_noise_31 : decode c_ME_noise 31 = .ok (.invokevirtual 84, 3) := by decide +kernel
theorem dME_noise_34 : decode c_ME_noise 34 = .ok (.aload_n 0, 1) := by decide +kernel
theorem dME_noise_35 : decode c_ME_noise 35 = .ok (.getfield 58, 3) := by decide +kernel
theorem dME_noise_38 : decode c_ME_noise 38 = .ok (.aload_n 0, 1) := by decide +kernel
theorem dME_noise_39 : decode c_ME_noise 39 = .ok (.getfield 46, 3) := by decide +kernel
theorem dME_noise_42 : decode c_ME_noise 42 = .ok (.iconst 0, 1) := by decide +kernel
theorem dME_noise_43 : decode c_ME_noise 43 = .ok (.bipush 64, 2) := by decide +kernel
theorem dME_noise_45 : decode c_ME_noise 45 = .ok (.iload 5, 2) := by decide +kernel
theorem dME_noise_47 : decode c_ME_noise 47 = .ok (.imul, 1) := by decide +kernel
theorem dME_noise_48 : decode c_ME_noise 48 = .ok (.invokevirtual 98, 3) := by decide +kernel
theorem dME_noise_51 : decode c_ME_noise 51 = .ok (.iconst 0, 1) := by decide +kernel
theorem dME_noise_52 : decode c_ME_noise 52 = .ok (.istore 6, 2) := by decide +kernel
theorem dME_noise_54 : decode c_ME_noise 54 = .ok (.iload 6, 2) := by decide +kernel
theorem dME_noise_56 : decode c_ME_noise 56 = .ok (.sipush 256, 3) := by decide +kernel
theorem dME_noise_59 : decode c_ME_noise 59 = .ok (.if_icmp .ge 93, 3) := by decide +kernel
theorem dME_noise_62 : decode c_ME_noise 62 = .ok (.iconst 0, 1) := by decide +kernel
theorem dME_noise_63 : decode c_ME_noise 63 = .ok (.istore 7, 2) := by decide +kernel
theorem dME_noise_65 : decode c_ME_noise 65 = .ok (.iconst 0, 1) := by decide +kernel
theorem dME_noise_66 : decode c_ME_noise 66 = .ok (.istore 8, 2) := by decide +kernel
theorem dME_noise_68 : decode c_ME_noise 68 = .ok (.iload 8, 2) := by decide +kernel
theorem dME_noise_70 : decode c_ME_noise 70 = .ok (.iload 5, 2) := by decide +kernel
theorem dME_noise_72 : decode c_ME_noise 72 = .ok (.if_icmp .ge 54, 3) := by decide +kernel
theorem dME_noise_75 : decode c_ME_noise 75 = .ok (.iload 7, 2) := by decide +kernel
theorem dME_noise_77 : decode c_ME_noise 77 = .ok (.aload_n 0, 1) := by decide +kernel
theorem dME_noise_78 : decode c_ME_noise 78 = .ok (.getfield 46, 3) := by decide +kernel
theorem dME_noise_81 : decode c_ME_noise 81 = .ok (.iconst 2, 1) := by decide +kernel
theorem dME_noise_82 : decode c_ME_noise 82 = .ok (.iload 6, 2) := by decide +kernel
theorem dME_noise_84 : decode c_ME_noise 84 = .ok (.imul, 1) := by decide +kernel
theorem dME_noise_85 : decode c_ME_noise 85 = .ok (.iload 5, 2) := by decide +kernel
theorem dME_noise_87 : decode c_ME_noise 87 = .ok (.imul, 1) := by decide +kernel
theorem dME_noise_88 : decode c_ME_noise 88 = .ok (.iload 8, 2) := by decide +kernel
theorem dME_noise_90 : decode c_ME_noise 90 = .ok (.iadd, 1) := by decide +kernel
theorem dME_noise_91 : decode c_ME_noise 91 = .ok (.iconst 1, 1) := by decide +kernel
theorem dME_noise_92 : decode c_ME_noise 92 = .ok (.invokestatic 101, 3) := by decide +kernel
theorem dME_noise_95 : decode c_ME_noise 95 = .ok (.aload_n 0, 1) := by decide +kernel
theorem dME_noise_96 : decode c_ME_noise 96 = .ok (.getfield 46, 3) := by decide +kernel
theorem dME_noise_99 : decode c_ME_noise 99 = .ok (.iconst 2, 1) := by decide +kernel
theorem dME_noise_100 : decode c_ME_noise 100 = .ok (.iload 6, 2) := by decide +kernel
theorem dME_noise_102 : decode c_ME_noise 102 = .ok (.imul, 1) := by decide +kernel
theorem dME_noise_103 : decode c_ME_noise 103 = .ok (.iload 5, 2) := by decide +kernel
theorem dME_noise_105 : decode c_ME_noise 105 = .ok (.imul, 1) := by decide +kernel
theorem dME_noise_106 : decode c_ME_noise 106 = .ok (.iload 5, 2) := by decide +kernel
theorem dME_noise_108 : decode c_ME_noise 108 = .ok (.iadd, 1) := by decide +kernel
theorem dME_noise_109 : decode c_ME_noise 109 = .ok (.iload 8, 2) := by decide +kernel
theorem dME_noise_111 : decode c_ME_noise 111 = .ok (.iadd, 1) := by decide +kernel
theorem dME_noise_112 : decode c_ME_noise 112 = .ok (.iconst 1, 1) := by decide +kernel
theorem dME_noise_113 : decode c_ME_noise 113 = .ok (.invokestatic 101, 3) := by decide +kernel
theorem dME_noise_116 : decode c_ME_noise 116 = .ok (.isub, 1) := by decide +kernel
theorem dME_noise_117 : decode c_ME_noise 117 = .ok (.iadd, 1) := by decide +kernel
theorem dME_noise_118 : decode c_ME_noise 118 = .ok (.istore 7, 2) := by decide +kernel
theorem dME_noise_120 : decode c_ME_noise 120 = .ok (.iinc 8 1, 3) := by decide +kernel
theorem dME_noise_123 : decode c_ME_noise 123 = .ok (.goto (-55), 3) := by decide +kernel
theorem dME_noise_126 : decode c_ME_noise 126 = .ok (.aload_n 1, 1) := by decide +kernel
theorem dME_noise_127 : decode c_ME_noise 127 = .ok (.iload 6, 2) := by decide +kernel
theorem dME_noise_129 : decode c_ME_noise 129 = .ok (.iload 7, 2) := by decide +kernel
theorem dME_noise_131 : decode c_ME_noise 131 = .ok (.ifCond .ge 12, 3) := by decide +kernel
theorem dME_noise_134 : decode c_ME_noise 134 = .ok (.iload 7, 2) := by decide +kernel
theorem dME_noise_136 : decode c_ME_noise 136 = .ok (.sipush 3329, 3) := by decide +kernel
theorem dME_noise_139 : decode c_ME_noise 139 = .ok (.iadd, 1) := by decide +kernel
theorem dME_noise_140 : decode c_ME_noise 140 = .ok (.goto 5, 3) := by decide +kernel
theorem dME_noise_143 : decode c_ME_noise 143 = .ok (.iload 7, 2) := by decide +kernel
theorem dME_noise_145 : decode c_ME_noise 145 = .ok (.iastore, 1) := by decide +kernel
theorem dME_noise_146 : decode c_ME_noise 146 = .ok (.iinc 6 1, 3) := by decide +kernel
theorem dME_noise_149 : decode c_ME_noise 149 = .ok (.goto (-95), 3) := by decide +kernel
theorem dME_noise_152 : decode c_ME_noise 152 = .ok (.return_, 1) := by decide +kernel
abbrev c_ME_hash : ByteArray := prog_15_method_18_code
abbrev y_ME_hash : MethodName := ⟨"LatticeKeysModel$Secrets", "hash", "([BII[BI)V"⟩
abbrev w_ME_hash : List Cond := Cond.code y_ME_hash c_ME_hash 6 none :: WG
theorem dME_hash_0 : decode c_ME_hash 0 = .ok (.aload_n 0, 1) := by decide +kernel
theorem dME_hash_1 : decode c_ME_hash 1 = .ok (.getfield 58, 3) := by decide +kernel
theorem dME_hash_4 : decode c_ME_hash 4 = .ok (.sipush 136, 3) := by decide +kernel
theorem dME_hash_7 : decode c_ME_hash 7 = .ok (.bipush 6, 2) := by decide +kernel
theorem dME_hash_9 : decode c_ME_hash 9 = .ok (.invokevirtual 71, 3) := by decide +kernel
theorem dME_hash_12 : decode c_ME_hash 12 = .ok (.aload_n 0, 1) := by decide +kernel
theorem dME_hash_13 : decode c_ME_hash 13 = .ok (.getfield 58, 3) := by decide +kernel
theorem dME_hash_16 : decode c_ME_hash 16 = .ok (.aload_n 1, 1) := by decide +kernel
theorem dME_hash_17 : decode c_ME_hash 17 = .ok (.iload_n 2, 1) := by decide +kernel
theorem dME_hash_18 : decode c_ME_hash 18 = .ok (.iload_n 3, 1) := by decide +kernel
theorem dME_hash_19 : decode c_ME_hash 19 = .ok (.invokevirtual 77, 3) := by decide +kernel
theorem dME_hash_22 : decode c_ME_hash 22 = .ok (.aload_n 0, 1) := by decide +kernel
theorem dME_hash_23 : decode c_ME_hash 23 = .ok (.getfield 58, 3) := by decide +kernel
theorem dME_hash_26 : decode c_ME_hash 26 = .ok (.invokevirtual 84, 3) := by decide +kernel
theorem dME_hash_29 : decode c_ME_hash 29 = .ok (.aload_n 0, 1) := by decide +kernel
theorem dME_hash_30 : decode c_ME_hash 30 = .ok (.getfield 58, 3) := by decide +kernel
theorem dME_hash_33 : decode c_ME_hash 33 = .ok (.aload 4, 2) := by decide +kernel
theorem dME_hash_35 : decode c_ME_hash 35 = .ok (.iload 5, 2) := by decide +kernel
theorem dME_hash_37 : decode c_ME_hash 37 = .ok (.bipush 32, 2) := by decide +kernel
theorem dME_hash_39 : decode c_ME_hash 39 = .ok (.invokevirtual 98, 3) := by decide +kernel
theorem dME_hash_42 : decode c_ME_hash 42 = .ok (.return_, 1) := by decide +kernel
abbrev c_ME_both : ByteArray := prog_15_method_21_code
abbrev y_ME_both : MethodName := ⟨"LatticeKeysModel$Secrets", "both", "([B)V"⟩
abbrev w_ME_both : List Cond := Cond.code y_ME_both c_ME_both 2 none :: WG
theorem dME_both_0 : decode c_ME_both 0 = .ok (.aload_n 0, 1) := by decide +kernel
theorem dME_both_1 : decode c_ME_both 1 = .ok (.getfield 58, 3) := by decide +kernel
theorem dME_both_4 : decode c_ME_both 4 = .ok (.bipush 72, 2) := by decide +kernel
theorem dME_both_6 : decode c_ME_both 6 = .ok (.bipush 6, 2) := by decide +kernel
theorem dME_both_8 : decode c_ME_both 8 = .ok (.invokevirtual 71, 3) := by decide +kernel
theorem dME_both_11 : decode c_ME_both 11 = .ok (.aload_n 0, 1) := by decide +kernel
theorem dME_both_12 : decode c_ME_both 12 = .ok (.getfield 58, 3) := by decide +kernel
theorem dME_both_15 : decode c_ME_both 15 = .ok (.aload_n 1, 1) := by decide +kernel
theorem dME_both_16 : decode c_ME_both 16 = .ok (.iconst 0, 1) := by decide +kernel
theorem dME_both_17 : decode c_ME_both 17 = .ok (.bipush 32, 2) := by decide +kernel
theorem dME_both_19 : decode c_ME_both 19 = .ok (.invokevirtual 77, 3) := by decide +kernel
theorem dME_both_22 : decode c_ME_both 22 = .ok (.aload_n 0, 1) := by decide +kernel
theorem dME_both_23 : decode c_ME_both 23 = .ok (.getfield 58, 3) := by decide +kernel
theorem dME_both_26 : decode c_ME_both 26 = .ok (.aload_n 0, 1) := by decide +kernel
theorem dME_both_27 : decode c_ME_both 27 = .ok (.getfield 49, 3) := by decide +kernel
theorem dME_both_30 : decode c_ME_both 30 = .ok (.iconst 0, 1) := by decide +kernel
theorem dME_both_31 : decode c_ME_both 31 = .ok (.bipush 32, 2) := by decide +kernel
theorem dME_both_33 : decode c_ME_both 33 = .ok (.invokevirtual 77, 3) := by decide +kernel
theorem dME_both_36 : decode c_ME_both 36 = .ok (.aload_n 0, 1) := by decide +kernel
theorem dME_both_37 : decode c_ME_both 37 = .ok (.getfield 58, 3) := by decide +kernel
theorem dME_both_40 : decode c_ME_both 40 = .ok (.invokevirtual 84, 3) := by decide +kernel
theorem dME_both_43 : decode c_ME_both 43 = .ok (.aload_n 0, 1) := by decide +kernel
theorem dME_both_44 : decode c_ME_both 44 = .ok (.getfield 58, 3) := by decide +kernel
theorem dME_both_47 : decode c_ME_both 47 = .ok (.aload_n 0, 1) := by decide +kernel
theorem dME_both_48 : decode c_ME_both 48 = .ok (.getfield 42, 3) := by decide +kernel
theorem dME_both_51 : decode c_ME_both 51 = .ok (.iconst 0, 1) := by decide +kernel
theorem dME_both_52 : decode c_ME_both 52 = .ok (.bipush 64, 2) := by decide +kernel
theorem dME_both_54 : decode c_ME_both 54 = .ok (.invokevirtual 98, 3) := by decide +kernel
theorem dME_both_57 : decode c_ME_both 57 = .ok (.return_, 1) := by decide +kernel
def M_ME_forth (pf : Nat) (k : Nat) : Prop := k = 219 ∨ k = pf ∨ (0 : Nat) = 1
noncomputable def F_ME_forth_L0 (pf : Nat) : Nat → Nat → Sto → Sto
  | 0, i21, s23 => s23
  | n21 + 1, i21, s23 => bnd (sI s23 pf i21 (s23.1 219 i21)) fun s24 => F_ME_forth_L0 pf n21 (i21 + 1) s24
noncomputable def F_ME_forth (pf : Nat) (s : Sto) : Sto := bnd (F_MR_forth_7_0 pf 219 s) fun s21 => bnd (F_MR_forth_7_1 pf 219 s21) fun s22 => F_ME_forth_L0 pf 256 0 s22
set_option maxHeartbeats 8000000 in
set_option maxRecDepth 100000 in
theorem N_ME_forth (l : Launch) (g : Gd) (sz : Nat) (T : TyN) (s : Sto) (pl : va_W) (hO : okn g T s pl) (hU : inj T) (h0 f : Nat) (pf : Nat) (k_h0 : T h0 = some 184) (k_f : T f = some pf) (n_f : nsp pf = (0, 256, []))  : Met l y_ME_forth w_ME_forth ({ frames := 1, cells := 0, slots := 0, locals := 29 } : Room) (va_Pc [.ref h0, .ref f] (pr (en g) g.1 vcl sz ([] ++ pl))) (va_Qv (fun (u : (Sto) × va_W) => (u.1 = F_ME_forth pf s ∧ frm (M_ME_forth pf) s u.1 ∧ True) ∧ okn g T u.1 u.2) (po g.1 vcl (va_A ([] ++ pl) sz) (fun (u : (Sto) × va_W) => [] ++ u.2)) (va_A ([] ++ pl) sz)) 0 0 (va_A ([] ++ pl) sz) := by
  refine mc_entry (cc := c_ME_forth) (maxL := 3) (ret := none) (by decide) rfl (Nat.le_of_ble_eq_true rfl) ?_
  intro p e s0 m args below meth c ls F hr hlk hnm hsz hP hD hE hA hl
  obtain ⟨hx, hb, hml, hown, hts⟩ := id F
  have hK := hE.1
  generalize va_A ([] ++ pl) sz = A at hD hE hA ⊢
  have hS : va_S A s0.heap s0.heap [] := va_S.rf
  have hl : lv_has ls 3 [(0, .ref h0), (1, .ref f)] := hl
  have hR : F_ME_forth pf s = F_ME_forth pf s := rfl
  have hF : frm (M_ME_forth pf) s s := frm_rf
  refine lv_aload_n hx hb dME_forth_0 rfl (lv_at hl 0 rfl) ?_
  refine nw_get (C := "LatticeKeysModel$Secrets") (TT := T_ME) (N := 14) hx hb hts (wg_ft i_ME) hown hK hO k_h0 (kn := 184) (ci := 11) (fl := [(3, 172), (3, 178), (3, 185), (3, 202), (3, 207), (3, 212), (3, 217), (3, 218), (3, 219), (3, 220), (3, 221), (3, 222), (3, 223), (3, 224)]) rfl hP rfl 1 (by decide) (hts _ (wg_t kw_1380)) (fun _ h9 => h9) (cd := (3, 178)) rfl dME_forth_1 (fun v21 hv21 => ?_)
  obtain ⟨r21, rfl, kr21⟩ := (show ∃ r : Nat, v21 = .ref r ∧ T r = some 178 from hv21)
  refine lv_aload_n hx hb dME_forth_4 rfl (lv_at hl 1 rfl) ?_
  refine lv_aload_n hx hb dME_forth_5 rfl (lv_at hl 0 rfl) ?_
  refine nw_get (C := "LatticeKeysModel$Secrets") (TT := T_ME) (N := 14) hx hb hts (wg_ft i_ME) hown hK hO k_h0 (kn := 184) (ci := 11) (fl := [(3, 172), (3, 178), (3, 185), (3, 202), (3, 207), (3, 212), (3, 217), (3, 218), (3, 219), (3, 220), (3, 221), (3, 222), (3, 223), (3, 224)]) rfl hP rfl 8 (by decide) (hts _ (wg_t kw_1387)) (fun _ h9 => h9) (cd := (3, 219)) rfl dME_forth_6 (fun v22 hv22 => ?_)
  obtain ⟨r22, rfl, kr22⟩ := (show ∃ r : Nat, v22 = .ref r ∧ T r = some 219 from hv22)
  refine lv_iconst (v := nI 2) hx hb dME_forth_9 (by decide) ?_
  refine lv_iconst (v := nI 0) hx hb dME_forth_10 (by decide) ?_
  refine mp_v (cx := []) (wr := []) hP hD hS hA [] [] rfl rfl rfl (by decide) (va_runV (As := [.ref f, .ref r22, .int (nI 2), .int (nI 0)]) (rest := []) F (N_MR_forth_7_0 l g _ T s pl hO hU r21 f r22 pf 219 kr21 k_f n_f kr22 rfl) (cwV 4 hts (wg_app (wg_c kw_1672 (wg_c kw_1673 (wg_c kw_1674 (wg_c kw_12 wg_n)))) kw_1675) rfl rfl rfl (by decide +kernel) ⟨by decide, by decide⟩) (pn_W "LatticeKeysModel$Ring" (en_ok g) (ci := 10) (kn := 178) (fl := [(1, 3329), (1, 128), (3, 179), (3, 180), (4, 3303)]) hK hO kr21 rfl hP hD hS hA hE [] rfl rfl rfl) rfl rfl hl.1 rfl (lv_room (Nat.le_of_ble_eq_true rfl)) dME_forth_11 ⟨by omega, by omega⟩) (fun  u21 H locs hu21 hP hD hS => ?_)
  obtain ⟨s21, pl⟩ := u21
  obtain ⟨⟨eq21, hFc21, -⟩, hO⟩ := hu21
  have hO : okn g T s21 pl := hO
  have hP : va_P g.1 vcl ([] ++ pl) _ := hP
  have hD : va_D _ ([] ++ pl) := hD
  have hFc21 : frm (M_MR_forth_7_0 219) s s21 := hFc21
  replace hR := bnd_step hR eq21
  have hF := frm_tr hF hFc21 (fun k hk => by unfold M_MR_forth_7_0 at hk; unfold M_ME_forth; omega)
  refine W.widen (k := 0) (n := 0) (by omega) (by omega) ?_
  refine lv_aload_n hx hb dME_forth_14 rfl (lv_at hl 0 rfl) ?_
  refine nw_get (C := "LatticeKeysModel$Secrets") (TT := T_ME) (N := 14) hx hb hts (wg_ft i_ME) hown hK hO k_h0 (kn := 184) (ci := 11) (fl := [(3, 172), (3, 178), (3, 185), (3, 202), (3, 207), (3, 212), (3, 217), (3, 218), (3, 219), (3, 220), (3, 221), (3, 222), (3, 223), (3, 224)]) rfl hP rfl 1 (by decide) (hts _ (wg_t kw_1380)) (fun _ h9 => h9) (cd := (3, 178)) rfl dME_forth_15 (fun v23 hv23 => ?_)
  obtain ⟨r23, rfl, kr23⟩ := (show ∃ r : Nat, v23 = .ref r ∧ T r = some 178 from hv23)
  refine lv_aload_n hx hb dME_forth_18 rfl (lv_at hl 1 rfl) ?_
  refine lv_aload_n hx hb dME_forth_19 rfl (lv_at hl 0 rfl) ?_
  refine nw_get (C := "LatticeKeysModel$Secrets") (TT := T_ME) (N := 14) hx hb hts (wg_ft i_ME) hown hK hO k_h0 (kn := 184) (ci := 11) (fl := [(3, 172), (3, 178), (3, 185), (3, 202), (3, 207), (3, 212), (3, 217), (3, 218), (3, 219), (3, 220), (3, 221), (3, 222), (3, 223), (3, 224)]) rfl hP rfl 8 (by decide) (hts _ (wg_t kw_1387)) (fun _ h9 => h9) (cd := (3, 219)) rfl dME_forth_20 (fun v24 hv24 => ?_)
  obtain ⟨r24, rfl, kr24⟩ := (show ∃ r : Nat, v24 = .ref r ∧ T r = some 219 from hv24)
  refine lv_iconst (v := nI 2) hx hb dME_forth_23 (by decide) ?_
  refine lv_iconst (v := nI 1) hx hb dME_forth_24 (by decide) ?_
  refine mp_v (cx := []) (wr := []) hP hD hS hA [] [] rfl rfl rfl (by decide) (va_runV (As := [.ref f, .ref r24, .int (nI 2), .int (nI 1)]) (rest := []) F (N_MR_forth_7_1 l g _ T s21 pl hO hU r23 f r24 pf 219 kr23 k_f n_f kr24 rfl) (cwV 4 hts (wg_app (wg_c kw_1672 (wg_c kw_1673 (wg_c kw_1674 (wg_c kw_12 wg_n)))) kw_1675) rfl rfl rfl (by decide +kernel) ⟨by decide, by decide⟩) (pn_W "LatticeKeysModel$Ring" (en_ok g) (ci := 10) (kn := 178) (fl := [(1, 3329), (1, 128), (3, 179), (3, 180), (4, 3303)]) hK hO kr23 rfl hP hD hS hA hE [] rfl rfl rfl) rfl rfl hl.1 rfl (lv_room (Nat.le_of_ble_eq_true rfl)) dME_forth_25 ⟨by omega, by omega⟩) (fun  u22 H locs hu22 hP hD hS => ?_)
  obtain ⟨s22, pl⟩ := u22
  obtain ⟨⟨eq22, hFc22, -⟩, hO⟩ := hu22
  have hO : okn g T s22 pl := hO
  have hP : va_P g.1 vcl ([] ++ pl) _ := hP
  have hD : va_D _ ([] ++ pl) := hD
  have hFc22 : frm (M_MR_forth_7_1 219) s21 s22 := hFc22
  replace hR := bnd_step hR eq22
  have hF := frm_tr hF hFc22 (fun k hk => by unfold M_MR_forth_7_1 at hk; unfold M_ME_forth; omega)
  refine W.widen (k := 0) (n := 0) (by omega) (by omega) ?_
  refine lv_iconst (v := nI 0) hx hb dME_forth_28 (by decide) ?_
  refine lv_istore_n (lv' := [(2, .int (nI 0)), (0, .ref h0), (1, .ref f)]) hx hb dME_forth_29 rfl hl (by decide) rfl (fun ls hl => ?_)
  have lp21 : ∀ (n21 : Nat) (i21 : Nat) (s23 : Sto) (pl : va_W) (ls : Array Slot) (H : Heap) (locs : List Loc), n21 + i21 = 256 → frm (M_ME_forth pf) s s23 → F_ME_forth pf s = F_ME_forth_L0 pf n21 i21 s23 → lv_has ls 3 [(2, .int (nI i21)), (0, .ref h0), (1, .ref f)] → okn g T s23 pl → va_P g.1 vcl ([] ++ pl) H → va_D A ([] ++ pl) → va_S A s0.heap H locs → W p l e ({ frames := 1, cells := 0, slots := 0, locals := 29 } : Room) s0 m args below meth c H locs 0 0 (MQ below (va_Qv (fun (u : (Sto) × va_W) => (u.1 = F_ME_forth pf s ∧ frm (M_ME_forth pf) s u.1 ∧ True) ∧ okn g T u.1 u.2) (po g.1 vcl A (fun (u : (Sto) × va_W) => [] ++ u.2)) A) args s0 0 0 A) (F0 m 30 ls []) := by
    intro n21
    induction n21 with
    | zero =>
      intro i21 s23 pl ls H locs hm21 hF hR hl hO hP hD hS
      refine lv_iload_n hx hb dME_forth_30 rfl (lv_at hl 0 rfl) ?_
      refine lv_sipush (v := nI 256) hx hb dME_forth_31 (by decide) ?_
      refine mi_ge (tgt := 52) hx hb dME_forth_34 (by decide) (by omega) (by omega) (fun h21 => ?_) (fun h21 => absurd h21 (by omega))
      exact mp_vret hx hb hr hlk hP hD hS (s23, pl) ⟨⟨hR.symm, hF, trivial⟩, hO⟩ [] rfl rfl rfl (by omega) (by omega) dME_forth_52
    | succ n21 ih21 =>
      intro i21 s23 pl ls H locs hm21 hF hR hl hO hP hD hS
      refine lv_iload_n hx hb dME_forth_30 rfl (lv_at hl 0 rfl) ?_
      refine lv_sipush (v := nI 256) hx hb dME_forth_31 (by decide) ?_
      refine mi_ge (tgt := 52) hx hb dME_forth_34 (by decide) (by omega) (by omega) (fun h22 => absurd h22 (by omega)) (fun h22 => ?_)
      refine lv_aload_n hx hb dME_forth_37 rfl (lv_at hl 2 rfl) ?_
      refine lv_iload_n hx hb dME_forth_38 rfl (lv_at hl 0 rfl) ?_
      refine lv_aload_n hx hb dME_forth_39 rfl (lv_at hl 1 rfl) ?_
      refine nw_get (C := "LatticeKeysModel$Secrets") (TT := T_ME) (N := 14) hx hb hts (wg_ft i_ME) hown hK hO k_h0 (kn := 184) (ci := 11) (fl := [(3, 172), (3, 178), (3, 185), (3, 202), (3, 207), (3, 212), (3, 217), (3, 218), (3, 219), (3, 220), (3, 221), (3, 222), (3, 223), (3, 224)]) rfl hP rfl 8 (by decide) (hts _ (wg_t kw_1387)) (fun _ h9 => h9) (cd := (3, 219)) rfl dME_forth_40 (fun v25 hv25 => ?_)
      obtain ⟨r25, rfl, kr25⟩ := (show ∃ r : Nat, v25 = .ref r ∧ T r = some 219 from hv25)
      refine lv_iload_n hx hb dME_forth_43 rfl (lv_at hl 0 rfl) ?_
      refine nw_iald hx hb hK hO kr25 (k := 219) rfl hP (by omega) (by omega) dME_forth_44 ?_
      refine nw_iast hx hb hK hO hU k_f (k := pf) n_f hP hD hS (by omega) (by omega) dME_forth_45 (fun s24 pl H locs es21 hO hP hD hS => ?_)
      replace hR := bnd_step hR es21
      have hF := frm_sI hF es21 (by unfold M_ME_forth; omega)
      refine mi_iinc (k := 0) (x := i21) (d := 1) (y := i21 + 1) (lv' := [(2, .int (nI (i21 + 1))), (0, .ref h0), (1, .ref f)]) hx hb dME_forth_46 hl rfl (by decide) rfl (by decide) rfl (fun ls hl => ?_)
      refine lv_goto (tgt := 30) hx hb dME_forth_49 (by decide) ?_
      exact ih21 (i21 + 1) s24 pl ls H locs (by omega) hF hR (lv_sub hl [0, 1, 2] rfl) hO hP hD hS
  exact lp21 256 0 s22 pl ls _ _ (by omega) hF hR (lv_sub hl [0, 1, 2] rfl) hO hP hD hS
def M_ME_back (pf : Nat) (k : Nat) : Prop := k = 219 ∨ k = pf ∨ (0 : Nat) = 1
noncomputable def F_ME_back_L0 (pf : Nat) : Nat → Nat → Sto → Sto
  | 0, i21, s23 => s23
  | n21 + 1, i21, s23 => bnd (sI s23 pf i21 (s23.1 219 i21)) fun s24 => F_ME_back_L0 pf n21 (i21 + 1) s24
noncomputable def F_ME_back (pf : Nat) (s : Sto) : Sto := bnd (F_MR_back_7_0 pf 219 s) fun s21 => bnd (F_MR_back_7_1 pf 219 s21) fun s22 => F_ME_back_L0 pf 256 0 s22
set_option maxHeartbeats 8000000 in
set_option maxRecDepth 100000 in
theorem N_ME_back (l : Launch) (g : Gd) (sz : Nat) (T : TyN) (s : Sto) (pl : va_W) (hO : okn g T s pl) (hU : inj T) (h0 f : Nat) (pf : Nat) (k_h0 : T h0 = some 184) (k_f : T f = some pf) (n_f : nsp pf = (0, 256, []))  : Met l y_ME_back w_ME_back ({ frames := 1, cells := 0, slots := 0, locals := 28 } : Room) (va_Pc [.ref h0, .ref f] (pr (en g) g.1 vcl sz ([] ++ pl))) (va_Qv (fun (u : (Sto) × va_W) => (u.1 = F_ME_back pf s ∧ frm (M_ME_back pf) s u.1 ∧ True) ∧ okn g T u.1 u.2) (po g.1 vcl (va_A ([] ++ pl) sz) (fun (u : (Sto) × va_W) => [] ++ u.2)) (va_A ([] ++ pl) sz)) 0 0 (va_A ([] ++ pl) sz) := by
  refine mc_entry (cc := c_ME_back) (maxL := 3) (ret := none) (by decide) rfl (Nat.le_of_ble_eq_true rfl) ?_
  intro p e s0 m args below meth c ls F hr hlk hnm hsz hP hD hE hA hl
  obtain ⟨hx, hb, hml, hown, hts⟩ := id F
  have hK := hE.1
  generalize va_A ([] ++ pl) sz = A at hD hE hA ⊢
  have hS : va_S A s0.heap s0.heap [] := va_S.rf
  have hl : lv_has ls 3 [(0, .ref h0), (1, .ref f)] := hl
  have hR : F_ME_back pf s = F_ME_back pf s := rfl
  have hF : frm (M_ME_back pf) s s := frm_rf
  refine lv_aload_n hx hb dME_back_0 rfl (lv_at hl 0 rfl) ?_
  refine nw_get (C := "LatticeKeysModel$Secrets") (TT := T_ME) (N := 14) hx hb hts (wg_ft i_ME) hown hK hO k_h0 (kn := 184) (ci := 11) (fl := [(3, 172), (3, 178), (3, 185), (3, 202), (3, 207), (3, 212), (3, 217), (3, 218), (3, 219), (3, 220), (3, 221), (3, 222), (3, 223), (3, 224)]) rfl hP rfl 1 (by decide) (hts _ (wg_t kw_1380)) (fun _ h9 => h9) (cd := (3, 178)) rfl dME_back_1 (fun v21 hv21 => ?_)
  obtain ⟨r21, rfl, kr21⟩ := (show ∃ r : Nat, v21 = .ref r ∧ T r = some 178 from hv21)
  refine lv_aload_n hx hb dME_back_4 rfl (lv_at hl 1 rfl) ?_
  refine lv_aload_n hx hb dME_back_5 rfl (lv_at hl 0 rfl) ?_
  refine nw_get (C := "LatticeKeysModel$Secrets") (TT := T_ME) (N := 14) hx hb hts (wg_ft i_ME) hown hK hO k_h0 (kn := 184) (ci := 11) (fl := [(3, 172), (3, 178), (3, 185), (3, 202), (3, 207), (3, 212), (3, 217), (3, 218), (3, 219), (3, 220), (3, 221), (3, 222), (3, 223), (3, 224)]) rfl hP rfl 8 (by decide) (hts _ (wg_t kw_1387)) (fun _ h9 => h9) (cd := (3, 219)) rfl dME_back_6 (fun v22 hv22 => ?_)
  obtain ⟨r22, rfl, kr22⟩ := (show ∃ r : Nat, v22 = .ref r ∧ T r = some 219 from hv22)
  refine lv_iconst (v := nI 2) hx hb dME_back_9 (by decide) ?_
  refine lv_iconst (v := nI 0) hx hb dME_back_10 (by decide) ?_
  refine mp_v (cx := []) (wr := []) hP hD hS hA [] [] rfl rfl rfl (by decide) (va_runV (As := [.ref f, .ref r22, .int (nI 2), .int (nI 0)]) (rest := []) F (N_MR_back_7_0 l g _ T s pl hO hU r21 f r22 pf 219 kr21 k_f n_f kr22 rfl) (cwV 4 hts (wg_app (wg_c kw_1826 (wg_c kw_1740 (wg_c kw_1741 (wg_c kw_12 wg_n)))) kw_1742) rfl rfl rfl (by decide +kernel) ⟨by decide, by decide⟩) (pn_W "LatticeKeysModel$Ring" (en_ok g) (ci := 10) (kn := 178) (fl := [(1, 3329), (1, 128), (3, 179), (3, 180), (4, 3303)]) hK hO kr21 rfl hP hD hS hA hE [] rfl rfl rfl) rfl rfl hl.1 rfl (lv_room (Nat.le_of_ble_eq_true rfl)) dME_back_11 ⟨by omega, by omega⟩) (fun  u21 H locs hu21 hP hD hS => ?_)
  obtain ⟨s21, pl⟩ := u21
  obtain ⟨⟨eq21, hFc21, -⟩, hO⟩ := hu21
  have hO : okn g T s21 pl := hO
  have hP : va_P g.1 vcl ([] ++ pl) _ := hP
  have hD : va_D _ ([] ++ pl) := hD
  have hFc21 : frm (M_MR_back_7_0 219) s s21 := hFc21
  replace hR := bnd_step hR eq21
  have hF := frm_tr hF hFc21 (fun k hk => by unfold M_MR_back_7_0 at hk; unfold M_ME_back; omega)
  refine W.widen (k := 0) (n := 0) (by omega) (by omega) ?_
  refine lv_aload_n hx hb dME_back_14 rfl (lv_at hl 0 rfl) ?_
  refine nw_get (C := "LatticeKeysModel$Secrets") (TT := T_ME) (N := 14) hx hb hts (wg_ft i_ME) hown hK hO k_h0 (kn := 184) (ci := 11) (fl := [(3, 172), (3, 178), (3, 185), (3, 202), (3, 207), (3, 212), (3, 217), (3, 218), (3, 219), (3, 220), (3, 221), (3, 222), (3, 223), (3, 224)]) rfl hP rfl 1 (by decide) (hts _ (wg_t kw_1380)) (fun _ h9 => h9) (cd := (3, 178)) rfl dME_back_15 (fun v23 hv23 => ?_)
  obtain ⟨r23, rfl, kr23⟩ := (show ∃ r : Nat, v23 = .ref r ∧ T r = some 178 from hv23)
  refine lv_aload_n hx hb dME_back_18 rfl (lv_at hl 1 rfl) ?_
  refine lv_aload_n hx hb dME_back_19 rfl (lv_at hl 0 rfl) ?_
  refine nw_get (C := "LatticeKeysModel$Secrets") (TT := T_ME) (N := 14) hx hb hts (wg_ft i_ME) hown hK hO k_h0 (kn := 184) (ci := 11) (fl := [(3, 172), (3, 178), (3, 185), (3, 202), (3, 207), (3, 212), (3, 217), (3, 218), (3, 219), (3, 220), (3, 221), (3, 222), (3, 223), (3, 224)]) rfl hP rfl 8 (by decide) (hts _ (wg_t kw_1387)) (fun _ h9 => h9) (cd := (3, 219)) rfl dME_back_20 (fun v24 hv24 => ?_)
  obtain ⟨r24, rfl, kr24⟩ := (show ∃ r : Nat, v24 = .ref r ∧ T r = some 219 from hv24)
  refine lv_iconst (v := nI 2) hx hb dME_back_23 (by decide) ?_
  refine lv_iconst (v := nI 1) hx hb dME_back_24 (by decide) ?_
  refine mp_v (cx := []) (wr := []) hP hD hS hA [] [] rfl rfl rfl (by decide) (va_runV (As := [.ref f, .ref r24, .int (nI 2), .int (nI 1)]) (rest := []) F (N_MR_back_7_1 l g _ T s21 pl hO hU r23 f r24 pf 219 kr23 k_f n_f kr24 rfl) (cwV 4 hts (wg_app (wg_c kw_1826 (wg_c kw_1740 (wg_c kw_1741 (wg_c kw_12 wg_n)))) kw_1742) rfl rfl rfl (by decide +kernel) ⟨by decide, by decide⟩) (pn_W "LatticeKeysModel$Ring" (en_ok g) (ci := 10) (kn := 178) (fl := [(1, 3329), (1, 128), (3, 179), (3, 180), (4, 3303)]) hK hO kr23 rfl hP hD hS hA hE [] rfl rfl rfl) rfl rfl hl.1 rfl (lv_room (Nat.le_of_ble_eq_true rfl)) dME_back_25 ⟨by omega, by omega⟩) (fun  u22 H locs hu22 hP hD hS => ?_)
  obtain ⟨s22, pl⟩ := u22
  obtain ⟨⟨eq22, hFc22, -⟩, hO⟩ := hu22
  have hO : okn g T s22 pl := hO
  have hP : va_P g.1 vcl ([] ++ pl) _ := hP
  have hD : va_D _ ([] ++ pl) := hD
  have hFc22 : frm (M_MR_back_7_1 219) s21 s22 := hFc22
  replace hR := bnd_step hR eq22
  have hF := frm_tr hF hFc22 (fun k hk => by unfold M_MR_back_7_1 at hk; unfold M_ME_back; omega)
  refine W.widen (k := 0) (n := 0) (by omega) (by omega) ?_
  refine lv_iconst (v := nI 0) hx hb dME_back_28 (by decide) ?_
  refine lv_istore_n (lv' := [(2, .int (nI 0)), (0, .ref h0), (1, .ref f)]) hx hb dME_back_29 rfl hl (by decide) rfl (fun ls hl => ?_)
  have lp21 : ∀ (n21 : Nat) (i21 : Nat) (s23 : Sto) (pl : va_W) (ls : Array Slot) (H : Heap) (locs : List Loc), n21 + i21 = 256 → frm (M_ME_back pf) s s23 → F_ME_back pf s = F_ME_back_L0 pf n21 i21 s23 → lv_has ls 3 [(2, .int (nI i21)), (0, .ref h0), (1, .ref f)] → okn g T s23 pl → va_P g.1 vcl ([] ++ pl) H → va_D A ([] ++ pl) → va_S A s0.heap H locs → W p l e ({ frames := 1, cells := 0, slots := 0, locals := 28 } : Room) s0 m args below meth c H locs 0 0 (MQ below (va_Qv (fun (u : (Sto) × va_W) => (u.1 = F_ME_back pf s ∧ frm (M_ME_back pf) s u.1 ∧ True) ∧ okn g T u.1 u.2) (po g.1 vcl A (fun (u : (Sto) × va_W) => [] ++ u.2)) A) args s0 0 0 A) (F0 m 30 ls []) := by
    intro n21
    induction n21 with
    | zero =>
      intro i21 s23 pl ls H locs hm21 hF hR hl hO hP hD hS
      refine lv_iload_n hx hb dME_back_30 rfl (lv_at hl 0 rfl) ?_
      refine lv_sipush (v := nI 256) hx hb dME_back_31 (by decide) ?_
      refine mi_ge (tgt := 52) hx hb dME_back_34 (by decide) (by omega) (by omega) (fun h21 => ?_) (fun h21 => absurd h21 (by omega))
      exact mp_vret hx hb hr hlk hP hD hS (s23, pl) ⟨⟨hR.symm, hF, trivial⟩, hO⟩ [] rfl rfl rfl (by omega) (by omega) dME_back_52
    | succ n21 ih21 =>
      intro i21 s23 pl ls H locs hm21 hF hR hl hO hP hD hS
      refine lv_iload_n hx hb dME_back_30 rfl (lv_at hl 0 rfl) ?_
      refine lv_sipush (v := nI 256) hx hb dME_back_31 (by decide) ?_
      refine mi_ge (tgt := 52) hx hb dME_back_34 (by decide) (by omega) (by omega) (fun h22 => absurd h22 (by omega)) (fun h22 => ?_)
      refine lv_aload_n hx hb dME_back_37 rfl (lv_at hl 2 rfl) ?_
      refine lv_iload_n hx hb dME_back_38 rfl (lv_at hl 0 rfl) ?_
      refine lv_aload_n hx hb dME_back_39 rfl (lv_at hl 1 rfl) ?_
      refine nw_get (C := "LatticeKeysModel$Secrets") (TT := T_ME) (N := 14) hx hb hts (wg_ft i_ME) hown hK hO k_h0 (kn := 184) (ci := 11) (fl := [(3, 172), (3, 178), (3, 185), (3, 202), (3, 207), (3, 212), (3, 217), (3, 218), (3, 219), (3, 220), (3, 221), (3, 222), (3, 223), (3, 224)]) rfl hP rfl 8 (by decide) (hts _ (wg_t kw_1387)) (fun _ h9 => h9) (cd := (3, 219)) rfl dME_back_40 (fun v25 hv25 => ?_)
      obtain ⟨r25, rfl, kr25⟩ := (show ∃ r : Nat, v25 = .ref r ∧ T r = some 219 from hv25)
      refine lv_iload_n hx hb dME_back_43 rfl (lv_at hl 0 rfl) ?_
      refine nw_iald hx hb hK hO kr25 (k := 219) rfl hP (by omega) (by omega) dME_back_44 ?_
      refine nw_iast hx hb hK hO hU k_f (k := pf) n_f hP hD hS (by omega) (by omega) dME_back_45 (fun s24 pl H locs es21 hO hP hD hS => ?_)
      replace hR := bnd_step hR es21
      have hF := frm_sI hF es21 (by unfold M_ME_back; omega)
      refine mi_iinc (k := 0) (x := i21) (d := 1) (y := i21 + 1) (lv' := [(2, .int (nI (i21 + 1))), (0, .ref h0), (1, .ref f)]) hx hb dME_back_46 hl rfl (by decide) rfl (by decide) rfl (fun ls hl => ?_)
      refine lv_goto (tgt := 30) hx hb dME_back_49 (by decide) ?_
      exact ih21 (i21 + 1) s24 pl ls H locs (by omega) hF hR (lv_sub hl [0, 1, 2] rfl) hO hP hD hS
  exact lp21 256 0 s22 pl ls _ _ (by omega) hF hR (lv_sub hl [0, 1, 2] rfl) hO hP hD hS
def M_ME_product (pt : Nat) (k : Nat) : Prop := k = pt ∨ (0 : Nat) = 1
noncomputable def F_ME_product_L0 (pf : Nat) (pg : Nat) (pt : Nat) : Nat → Nat → Sto → Sto
  | 0, i21, s21 => s21
  | n21 + 1, i21, s21 => bnd (F_MR_root (i21 / 2) s21) fun q21 => bnd (((((s21.1 pf i21) * (s21.1 pg i21)).toInt64) + (((((s21.1 pf (i21 + 1)) * (s21.1 pg (i21 + 1))) - ((s21.1 pf (i21 + 1)) * (s21.1 pg (i21 + 1))) / (nI 3329) * (nI 3329)).toInt64) * (q21.1)))) fun y21 => bnd ((((q21.2.1 pf i21) * (q21.2.1 pg (i21 + 1))) + ((q21.2.1 pf (i21 + 1)) * (q21.2.1 pg i21)))) fun z21 => bnd (sI q21.2 pt i21 (((((q21.2.1 pt i21).toInt64) + y21) - (((q21.2.1 pt i21).toInt64) + y21) / (3329) * (3329)).toInt32)) fun s22 => bnd (sI s22 pt (i21 + 1) (((s22.1 pt (i21 + 1)) + z21) - ((s22.1 pt (i21 + 1)) + z21) / (nI 3329) * (nI 3329))) fun s23 => F_ME_product_L0 pf pg pt n21 (i21 + 2) s23
noncomputable def F_ME_product (pf : Nat) (pg : Nat) (pt : Nat) (s : Sto) : Sto := F_ME_product_L0 pf pg pt ((256 - 0) / 2) 0 s
set_option maxHeartbeats 8000000 in
set_option maxRecDepth 100000 in
theorem N_ME_product (l : Launch) (g : Gd) (sz : Nat) (T : TyN) (s : Sto) (pl : va_W) (hO : okn g T s pl) (hU : inj T) (h0 f fg to : Nat) (pf : Nat) (pg : Nat) (pt : Nat) (k_h0 : T h0 = some 184) (k_f : T f = some pf) (n_f : nsp pf = (0, 256, [])) (k_fg : T fg = some pg) (n_fg : nsp pg = (0, 256, [])) (k_to : T to = some pt) (n_to : nsp pt = (0, 256, []))  : Met l y_ME_product w_ME_product ({ frames := 1, cells := 0, slots := 0, locals := 21 } : Room) (va_Pc [.ref h0, .ref f, .ref fg, .ref to] (pr (en g) g.1 vcl sz ([] ++ pl))) (va_Qv (fun (u : (Sto) × va_W) => (u.1 = F_ME_product pf pg pt s ∧ frm (M_ME_product pt) s u.1 ∧ True) ∧ okn g T u.1 u.2) (po g.1 vcl (va_A ([] ++ pl) sz) (fun (u : (Sto) × va_W) => [] ++ u.2)) (va_A ([] ++ pl) sz)) 0 0 (va_A ([] ++ pl) sz) := by
  refine mc_entry (cc := c_ME_product) (maxL := 8) (ret := none) (by decide) rfl (Nat.le_of_ble_eq_true rfl) ?_
  intro p e s0 m args below meth c ls F hr hlk hnm hsz hP hD hE hA hl
  obtain ⟨hx, hb, hml, hown, hts⟩ := id F
  have hK := hE.1
  generalize va_A ([] ++ pl) sz = A at hD hE hA ⊢
  have hS : va_S A s0.heap s0.heap [] := va_S.rf
  have hl : lv_has ls 8 [(0, .ref h0), (1, .ref f), (2, .ref fg), (3, .ref to)] := hl
  have hR : F_ME_product pf pg pt s = F_ME_product pf pg pt s := rfl
  have hF : frm (M_ME_product pt) s s := frm_rf
  refine lv_iconst (v := nI 0) hx hb dME_product_0 (by decide) ?_
  refine lv_istore (lv' := [(4, .int (nI 0)), (0, .ref h0), (1, .ref f), (2, .ref fg), (3, .ref to)]) hx hb dME_product_1 hl (by decide) rfl (fun ls hl => ?_)
  have lp21 : ∀ (n21 : Nat) (i21 : Nat) (s21 : Sto) (pl : va_W) (ls : Array Slot) (H : Heap) (locs : List Loc), 2 * n21 + i21 = 256 → (i21 % 2 = 0) → frm (M_ME_product pt) s s21 → F_ME_product pf pg pt s = F_ME_product_L0 pf pg pt n21 i21 s21 → lv_has ls 8 [(4, .int (nI i21)), (0, .ref h0), (1, .ref f), (2, .ref fg), (3, .ref to)] → okn g T s21 pl → va_P g.1 vcl ([] ++ pl) H → va_D A ([] ++ pl) → va_S A s0.heap H locs → W p l e ({ frames := 1, cells := 0, slots := 0, locals := 21 } : Room) s0 m args below meth c H locs 0 0 (MQ below (va_Qv (fun (u : (Sto) × va_W) => (u.1 = F_ME_product pf pg pt s ∧ frm (M_ME_product pt) s u.1 ∧ True) ∧ okn g T u.1 u.2) (po g.1 vcl A (fun (u : (Sto) × va_W) => [] ++ u.2)) A) args s0 0 0 A) (F0 m 3 ls []) := by
    intro n21
    induction n21 with
    | zero =>
      intro i21 s21 pl ls H locs hm21 hi21 hF hR hl hO hP hD hS
      refine lv_iload hx hb dME_product_3 (lv_at hl 0 rfl) ?_
      refine lv_sipush (v := nI 256) hx hb dME_product_5 (by decide) ?_
      refine mi_ge (tgt := 121) hx hb dME_product_8 (by decide) (by omega) (by omega) (fun h21 => ?_) (fun h21 => absurd h21 (by omega))
      exact mp_vret hx hb hr hlk hP hD hS (s21, pl) ⟨⟨hR.symm, hF, trivial⟩, hO⟩ [] rfl rfl rfl (by omega) (by omega) dME_product_121
    | succ n21 ih21 =>
      intro i21 s21 pl ls H locs hm21 hi21 hF hR hl hO hP hD hS
      refine lv_iload hx hb dME_product_3 (lv_at hl 0 rfl) ?_
      refine lv_sipush (v := nI 256) hx hb dME_product_5 (by decide) ?_
      refine mi_ge (tgt := 121) hx hb dME_product_8 (by decide) (by omega) (by omega) (fun h22 => absurd h22 (by omega)) (fun h22 => ?_)
      refine lv_aload_n hx hb dME_product_11 rfl (lv_at hl 2 rfl) ?_
      refine lv_iload hx hb dME_product_12 (lv_at hl 0 rfl) ?_
      refine nw_iald hx hb hK hO k_f (k := pf) n_f hP (by omega) (by omega) dME_product_14 ?_
      refine lv_aload_n hx hb dME_product_15 rfl (lv_at hl 3 rfl) ?_
      refine lv_iload hx hb dME_product_16 (lv_at hl 0 rfl) ?_
      refine nw_iald hx hb hK hO k_fg (k := pg) n_fg hP (by omega) (by omega) dME_product_18 ?_
      refine lv_imul hx hb dME_product_19 ?_
      refine lv_i2l hx hb dME_product_20 rfl ?_
      refine lv_aload_n hx hb dME_product_21 rfl (lv_at hl 2 rfl) ?_
      refine lv_iload hx hb dME_product_22 (lv_at hl 0 rfl) ?_
      refine lv_iconst (v := nI 1) hx hb dME_product_24 (by decide) ?_
      refine mi_iadd hx hb dME_product_25 ?_
      refine nw_iald hx hb hK hO k_f (k := pf) n_f hP (by omega) (by omega) dME_product_26 ?_
      refine lv_aload_n hx hb dME_product_27 rfl (lv_at hl 3 rfl) ?_
      refine lv_iload hx hb dME_product_28 (lv_at hl 0 rfl) ?_
      refine lv_iconst (v := nI 1) hx hb dME_product_30 (by decide) ?_
      refine mi_iadd hx hb dME_product_31 ?_
      refine nw_iald hx hb hK hO k_fg (k := pg) n_fg hP (by omega) (by omega) dME_product_32 ?_
      refine lv_imul hx hb dME_product_33 ?_
      refine lv_sipush (v := nI 3329) hx hb dME_product_34 (by decide) ?_
      refine lv_irem hx hb dME_product_37 (nI_ne0 (by omega) (by omega)) ?_
      refine lv_i2l hx hb dME_product_38 rfl ?_
      refine lv_aload_n hx hb dME_product_39 rfl (lv_at hl 1 rfl) ?_
      refine nw_get (C := "LatticeKeysModel$Secrets") (TT := T_ME) (N := 14) hx hb hts (wg_ft i_ME) hown hK hO k_h0 (kn := 184) (ci := 11) (fl := [(3, 172), (3, 178), (3, 185), (3, 202), (3, 207), (3, 212), (3, 217), (3, 218), (3, 219), (3, 220), (3, 221), (3, 222), (3, 223), (3, 224)]) rfl hP rfl 1 (by decide) (hts _ (wg_t kw_1380)) (fun _ h9 => h9) (cd := (3, 178)) rfl dME_product_40 (fun v21 hv21 => ?_)
      obtain ⟨r21, rfl, kr21⟩ := (show ∃ r : Nat, v21 = .ref r ∧ T r = some 178 from hv21)
      refine lv_iload hx hb dME_product_43 (lv_at hl 0 rfl) ?_
      refine lv_iconst (v := nI 2) hx hb dME_product_45 (by decide) ?_
      refine mi_idiv hx hb dME_product_46 (by omega) (by omega) (by omega) ?_
      refine mp_l (cx := []) (wr := []) hP hD hS hA [] [] rfl rfl rfl (by decide) (va_runV (As := [.int (nI (i21 / 2))]) (rest := [.long ((((s21.1 pf (i21 + 1)) * (s21.1 pg (i21 + 1))) - ((s21.1 pf (i21 + 1)) * (s21.1 pg (i21 + 1))) / (nI 3329) * (nI 3329)).toInt64), .long (((s21.1 pf i21) * (s21.1 pg i21)).toInt64)]) F (N_MR_root l g _ T s21 pl hO hU r21 (i21 / 2) kr21 (by omega)) (cwV 1 hts (wg_app (wg_c kw_1680 (wg_c kw_1681 (wg_c kw_1682 (wg_c kw_12 wg_n)))) kw_1683) rfl rfl rfl (by decide +kernel) ⟨by decide, by decide⟩) (pn_W "LatticeKeysModel$Ring" (en_ok g) (ci := 10) (kn := 178) (fl := [(1, 3329), (1, 128), (3, 179), (3, 180), (4, 3303)]) hK hO kr21 rfl hP hD hS hA hE [] rfl rfl rfl) rfl rfl hl.1 rfl (lv_room (Nat.le_of_ble_eq_true rfl)) dME_product_47 ⟨by omega, by omega⟩) (fun r22 u21 H locs hu21 hP hD hS => ?_)
      obtain ⟨q21, pl⟩ := u21
      obtain ⟨⟨eq21, rfl, hFc21, -⟩, hO⟩ := hu21
      have hO : okn g T q21.2 pl := hO
      have hP : va_P g.1 vcl ([] ++ pl) _ := hP
      have hD : va_D _ ([] ++ pl) := hD
      have hFc21 : frm (M_MR_root) s21 q21.2 := hFc21
      replace hR := bnd_step hR eq21
      have hF := frm_tr hF hFc21 (fun k hk => by unfold M_MR_root at hk; unfold M_ME_product; omega)
      refine W.widen (k := 0) (n := 0) (by omega) (by omega) ?_
      refine lv_lmul hx hb dME_product_50 ?_
      refine lv_ladd hx hb dME_product_51 ?_
      refine ml_eqv (fun y21 ez21 => ?_)
      replace hR := bnd_step hR ez21
      refine lv_lstore (lv' := [(5, .long y21), (4, .int (nI i21)), (0, .ref h0), (1, .ref f), (2, .ref fg), (3, .ref to)]) hx hb dME_product_52 hl (by decide) rfl (fun ls hl => ?_)
      refine lv_aload_n hx hb dME_product_54 rfl (lv_at hl 3 rfl) ?_
      refine lv_iload hx hb dME_product_55 (lv_at hl 1 rfl) ?_
      refine nw_iald hx hb hK hO k_f (k := pf) n_f hP (by omega) (by omega) dME_product_57 ?_
      refine lv_aload_n hx hb dME_product_58 rfl (lv_at hl 4 rfl) ?_
      refine lv_iload hx hb dME_product_59 (lv_at hl 1 rfl) ?_
      refine lv_iconst (v := nI 1) hx hb dME_product_61 (by decide) ?_
      refine mi_iadd hx hb dME_product_62 ?_
      refine nw_iald hx hb hK hO k_fg (k := pg) n_fg hP (by omega) (by omega) dME_product_63 ?_
      refine lv_imul hx hb dME_product_64 ?_
      refine lv_aload_n hx hb dME_product_65 rfl (lv_at hl 3 rfl) ?_
      refine lv_iload hx hb dME_product_66 (lv_at hl 1 rfl) ?_
      refine lv_iconst (v := nI 1) hx hb dME_product_68 (by decide) ?_
      refine mi_iadd hx hb dME_product_69 ?_
      refine nw_iald hx hb hK hO k_f (k := pf) n_f hP (by omega) (by omega) dME_product_70 ?_
      refine lv_aload_n hx hb dME_product_71 rfl (lv_at hl 4 rfl) ?_
      refine lv_iload hx hb dME_product_72 (lv_at hl 1 rfl) ?_
      refine nw_iald hx hb hK hO k_fg (k := pg) n_fg hP (by omega) (by omega) dME_product_74 ?_
      refine lv_imul hx hb dME_product_75 ?_
      refine lv_iadd hx hb dME_product_76 ?_
      refine mi_eqv (fun z21 ez22 => ?_)
      replace hR := bnd_step hR ez22
      refine lv_istore (lv' := [(7, .int z21), (5, .long y21), (4, .int (nI i21)), (0, .ref h0), (1, .ref f), (2, .ref fg), (3, .ref to)]) hx hb dME_product_77 hl (by decide) rfl (fun ls hl => ?_)
      refine lv_aload_n hx hb dME_product_79 rfl (lv_at hl 6 rfl) ?_
      refine lv_iload hx hb dME_product_80 (lv_at hl 2 rfl) ?_
      refine lv_aload_n hx hb dME_product_82 rfl (lv_at hl 6 rfl) ?_
      refine lv_iload hx hb dME_product_83 (lv_at hl 2 rfl) ?_
      refine nw_iald hx hb hK hO k_to (k := pt) n_to hP (by omega) (by omega) dME_product_85 ?_
      refine lv_i2l hx hb dME_product_86 rfl ?_
      refine lv_lload hx hb dME_product_87 (lv_at hl 1 rfl) ?_
      refine lv_ladd hx hb dME_product_89 ?_
      refine lv_ldc2 (v := (3329)) hx hb hown (hts _ (wg_t kw_1684)) dME_product_90 ?_
      refine lv_lrem hx hb dME_product_93 (by decide) ?_
      refine lv_l2i hx hb dME_product_94 rfl ?_
      refine nw_iast hx hb hK hO hU k_to (k := pt) n_to hP hD hS (by omega) (by omega) dME_product_95 (fun s22 pl H locs es21 hO hP hD hS => ?_)
      replace hR := bnd_step hR es21
      have hF := frm_sI hF es21 (by unfold M_ME_product; omega)
      refine lv_aload_n hx hb dME_product_96 rfl (lv_at hl 6 rfl) ?_
      refine lv_iload hx hb dME_product_97 (lv_at hl 2 rfl) ?_
      refine lv_iconst (v := nI 1) hx hb dME_product_99 (by decide) ?_
      refine mi_iadd hx hb dME_product_100 ?_
      refine lv_aload_n hx hb dME_product_101 rfl (lv_at hl 6 rfl) ?_
      refine lv_iload hx hb dME_product_102 (lv_at hl 2 rfl) ?_
      refine lv_iconst (v := nI 1) hx hb dME_product_104 (by decide) ?_
      refine mi_iadd hx hb dME_product_105 ?_
      refine nw_iald hx hb hK hO k_to (k := pt) n_to hP (by omega) (by omega) dME_product_106 ?_
      refine lv_iload hx hb dME_product_107 (lv_at hl 0 rfl) ?_
      refine lv_iadd hx hb dME_product_109 ?_
      refine lv_sipush (v := nI 3329) hx hb dME_product_110 (by decide) ?_
      refine lv_irem hx hb dME_product_113 (nI_ne0 (by omega) (by omega)) ?_
      refine nw_iast hx hb hK hO hU k_to (k := pt) n_to hP hD hS (by omega) (by omega) dME_product_114 (fun s23 pl H locs es22 hO hP hD hS => ?_)
      replace hR := bnd_step hR es22
      have hF := frm_sI hF es22 (by unfold M_ME_product; omega)
      refine mi_iinc (k := 2) (x := i21) (d := 2) (y := i21 + 2) (lv' := [(4, .int (nI (i21 + 2))), (7, .int z21), (5, .long y21), (0, .ref h0), (1, .ref f), (2, .ref fg), (3, .ref to)]) hx hb dME_product_115 hl rfl (by decide) rfl (by decide) rfl (fun ls hl => ?_)
      refine lv_goto (tgt := 3) hx hb dME_product_118 (by decide) ?_
      exact ih21 (i21 + 2) s23 pl ls H locs (by omega) (by omega) hF hR (lv_sub hl [0, 3, 4, 5, 6] rfl) hO hP hD hS
  exact lp21 ((256 - 0) / 2) 0 s pl ls _ _ (by omega) (by omega) hF hR (lv_sub hl [0, 1, 2, 3, 4] rfl) hO hP hD hS
def M_ME_clear (pf : Nat) (k : Nat) : Prop := k = pf ∨ (0 : Nat) = 1
noncomputable def F_ME_clear_L0 (pf : Nat) : Nat → Nat → Sto → Sto
  | 0, i21, s21 => s21
  | n21 + 1, i21, s21 => bnd (sI s21 pf i21 (nI 0)) fun s22 => F_ME_clear_L0 pf n21 (i21 + 1) s22
noncomputable def F_ME_clear (pf : Nat) (s : Sto) : Sto := F_ME_clear_L0 pf 256 0 s
set_option maxHeartbeats 8000000 in
set_option maxRecDepth 100000 in
theorem N_ME_clear (l : Launch) (g : Gd) (sz : Nat) (T : TyN) (s : Sto) (pl : va_W) (hO : okn g T s pl) (hU : inj T) (f : Nat) (pf : Nat) (k_f : T f = some pf) (n_f : nsp pf = (0, 256, []))  : Met l y_ME_clear w_ME_clear ({ frames := 0, cells := 0, slots := 0, locals := 0 } : Room) (va_Pc [.ref f] (pr (en g) g.1 vcl sz ([] ++ pl))) (va_Qv (fun (u : (Sto) × va_W) => (u.1 = F_ME_clear pf s ∧ frm (M_ME_clear pf) s u.1 ∧ True) ∧ okn g T u.1 u.2) (po g.1 vcl (va_A ([] ++ pl) sz) (fun (u : (Sto) × va_W) => [] ++ u.2)) (va_A ([] ++ pl) sz)) 0 0 (va_A ([] ++ pl) sz) := by
  refine mc_entry (cc := c_ME_clear) (maxL := 2) (ret := none) (by decide) rfl (Nat.le_of_ble_eq_true rfl) ?_
  intro p e s0 m args below meth c ls F hr hlk hnm hsz hP hD hE hA hl
  obtain ⟨hx, hb, hml, hown, hts⟩ := id F
  have hK := hE.1
  generalize va_A ([] ++ pl) sz = A at hD hE hA ⊢
  have hS : va_S A s0.heap s0.heap [] := va_S.rf
  have hl : lv_has ls 2 [(0, .ref f)] := hl
  have hR : F_ME_clear pf s = F_ME_clear pf s := rfl
  have hF : frm (M_ME_clear pf) s s := frm_rf
  refine lv_iconst (v := nI 0) hx hb dME_clear_0 (by decide) ?_
  refine lv_istore_n (lv' := [(1, .int (nI 0)), (0, .ref f)]) hx hb dME_clear_1 rfl hl (by decide) rfl (fun ls hl => ?_)
  have lp21 : ∀ (n21 : Nat) (i21 : Nat) (s21 : Sto) (pl : va_W) (ls : Array Slot) (H : Heap) (locs : List Loc), n21 + i21 = 256 → frm (M_ME_clear pf) s s21 → F_ME_clear pf s = F_ME_clear_L0 pf n21 i21 s21 → lv_has ls 2 [(1, .int (nI i21)), (0, .ref f)] → okn g T s21 pl → va_P g.1 vcl ([] ++ pl) H → va_D A ([] ++ pl) → va_S A s0.heap H locs → W p l e ({ frames := 0, cells := 0, slots := 0, locals := 0 } : Room) s0 m args below meth c H locs 0 0 (MQ below (va_Qv (fun (u : (Sto) × va_W) => (u.1 = F_ME_clear pf s ∧ frm (M_ME_clear pf) s u.1 ∧ True) ∧ okn g T u.1 u.2) (po g.1 vcl A (fun (u : (Sto) × va_W) => [] ++ u.2)) A) args s0 0 0 A) (F0 m 2 ls []) := by
    intro n21
    induction n21 with
    | zero =>
      intro i21 s21 pl ls H locs hm21 hF hR hl hO hP hD hS
      refine lv_iload_n hx hb dME_clear_2 rfl (lv_at hl 0 rfl) ?_
      refine lv_sipush (v := nI 256) hx hb dME_clear_3 (by decide) ?_
      refine mi_ge (tgt := 19) hx hb dME_clear_6 (by decide) (by omega) (by omega) (fun h21 => ?_) (fun h21 => absurd h21 (by omega))
      exact mp_vret hx hb hr hlk hP hD hS (s21, pl) ⟨⟨hR.symm, hF, trivial⟩, hO⟩ [] rfl rfl rfl (by omega) (by omega) dME_clear_19
    | succ n21 ih21 =>
      intro i21 s21 pl ls H locs hm21 hF hR hl hO hP hD hS
      refine lv_iload_n hx hb dME_clear_2 rfl (lv_at hl 0 rfl) ?_
      refine lv_sipush (v := nI 256) hx hb dME_clear_3 (by decide) ?_
      refine mi_ge (tgt := 19) hx hb dME_clear_6 (by decide) (by omega) (by omega) (fun h22 => absurd h22 (by omega)) (fun h22 => ?_)
      refine lv_aload_n hx hb dME_clear_9 rfl (lv_at hl 1 rfl) ?_
      refine lv_iload_n hx hb dME_clear_10 rfl (lv_at hl 0 rfl) ?_
      refine lv_iconst (v := nI 0) hx hb dME_clear_11 (by decide) ?_
      refine nw_iast hx hb hK hO hU k_f (k := pf) n_f hP hD hS (by omega) (by omega) dME_clear_12 (fun s22 pl H locs es21 hO hP hD hS => ?_)
      replace hR := bnd_step hR es21
      have hF := frm_sI hF es21 (by unfold M_ME_clear; omega)
      refine mi_iinc (k := 0) (x := i21) (d := 1) (y := i21 + 1) (lv' := [(1, .int (nI (i21 + 1))), (0, .ref f)]) hx hb dME_clear_13 hl rfl (by decide) rfl (by decide) rfl (fun ls hl => ?_)
      refine lv_goto (tgt := 2) hx hb dME_clear_16 (by decide) ?_
      exact ih21 (i21 + 1) s22 pl ls H locs (by omega) hF hR (lv_sub hl [0, 1] rfl) hO hP hD hS
  exact lp21 256 0 s pl ls _ _ (by omega) hF hR (lv_sub hl [0, 1] rfl) hO hP hD hS
def M_ME_plus (pf : Nat) (k : Nat) : Prop := k = pf ∨ (0 : Nat) = 1
noncomputable def F_ME_plus_L0 (pf : Nat) (pg : Nat) : Nat → Nat → Sto → Sto
  | 0, i21, s21 => s21
  | n21 + 1, i21, s21 => bnd (sI s21 pf i21 (((s21.1 pf i21) + (s21.1 pg i21)) - ((s21.1 pf i21) + (s21.1 pg i21)) / (nI 3329) * (nI 3329))) fun s22 => F_ME_plus_L0 pf pg n21 (i21 + 1) s22
noncomputable def F_ME_plus (pf : Nat) (pg : Nat) (s : Sto) : Sto := F_ME_plus_L0 pf pg 256 0 s
set_option maxHeartbeats 8000000 in
set_option maxRecDepth 100000 in
theorem N_ME_plus (l : Launch) (g : Gd) (sz : Nat) (T : TyN) (s : Sto) (pl : va_W) (hO : okn g T s pl) (hU : inj T) (f fg : Nat) (pf : Nat) (pg : Nat) (k_f : T f = some pf) (n_f : nsp pf = (0, 256, [])) (k_fg : T fg = some pg) (n_fg : nsp pg = (0, 256, []))  : Met l y_ME_plus w_ME_plus ({ frames := 0, cells := 0, slots := 0, locals := 0 } : Room) (va_Pc [.ref f, .ref fg] (pr (en g) g.1 vcl sz ([] ++ pl))) (va_Qv (fun (u : (Sto) × va_W) => (u.1 = F_ME_plus pf pg s ∧ frm (M_ME_plus pf) s u.1 ∧ True) ∧ okn g T u.1 u.2) (po g.1 vcl (va_A ([] ++ pl) sz) (fun (u : (Sto) × va_W) => [] ++ u.2)) (va_A ([] ++ pl) sz)) 0 0 (va_A ([] ++ pl) sz) := by
  refine mc_entry (cc := c_ME_plus) (maxL := 3) (ret := none) (by decide) rfl (Nat.le_of_ble_eq_true rfl) ?_
  intro p e s0 m args below meth c ls F hr hlk hnm hsz hP hD hE hA hl
  obtain ⟨hx, hb, hml, hown, hts⟩ := id F
  have hK := hE.1
  generalize va_A ([] ++ pl) sz = A at hD hE hA ⊢
  have hS : va_S A s0.heap s0.heap [] := va_S.rf
  have hl : lv_has ls 3 [(0, .ref f), (1, .ref fg)] := hl
  have hR : F_ME_plus pf pg s = F_ME_plus pf pg s := rfl
  have hF : frm (M_ME_plus pf) s s := frm_rf
  refine lv_iconst (v := nI 0) hx hb dME_plus_0 (by decide) ?_
  refine lv_istore_n (lv' := [(2, .int (nI 0)), (0, .ref f), (1, .ref fg)]) hx hb dME_plus_1 rfl hl (by decide) rfl (fun ls hl => ?_)
  have lp21 : ∀ (n21 : Nat) (i21 : Nat) (s21 : Sto) (pl : va_W) (ls : Array Slot) (H : Heap) (locs : List Loc), n21 + i21 = 256 → frm (M_ME_plus pf) s s21 → F_ME_plus pf pg s = F_ME_plus_L0 pf pg n21 i21 s21 → lv_has ls 3 [(2, .int (nI i21)), (0, .ref f), (1, .ref fg)] → okn g T s21 pl → va_P g.1 vcl ([] ++ pl) H → va_D A ([] ++ pl) → va_S A s0.heap H locs → W p l e ({ frames := 0, cells := 0, slots := 0, locals := 0 } : Room) s0 m args below meth c H locs 0 0 (MQ below (va_Qv (fun (u : (Sto) × va_W) => (u.1 = F_ME_plus pf pg s ∧ frm (M_ME_plus pf) s u.1 ∧ True) ∧ okn g T u.1 u.2) (po g.1 vcl A (fun (u : (Sto) × va_W) => [] ++ u.2)) A) args s0 0 0 A) (F0 m 2 ls []) := by
    intro n21
    induction n21 with
    | zero =>
      intro i21 s21 pl ls H locs hm21 hF hR hl hO hP hD hS
      refine lv_iload_n hx hb dME_plus_2 rfl (lv_at hl 0 rfl) ?_
      refine lv_sipush (v := nI 256) hx hb dME_plus_3 (by decide) ?_
      refine mi_ge (tgt := 29) hx hb dME_plus_6 (by decide) (by omega) (by omega) (fun h21 => ?_) (fun h21 => absurd h21 (by omega))
      exact mp_vret hx hb hr hlk hP hD hS (s21, pl) ⟨⟨hR.symm, hF, trivial⟩, hO⟩ [] rfl rfl rfl (by omega) (by omega) dME_plus_29
    | succ n21 ih21 =>
      intro i21 s21 pl ls H locs hm21 hF hR hl hO hP hD hS
      refine lv_iload_n hx hb dME_plus_2 rfl (lv_at hl 0 rfl) ?_
      refine lv_sipush (v := nI 256) hx hb dME_plus_3 (by decide) ?_
      refine mi_ge (tgt := 29) hx hb dME_plus_6 (by decide) (by omega) (by omega) (fun h22 => absurd h22 (by omega)) (fun h22 => ?_)
      refine lv_aload_n hx hb dME_plus_9 rfl (lv_at hl 1 rfl) ?_
      refine lv_iload_n hx hb dME_plus_10 rfl (lv_at hl 0 rfl) ?_
      refine lv_aload_n hx hb dME_plus_11 rfl (lv_at hl 1 rfl) ?_
      refine lv_iload_n hx hb dME_plus_12 rfl (lv_at hl 0 rfl) ?_
      refine nw_iald hx hb hK hO k_f (k := pf) n_f hP (by omega) (by omega) dME_plus_13 ?_
      refine lv_aload_n hx hb dME_plus_14 rfl (lv_at hl 2 rfl) ?_
      refine lv_iload_n hx hb dME_plus_15 rfl (lv_at hl 0 rfl) ?_
      refine nw_iald hx hb hK hO k_fg (k := pg) n_fg hP (by omega) (by omega) dME_plus_16 ?_
      refine lv_iadd hx hb dME_plus_17 ?_
      refine lv_sipush (v := nI 3329) hx hb dME_plus_18 (by decide) ?_
      refine lv_irem hx hb dME_plus_21 (nI_ne0 (by omega) (by omega)) ?_
      refine nw_iast hx hb hK hO hU k_f (k := pf) n_f hP hD hS (by omega) (by omega) dME_plus_22 (fun s22 pl H locs es21 hO hP hD hS => ?_)
      replace hR := bnd_step hR es21
      have hF := frm_sI hF es21 (by unfold M_ME_plus; omega)
      refine mi_iinc (k := 0) (x := i21) (d := 1) (y := i21 + 1) (lv' := [(2, .int (nI (i21 + 1))), (0, .ref f), (1, .ref fg)]) hx hb dME_plus_23 hl rfl (by decide) rfl (by decide) rfl (fun ls hl => ?_)
      refine lv_goto (tgt := 2) hx hb dME_plus_26 (by decide) ?_
      exact ih21 (i21 + 1) s22 pl ls H locs (by omega) hF hR (lv_sub hl [0, 1, 2] rfl) hO hP hD hS
  exact lp21 256 0 s pl ls _ _ (by omega) hF hR (lv_sub hl [0, 1, 2] rfl) hO hP hD hS
def M_ME_proper (pf : Nat) (k : Nat) : Prop := k = pf ∨ (0 : Nat) = 1
noncomputable def F_ME_proper_L0 (pf : Nat) : Nat → Nat → Sto → Sto
  | 0, i21, s21 => s21
  | n21 + 1, i21, s21 => bnd (sI s21 pf i21 ((s21.1 pf i21) - (s21.1 pf i21) / (nI 3329) * (nI 3329))) fun s22 => F_ME_proper_L0 pf n21 (i21 + 1) s22
noncomputable def F_ME_proper (pf : Nat) (s : Sto) : Sto := F_ME_proper_L0 pf 256 0 s
set_option maxHeartbeats 8000000 in
set_option maxRecDepth 100000 in
theorem N_ME_proper (l : Launch) (g : Gd) (sz : Nat) (T : TyN) (s : Sto) (pl : va_W) (hO : okn g T s pl) (hU : inj T) (f : Nat) (pf : Nat) (k_f : T f = some pf) (n_f : nsp pf = (0, 256, []))  : Met l y_ME_proper w_ME_proper ({ frames := 0, cells := 0, slots := 0, locals := 0 } : Room) (va_Pc [.ref f] (pr (en g) g.1 vcl sz ([] ++ pl))) (va_Qv (fun (u : (Sto) × va_W) => (u.1 = F_ME_proper pf s ∧ frm (M_ME_proper pf) s u.1 ∧ True) ∧ okn g T u.1 u.2) (po g.1 vcl (va_A ([] ++ pl) sz) (fun (u : (Sto) × va_W) => [] ++ u.2)) (va_A ([] ++ pl) sz)) 0 0 (va_A ([] ++ pl) sz) := by
  refine mc_entry (cc := c_ME_proper) (maxL := 2) (ret := none) (by decide) rfl (Nat.le_of_ble_eq_true rfl) ?_
  intro p e s0 m args below meth c ls F hr hlk hnm hsz hP hD hE hA hl
  obtain ⟨hx, hb, hml, hown, hts⟩ := id F
  have hK := hE.1
  generalize va_A ([] ++ pl) sz = A at hD hE hA ⊢
  have hS : va_S A s0.heap s0.heap [] := va_S.rf
  have hl : lv_has ls 2 [(0, .ref f)] := hl
  have hR : F_ME_proper pf s = F_ME_proper pf s := rfl
  have hF : frm (M_ME_proper pf) s s := frm_rf
  refine lv_iconst (v := nI 0) hx hb dME_proper_0 (by decide) ?_
  refine lv_istore_n (lv' := [(1, .int (nI 0)), (0, .ref f)]) hx hb dME_proper_1 rfl hl (by decide) rfl (fun ls hl => ?_)
  have lp21 : ∀ (n21 : Nat) (i21 : Nat) (s21 : Sto) (pl : va_W) (ls : Array Slot) (H : Heap) (locs : List Loc), n21 + i21 = 256 → frm (M_ME_proper pf) s s21 → F_ME_proper pf s = F_ME_proper_L0 pf n21 i21 s21 → lv_has ls 2 [(1, .int (nI i21)), (0, .ref f)] → okn g T s21 pl → va_P g.1 vcl ([] ++ pl) H → va_D A ([] ++ pl) → va_S A s0.heap H locs → W p l e ({ frames := 0, cells := 0, slots := 0, locals := 0 } : Room) s0 m args below meth c H locs 0 0 (MQ below (va_Qv (fun (u : (Sto) × va_W) => (u.1 = F_ME_proper pf s ∧ frm (M_ME_proper pf) s u.1 ∧ True) ∧ okn g T u.1 u.2) (po g.1 vcl A (fun (u : (Sto) × va_W) => [] ++ u.2)) A) args s0 0 0 A) (F0 m 2 ls []) := by
    intro n21
    induction n21 with
    | zero =>
      intro i21 s21 pl ls H locs hm21 hF hR hl hO hP hD hS
      refine lv_iload_n hx hb dME_proper_2 rfl (lv_at hl 0 rfl) ?_
      refine lv_sipush (v := nI 256) hx hb dME_proper_3 (by decide) ?_
      refine mi_ge (tgt := 24) hx hb dME_proper_6 (by decide) (by omega) (by omega) (fun h21 => ?_) (fun h21 => absurd h21 (by omega))
      exact mp_vret hx hb hr hlk hP hD hS (s21, pl) ⟨⟨hR.symm, hF, trivial⟩, hO⟩ [] rfl rfl rfl (by omega) (by omega) dME_proper_24
    | succ n21 ih21 =>
      intro i21 s21 pl ls H locs hm21 hF hR hl hO hP hD hS
      refine lv_iload_n hx hb dME_proper_2 rfl (lv_at hl 0 rfl) ?_
      refine lv_sipush (v := nI 256) hx hb dME_proper_3 (by decide) ?_
      refine mi_ge (tgt := 24) hx hb dME_proper_6 (by decide) (by omega) (by omega) (fun h22 => absurd h22 (by omega)) (fun h22 => ?_)
      refine lv_aload_n hx hb dME_proper_9 rfl (lv_at hl 1 rfl) ?_
      refine lv_iload_n hx hb dME_proper_10 rfl (lv_at hl 0 rfl) ?_
      refine lv_dup2_11 hx hb dME_proper_11 rfl rfl ?_
      refine nw_iald hx hb hK hO k_f (k := pf) n_f hP (by omega) (by omega) dME_proper_12 ?_
      refine lv_sipush (v := nI 3329) hx hb dME_proper_13 (by decide) ?_
      refine lv_irem hx hb dME_proper_16 (nI_ne0 (by omega) (by omega)) ?_
      refine nw_iast hx hb hK hO hU k_f (k := pf) n_f hP hD hS (by omega) (by omega) dME_proper_17 (fun s22 pl H locs es21 hO hP hD hS => ?_)
      replace hR := bnd_step hR es21
      have hF := frm_sI hF es21 (by unfold M_ME_proper; omega)
      refine mi_iinc (k := 0) (x := i21) (d := 1) (y := i21 + 1) (lv' := [(1, .int (nI (i21 + 1))), (0, .ref f)]) hx hb dME_proper_18 hl rfl (by decide) rfl (by decide) rfl (fun ls hl => ?_)
      refine lv_goto (tgt := 2) hx hb dME_proper_21 (by decide) ?_
      exact ih21 (i21 + 1) s22 pl ls H locs (by omega) hF hR (lv_sub hl [0, 1] rfl) hO hP hD hS
  exact lp21 256 0 s pl ls _ _ (by omega) hF hR (lv_sub hl [0, 1] rfl) hO hP hD hS
def M_ME_write_1 (pt : Nat) (k : Nat) : Prop := k = pt ∨ (0 : Nat) = 1
noncomputable def F_ME_write_1_L0 (pf : Nat) (pt : Nat) (n : Nat) (at_ : Nat) : Nat → Nat → Sto → Sto
  | 0, i21, s21 => s21
  | n21 + 1, i21, s21 => bnd (F_M_pack pt n ((8 * at_) + (1 * i21)) 1 (s21.1 pf i21) s21) fun s22 => F_ME_write_1_L0 pf pt n at_ n21 (i21 + 1) s22
noncomputable def F_ME_write_1 (pf : Nat) (pt : Nat) (n : Nat) (at_ : Nat) (s : Sto) : Sto := F_ME_write_1_L0 pf pt n at_ 256 0 s
set_option maxHeartbeats 8000000 in
set_option maxRecDepth 100000 in
theorem N_ME_write_1 (l : Launch) (g : Gd) (sz : Nat) (T : TyN) (s : Sto) (pl : va_W) (hO : okn g T s pl) (hU : inj T) (f to : Nat) (pf : Nat) (pt : Nat) (n : Nat) (at_ : Nat) (k_f : T f = some pf) (n_f : nsp pf = (0, 256, [])) (k_to : T to = some pt) (n_to : nsp pt = (1, n, [])) (h1 : at_ + 32 ≤ n) (h2 : n < 65536)  : Met l y_ME_write w_ME_write ({ frames := 1, cells := 0, slots := 0, locals := 26 } : Room) (va_Pc [.ref f, .ref to, .int (nI at_), .int (nI 1)] (pr (en g) g.1 vcl sz ([] ++ pl))) (va_Qv (fun (u : (Sto) × va_W) => (u.1 = F_ME_write_1 pf pt n at_ s ∧ frm (M_ME_write_1 pt) s u.1 ∧ True) ∧ okn g T u.1 u.2) (po g.1 vcl (va_A ([] ++ pl) sz) (fun (u : (Sto) × va_W) => [] ++ u.2)) (va_A ([] ++ pl) sz)) 0 0 (va_A ([] ++ pl) sz) := by
  refine mc_entry (cc := c_ME_write) (maxL := 5) (ret := none) (by decide) rfl (Nat.le_of_ble_eq_true rfl) ?_
  intro p e s0 m args below meth c ls F hr hlk hnm hsz hP hD hE hA hl
  obtain ⟨hx, hb, hml, hown, hts⟩ := id F
  have hK := hE.1
  generalize va_A ([] ++ pl) sz = A at hD hE hA ⊢
  have hS : va_S A s0.heap s0.heap [] := va_S.rf
  have hl : lv_has ls 5 [(0, .ref f), (1, .ref to), (2, .int (nI at_)), (3, .int (nI 1))] := hl
  have hR : F_ME_write_1 pf pt n at_ s = F_ME_write_1 pf pt n at_ s := rfl
  have hF : frm (M_ME_write_1 pt) s s := frm_rf
  refine lv_iconst (v := nI 0) hx hb dME_write_0 (by decide) ?_
  refine lv_istore (lv' := [(4, .int (nI 0)), (0, .ref f), (1, .ref to), (2, .int (nI at_)), (3, .int (nI 1))]) hx hb dME_write_1 hl (by decide) rfl (fun ls hl => ?_)
  have lp21 : ∀ (n21 : Nat) (i21 : Nat) (s21 : Sto) (pl : va_W) (ls : Array Slot) (H : Heap) (locs : List Loc), n21 + i21 = 256 → frm (M_ME_write_1 pt) s s21 → F_ME_write_1 pf pt n at_ s = F_ME_write_1_L0 pf pt n at_ n21 i21 s21 → lv_has ls 5 [(4, .int (nI i21)), (0, .ref f), (1, .ref to), (2, .int (nI at_)), (3, .int (nI 1))] → okn g T s21 pl → va_P g.1 vcl ([] ++ pl) H → va_D A ([] ++ pl) → va_S A s0.heap H locs → W p l e ({ frames := 1, cells := 0, slots := 0, locals := 26 } : Room) s0 m args below meth c H locs 0 0 (MQ below (va_Qv (fun (u : (Sto) × va_W) => (u.1 = F_ME_write_1 pf pt n at_ s ∧ frm (M_ME_write_1 pt) s u.1 ∧ True) ∧ okn g T u.1 u.2) (po g.1 vcl A (fun (u : (Sto) × va_W) => [] ++ u.2)) A) args s0 0 0 A) (F0 m 3 ls []) := by
    intro n21
    induction n21 with
    | zero =>
      intro i21 s21 pl ls H locs hm21 hF hR hl hO hP hD hS
      refine lv_iload hx hb dME_write_3 (lv_at hl 0 rfl) ?_
      refine lv_sipush (v := nI 256) hx hb dME_write_5 (by decide) ?_
      refine mi_ge (tgt := 35) hx hb dME_write_8 (by decide) (by omega) (by omega) (fun h21 => ?_) (fun h21 => absurd h21 (by omega))
      exact mp_vret hx hb hr hlk hP hD hS (s21, pl) ⟨⟨hR.symm, hF, trivial⟩, hO⟩ [] rfl rfl rfl (by omega) (by omega) dME_write_35
    | succ n21 ih21 =>
      intro i21 s21 pl ls H locs hm21 hF hR hl hO hP hD hS
      refine lv_iload hx hb dME_write_3 (lv_at hl 0 rfl) ?_
      refine lv_sipush (v := nI 256) hx hb dME_write_5 (by decide) ?_
      refine mi_ge (tgt := 35) hx hb dME_write_8 (by decide) (by omega) (by omega) (fun h22 => absurd h22 (by omega)) (fun h22 => ?_)
      refine lv_aload_n hx hb dME_write_11 rfl (lv_at hl 2 rfl) ?_
      refine lv_bipush (v := nI 8) hx hb dME_write_12 (by decide) ?_
      refine lv_iload_n hx hb dME_write_14 rfl (lv_at hl 3 rfl) ?_
      refine mi_imul hx hb dME_write_15 ?_
      refine lv_iload_n hx hb dME_write_16 rfl (lv_at hl 4 rfl) ?_
      refine lv_iload hx hb dME_write_17 (lv_at hl 0 rfl) ?_
      refine mi_imul hx hb dME_write_19 ?_
      refine mi_iadd hx hb dME_write_20 ?_
      refine lv_iload_n hx hb dME_write_21 rfl (lv_at hl 4 rfl) ?_
      refine lv_aload_n hx hb dME_write_22 rfl (lv_at hl 1 rfl) ?_
      refine lv_iload hx hb dME_write_23 (lv_at hl 0 rfl) ?_
      refine nw_iald hx hb hK hO k_f (k := pf) n_f hP (by omega) (by omega) dME_write_25 ?_
      refine mp_v (cx := []) (wr := []) hP hD hS hA [] [] rfl rfl rfl (by decide) (va_runSN (As := [.ref to, .int (nI ((8 * at_) + (1 * i21))), .int (nI 1), .int ((s21.1 pf i21))]) (rest := []) F (N_M_pack l g _ T s21 pl hO hU to pt n ((8 * at_) + (1 * i21)) 1 (s21.1 pf i21) k_to n_to (by omega) (by omega)) ⟨va_cnB 4 hts (wg_in kw_1690) rfl rfl rfl (hE.2.2.2.2.2.2.2.2.1) (hts _ (wg_t kw_9)) (by decide +kernel) ⟨by decide, by decide⟩, hts _ (wg_t kw_1689), trivial⟩ (pp_S (en_ok g) hP hD hS hA hE [] rfl rfl) rfl rfl hl.1 rfl (lv_room (Nat.le_of_ble_eq_true rfl)) dME_write_26 ⟨by omega, by omega⟩) (fun  u21 H locs hu21 hP hD hS => ?_)
      obtain ⟨s22, pl⟩ := u21
      obtain ⟨⟨eq21, hFc21, -⟩, hO⟩ := hu21
      have hO : okn g T s22 pl := hO
      have hP : va_P g.1 vcl ([] ++ pl) _ := hP
      have hD : va_D _ ([] ++ pl) := hD
      have hFc21 : frm (M_M_pack pt) s21 s22 := hFc21
      replace hR := bnd_step hR eq21
      have hF := frm_tr hF hFc21 (fun k hk => by unfold M_M_pack at hk; unfold M_ME_write_1; omega)
      refine W.widen (k := 0) (n := 0) (by omega) (by omega) ?_
      refine mi_iinc (k := 0) (x := i21) (d := 1) (y := i21 + 1) (lv' := [(4, .int (nI (i21 + 1))), (0, .ref f), (1, .ref to), (2, .int (nI at_)), (3, .int (nI 1))]) hx hb dME_write_29 hl rfl (by decide) rfl (by decide) rfl (fun ls hl => ?_)
      refine lv_goto (tgt := 3) hx hb dME_write_32 (by decide) ?_
      exact ih21 (i21 + 1) s22 pl ls H locs (by omega) hF hR (lv_sub hl [0, 1, 2, 3, 4] rfl) hO hP hD hS
  exact lp21 256 0 s pl ls _ _ (by omega) hF hR (lv_sub hl [0, 1, 2, 3, 4] rfl) hO hP hD hS
def M_ME_write_4 (pt : Nat) (k : Nat) : Prop := k = pt ∨ (0 : Nat) = 1
noncomputable def F_ME_write_4_L0 (pf : Nat) (pt : Nat) (n : Nat) (at_ : Nat) : Nat → Nat → Sto → Sto
  | 0, i21, s21 => s21
  | n21 + 1, i21, s21 => bnd (F_M_pack pt n ((8 * at_) + (4 * i21)) 4 (s21.1 pf i21) s21) fun s22 => F_ME_write_4_L0 pf pt n at_ n21 (i21 + 1) s22
noncomputable def F_ME_write_4 (pf : Nat) (pt : Nat) (n : Nat) (at_ : Nat) (s : Sto) : Sto := F_ME_write_4_L0 pf pt n at_ 256 0 s
set_option maxHeartbeats 8000000 in
set_option maxRecDepth 100000 in
theorem N_ME_write_4 (l : Launch) (g : Gd) (sz : Nat) (T : TyN) (s : Sto) (pl : va_W) (hO : okn g T s pl) (hU : inj T) (f to : Nat) (pf : Nat) (pt : Nat) (n : Nat) (at_ : Nat) (k_f : T f = some pf) (n_f : nsp pf = (0, 256, [])) (k_to : T to = some pt) (n_to : nsp pt = (1, n, [])) (h1 : at_ + 128 ≤ n) (h2 : n < 65536)  : Met l y_ME_write w_ME_write ({ frames := 1, cells := 0, slots := 0, locals := 26 } : Room) (va_Pc [.ref f, .ref to, .int (nI at_), .int (nI 4)] (pr (en g) g.1 vcl sz ([] ++ pl))) (va_Qv (fun (u : (Sto) × va_W) => (u.1 = F_ME_write_4 pf pt n at_ s ∧ frm (M_ME_write_4 pt) s u.1 ∧ True) ∧ okn g T u.1 u.2) (po g.1 vcl (va_A ([] ++ pl) sz) (fun (u : (Sto) × va_W) => [] ++ u.2)) (va_A ([] ++ pl) sz)) 0 0 (va_A ([] ++ pl) sz) := by
  refine mc_entry (cc := c_ME_write) (maxL := 5) (ret := none) (by decide) rfl (Nat.le_of_ble_eq_true rfl) ?_
  intro p e s0 m args below meth c ls F hr hlk hnm hsz hP hD hE hA hl
  obtain ⟨hx, hb, hml, hown, hts⟩ := id F
  have hK := hE.1
  generalize va_A ([] ++ pl) sz = A at hD hE hA ⊢
  have hS : va_S A s0.heap s0.heap [] := va_S.rf
  have hl : lv_has ls 5 [(0, .ref f), (1, .ref to), (2, .int (nI at_)), (3, .int (nI 4))] := hl
  have hR : F_ME_write_4 pf pt n at_ s = F_ME_write_4 pf pt n at_ s := rfl
  have hF : frm (M_ME_write_4 pt) s s := frm_rf
  refine lv_iconst (v := nI 0) hx hb dME_write_0 (by decide) ?_
  refine lv_istore (lv' := [(4, .int (nI 0)), (0, .ref f), (1, .ref to), (2, .int (nI at_)), (3, .int (nI 4))]) hx hb dME_write_1 hl (by decide) rfl (fun ls hl => ?_)
  have lp21 : ∀ (n21 : Nat) (i21 : Nat) (s21 : Sto) (pl : va_W) (ls : Array Slot) (H : Heap) (locs : List Loc), n21 + i21 = 256 → frm (M_ME_write_4 pt) s s21 → F_ME_write_4 pf pt n at_ s = F_ME_write_4_L0 pf pt n at_ n21 i21 s21 → lv_has ls 5 [(4, .int (nI i21)), (0, .ref f), (1, .ref to), (2, .int (nI at_)), (3, .int (nI 4))] → okn g T s21 pl → va_P g.1 vcl ([] ++ pl) H → va_D A ([] ++ pl) → va_S A s0.heap H locs → W p l e ({ frames := 1, cells := 0, slots := 0, locals := 26 } : Room) s0 m args below meth c H locs 0 0 (MQ below (va_Qv (fun (u : (Sto) × va_W) => (u.1 = F_ME_write_4 pf pt n at_ s ∧ frm (M_ME_write_4 pt) s u.1 ∧ True) ∧ okn g T u.1 u.2) (po g.1 vcl A (fun (u : (Sto) × va_W) => [] ++ u.2)) A) args s0 0 0 A) (F0 m 3 ls []) := by
    intro n21
    induction n21 with
    | zero =>
      intro i21 s21 pl ls H locs hm21 hF hR hl hO hP hD hS
      refine lv_iload hx hb dME_write_3 (lv_at hl 0 rfl) ?_
      refine lv_sipush (v := nI 256) hx hb dME_write_5 (by decide) ?_
      refine mi_ge (tgt := 35) hx hb dME_write_8 (by decide) (by omega) (by omega) (fun h21 => ?_) (fun h21 => absurd h21 (by omega))
      exact mp_vret hx hb hr hlk hP hD hS (s21, pl) ⟨⟨hR.symm, hF, trivial⟩, hO⟩ [] rfl rfl rfl (by omega) (by omega) dME_write_35
    | succ n21 ih21 =>
      intro i21 s21 pl ls H locs hm21 hF hR hl hO hP hD hS
      refine lv_iload hx hb dME_write_3 (lv_at hl 0 rfl) ?_
      refine lv_sipush (v := nI 256) hx hb dME_write_5 (by decide) ?_
      refine mi_ge (tgt := 35) hx hb dME_write_8 (by decide) (by omega) (by omega) (fun h22 => absurd h22 (by omega)) (fun h22 => ?_)
      refine lv_aload_n hx hb dME_write_11 rfl (lv_at hl 2 rfl) ?_
      refine lv_bipush (v := nI 8) hx hb dME_write_12 (by decide) ?_
      refine lv_iload_n hx hb dME_write_14 rfl (lv_at hl 3 rfl) ?_
      refine mi_imul hx hb dME_write_15 ?_
      refine lv_iload_n hx hb dME_write_16 rfl (lv_at hl 4 rfl) ?_
      refine lv_iload hx hb dME_write_17 (lv_at hl 0 rfl) ?_
      refine mi_imul hx hb dME_write_19 ?_
      refine mi_iadd hx hb dME_write_20 ?_
      refine lv_iload_n hx hb dME_write_21 rfl (lv_at hl 4 rfl) ?_
      refine lv_aload_n hx hb dME_write_22 rfl (lv_at hl 1 rfl) ?_
      refine lv_iload hx hb dME_write_23 (lv_at hl 0 rfl) ?_
      refine nw_iald hx hb hK hO k_f (k := pf) n_f hP (by omega) (by omega) dME_write_25 ?_
      refine mp_v (cx := []) (wr := []) hP hD hS hA [] [] rfl rfl rfl (by decide) (va_runSN (As := [.ref to, .int (nI ((8 * at_) + (4 * i21))), .int (nI 4), .int ((s21.1 pf i21))]) (rest := []) F (N_M_pack l g _ T s21 pl hO hU to pt n ((8 * at_) + (4 * i21)) 4 (s21.1 pf i21) k_to n_to (by omega) (by omega)) ⟨va_cnB 4 hts (wg_in kw_1690) rfl rfl rfl (hE.2.2.2.2.2.2.2.2.1) (hts _ (wg_t kw_9)) (by decide +kernel) ⟨by decide, by decide⟩, hts _ (wg_t kw_1689), trivial⟩ (pp_S (en_ok g) hP hD hS hA hE [] rfl rfl) rfl rfl hl.1 rfl (lv_room (Nat.le_of_ble_eq_true rfl)) dME_write_26 ⟨by omega, by omega⟩) (fun  u21 H locs hu21 hP hD hS => ?_)
      obtain ⟨s22, pl⟩ := u21
      obtain ⟨⟨eq21, hFc21, -⟩, hO⟩ := hu21
      have hO : okn g T s22 pl := hO
      have hP : va_P g.1 vcl ([] ++ pl) _ := hP
      have hD : va_D _ ([] ++ pl) := hD
      have hFc21 : frm (M_M_pack pt) s21 s22 := hFc21
      replace hR := bnd_step hR eq21
      have hF := frm_tr hF hFc21 (fun k hk => by unfold M_M_pack at hk; unfold M_ME_write_4; omega)
      refine W.widen (k := 0) (n := 0) (by omega) (by omega) ?_
      refine mi_iinc (k := 0) (x := i21) (d := 1) (y := i21 + 1) (lv' := [(4, .int (nI (i21 + 1))), (0, .ref f), (1, .ref to), (2, .int (nI at_)), (3, .int (nI 4))]) hx hb dME_write_29 hl rfl (by decide) rfl (by decide) rfl (fun ls hl => ?_)
      refine lv_goto (tgt := 3) hx hb dME_write_32 (by decide) ?_
      exact ih21 (i21 + 1) s22 pl ls H locs (by omega) hF hR (lv_sub hl [0, 1, 2, 3, 4] rfl) hO hP hD hS
  exact lp21 256 0 s pl ls _ _ (by omega) hF hR (lv_sub hl [0, 1, 2, 3, 4] rfl) hO hP hD hS
def M_ME_write_5 (pt : Nat) (k : Nat) : Prop := k = pt ∨ (0 : Nat) = 1
noncomputable def F_ME_write_5_L0 (pf : Nat) (pt : Nat) (n : Nat) (at_ : Nat) : Nat → Nat → Sto → Sto
  | 0, i21, s21 => s21
  | n21 + 1, i21, s21 => bnd (F_M_pack pt n ((8 * at_) + (5 * i21)) 5 (s21.1 pf i21) s21) fun s22 => F_ME_write_5_L0 pf pt n at_ n21 (i21 + 1) s22
noncomputable def F_ME_write_5 (pf : Nat) (pt : Nat) (n : Nat) (at_ : Nat) (s : Sto) : Sto := F_ME_write_5_L0 pf pt n at_ 256 0 s
set_option maxHeartbeats 8000000 in
set_option maxRecDepth 100000 in
theorem N_ME_write_5 (l : Launch) (g : Gd) (sz : Nat) (T : TyN) (s : Sto) (pl : va_W) (hO : okn g T s pl) (hU : inj T) (f to : Nat) (pf : Nat) (pt : Nat) (n : Nat) (at_ : Nat) (k_f : T f = some pf) (n_f : nsp pf = (0, 256, [])) (k_to : T to = some pt) (n_to : nsp pt = (1, n, [])) (h1 : at_ + 160 ≤ n) (h2 : n < 65536)  : Met l y_ME_write w_ME_write ({ frames := 1, cells := 0, slots := 0, locals := 26 } : Room) (va_Pc [.ref f, .ref to, .int (nI at_), .int (nI 5)] (pr (en g) g.1 vcl sz ([] ++ pl))) (va_Qv (fun (u : (Sto) × va_W) => (u.1 = F_ME_write_5 pf pt n at_ s ∧ frm (M_ME_write_5 pt) s u.1 ∧ True) ∧ okn g T u.1 u.2) (po g.1 vcl (va_A ([] ++ pl) sz) (fun (u : (Sto) × va_W) => [] ++ u.2)) (va_A ([] ++ pl) sz)) 0 0 (va_A ([] ++ pl) sz) := by
  refine mc_entry (cc := c_ME_write) (maxL := 5) (ret := none) (by decide) rfl (Nat.le_of_ble_eq_true rfl) ?_
  intro p e s0 m args below meth c ls F hr hlk hnm hsz hP hD hE hA hl
  obtain ⟨hx, hb, hml, hown, hts⟩ := id F
  have hK := hE.1
  generalize va_A ([] ++ pl) sz = A at hD hE hA ⊢
  have hS : va_S A s0.heap s0.heap [] := va_S.rf
  have hl : lv_has ls 5 [(0, .ref f), (1, .ref to), (2, .int (nI at_)), (3, .int (nI 5))] := hl
  have hR : F_ME_write_5 pf pt n at_ s = F_ME_write_5 pf pt n at_ s := rfl
  have hF : frm (M_ME_write_5 pt) s s := frm_rf
  refine lv_iconst (v := nI 0) hx hb dME_write_0 (by decide) ?_
  refine lv_istore (lv' := [(4, .int (nI 0)), (0, .ref f), (1, .ref to), (2, .int (nI at_)), (3, .int (nI 5))]) hx hb dME_write_1 hl (by decide) rfl (fun ls hl => ?_)
  have lp21 : ∀ (n21 : Nat) (i21 : Nat) (s21 : Sto) (pl : va_W) (ls : Array Slot) (H : Heap) (locs : List Loc), n21 + i21 = 256 → frm (M_ME_write_5 pt) s s21 → F_ME_write_5 pf pt n at_ s = F_ME_write_5_L0 pf pt n at_ n21 i21 s21 → lv_has ls 5 [(4, .int (nI i21)), (0, .ref f), (1, .ref to), (2, .int (nI at_)), (3, .int (nI 5))] → okn g T s21 pl → va_P g.1 vcl ([] ++ pl) H → va_D A ([] ++ pl) → va_S A s0.heap H locs → W p l e ({ frames := 1, cells := 0, slots := 0, locals := 26 } : Room) s0 m args below meth c H locs 0 0 (MQ below (va_Qv (fun (u : (Sto) × va_W) => (u.1 = F_ME_write_5 pf pt n at_ s ∧ frm (M_ME_write_5 pt) s u.1 ∧ True) ∧ okn g T u.1 u.2) (po g.1 vcl A (fun (u : (Sto) × va_W) => [] ++ u.2)) A) args s0 0 0 A) (F0 m 3 ls []) := by
    intro n21
    induction n21 with
    | zero =>
      intro i21 s21 pl ls H locs hm21 hF hR hl hO hP hD hS
      refine lv_iload hx hb dME_write_3 (lv_at hl 0 rfl) ?_
      refine lv_sipush (v := nI 256) hx hb dME_write_5 (by decide) ?_
      refine mi_ge (tgt := 35) hx hb dME_write_8 (by decide) (by omega) (by omega) (fun h21 => ?_) (fun h21 => absurd h21 (by omega))
      exact mp_vret hx hb hr hlk hP hD hS (s21, pl) ⟨⟨hR.symm, hF, trivial⟩, hO⟩ [] rfl rfl rfl (by omega) (by omega) dME_write_35
    | succ n21 ih21 =>
      intro i21 s21 pl ls H locs hm21 hF hR hl hO hP hD hS
      refine lv_iload hx hb dME_write_3 (lv_at hl 0 rfl) ?_
      refine lv_sipush (v := nI 256) hx hb dME_write_5 (by decide) ?_
      refine mi_ge (tgt := 35) hx hb dME_write_8 (by decide) (by omega) (by omega) (fun h22 => absurd h22 (by omega)) (fun h22 => ?_)
      refine lv_aload_n hx hb dME_write_11 rfl (lv_at hl 2 rfl) ?_
      refine lv_bipush (v := nI 8) hx hb dME_write_12 (by decide) ?_
      refine lv_iload_n hx hb dME_write_14 rfl (lv_at hl 3 rfl) ?_
      refine mi_imul hx hb dME_write_15 ?_
      refine lv_iload_n hx hb dME_write_16 rfl (lv_at hl 4 rfl) ?_
      refine lv_iload hx hb dME_write_17 (lv_at hl 0 rfl) ?_
      refine mi_imul hx hb dME_write_19 ?_
      refine mi_iadd hx hb dME_write_20 ?_
      refine lv_iload_n hx hb dME_write_21 rfl (lv_at hl 4 rfl) ?_
      refine lv_aload_n hx hb dME_write_22 rfl (lv_at hl 1 rfl) ?_
      refine lv_iload hx hb dME_write_23 (lv_at hl 0 rfl) ?_
      refine nw_iald hx hb hK hO k_f (k := pf) n_f hP (by omega) (by omega) dME_write_25 ?_
      refine mp_v (cx := []) (wr := []) hP hD hS hA [] [] rfl rfl rfl (by decide) (va_runSN (As := [.ref to, .int (nI ((8 * at_) + (5 * i21))), .int (nI 5), .int ((s21.1 pf i21))]) (rest := []) F (N_M_pack l g _ T s21 pl hO hU to pt n ((8 * at_) + (5 * i21)) 5 (s21.1 pf i21) k_to n_to (by omega) (by omega)) ⟨va_cnB 4 hts (wg_in kw_1690) rfl rfl rfl (hE.2.2.2.2.2.2.2.2.1) (hts _ (wg_t kw_9)) (by decide +kernel) ⟨by decide, by decide⟩, hts _ (wg_t kw_1689), trivial⟩ (pp_S (en_ok g) hP hD hS hA hE [] rfl rfl) rfl rfl hl.1 rfl (lv_room (Nat.le_of_ble_eq_true rfl)) dME_write_26 ⟨by omega, by omega⟩) (fun  u21 H locs hu21 hP hD hS => ?_)
      obtain ⟨s22, pl⟩ := u21
      obtain ⟨⟨eq21, hFc21, -⟩, hO⟩ := hu21
      have hO : okn g T s22 pl := hO
      have hP : va_P g.1 vcl ([] ++ pl) _ := hP
      have hD : va_D _ ([] ++ pl) := hD
      have hFc21 : frm (M_M_pack pt) s21 s22 := hFc21
      replace hR := bnd_step hR eq21
      have hF := frm_tr hF hFc21 (fun k hk => by unfold M_M_pack at hk; unfold M_ME_write_5; omega)
      refine W.widen (k := 0) (n := 0) (by omega) (by omega) ?_
      refine mi_iinc (k := 0) (x := i21) (d := 1) (y := i21 + 1) (lv' := [(4, .int (nI (i21 + 1))), (0, .ref f), (1, .ref to), (2, .int (nI at_)), (3, .int (nI 5))]) hx hb dME_write_29 hl rfl (by decide) rfl (by decide) rfl (fun ls hl => ?_)
      refine lv_goto (tgt := 3) hx hb dME_write_32 (by decide) ?_
      exact ih21 (i21 + 1) s22 pl ls H locs (by omega) hF hR (lv_sub hl [0, 1, 2, 3, 4] rfl) hO hP hD hS
  exact lp21 256 0 s pl ls _ _ (by omega) hF hR (lv_sub hl [0, 1, 2, 3, 4] rfl) hO hP hD hS
def M_ME_write_10 (pt : Nat) (k : Nat) : Prop := k = pt ∨ (0 : Nat) = 1
noncomputable def F_ME_write_10_L0 (pf : Nat) (pt : Nat) (n : Nat) (at_ : Nat) : Nat → Nat → Sto → Sto
  | 0, i21, s21 => s21
  | n21 + 1, i21, s21 => bnd (F_M_pack pt n ((8 * at_) + (10 * i21)) 10 (s21.1 pf i21) s21) fun s22 => F_ME_write_10_L0 pf pt n at_ n21 (i21 + 1) s22
noncomputable def F_ME_write_10 (pf : Nat) (pt : Nat) (n : Nat) (at_ : Nat) (s : Sto) : Sto := F_ME_write_10_L0 pf pt n at_ 256 0 s
set_option maxHeartbeats 8000000 in
set_option maxRecDepth 100000 in
theorem N_ME_write_10 (l : Launch) (g : Gd) (sz : Nat) (T : TyN) (s : Sto) (pl : va_W) (hO : okn g T s pl) (hU : inj T) (f to : Nat) (pf : Nat) (pt : Nat) (n : Nat) (at_ : Nat) (k_f : T f = some pf) (n_f : nsp pf = (0, 256, [])) (k_to : T to = some pt) (n_to : nsp pt = (1, n, [])) (h1 : at_ + 320 ≤ n) (h2 : n < 65536)  : Met l y_ME_write w_ME_write ({ frames := 1, cells := 0, slots := 0, locals := 26 } : Room) (va_Pc [.ref f, .ref to, .int (nI at_), .int (nI 10)] (pr (en g) g.1 vcl sz ([] ++ pl))) (va_Qv (fun (u : (Sto) × va_W) => (u.1 = F_ME_write_10 pf pt n at_ s ∧ frm (M_ME_write_10 pt) s u.1 ∧ True) ∧ okn g T u.1 u.2) (po g.1 vcl (va_A ([] ++ pl) sz) (fun (u : (Sto) × va_W) => [] ++ u.2)) (va_A ([] ++ pl) sz)) 0 0 (va_A ([] ++ pl) sz) := by
  refine mc_entry (cc := c_ME_write) (maxL := 5) (ret := none) (by decide) rfl (Nat.le_of_ble_eq_true rfl) ?_
  intro p e s0 m args below meth c ls F hr hlk hnm hsz hP hD hE hA hl
  obtain ⟨hx, hb, hml, hown, hts⟩ := id F
  have hK := hE.1
  generalize va_A ([] ++ pl) sz = A at hD hE hA ⊢
  have hS : va_S A s0.heap s0.heap [] := va_S.rf
  have hl : lv_has ls 5 [(0, .ref f), (1, .ref to), (2, .int (nI at_)), (3, .int (nI 10))] := hl
  have hR : F_ME_write_10 pf pt n at_ s = F_ME_write_10 pf pt n at_ s := rfl
  have hF : frm (M_ME_write_10 pt) s s := frm_rf
  refine lv_iconst (v := nI 0) hx hb dME_write_0 (by decide) ?_
  refine lv_istore (lv' := [(4, .int (nI 0)), (0, .ref f), (1, .ref to), (2, .int (nI at_)), (3, .int (nI 10))]) hx hb dME_write_1 hl (by decide) rfl (fun ls hl => ?_)
  have lp21 : ∀ (n21 : Nat) (i21 : Nat) (s21 : Sto) (pl : va_W) (ls : Array Slot) (H : Heap) (locs : List Loc), n21 + i21 = 256 → frm (M_ME_write_10 pt) s s21 → F_ME_write_10 pf pt n at_ s = F_ME_write_10_L0 pf pt n at_ n21 i21 s21 → lv_has ls 5 [(4, .int (nI i21)), (0, .ref f), (1, .ref to), (2, .int (nI at_)), (3, .int (nI 10))] → okn g T s21 pl → va_P g.1 vcl ([] ++ pl) H → va_D A ([] ++ pl) → va_S A s0.heap H locs → W p l e ({ frames := 1, cells := 0, slots := 0, locals := 26 } : Room) s0 m args below meth c H locs 0 0 (MQ below (va_Qv (fun (u : (Sto) × va_W) => (u.1 = F_ME_write_10 pf pt n at_ s ∧ frm (M_ME_write_10 pt) s u.1 ∧ True) ∧ okn g T u.1 u.2) (po g.1 vcl A (fun (u : (Sto) × va_W) => [] ++ u.2)) A) args s0 0 0 A) (F0 m 3 ls []) := by
    intro n21
    induction n21 with
    | zero =>
      intro i21 s21 pl ls H locs hm21 hF hR hl hO hP hD hS
      refine lv_iload hx hb dME_write_3 (lv_at hl 0 rfl) ?_
      refine lv_sipush (v := nI 256) hx hb dME_write_5 (by decide) ?_
      refine mi_ge (tgt := 35) hx hb dME_write_8 (by decide) (by omega) (by omega) (fun h21 => ?_) (fun h21 => absurd h21 (by omega))
      exact mp_vret hx hb hr hlk hP hD hS (s21, pl) ⟨⟨hR.symm, hF, trivial⟩, hO⟩ [] rfl rfl rfl (by omega) (by omega) dME_write_35
    | succ n21 ih21 =>
      intro i21 s21 pl ls H locs hm21 hF hR hl hO hP hD hS
      refine lv_iload hx hb dME_write_3 (lv_at hl 0 rfl) ?_
      refine lv_sipush (v := nI 256) hx hb dME_write_5 (by decide) ?_
      refine mi_ge (tgt := 35) hx hb dME_write_8 (by decide) (by omega) (by omega) (fun h22 => absurd h22 (by omega)) (fun h22 => ?_)
      refine lv_aload_n hx hb dME_write_11 rfl (lv_at hl 2 rfl) ?_
      refine lv_bipush (v := nI 8) hx hb dME_write_12 (by decide) ?_
      refine lv_iload_n hx hb dME_write_14 rfl (lv_at hl 3 rfl) ?_
      refine mi_imul hx hb dME_write_15 ?_
      refine lv_iload_n hx hb dME_write_16 rfl (lv_at hl 4 rfl) ?_
      refine lv_iload hx hb dME_write_17 (lv_at hl 0 rfl) ?_
      refine mi_imul hx hb dME_write_19 ?_
      refine mi_iadd hx hb dME_write_20 ?_
      refine lv_iload_n hx hb dME_write_21 rfl (lv_at hl 4 rfl) ?_
      refine lv_aload_n hx hb dME_write_22 rfl (lv_at hl 1 rfl) ?_
      refine lv_iload hx hb dME_write_23 (lv_at hl 0 rfl) ?_
      refine nw_iald hx hb hK hO k_f (k := pf) n_f hP (by omega) (by omega) dME_write_25 ?_
      refine mp_v (cx := []) (wr := []) hP hD hS hA [] [] rfl rfl rfl (by decide) (va_runSN (As := [.ref to, .int (nI ((8 * at_) + (10 * i21))), .int (nI 10), .int ((s21.1 pf i21))]) (rest := []) F (N_M_pack l g _ T s21 pl hO hU to pt n ((8 * at_) + (10 * i21)) 10 (s21.1 pf i21) k_to n_to (by omega) (by omega)) ⟨va_cnB 4 hts (wg_in kw_1690) rfl rfl rfl (hE.2.2.2.2.2.2.2.2.1) (hts _ (wg_t kw_9)) (by decide +kernel) ⟨by decide, by decide⟩, hts _ (wg_t kw_1689), trivial⟩ (pp_S (en_ok g) hP hD hS hA hE [] rfl rfl) rfl rfl hl.1 rfl (lv_room (Nat.le_of_ble_eq_true rfl)) dME_write_26 ⟨by omega, by omega⟩) (fun  u21 H locs hu21 hP hD hS => ?_)
      obtain ⟨s22, pl⟩ := u21
      obtain ⟨⟨eq21, hFc21, -⟩, hO⟩ := hu21
      have hO : okn g T s22 pl := hO
      have hP : va_P g.1 vcl ([] ++ pl) _ := hP
      have hD : va_D _ ([] ++ pl) := hD
      have hFc21 : frm (M_M_pack pt) s21 s22 := hFc21
      replace hR := bnd_step hR eq21
      have hF := frm_tr hF hFc21 (fun k hk => by unfold M_M_pack at hk; unfold M_ME_write_10; omega)
      refine W.widen (k := 0) (n := 0) (by omega) (by omega) ?_
      refine mi_iinc (k := 0) (x := i21) (d := 1) (y := i21 + 1) (lv' := [(4, .int (nI (i21 + 1))), (0, .ref f), (1, .ref to), (2, .int (nI at_)), (3, .int (nI 10))]) hx hb dME_write_29 hl rfl (by decide) rfl (by decide) rfl (fun ls hl => ?_)
      refine lv_goto (tgt := 3) hx hb dME_write_32 (by decide) ?_
      exact ih21 (i21 + 1) s22 pl ls H locs (by omega) hF hR (lv_sub hl [0, 1, 2, 3, 4] rfl) hO hP hD hS
  exact lp21 256 0 s pl ls _ _ (by omega) hF hR (lv_sub hl [0, 1, 2, 3, 4] rfl) hO hP hD hS
def M_ME_write_11 (pt : Nat) (k : Nat) : Prop := k = pt ∨ (0 : Nat) = 1
noncomputable def F_ME_write_11_L0 (pf : Nat) (pt : Nat) (n : Nat) (at_ : Nat) : Nat → Nat → Sto → Sto
  | 0, i21, s21 => s21
  | n21 + 1, i21, s21 => bnd (F_M_pack pt n ((8 * at_) + (11 * i21)) 11 (s21.1 pf i21) s21) fun s22 => F_ME_write_11_L0 pf pt n at_ n21 (i21 + 1) s22
noncomputable def F_ME_write_11 (pf : Nat) (pt : Nat) (n : Nat) (at_ : Nat) (s : Sto) : Sto := F_ME_write_11_L0 pf pt n at_ 256 0 s
set_option maxHeartbeats 8000000 in
set_option maxRecDepth 100000 in
theorem N_ME_write_11 (l : Launch) (g : Gd) (sz : Nat) (T : TyN) (s : Sto) (pl : va_W) (hO : okn g T s pl) (hU : inj T) (f to : Nat) (pf : Nat) (pt : Nat) (n : Nat) (at_ : Nat) (k_f : T f = some pf) (n_f : nsp pf = (0, 256, [])) (k_to : T to = some pt) (n_to : nsp pt = (1, n, [])) (h1 : at_ + 352 ≤ n) (h2 : n < 65536)  : Met l y_ME_write w_ME_write ({ frames := 1, cells := 0, slots := 0, locals := 26 } : Room) (va_Pc [.ref f, .ref to, .int (nI at_), .int (nI 11)] (pr (en g) g.1 vcl sz ([] ++ pl))) (va_Qv (fun (u : (Sto) × va_W) => (u.1 = F_ME_write_11 pf pt n at_ s ∧ frm (M_ME_write_11 pt) s u.1 ∧ True) ∧ okn g T u.1 u.2) (po g.1 vcl (va_A ([] ++ pl) sz) (fun (u : (Sto) × va_W) => [] ++ u.2)) (va_A ([] ++ pl) sz)) 0 0 (va_A ([] ++ pl) sz) := by
  refine mc_entry (cc := c_ME_write) (maxL := 5) (ret := none) (by decide) rfl (Nat.le_of_ble_eq_true rfl) ?_
  intro p e s0 m args below meth c ls F hr hlk hnm hsz hP hD hE hA hl
  obtain ⟨hx, hb, hml, hown, hts⟩ := id F
  have hK := hE.1
  generalize va_A ([] ++ pl) sz = A at hD hE hA ⊢
  have hS : va_S A s0.heap s0.heap [] := va_S.rf
  have hl : lv_has ls 5 [(0, .ref f), (1, .ref to), (2, .int (nI at_)), (3, .int (nI 11))] := hl
  have hR : F_ME_write_11 pf pt n at_ s = F_ME_write_11 pf pt n at_ s := rfl
  have hF : frm (M_ME_write_11 pt) s s := frm_rf
  refine lv_iconst (v := nI 0) hx hb dME_write_0 (by decide) ?_
  refine lv_istore (lv' := [(4, .int (nI 0)), (0, .ref f), (1, .ref to), (2, .int (nI at_)), (3, .int (nI 11))]) hx hb dME_write_1 hl (by decide) rfl (fun ls hl => ?_)
  have lp21 : ∀ (n21 : Nat) (i21 : Nat) (s21 : Sto) (pl : va_W) (ls : Array Slot) (H : Heap) (locs : List Loc), n21 + i21 = 256 → frm (M_ME_write_11 pt) s s21 → F_ME_write_11 pf pt n at_ s = F_ME_write_11_L0 pf pt n at_ n21 i21 s21 → lv_has ls 5 [(4, .int (nI i21)), (0, .ref f), (1, .ref to), (2, .int (nI at_)), (3, .int (nI 11))] → okn g T s21 pl → va_P g.1 vcl ([] ++ pl) H → va_D A ([] ++ pl) → va_S A s0.heap H locs → W p l e ({ frames := 1, cells := 0, slots := 0, locals := 26 } : Room) s0 m args below meth c H locs 0 0 (MQ below (va_Qv (fun (u : (Sto) × va_W) => (u.1 = F_ME_write_11 pf pt n at_ s ∧ frm (M_ME_write_11 pt) s u.1 ∧ True) ∧ okn g T u.1 u.2) (po g.1 vcl A (fun (u : (Sto) × va_W) => [] ++ u.2)) A) args s0 0 0 A) (F0 m 3 ls []) := by
    intro n21
    induction n21 with
    | zero =>
      intro i21 s21 pl ls H locs hm21 hF hR hl hO hP hD hS
      refine lv_iload hx hb dME_write_3 (lv_at hl 0 rfl) ?_
      refine lv_sipush (v := nI 256) hx hb dME_write_5 (by decide) ?_
      refine mi_ge (tgt := 35) hx hb dME_write_8 (by decide) (by omega) (by omega) (fun h21 => ?_) (fun h21 => absurd h21 (by omega))
      exact mp_vret hx hb hr hlk hP hD hS (s21, pl) ⟨⟨hR.symm, hF, trivial⟩, hO⟩ [] rfl rfl rfl (by omega) (by omega) dME_write_35
    | succ n21 ih21 =>
      intro i21 s21 pl ls H locs hm21 hF hR hl hO hP hD hS
      refine lv_iload hx hb dME_write_3 (lv_at hl 0 rfl) ?_
      refine lv_sipush (v := nI 256) hx hb dME_write_5 (by decide) ?_
      refine mi_ge (tgt := 35) hx hb dME_write_8 (by decide) (by omega) (by omega) (fun h22 => absurd h22 (by omega)) (fun h22 => ?_)
      refine lv_aload_n hx hb dME_write_11 rfl (lv_at hl 2 rfl) ?_
      refine lv_bipush (v := nI 8) hx hb dME_write_12 (by decide) ?_
      refine lv_iload_n hx hb dME_write_14 rfl (lv_at hl 3 rfl) ?_
      refine mi_imul hx hb dME_write_15 ?_
      refine lv_iload_n hx hb dME_write_16 rfl (lv_at hl 4 rfl) ?_
      refine lv_iload hx hb dME_write_17 (lv_at hl 0 rfl) ?_
      refine mi_imul hx hb dME_write_19 ?_
      refine mi_iadd hx hb dME_write_20 ?_
      refine lv_iload_n hx hb dME_write_21 rfl (lv_at hl 4 rfl) ?_
      refine lv_aload_n hx hb dME_write_22 rfl (lv_at hl 1 rfl) ?_
      refine lv_iload hx hb dME_write_23 (lv_at hl 0 rfl) ?_
      refine nw_iald hx hb hK hO k_f (k := pf) n_f hP (by omega) (by omega) dME_write_25 ?_
      refine mp_v (cx := []) (wr := []) hP hD hS hA [] [] rfl rfl rfl (by decide) (va_runSN (As := [.ref to, .int (nI ((8 * at_) + (11 * i21))), .int (nI 11), .int ((s21.1 pf i21))]) (rest := []) F (N_M_pack l g _ T s21 pl hO hU to pt n ((8 * at_) + (11 * i21)) 11 (s21.1 pf i21) k_to n_to (by omega) (by omega)) ⟨va_cnB 4 hts (wg_in kw_1690) rfl rfl rfl (hE.2.2.2.2.2.2.2.2.1) (hts _ (wg_t kw_9)) (by decide +kernel) ⟨by decide, by decide⟩, hts _ (wg_t kw_1689), trivial⟩ (pp_S (en_ok g) hP hD hS hA hE [] rfl rfl) rfl rfl hl.1 rfl (lv_room (Nat.le_of_ble_eq_true rfl)) dME_write_26 ⟨by omega, by omega⟩) (fun  u21 H locs hu21 hP hD hS => ?_)
      obtain ⟨s22, pl⟩ := u21
      obtain ⟨⟨eq21, hFc21, -⟩, hO⟩ := hu21
      have hO : okn g T s22 pl := hO
      have hP : va_P g.1 vcl ([] ++ pl) _ := hP
      have hD : va_D _ ([] ++ pl) := hD
      have hFc21 : frm (M_M_pack pt) s21 s22 := hFc21
      replace hR := bnd_step hR eq21
      have hF := frm_tr hF hFc21 (fun k hk => by unfold M_M_pack at hk; unfold M_ME_write_11; omega)
      refine W.widen (k := 0) (n := 0) (by omega) (by omega) ?_
      refine mi_iinc (k := 0) (x := i21) (d := 1) (y := i21 + 1) (lv' := [(4, .int (nI (i21 + 1))), (0, .ref f), (1, .ref to), (2, .int (nI at_)), (3, .int (nI 11))]) hx hb dME_write_29 hl rfl (by decide) rfl (by decide) rfl (fun ls hl => ?_)
      refine lv_goto (tgt := 3) hx hb dME_write_32 (by decide) ?_
      exact ih21 (i21 + 1) s22 pl ls H locs (by omega) hF hR (lv_sub hl [0, 1, 2, 3, 4] rfl) hO hP hD hS
  exact lp21 256 0 s pl ls _ _ (by omega) hF hR (lv_sub hl [0, 1, 2, 3, 4] rfl) hO hP hD hS
def M_ME_write_12 (pt : Nat) (k : Nat) : Prop := k = pt ∨ (0 : Nat) = 1
noncomputable def F_ME_write_12_L0 (pf : Nat) (pt : Nat) (n : Nat) (at_ : Nat) : Nat → Nat → Sto → Sto
  | 0, i21, s21 => s21
  | n21 + 1, i21, s21 => bnd (F_M_pack pt n ((8 * at_) + (12 * i21)) 12 (s21.1 pf i21) s21) fun s22 => F_ME_write_12_L0 pf pt n at_ n21 (i21 + 1) s22
noncomputable def F_ME_write_12 (pf : Nat) (pt : Nat) (n : Nat) (at_ : Nat) (s : Sto) : Sto := F_ME_write_12_L0 pf pt n at_ 256 0 s
set_option maxHeartbeats 8000000 in
set_option maxRecDepth 100000 in
theorem N_ME_write_12 (l : Launch) (g : Gd) (sz : Nat) (T : TyN) (s : Sto) (pl : va_W) (hO : okn g T s pl) (hU : inj T) (f to : Nat) (pf : Nat) (pt : Nat) (n : Nat) (at_ : Nat) (k_f : T f = some pf) (n_f : nsp pf = (0, 256, [])) (k_to : T to = some pt) (n_to : nsp pt = (1, n, [])) (h1 : at_ + 384 ≤ n) (h2 : n < 65536)  : Met l y_ME_write w_ME_write ({ frames := 1, cells := 0, slots := 0, locals := 26 } : Room) (va_Pc [.ref f, .ref to, .int (nI at_), .int (nI 12)] (pr (en g) g.1 vcl sz ([] ++ pl))) (va_Qv (fun (u : (Sto) × va_W) => (u.1 = F_ME_write_12 pf pt n at_ s ∧ frm (M_ME_write_12 pt) s u.1 ∧ True) ∧ okn g T u.1 u.2) (po g.1 vcl (va_A ([] ++ pl) sz) (fun (u : (Sto) × va_W) => [] ++ u.2)) (va_A ([] ++ pl) sz)) 0 0 (va_A ([] ++ pl) sz) := by
  refine mc_entry (cc := c_ME_write) (maxL := 5) (ret := none) (by decide) rfl (Nat.le_of_ble_eq_true rfl) ?_
  intro p e s0 m args below meth c ls F hr hlk hnm hsz hP hD hE hA hl
  obtain ⟨hx, hb, hml, hown, hts⟩ := id F
  have hK := hE.1
  generalize va_A ([] ++ pl) sz = A at hD hE hA ⊢
  have hS : va_S A s0.heap s0.heap [] := va_S.rf
  have hl : lv_has ls 5 [(0, .ref f), (1, .ref to), (2, .int (nI at_)), (3, .int (nI 12))] := hl
  have hR : F_ME_write_12 pf pt n at_ s = F_ME_write_12 pf pt n at_ s := rfl
  have hF : frm (M_ME_write_12 pt) s s := frm_rf
  refine lv_iconst (v := nI 0) hx hb dME_write_0 (by decide) ?_
  refine lv_istore (lv' := [(4, .int (nI 0)), (0, .ref f), (1, .ref to), (2, .int (nI at_)), (3, .int (nI 12))]) hx hb dME_write_1 hl (by decide) rfl (fun ls hl => ?_)
  have lp21 : ∀ (n21 : Nat) (i21 : Nat) (s21 : Sto) (pl : va_W) (ls : Array Slot) (H : Heap) (locs : List Loc), n21 + i21 = 256 → frm (M_ME_write_12 pt) s s21 → F_ME_write_12 pf pt n at_ s = F_ME_write_12_L0 pf pt n at_ n21 i21 s21 → lv_has ls 5 [(4, .int (nI i21)), (0, .ref f), (1, .ref to), (2, .int (nI at_)), (3, .int (nI 12))] → okn g T s21 pl → va_P g.1 vcl ([] ++ pl) H → va_D A ([] ++ pl) → va_S A s0.heap H locs → W p l e ({ frames := 1, cells := 0, slots := 0, locals := 26 } : Room) s0 m args below meth c H locs 0 0 (MQ below (va_Qv (fun (u : (Sto) × va_W) => (u.1 = F_ME_write_12 pf pt n at_ s ∧ frm (M_ME_write_12 pt) s u.1 ∧ True) ∧ okn g T u.1 u.2) (po g.1 vcl A (fun (u : (Sto) × va_W) => [] ++ u.2)) A) args s0 0 0 A) (F0 m 3 ls []) := by
    intro n21
    induction n21 with
    | zero =>
      intro i21 s21 pl ls H locs hm21 hF hR hl hO hP hD hS
      refine lv_iload hx hb dME_write_3 (lv_at hl 0 rfl) ?_
      refine lv_sipush (v := nI 256) hx hb dME_write_5 (by decide) ?_
      refine mi_ge (tgt := 35) hx hb dME_write_8 (by decide) (by omega) (by omega) (fun h21 => ?_) (fun h21 => absurd h21 (by omega))
      exact mp_vret hx hb hr hlk hP hD hS (s21, pl) ⟨⟨hR.symm, hF, trivial⟩, hO⟩ [] rfl rfl rfl (by omega) (by omega) dME_write_35
    | succ n21 ih21 =>
      intro i21 s21 pl ls H locs hm21 hF hR hl hO hP hD hS
      refine lv_iload hx hb dME_write_3 (lv_at hl 0 rfl) ?_
      refine lv_sipush (v := nI 256) hx hb dME_write_5 (by decide) ?_
      refine mi_ge (tgt := 35) hx hb dME_write_8 (by decide) (by omega) (by omega) (fun h22 => absurd h22 (by omega)) (fun h22 => ?_)
      refine lv_aload_n hx hb dME_write_11 rfl (lv_at hl 2 rfl) ?_
      refine lv_bipush (v := nI 8) hx hb dME_write_12 (by decide) ?_
      refine lv_iload_n hx hb dME_write_14 rfl (lv_at hl 3 rfl) ?_
      refine mi_imul hx hb dME_write_15 ?_
      refine lv_iload_n hx hb dME_write_16 rfl (lv_at hl 4 rfl) ?_
      refine lv_iload hx hb dME_write_17 (lv_at hl 0 rfl) ?_
      refine mi_imul hx hb dME_write_19 ?_
      refine mi_iadd hx hb dME_write_20 ?_
      refine lv_iload_n hx hb dME_write_21 rfl (lv_at hl 4 rfl) ?_
      refine lv_aload_n hx hb dME_write_22 rfl (lv_at hl 1 rfl) ?_
      refine lv_iload hx hb dME_write_23 (lv_at hl 0 rfl) ?_
      refine nw_iald hx hb hK hO k_f (k := pf) n_f hP (by omega) (by omega) dME_write_25 ?_
      refine mp_v (cx := []) (wr := []) hP hD hS hA [] [] rfl rfl rfl (by decide) (va_runSN (As := [.ref to, .int (nI ((8 * at_) + (12 * i21))), .int (nI 12), .int ((s21.1 pf i21))]) (rest := []) F (N_M_pack l g _ T s21 pl hO hU to pt n ((8 * at_) + (12 * i21)) 12 (s21.1 pf i21) k_to n_to (by omega) (by omega)) ⟨va_cnB 4 hts (wg_in kw_1690) rfl rfl rfl (hE.2.2.2.2.2.2.2.2.1) (hts _ (wg_t kw_9)) (by decide +kernel) ⟨by decide, by decide⟩, hts _ (wg_t kw_1689), trivial⟩ (pp_S (en_ok g) hP hD hS hA hE [] rfl rfl) rfl rfl hl.1 rfl (lv_room (Nat.le_of_ble_eq_true rfl)) dME_write_26 ⟨by omega, by omega⟩) (fun  u21 H locs hu21 hP hD hS => ?_)
      obtain ⟨s22, pl⟩ := u21
      obtain ⟨⟨eq21, hFc21, -⟩, hO⟩ := hu21
      have hO : okn g T s22 pl := hO
      have hP : va_P g.1 vcl ([] ++ pl) _ := hP
      have hD : va_D _ ([] ++ pl) := hD
      have hFc21 : frm (M_M_pack pt) s21 s22 := hFc21
      replace hR := bnd_step hR eq21
      have hF := frm_tr hF hFc21 (fun k hk => by unfold M_M_pack at hk; unfold M_ME_write_12; omega)
      refine W.widen (k := 0) (n := 0) (by omega) (by omega) ?_
      refine mi_iinc (k := 0) (x := i21) (d := 1) (y := i21 + 1) (lv' := [(4, .int (nI (i21 + 1))), (0, .ref f), (1, .ref to), (2, .int (nI at_)), (3, .int (nI 12))]) hx hb dME_write_29 hl rfl (by decide) rfl (by decide) rfl (fun ls hl => ?_)
      refine lv_goto (tgt := 3) hx hb dME_write_32 (by decide) ?_
      exact ih21 (i21 + 1) s22 pl ls H locs (by omega) hF hR (lv_sub hl [0, 1, 2, 3, 4] rfl) hO hP hD hS
  exact lp21 256 0 s pl ls _ _ (by omega) hF hR (lv_sub hl [0, 1, 2, 3, 4] rfl) hO hP hD hS
def M_ME_read_1 (pf : Nat) (k : Nat) : Prop := k = pf ∨ (0 : Nat) = 1
noncomputable def F_ME_read_1_L0 (pr_ : Nat) (n : Nat) (at_ : Nat) (pf : Nat) : Nat → Nat → Sto → Sto
  | 0, i21, s21 => s21
  | n21 + 1, i21, s21 => bnd (F_M_unpack pr_ n ((8 * at_) + (1 * i21)) 1 s21) fun q21 => bnd (sI q21.2 pf i21 (q21.1)) fun s22 => F_ME_read_1_L0 pr_ n at_ pf n21 (i21 + 1) s22
noncomputable def F_ME_read_1 (pr_ : Nat) (n : Nat) (at_ : Nat) (pf : Nat) (s : Sto) : Sto := F_ME_read_1_L0 pr_ n at_ pf 256 0 s
set_option maxHeartbeats 8000000 in
set_option maxRecDepth 100000 in
theorem N_ME_read_1 (l : Launch) (g : Gd) (sz : Nat) (T : TyN) (s : Sto) (pl : va_W) (hO : okn g T s pl) (hU : inj T) (fr f : Nat) (pr_ : Nat) (n : Nat) (at_ : Nat) (pf : Nat) (k_fr : T fr = some pr_) (n_fr : nsp pr_ = (1, n, [])) (k_f : T f = some pf) (n_f : nsp pf = (0, 256, [])) (h1 : at_ + 32 ≤ n) (h2 : n < 65536)  : Met l y_ME_read w_ME_read ({ frames := 1, cells := 0, slots := 0, locals := 24 } : Room) (va_Pc [.ref fr, .int (nI at_), .int (nI 1), .ref f] (pr (en g) g.1 vcl sz ([] ++ pl))) (va_Qv (fun (u : (Sto) × va_W) => (u.1 = F_ME_read_1 pr_ n at_ pf s ∧ frm (M_ME_read_1 pf) s u.1 ∧ True) ∧ okn g T u.1 u.2) (po g.1 vcl (va_A ([] ++ pl) sz) (fun (u : (Sto) × va_W) => [] ++ u.2)) (va_A ([] ++ pl) sz)) 0 0 (va_A ([] ++ pl) sz) := by
  refine mc_entry (cc := c_ME_read) (maxL := 5) (ret := none) (by decide) rfl (Nat.le_of_ble_eq_true rfl) ?_
  intro p e s0 m args below meth c ls F hr hlk hnm hsz hP hD hE hA hl
  obtain ⟨hx, hb, hml, hown, hts⟩ := id F
  have hK := hE.1
  generalize va_A ([] ++ pl) sz = A at hD hE hA ⊢
  have hS : va_S A s0.heap s0.heap [] := va_S.rf
  have hl : lv_has ls 5 [(0, .ref fr), (1, .int (nI at_)), (2, .int (nI 1)), (3, .ref f)] := hl
  have hR : F_ME_read_1 pr_ n at_ pf s = F_ME_read_1 pr_ n at_ pf s := rfl
  have hF : frm (M_ME_read_1 pf) s s := frm_rf
  refine lv_iconst (v := nI 0) hx hb dME_read_0 (by decide) ?_
  refine lv_istore (lv' := [(4, .int (nI 0)), (0, .ref fr), (1, .int (nI at_)), (2, .int (nI 1)), (3, .ref f)]) hx hb dME_read_1 hl (by decide) rfl (fun ls hl => ?_)
  have lp21 : ∀ (n21 : Nat) (i21 : Nat) (s21 : Sto) (pl : va_W) (ls : Array Slot) (H : Heap) (locs : List Loc), n21 + i21 = 256 → frm (M_ME_read_1 pf) s s21 → F_ME_read_1 pr_ n at_ pf s = F_ME_read_1_L0 pr_ n at_ pf n21 i21 s21 → lv_has ls 5 [(4, .int (nI i21)), (0, .ref fr), (1, .int (nI at_)), (2, .int (nI 1)), (3, .ref f)] → okn g T s21 pl → va_P g.1 vcl ([] ++ pl) H → va_D A ([] ++ pl) → va_S A s0.heap H locs → W p l e ({ frames := 1, cells := 0, slots := 0, locals := 24 } : Room) s0 m args below meth c H locs 0 0 (MQ below (va_Qv (fun (u : (Sto) × va_W) => (u.1 = F_ME_read_1 pr_ n at_ pf s ∧ frm (M_ME_read_1 pf) s u.1 ∧ True) ∧ okn g T u.1 u.2) (po g.1 vcl A (fun (u : (Sto) × va_W) => [] ++ u.2)) A) args s0 0 0 A) (F0 m 3 ls []) := by
    intro n21
    induction n21 with
    | zero =>
      intro i21 s21 pl ls H locs hm21 hF hR hl hO hP hD hS
      refine lv_iload hx hb dME_read_3 (lv_at hl 0 rfl) ?_
      refine lv_sipush (v := nI 256) hx hb dME_read_5 (by decide) ?_
      refine mi_ge (tgt := 35) hx hb dME_read_8 (by decide) (by omega) (by omega) (fun h21 => ?_) (fun h21 => absurd h21 (by omega))
      exact mp_vret hx hb hr hlk hP hD hS (s21, pl) ⟨⟨hR.symm, hF, trivial⟩, hO⟩ [] rfl rfl rfl (by omega) (by omega) dME_read_35
    | succ n21 ih21 =>
      intro i21 s21 pl ls H locs hm21 hF hR hl hO hP hD hS
      refine lv_iload hx hb dME_read_3 (lv_at hl 0 rfl) ?_
      refine lv_sipush (v := nI 256) hx hb dME_read_5 (by decide) ?_
      refine mi_ge (tgt := 35) hx hb dME_read_8 (by decide) (by omega) (by omega) (fun h22 => absurd h22 (by omega)) (fun h22 => ?_)
      refine lv_aload_n hx hb dME_read_11 rfl (lv_at hl 4 rfl) ?_
      refine lv_iload hx hb dME_read_12 (lv_at hl 0 rfl) ?_
      refine lv_aload_n hx hb dME_read_14 rfl (lv_at hl 1 rfl) ?_
      refine lv_bipush (v := nI 8) hx hb dME_read_15 (by decide) ?_
      refine lv_iload_n hx hb dME_read_17 rfl (lv_at hl 2 rfl) ?_
      refine mi_imul hx hb dME_read_18 ?_
      refine lv_iload_n hx hb dME_read_19 rfl (lv_at hl 3 rfl) ?_
      refine lv_iload hx hb dME_read_20 (lv_at hl 0 rfl) ?_
      refine mi_imul hx hb dME_read_22 ?_
      refine mi_iadd hx hb dME_read_23 ?_
      refine lv_iload_n hx hb dME_read_24 rfl (lv_at hl 3 rfl) ?_
      refine mp_i (cx := []) (wr := []) hP hD hS hA [] [] rfl rfl rfl (by decide) (va_runSN (As := [.ref fr, .int (nI ((8 * at_) + (1 * i21))), .int (nI 1)]) (rest := [.int (nI i21), .ref f]) F (N_M_unpack l g _ T s21 pl hO hU fr pr_ n ((8 * at_) + (1 * i21)) 1 k_fr n_fr (by omega) (by omega) (by omega)) ⟨va_cnB 3 hts (wg_in kw_1667) rfl rfl rfl (hE.2.2.2.2.2.2.2.1) (hts _ (wg_t kw_9)) (by decide +kernel) ⟨by decide, by decide⟩, hts _ (wg_t kw_1666), trivial⟩ (pp_S (en_ok g) hP hD hS hA hE [] rfl rfl) rfl rfl hl.1 rfl (lv_room (Nat.le_of_ble_eq_true rfl)) dME_read_25 ⟨by omega, by omega⟩) (fun r21 u21 H locs hu21 hP hD hS => ?_)
      obtain ⟨q21, pl⟩ := u21
      obtain ⟨⟨eq21, rfl, hFc21, -⟩, hO⟩ := hu21
      have hO : okn g T q21.2 pl := hO
      have hP : va_P g.1 vcl ([] ++ pl) _ := hP
      have hD : va_D _ ([] ++ pl) := hD
      have hFc21 : frm (M_M_unpack) s21 q21.2 := hFc21
      replace hR := bnd_step hR eq21
      have hF := frm_tr hF hFc21 (fun k hk => by unfold M_M_unpack at hk; unfold M_ME_read_1; omega)
      refine W.widen (k := 0) (n := 0) (by omega) (by omega) ?_
      refine nw_iast hx hb hK hO hU k_f (k := pf) n_f hP hD hS (by omega) (by omega) dME_read_28 (fun s22 pl H locs es21 hO hP hD hS => ?_)
      replace hR := bnd_step hR es21
      have hF := frm_sI hF es21 (by unfold M_ME_read_1; omega)
      refine mi_iinc (k := 0) (x := i21) (d := 1) (y := i21 + 1) (lv' := [(4, .int (nI (i21 + 1))), (0, .ref fr), (1, .int (nI at_)), (2, .int (nI 1)), (3, .ref f)]) hx hb dME_read_29 hl rfl (by decide) rfl (by decide) rfl (fun ls hl => ?_)
      refine lv_goto (tgt := 3) hx hb dME_read_32 (by decide) ?_
      exact ih21 (i21 + 1) s22 pl ls H locs (by omega) hF hR (lv_sub hl [0, 1, 2, 3, 4] rfl) hO hP hD hS
  exact lp21 256 0 s pl ls _ _ (by omega) hF hR (lv_sub hl [0, 1, 2, 3, 4] rfl) hO hP hD hS
def M_ME_read_4 (pf : Nat) (k : Nat) : Prop := k = pf ∨ (0 : Nat) = 1
noncomputable def F_ME_read_4_L0 (pr_ : Nat) (n : Nat) (at_ : Nat) (pf : Nat) : Nat → Nat → Sto → Sto
  | 0, i21, s21 => s21
  | n21 + 1, i21, s21 => bnd (F_M_unpack pr_ n ((8 * at_) + (4 * i21)) 4 s21) fun q21 => bnd (sI q21.2 pf i21 (q21.1)) fun s22 => F_ME_read_4_L0 pr_ n at_ pf n21 (i21 + 1) s22
noncomputable def F_ME_read_4 (pr_ : Nat) (n : Nat) (at_ : Nat) (pf : Nat) (s : Sto) : Sto := F_ME_read_4_L0 pr_ n at_ pf 256 0 s
set_option maxHeartbeats 8000000 in
set_option maxRecDepth 100000 in
theorem N_ME_read_4 (l : Launch) (g : Gd) (sz : Nat) (T : TyN) (s : Sto) (pl : va_W) (hO : okn g T s pl) (hU : inj T) (fr f : Nat) (pr_ : Nat) (n : Nat) (at_ : Nat) (pf : Nat) (k_fr : T fr = some pr_) (n_fr : nsp pr_ = (1, n, [])) (k_f : T f = some pf) (n_f : nsp pf = (0, 256, [])) (h1 : at_ + 128 ≤ n) (h2 : n < 65536)  : Met l y_ME_read w_ME_read ({ frames := 1, cells := 0, slots := 0, locals := 24 } : Room) (va_Pc [.ref fr, .int (nI at_), .int (nI 4), .ref f] (pr (en g) g.1 vcl sz ([] ++ pl))) (va_Qv (fun (u : (Sto) × va_W) => (u.1 = F_ME_read_4 pr_ n at_ pf s ∧ frm (M_ME_read_4 pf) s u.1 ∧ True) ∧ okn g T u.1 u.2) (po g.1 vcl (va_A ([] ++ pl) sz) (fun (u : (Sto) × va_W) => [] ++ u.2)) (va_A ([] ++ pl) sz)) 0 0 (va_A ([] ++ pl) sz) := by
  refine mc_entry (cc := c_ME_read) (maxL := 5) (ret := none) (by decide) rfl (Nat.le_of_ble_eq_true rfl) ?_
  intro p e s0 m args below meth c ls F hr hlk hnm hsz hP hD hE hA hl
  obtain ⟨hx, hb, hml, hown, hts⟩ := id F
  have hK := hE.1
  generalize va_A ([] ++ pl) sz = A at hD hE hA ⊢
  have hS : va_S A s0.heap s0.heap [] := va_S.rf
  have hl : lv_has ls 5 [(0, .ref fr), (1, .int (nI at_)), (2, .int (nI 4)), (3, .ref f)] := hl
  have hR : F_ME_read_4 pr_ n at_ pf s = F_ME_read_4 pr_ n at_ pf s := rfl
  have hF : frm (M_ME_read_4 pf) s s := frm_rf
  refine lv_iconst (v := nI 0) hx hb dME_read_0 (by decide) ?_
  refine lv_istore (lv' := [(4, .int (nI 0)), (0, .ref fr), (1, .int (nI at_)), (2, .int (nI 4)), (3, .ref f)]) hx hb dME_read_1 hl (by decide) rfl (fun ls hl => ?_)
  have lp21 : ∀ (n21 : Nat) (i21 : Nat) (s21 : Sto) (pl : va_W) (ls : Array Slot) (H : Heap) (locs : List Loc), n21 + i21 = 256 → frm (M_ME_read_4 pf) s s21 → F_ME_read_4 pr_ n at_ pf s = F_ME_read_4_L0 pr_ n at_ pf n21 i21 s21 → lv_has ls 5 [(4, .int (nI i21)), (0, .ref fr), (1, .int (nI at_)), (2, .int (nI 4)), (3, .ref f)] → okn g T s21 pl → va_P g.1 vcl ([] ++ pl) H → va_D A ([] ++ pl) → va_S A s0.heap H locs → W p l e ({ frames := 1, cells := 0, slots := 0, locals := 24 } : Room) s0 m args below meth c H locs 0 0 (MQ below (va_Qv (fun (u : (Sto) × va_W) => (u.1 = F_ME_read_4 pr_ n at_ pf s ∧ frm (M_ME_read_4 pf) s u.1 ∧ True) ∧ okn g T u.1 u.2) (po g.1 vcl A (fun (u : (Sto) × va_W) => [] ++ u.2)) A) args s0 0 0 A) (F0 m 3 ls []) := by
    intro n21
    induction n21 with
    | zero =>
      intro i21 s21 pl ls H locs hm21 hF hR hl hO hP hD hS
      refine lv_iload hx hb dME_read_3 (lv_at hl 0 rfl) ?_
      refine lv_sipush (v := nI 256) hx hb dME_read_5 (by decide) ?_
      refine mi_ge (tgt := 35) hx hb dME_read_8 (by decide) (by omega) (by omega) (fun h21 => ?_) (fun h21 => absurd h21 (by omega))
      exact mp_vret hx hb hr hlk hP hD hS (s21, pl) ⟨⟨hR.symm, hF, trivial⟩, hO⟩ [] rfl rfl rfl (by omega) (by omega) dME_read_35
    | succ n21 ih21 =>
      intro i21 s21 pl ls H locs hm21 hF hR hl hO hP hD hS
      refine lv_iload hx hb dME_read_3 (lv_at hl 0 rfl) ?_
      refine lv_sipush (v := nI 256) hx hb dME_read_5 (by decide) ?_
      refine mi_ge (tgt := 35) hx hb dME_read_8 (by decide) (by omega) (by omega) (fun h22 => absurd h22 (by omega)) (fun h22 => ?_)
      refine lv_aload_n hx hb dME_read_11 rfl (lv_at hl 4 rfl) ?_
      refine lv_iload hx hb dME_read_12 (lv_at hl 0 rfl) ?_
      refine lv_aload_n hx hb dME_read_14 rfl (lv_at hl 1 rfl) ?_
      refine lv_bipush (v := nI 8) hx hb dME_read_15 (by decide) ?_
      refine lv_iload_n hx hb dME_read_17 rfl (lv_at hl 2 rfl) ?_
      refine mi_imul hx hb dME_read_18 ?_
      refine lv_iload_n hx hb dME_read_19 rfl (lv_at hl 3 rfl) ?_
      refine lv_iload hx hb dME_read_20 (lv_at hl 0 rfl) ?_
      refine mi_imul hx hb dME_read_22 ?_
      refine mi_iadd hx hb dME_read_23 ?_
      refine lv_iload_n hx hb dME_read_24 rfl (lv_at hl 3 rfl) ?_
      refine mp_i (cx := []) (wr := []) hP hD hS hA [] [] rfl rfl rfl (by decide) (va_runSN (As := [.ref fr, .int (nI ((8 * at_) + (4 * i21))), .int (nI 4)]) (rest := [.int (nI i21), .ref f]) F (N_M_unpack l g _ T s21 pl hO hU fr pr_ n ((8 * at_) + (4 * i21)) 4 k_fr n_fr (by omega) (by omega) (by omega)) ⟨va_cnB 3 hts (wg_in kw_1667) rfl rfl rfl (hE.2.2.2.2.2.2.2.1) (hts _ (wg_t kw_9)) (by decide +kernel) ⟨by decide, by decide⟩, hts _ (wg_t kw_1666), trivial⟩ (pp_S (en_ok g) hP hD hS hA hE [] rfl rfl) rfl rfl hl.1 rfl (lv_room (Nat.le_of_ble_eq_true rfl)) dME_read_25 ⟨by omega, by omega⟩) (fun r21 u21 H locs hu21 hP hD hS => ?_)
      obtain ⟨q21, pl⟩ := u21
      obtain ⟨⟨eq21, rfl, hFc21, -⟩, hO⟩ := hu21
      have hO : okn g T q21.2 pl := hO
      have hP : va_P g.1 vcl ([] ++ pl) _ := hP
      have hD : va_D _ ([] ++ pl) := hD
      have hFc21 : frm (M_M_unpack) s21 q21.2 := hFc21
      replace hR := bnd_step hR eq21
      have hF := frm_tr hF hFc21 (fun k hk => by unfold M_M_unpack at hk; unfold M_ME_read_4; omega)
      refine W.widen (k := 0) (n := 0) (by omega) (by omega) ?_
      refine nw_iast hx hb hK hO hU k_f (k := pf) n_f hP hD hS (by omega) (by omega) dME_read_28 (fun s22 pl H locs es21 hO hP hD hS => ?_)
      replace hR := bnd_step hR es21
      have hF := frm_sI hF es21 (by unfold M_ME_read_4; omega)
      refine mi_iinc (k := 0) (x := i21) (d := 1) (y := i21 + 1) (lv' := [(4, .int (nI (i21 + 1))), (0, .ref fr), (1, .int (nI at_)), (2, .int (nI 4)), (3, .ref f)]) hx hb dME_read_29 hl rfl (by decide) rfl (by decide) rfl (fun ls hl => ?_)
      refine lv_goto (tgt := 3) hx hb dME_read_32 (by decide) ?_
      exact ih21 (i21 + 1) s22 pl ls H locs (by omega) hF hR (lv_sub hl [0, 1, 2, 3, 4] rfl) hO hP hD hS
  exact lp21 256 0 s pl ls _ _ (by omega) hF hR (lv_sub hl [0, 1, 2, 3, 4] rfl) hO hP hD hS
def M_ME_read_5 (pf : Nat) (k : Nat) : Prop := k = pf ∨ (0 : Nat) = 1
noncomputable def F_ME_read_5_L0 (pr_ : Nat) (n : Nat) (at_ : Nat) (pf : Nat) : Nat → Nat → Sto → Sto
  | 0, i21, s21 => s21
  | n21 + 1, i21, s21 => bnd (F_M_unpack pr_ n ((8 * at_) + (5 * i21)) 5 s21) fun q21 => bnd (sI q21.2 pf i21 (q21.1)) fun s22 => F_ME_read_5_L0 pr_ n at_ pf n21 (i21 + 1) s22
noncomputable def F_ME_read_5 (pr_ : Nat) (n : Nat) (at_ : Nat) (pf : Nat) (s : Sto) : Sto := F_ME_read_5_L0 pr_ n at_ pf 256 0 s
set_option maxHeartbeats 8000000 in
set_option maxRecDepth 100000 in
theorem N_ME_read_5 (l : Launch) (g : Gd) (sz : Nat) (T : TyN) (s : Sto) (pl : va_W) (hO : okn g T s pl) (hU : inj T) (fr f : Nat) (pr_ : Nat) (n : Nat) (at_ : Nat) (pf : Nat) (k_fr : T fr = some pr_) (n_fr : nsp pr_ = (1, n, [])) (k_f : T f = some pf) (n_f : nsp pf = (0, 256, [])) (h1 : at_ + 160 ≤ n) (h2 : n < 65536)  : Met l y_ME_read w_ME_read ({ frames := 1, cells := 0, slots := 0, locals := 24 } : Room) (va_Pc [.ref fr, .int (nI at_), .int (nI 5), .ref f] (pr (en g) g.1 vcl sz ([] ++ pl))) (va_Qv (fun (u : (Sto) × va_W) => (u.1 = F_ME_read_5 pr_ n at_ pf s ∧ frm (M_ME_read_5 pf) s u.1 ∧ True) ∧ okn g T u.1 u.2) (po g.1 vcl (va_A ([] ++ pl) sz) (fun (u : (Sto) × va_W) => [] ++ u.2)) (va_A ([] ++ pl) sz)) 0 0 (va_A ([] ++ pl) sz) := by
  refine mc_entry (cc := c_ME_read) (maxL := 5) (ret := none) (by decide) rfl (Nat.le_of_ble_eq_true rfl) ?_
  intro p e s0 m args below meth c ls F hr hlk hnm hsz hP hD hE hA hl
  obtain ⟨hx, hb, hml, hown, hts⟩ := id F
  have hK := hE.1
  generalize va_A ([] ++ pl) sz = A at hD hE hA ⊢
  have hS : va_S A s0.heap s0.heap [] := va_S.rf
  have hl : lv_has ls 5 [(0, .ref fr), (1, .int (nI at_)), (2, .int (nI 5)), (3, .ref f)] := hl
  have hR : F_ME_read_5 pr_ n at_ pf s = F_ME_read_5 pr_ n at_ pf s := rfl
  have hF : frm (M_ME_read_5 pf) s s := frm_rf
  refine lv_iconst (v := nI 0) hx hb dME_read_0 (by decide) ?_
  refine lv_istore (lv' := [(4, .int (nI 0)), (0, .ref fr), (1, .int (nI at_)), (2, .int (nI 5)), (3, .ref f)]) hx hb dME_read_1 hl (by decide) rfl (fun ls hl => ?_)
  have lp21 : ∀ (n21 : Nat) (i21 : Nat) (s21 : Sto) (pl : va_W) (ls : Array Slot) (H : Heap) (locs : List Loc), n21 + i21 = 256 → frm (M_ME_read_5 pf) s s21 → F_ME_read_5 pr_ n at_ pf s = F_ME_read_5_L0 pr_ n at_ pf n21 i21 s21 → lv_has ls 5 [(4, .int (nI i21)), (0, .ref fr), (1, .int (nI at_)), (2, .int (nI 5)), (3, .ref f)] → okn g T s21 pl → va_P g.1 vcl ([] ++ pl) H → va_D A ([] ++ pl) → va_S A s0.heap H locs → W p l e ({ frames := 1, cells := 0, slots := 0, locals := 24 } : Room) s0 m args below meth c H locs 0 0 (MQ below (va_Qv (fun (u : (Sto) × va_W) => (u.1 = F_ME_read_5 pr_ n at_ pf s ∧ frm (M_ME_read_5 pf) s u.1 ∧ True) ∧ okn g T u.1 u.2) (po g.1 vcl A (fun (u : (Sto) × va_W) => [] ++ u.2)) A) args s0 0 0 A) (F0 m 3 ls []) := by
    intro n21
    induction n21 with
    | zero =>
      intro i21 s21 pl ls H locs hm21 hF hR hl hO hP hD hS
      refine lv_iload hx hb dME_read_3 (lv_at hl 0 rfl) ?_
      refine lv_sipush (v := nI 256) hx hb dME_read_5 (by decide) ?_
      refine mi_ge (tgt := 35) hx hb dME_read_8 (by decide) (by omega) (by omega) (fun h21 => ?_) (fun h21 => absurd h21 (by omega))
      exact mp_vret hx hb hr hlk hP hD hS (s21, pl) ⟨⟨hR.symm, hF, trivial⟩, hO⟩ [] rfl rfl rfl (by omega) (by omega) dME_read_35
    | succ n21 ih21 =>
      intro i21 s21 pl ls H locs hm21 hF hR hl hO hP hD hS
      refine lv_iload hx hb dME_read_3 (lv_at hl 0 rfl) ?_
      refine lv_sipush (v := nI 256) hx hb dME_read_5 (by decide) ?_
      refine mi_ge (tgt := 35) hx hb dME_read_8 (by decide) (by omega) (by omega) (fun h22 => absurd h22 (by omega)) (fun h22 => ?_)
      refine lv_aload_n hx hb dME_read_11 rfl (lv_at hl 4 rfl) ?_
      refine lv_iload hx hb dME_read_12 (lv_at hl 0 rfl) ?_
      refine lv_aload_n hx hb dME_read_14 rfl (lv_at hl 1 rfl) ?_
      refine lv_bipush (v := nI 8) hx hb dME_read_15 (by decide) ?_
      refine lv_iload_n hx hb dME_read_17 rfl (lv_at hl 2 rfl) ?_
      refine mi_imul hx hb dME_read_18 ?_
      refine lv_iload_n hx hb dME_read_19 rfl (lv_at hl 3 rfl) ?_
      refine lv_iload hx hb dME_read_20 (lv_at hl 0 rfl) ?_
      refine mi_imul hx hb dME_read_22 ?_
      refine mi_iadd hx hb dME_read_23 ?_
      refine lv_iload_n hx hb dME_read_24 rfl (lv_at hl 3 rfl) ?_
      refine mp_i (cx := []) (wr := []) hP hD hS hA [] [] rfl rfl rfl (by decide) (va_runSN (As := [.ref fr, .int (nI ((8 * at_) + (5 * i21))), .int (nI 5)]) (rest := [.int (nI i21), .ref f]) F (N_M_unpack l g _ T s21 pl hO hU fr pr_ n ((8 * at_) + (5 * i21)) 5 k_fr n_fr (by omega) (by omega) (by omega)) ⟨va_cnB 3 hts (wg_in kw_1667) rfl rfl rfl (hE.2.2.2.2.2.2.2.1) (hts _ (wg_t kw_9)) (by decide +kernel) ⟨by decide, by decide⟩, hts _ (wg_t kw_1666), trivial⟩ (pp_S (en_ok g) hP hD hS hA hE [] rfl rfl) rfl rfl hl.1 rfl (lv_room (Nat.le_of_ble_eq_true rfl)) dME_read_25 ⟨by omega, by omega⟩) (fun r21 u21 H locs hu21 hP hD hS => ?_)
      obtain ⟨q21, pl⟩ := u21
      obtain ⟨⟨eq21, rfl, hFc21, -⟩, hO⟩ := hu21
      have hO : okn g T q21.2 pl := hO
      have hP : va_P g.1 vcl ([] ++ pl) _ := hP
      have hD : va_D _ ([] ++ pl) := hD
      have hFc21 : frm (M_M_unpack) s21 q21.2 := hFc21
      replace hR := bnd_step hR eq21
      have hF := frm_tr hF hFc21 (fun k hk => by unfold M_M_unpack at hk; unfold M_ME_read_5; omega)
      refine W.widen (k := 0) (n := 0) (by omega) (by omega) ?_
      refine nw_iast hx hb hK hO hU k_f (k := pf) n_f hP hD hS (by omega) (by omega) dME_read_28 (fun s22 pl H locs es21 hO hP hD hS => ?_)
      replace hR := bnd_step hR es21
      have hF := frm_sI hF es21 (by unfold M_ME_read_5; omega)
      refine mi_iinc (k := 0) (x := i21) (d := 1) (y := i21 + 1) (lv' := [(4, .int (nI (i21 + 1))), (0, .ref fr), (1, .int (nI at_)), (2, .int (nI 5)), (3, .ref f)]) hx hb dME_read_29 hl rfl (by decide) rfl (by decide) rfl (fun ls hl => ?_)
      refine lv_goto (tgt := 3) hx hb dME_read_32 (by decide) ?_
      exact ih21 (i21 + 1) s22 pl ls H locs (by omega) hF hR (lv_sub hl [0, 1, 2, 3, 4] rfl) hO hP hD hS
  exact lp21 256 0 s pl ls _ _ (by omega) hF hR (lv_sub hl [0, 1, 2, 3, 4] rfl) hO hP hD hS
def M_ME_read_10 (pf : Nat) (k : Nat) : Prop := k = pf ∨ (0 : Nat) = 1
noncomputable def F_ME_read_10_L0 (pr_ : Nat) (n : Nat) (at_ : Nat) (pf : Nat) : Nat → Nat → Sto → Sto
  | 0, i21, s21 => s21
  | n21 + 1, i21, s21 => bnd (F_M_unpack pr_ n ((8 * at_) + (10 * i21)) 10 s21) fun q21 => bnd (sI q21.2 pf i21 (q21.1)) fun s22 => F_ME_read_10_L0 pr_ n at_ pf n21 (i21 + 1) s22
noncomputable def F_ME_read_10 (pr_ : Nat) (n : Nat) (at_ : Nat) (pf : Nat) (s : Sto) : Sto := F_ME_read_10_L0 pr_ n at_ pf 256 0 s
set_option maxHeartbeats 8000000 in
set_option maxRecDepth 100000 in
theorem N_ME_read_10 (l : Launch) (g : Gd) (sz : Nat) (T : TyN) (s : Sto) (pl : va_W) (hO : okn g T s pl) (hU : inj T) (fr f : Nat) (pr_ : Nat) (n : Nat) (at_ : Nat) (pf : Nat) (k_fr : T fr = some pr_) (n_fr : nsp pr_ = (1, n, [])) (k_f : T f = some pf) (n_f : nsp pf = (0, 256, [])) (h1 : at_ + 320 ≤ n) (h2 : n < 65536)  : Met l y_ME_read w_ME_read ({ frames := 1, cells := 0, slots := 0, locals := 24 } : Room) (va_Pc [.ref fr, .int (nI at_), .int (nI 10), .ref f] (pr (en g) g.1 vcl sz ([] ++ pl))) (va_Qv (fun (u : (Sto) × va_W) => (u.1 = F_ME_read_10 pr_ n at_ pf s ∧ frm (M_ME_read_10 pf) s u.1 ∧ True) ∧ okn g T u.1 u.2) (po g.1 vcl (va_A ([] ++ pl) sz) (fun (u : (Sto) × va_W) => [] ++ u.2)) (va_A ([] ++ pl) sz)) 0 0 (va_A ([] ++ pl) sz) := by
  refine mc_entry (cc := c_ME_read) (maxL := 5) (ret := none) (by decide) rfl (Nat.le_of_ble_eq_true rfl) ?_
  intro p e s0 m args below meth c ls F hr hlk hnm hsz hP hD hE hA hl
  obtain ⟨hx, hb, hml, hown, hts⟩ := id F
  have hK := hE.1
  generalize va_A ([] ++ pl) sz = A at hD hE hA ⊢
  have hS : va_S A s0.heap s0.heap [] := va_S.rf
  have hl : lv_has ls 5 [(0, .ref fr), (1, .int (nI at_)), (2, .int (nI 10)), (3, .ref f)] := hl
  have hR : F_ME_read_10 pr_ n at_ pf s = F_ME_read_10 pr_ n at_ pf s := rfl
  have hF : frm (M_ME_read_10 pf) s s := frm_rf
  refine lv_iconst (v := nI 0) hx hb dME_read_0 (by decide) ?_
  refine lv_istore (lv' := [(4, .int (nI 0)), (0, .ref fr), (1, .int (nI at_)), (2, .int (nI 10)), (3, .ref f)]) hx hb dME_read_1 hl (by decide) rfl (fun ls hl => ?_)
  have lp21 : ∀ (n21 : Nat) (i21 : Nat) (s21 : Sto) (pl : va_W) (ls : Array Slot) (H : Heap) (locs : List Loc), n21 + i21 = 256 → frm (M_ME_read_10 pf) s s21 → F_ME_read_10 pr_ n at_ pf s = F_ME_read_10_L0 pr_ n at_ pf n21 i21 s21 → lv_has ls 5 [(4, .int (nI i21)), (0, .ref fr), (1, .int (nI at_)), (2, .int (nI 10)), (3, .ref f)] → okn g T s21 pl → va_P g.1 vcl ([] ++ pl) H → va_D A ([] ++ pl) → va_S A s0.heap H locs → W p l e ({ frames := 1, cells := 0, slots := 0, locals := 24 } : Room) s0 m args below meth c H locs 0 0 (MQ below (va_Qv (fun (u : (Sto) × va_W) => (u.1 = F_ME_read_10 pr_ n at_ pf s ∧ frm (M_ME_read_10 pf) s u.1 ∧ True) ∧ okn g T u.1 u.2) (po g.1 vcl A (fun (u : (Sto) × va_W) => [] ++ u.2)) A) args s0 0 0 A) (F0 m 3 ls []) := by
    intro n21
    induction n21 with
    | zero =>
      intro i21 s21 pl ls H locs hm21 hF hR hl hO hP hD hS
      refine lv_iload hx hb dME_read_3 (lv_at hl 0 rfl) ?_
      refine lv_sipush (v := nI 256) hx hb dME_read_5 (by decide) ?_
      refine mi_ge (tgt := 35) hx hb dME_read_8 (by decide) (by omega) (by omega) (fun h21 => ?_) (fun h21 => absurd h21 (by omega))
      exact mp_vret hx hb hr hlk hP hD hS (s21, pl) ⟨⟨hR.symm, hF, trivial⟩, hO⟩ [] rfl rfl rfl (by omega) (by omega) dME_read_35
    | succ n21 ih21 =>
      intro i21 s21 pl ls H locs hm21 hF hR hl hO hP hD hS
      refine lv_iload hx hb dME_read_3 (lv_at hl 0 rfl) ?_
      refine lv_sipush (v := nI 256) hx hb dME_read_5 (by decide) ?_
      refine mi_ge (tgt := 35) hx hb dME_read_8 (by decide) (by omega) (by omega) (fun h22 => absurd h22 (by omega)) (fun h22 => ?_)
      refine lv_aload_n hx hb dME_read_11 rfl (lv_at hl 4 rfl) ?_
      refine lv_iload hx hb dME_read_12 (lv_at hl 0 rfl) ?_
      refine lv_aload_n hx hb dME_read_14 rfl (lv_at hl 1 rfl) ?_
      refine lv_bipush (v := nI 8) hx hb dME_read_15 (by decide) ?_
      refine lv_iload_n hx hb dME_read_17 rfl (lv_at hl 2 rfl) ?_
      refine mi_imul hx hb dME_read_18 ?_
      refine lv_iload_n hx hb dME_read_19 rfl (lv_at hl 3 rfl) ?_
      refine lv_iload hx hb dME_read_20 (lv_at hl 0 rfl) ?_
      refine mi_imul hx hb dME_read_22 ?_
      refine mi_iadd hx hb dME_read_23 ?_
      refine lv_iload_n hx hb dME_read_24 rfl (lv_at hl 3 rfl) ?_
      refine mp_i (cx := []) (wr := []) hP hD hS hA [] [] rfl rfl rfl (by decide) (va_runSN (As := [.ref fr, .int (nI ((8 * at_) + (10 * i21))), .int (nI 10)]) (rest := [.int (nI i21), .ref f]) F (N_M_unpack l g _ T s21 pl hO hU fr pr_ n ((8 * at_) + (10 * i21)) 10 k_fr n_fr (by omega) (by omega) (by omega)) ⟨va_cnB 3 hts (wg_in kw_1667) rfl rfl rfl (hE.2.2.2.2.2.2.2.1) (hts _ (wg_t kw_9)) (by decide +kernel) ⟨by decide, by decide⟩, hts _ (wg_t kw_1666), trivial⟩ (pp_S (en_ok g) hP hD hS hA hE [] rfl rfl) rfl rfl hl.1 rfl (lv_room (Nat.le_of_ble_eq_true rfl)) dME_read_25 ⟨by omega, by omega⟩) (fun r21 u21 H locs hu21 hP hD hS => ?_)
      obtain ⟨q21, pl⟩ := u21
      obtain ⟨⟨eq21, rfl, hFc21, -⟩, hO⟩ := hu21
      have hO : okn g T q21.2 pl := hO
      have hP : va_P g.1 vcl ([] ++ pl) _ := hP
      have hD : va_D _ ([] ++ pl) := hD
      have hFc21 : frm (M_M_unpack) s21 q21.2 := hFc21
      replace hR := bnd_step hR eq21
      have hF := frm_tr hF hFc21 (fun k hk => by unfold M_M_unpack at hk; unfold M_ME_read_10; omega)
      refine W.widen (k := 0) (n := 0) (by omega) (by omega) ?_
      refine nw_iast hx hb hK hO hU k_f (k := pf) n_f hP hD hS (by omega) (by omega) dME_read_28 (fun s22 pl H locs es21 hO hP hD hS => ?_)
      replace hR := bnd_step hR es21
      have hF := frm_sI hF es21 (by unfold M_ME_read_10; omega)
      refine mi_iinc (k := 0) (x := i21) (d := 1) (y := i21 + 1) (lv' := [(4, .int (nI (i21 + 1))), (0, .ref fr), (1, .int (nI at_)), (2, .int (nI 10)), (3, .ref f)]) hx hb dME_read_29 hl rfl (by decide) rfl (by decide) rfl (fun ls hl => ?_)
      refine lv_goto (tgt := 3) hx hb dME_read_32 (by decide) ?_
      exact ih21 (i21 + 1) s22 pl ls H locs (by omega) hF hR (lv_sub hl [0, 1, 2, 3, 4] rfl) hO hP hD hS
  exact lp21 256 0 s pl ls _ _ (by omega) hF hR (lv_sub hl [0, 1, 2, 3, 4] rfl) hO hP hD hS
def M_ME_read_11 (pf : Nat) (k : Nat) : Prop := k = pf ∨ (0 : Nat) = 1
noncomputable def F_ME_read_11_L0 (pr_ : Nat) (n : Nat) (at_ : Nat) (pf : Nat) : Nat → Nat → Sto → Sto
  | 0, i21, s21 => s21
  | n21 + 1, i21, s21 => bnd (F_M_unpack pr_ n ((8 * at_) + (11 * i21)) 11 s21) fun q21 => bnd (sI q21.2 pf i21 (q21.1)) fun s22 => F_ME_read_11_L0 pr_ n at_ pf n21 (i21 + 1) s22
noncomputable def F_ME_read_11 (pr_ : Nat) (n : Nat) (at_ : Nat) (pf : Nat) (s : Sto) : Sto := F_ME_read_11_L0 pr_ n at_ pf 256 0 s
set_option maxHeartbeats 8000000 in
set_option maxRecDepth 100000 in
theorem N_ME_read_11 (l : Launch) (g : Gd) (sz : Nat) (T : TyN) (s : Sto) (pl : va_W) (hO : okn g T s pl) (hU : inj T) (fr f : Nat) (pr_ : Nat) (n : Nat) (at_ : Nat) (pf : Nat) (k_fr : T fr = some pr_) (n_fr : nsp pr_ = (1, n, [])) (k_f : T f = some pf) (n_f : nsp pf = (0, 256, [])) (h1 : at_ + 352 ≤ n) (h2 : n < 65536)  : Met l y_ME_read w_ME_read ({ frames := 1, cells := 0, slots := 0, locals := 24 } : Room) (va_Pc [.ref fr, .int (nI at_), .int (nI 11), .ref f] (pr (en g) g.1 vcl sz ([] ++ pl))) (va_Qv (fun (u : (Sto) × va_W) => (u.1 = F_ME_read_11 pr_ n at_ pf s ∧ frm (M_ME_read_11 pf) s u.1 ∧ True) ∧ okn g T u.1 u.2) (po g.1 vcl (va_A ([] ++ pl) sz) (fun (u : (Sto) × va_W) => [] ++ u.2)) (va_A ([] ++ pl) sz)) 0 0 (va_A ([] ++ pl) sz) := by
  refine mc_entry (cc := c_ME_read) (maxL := 5) (ret := none) (by decide) rfl (Nat.le_of_ble_eq_true rfl) ?_
  intro p e s0 m args below meth c ls F hr hlk hnm hsz hP hD hE hA hl
  obtain ⟨hx, hb, hml, hown, hts⟩ := id F
  have hK := hE.1
  generalize va_A ([] ++ pl) sz = A at hD hE hA ⊢
  have hS : va_S A s0.heap s0.heap [] := va_S.rf
  have hl : lv_has ls 5 [(0, .ref fr), (1, .int (nI at_)), (2, .int (nI 11)), (3, .ref f)] := hl
  have hR : F_ME_read_11 pr_ n at_ pf s = F_ME_read_11 pr_ n at_ pf s := rfl
  have hF : frm (M_ME_read_11 pf) s s := frm_rf
  refine lv_iconst (v := nI 0) hx hb dME_read_0 (by decide) ?_
  refine lv_istore (lv' := [(4, .int (nI 0)), (0, .ref fr), (1, .int (nI at_)), (2, .int (nI 11)), (3, .ref f)]) hx hb dME_read_1 hl (by decide) rfl (fun ls hl => ?_)
  have lp21 : ∀ (n21 : Nat) (i21 : Nat) (s21 : Sto) (pl : va_W) (ls : Array Slot) (H : Heap) (locs : List Loc), n21 + i21 = 256 → frm (M_ME_read_11 pf) s s21 → F_ME_read_11 pr_ n at_ pf s = F_ME_read_11_L0 pr_ n at_ pf n21 i21 s21 → lv_has ls 5 [(4, .int (nI i21)), (0, .ref fr), (1, .int (nI at_)), (2, .int (nI 11)), (3, .ref f)] → okn g T s21 pl → va_P g.1 vcl ([] ++ pl) H → va_D A ([] ++ pl) → va_S A s0.heap H locs → W p l e ({ frames := 1, cells := 0, slots := 0, locals := 24 } : Room) s0 m args below meth c H locs 0 0 (MQ below (va_Qv (fun (u : (Sto) × va_W) => (u.1 = F_ME_read_11 pr_ n at_ pf s ∧ frm (M_ME_read_11 pf) s u.1 ∧ True) ∧ okn g T u.1 u.2) (po g.1 vcl A (fun (u : (Sto) × va_W) => [] ++ u.2)) A) args s0 0 0 A) (F0 m 3 ls []) := by
    intro n21
    induction n21 with
    | zero =>
      intro i21 s21 pl ls H locs hm21 hF hR hl hO hP hD hS
      refine lv_iload hx hb dME_read_3 (lv_at hl 0 rfl) ?_
      refine lv_sipush (v := nI 256) hx hb dME_read_5 (by decide) ?_
      refine mi_ge (tgt := 35) hx hb dME_read_8 (by decide) (by omega) (by omega) (fun h21 => ?_) (fun h21 => absurd h21 (by omega))
      exact mp_vret hx hb hr hlk hP hD hS (s21, pl) ⟨⟨hR.symm, hF, trivial⟩, hO⟩ [] rfl rfl rfl (by omega) (by omega) dME_read_35
    | succ n21 ih21 =>
      intro i21 s21 pl ls H locs hm21 hF hR hl hO hP hD hS
      refine lv_iload hx hb dME_read_3 (lv_at hl 0 rfl) ?_
      refine lv_sipush (v := nI 256) hx hb dME_read_5 (by decide) ?_
      refine mi_ge (tgt := 35) hx hb dME_read_8 (by decide) (by omega) (by omega) (fun h22 => absurd h22 (by omega)) (fun h22 => ?_)
      refine lv_aload_n hx hb dME_read_11 rfl (lv_at hl 4 rfl) ?_
      refine lv_iload hx hb dME_read_12 (lv_at hl 0 rfl) ?_
      refine lv_aload_n hx hb dME_read_14 rfl (lv_at hl 1 rfl) ?_
      refine lv_bipush (v := nI 8) hx hb dME_read_15 (by decide) ?_
      refine lv_iload_n hx hb dME_read_17 rfl (lv_at hl 2 rfl) ?_
      refine mi_imul hx hb dME_read_18 ?_
      refine lv_iload_n hx hb dME_read_19 rfl (lv_at hl 3 rfl) ?_
      refine lv_iload hx hb dME_read_20 (lv_at hl 0 rfl) ?_
      refine mi_imul hx hb dME_read_22 ?_
      refine mi_iadd hx hb dME_read_23 ?_
      refine lv_iload_n hx hb dME_read_24 rfl (lv_at hl 3 rfl) ?_
      refine mp_i (cx := []) (wr := []) hP hD hS hA [] [] rfl rfl rfl (by decide) (va_runSN (As := [.ref fr, .int (nI ((8 * at_) + (11 * i21))), .int (nI 11)]) (rest := [.int (nI i21), .ref f]) F (N_M_unpack l g _ T s21 pl hO hU fr pr_ n ((8 * at_) + (11 * i21)) 11 k_fr n_fr (by omega) (by omega) (by omega)) ⟨va_cnB 3 hts (wg_in kw_1667) rfl rfl rfl (hE.2.2.2.2.2.2.2.1) (hts _ (wg_t kw_9)) (by decide +kernel) ⟨by decide, by decide⟩, hts _ (wg_t kw_1666), trivial⟩ (pp_S (en_ok g) hP hD hS hA hE [] rfl rfl) rfl rfl hl.1 rfl (lv_room (Nat.le_of_ble_eq_true rfl)) dME_read_25 ⟨by omega, by omega⟩) (fun r21 u21 H locs hu21 hP hD hS => ?_)
      obtain ⟨q21, pl⟩ := u21
      obtain ⟨⟨eq21, rfl, hFc21, -⟩, hO⟩ := hu21
      have hO : okn g T q21.2 pl := hO
      have hP : va_P g.1 vcl ([] ++ pl) _ := hP
      have hD : va_D _ ([] ++ pl) := hD
      have hFc21 : frm (M_M_unpack) s21 q21.2 := hFc21
      replace hR := bnd_step hR eq21
      have hF := frm_tr hF hFc21 (fun k hk => by unfold M_M_unpack at hk; unfold M_ME_read_11; omega)
      refine W.widen (k := 0) (n := 0) (by omega) (by omega) ?_
      refine nw_iast hx hb hK hO hU k_f (k := pf) n_f hP hD hS (by omega) (by omega) dME_read_28 (fun s22 pl H locs es21 hO hP hD hS => ?_)
      replace hR := bnd_step hR es21
      have hF := frm_sI hF es21 (by unfold M_ME_read_11; omega)
      refine mi_iinc (k := 0) (x := i21) (d := 1) (y := i21 + 1) (lv' := [(4, .int (nI (i21 + 1))), (0, .ref fr), (1, .int (nI at_)), (2, .int (nI 11)), (3, .ref f)]) hx hb dME_read_29 hl rfl (by decide) rfl (by decide) rfl (fun ls hl => ?_)
      refine lv_goto (tgt := 3) hx hb dME_read_32 (by decide) ?_
      exact ih21 (i21 + 1) s22 pl ls H locs (by omega) hF hR (lv_sub hl [0, 1, 2, 3, 4] rfl) hO hP hD hS
  exact lp21 256 0 s pl ls _ _ (by omega) hF hR (lv_sub hl [0, 1, 2, 3, 4] rfl) hO hP hD hS
def M_ME_read_12 (pf : Nat) (k : Nat) : Prop := k = pf ∨ (0 : Nat) = 1
noncomputable def F_ME_read_12_L0 (pr_ : Nat) (n : Nat) (at_ : Nat) (pf : Nat) : Nat → Nat → Sto → Sto
  | 0, i21, s21 => s21
  | n21 + 1, i21, s21 => bnd (F_M_unpack pr_ n ((8 * at_) + (12 * i21)) 12 s21) fun q21 => bnd (sI q21.2 pf i21 (q21.1)) fun s22 => F_ME_read_12_L0 pr_ n at_ pf n21 (i21 + 1) s22
noncomputable def F_ME_read_12 (pr_ : Nat) (n : Nat) (at_ : Nat) (pf : Nat) (s : Sto) : Sto := F_ME_read_12_L0 pr_ n at_ pf 256 0 s
set_option maxHeartbeats 8000000 in
set_option maxRecDepth 100000 in
theorem N_ME_read_12 (l : Launch) (g : Gd) (sz : Nat) (T : TyN) (s : Sto) (pl : va_W) (hO : okn g T s pl) (hU : inj T) (fr f : Nat) (pr_ : Nat) (n : Nat) (at_ : Nat) (pf : Nat) (k_fr : T fr = some pr_) (n_fr : nsp pr_ = (1, n, [])) (k_f : T f = some pf) (n_f : nsp pf = (0, 256, [])) (h1 : at_ + 384 ≤ n) (h2 : n < 65536)  : Met l y_ME_read w_ME_read ({ frames := 1, cells := 0, slots := 0, locals := 24 } : Room) (va_Pc [.ref fr, .int (nI at_), .int (nI 12), .ref f] (pr (en g) g.1 vcl sz ([] ++ pl))) (va_Qv (fun (u : (Sto) × va_W) => (u.1 = F_ME_read_12 pr_ n at_ pf s ∧ frm (M_ME_read_12 pf) s u.1 ∧ True) ∧ okn g T u.1 u.2) (po g.1 vcl (va_A ([] ++ pl) sz) (fun (u : (Sto) × va_W) => [] ++ u.2)) (va_A ([] ++ pl) sz)) 0 0 (va_A ([] ++ pl) sz) := by
  refine mc_entry (cc := c_ME_read) (maxL := 5) (ret := none) (by decide) rfl (Nat.le_of_ble_eq_true rfl) ?_
  intro p e s0 m args below meth c ls F hr hlk hnm hsz hP hD hE hA hl
  obtain ⟨hx, hb, hml, hown, hts⟩ := id F
  have hK := hE.1
  generalize va_A ([] ++ pl) sz = A at hD hE hA ⊢
  have hS : va_S A s0.heap s0.heap [] := va_S.rf
  have hl : lv_has ls 5 [(0, .ref fr), (1, .int (nI at_)), (2, .int (nI 12)), (3, .ref f)] := hl
  have hR : F_ME_read_12 pr_ n at_ pf s = F_ME_read_12 pr_ n at_ pf s := rfl
  have hF : frm (M_ME_read_12 pf) s s := frm_rf
  refine lv_iconst (v := nI 0) hx hb dME_read_0 (by decide) ?_
  refine lv_istore (lv' := [(4, .int (nI 0)), (0, .ref fr), (1, .int (nI at_)), (2, .int (nI 12)), (3, .ref f)]) hx hb dME_read_1 hl (by decide) rfl (fun ls hl => ?_)
  have lp21 : ∀ (n21 : Nat) (i21 : Nat) (s21 : Sto) (pl : va_W) (ls : Array Slot) (H : Heap) (locs : List Loc), n21 + i21 = 256 → frm (M_ME_read_12 pf) s s21 → F_ME_read_12 pr_ n at_ pf s = F_ME_read_12_L0 pr_ n at_ pf n21 i21 s21 → lv_has ls 5 [(4, .int (nI i21)), (0, .ref fr), (1, .int (nI at_)), (2, .int (nI 12)), (3, .ref f)] → okn g T s21 pl → va_P g.1 vcl ([] ++ pl) H → va_D A ([] ++ pl) → va_S A s0.heap H locs → W p l e ({ frames := 1, cells := 0, slots := 0, locals := 24 } : Room) s0 m args below meth c H locs 0 0 (MQ below (va_Qv (fun (u : (Sto) × va_W) => (u.1 = F_ME_read_12 pr_ n at_ pf s ∧ frm (M_ME_read_12 pf) s u.1 ∧ True) ∧ okn g T u.1 u.2) (po g.1 vcl A (fun (u : (Sto) × va_W) => [] ++ u.2)) A) args s0 0 0 A) (F0 m 3 ls []) := by
    intro n21
    induction n21 with
    | zero =>
      intro i21 s21 pl ls H locs hm21 hF hR hl hO hP hD hS
      refine lv_iload hx hb dME_read_3 (lv_at hl 0 rfl) ?_
      refine lv_sipush (v := nI 256) hx hb dME_read_5 (by decide) ?_
      refine mi_ge (tgt := 35) hx hb dME_read_8 (by decide) (by omega) (by omega) (fun h21 => ?_) (fun h21 => absurd h21 (by omega))
      exact mp_vret hx hb hr hlk hP hD hS (s21, pl) ⟨⟨hR.symm, hF, trivial⟩, hO⟩ [] rfl rfl rfl (by omega) (by omega) dME_read_35
    | succ n21 ih21 =>
      intro i21 s21 pl ls H locs hm21 hF hR hl hO hP hD hS
      refine lv_iload hx hb dME_read_3 (lv_at hl 0 rfl) ?_
      refine lv_sipush (v := nI 256) hx hb dME_read_5 (by decide) ?_
      refine mi_ge (tgt := 35) hx hb dME_read_8 (by decide) (by omega) (by omega) (fun h22 => absurd h22 (by omega)) (fun h22 => ?_)
      refine lv_aload_n hx hb dME_read_11 rfl (lv_at hl 4 rfl) ?_
      refine lv_iload hx hb dME_read_12 (lv_at hl 0 rfl) ?_
      refine lv_aload_n hx hb dME_read_14 rfl (lv_at hl 1 rfl) ?_
      refine lv_bipush (v := nI 8) hx hb dME_read_15 (by decide) ?_
      refine lv_iload_n hx hb dME_read_17 rfl (lv_at hl 2 rfl) ?_
      refine mi_imul hx hb dME_read_18 ?_
      refine lv_iload_n hx hb dME_read_19 rfl (lv_at hl 3 rfl) ?_
      refine lv_iload hx hb dME_read_20 (lv_at hl 0 rfl) ?_
      refine mi_imul hx hb dME_read_22 ?_
      refine mi_iadd hx hb dME_read_23 ?_
      refine lv_iload_n hx hb dME_read_24 rfl (lv_at hl 3 rfl) ?_
      refine mp_i (cx := []) (wr := []) hP hD hS hA [] [] rfl rfl rfl (by decide) (va_runSN (As := [.ref fr, .int (nI ((8 * at_) + (12 * i21))), .int (nI 12)]) (rest := [.int (nI i21), .ref f]) F (N_M_unpack l g _ T s21 pl hO hU fr pr_ n ((8 * at_) + (12 * i21)) 12 k_fr n_fr (by omega) (by omega) (by omega)) ⟨va_cnB 3 hts (wg_in kw_1667) rfl rfl rfl (hE.2.2.2.2.2.2.2.1) (hts _ (wg_t kw_9)) (by decide +kernel) ⟨by decide, by decide⟩, hts _ (wg_t kw_1666), trivial⟩ (pp_S (en_ok g) hP hD hS hA hE [] rfl rfl) rfl rfl hl.1 rfl (lv_room (Nat.le_of_ble_eq_true rfl)) dME_read_25 ⟨by omega, by omega⟩) (fun r21 u21 H locs hu21 hP hD hS => ?_)
      obtain ⟨q21, pl⟩ := u21
      obtain ⟨⟨eq21, rfl, hFc21, -⟩, hO⟩ := hu21
      have hO : okn g T q21.2 pl := hO
      have hP : va_P g.1 vcl ([] ++ pl) _ := hP
      have hD : va_D _ ([] ++ pl) := hD
      have hFc21 : frm (M_M_unpack) s21 q21.2 := hFc21
      replace hR := bnd_step hR eq21
      have hF := frm_tr hF hFc21 (fun k hk => by unfold M_M_unpack at hk; unfold M_ME_read_12; omega)
      refine W.widen (k := 0) (n := 0) (by omega) (by omega) ?_
      refine nw_iast hx hb hK hO hU k_f (k := pf) n_f hP hD hS (by omega) (by omega) dME_read_28 (fun s22 pl H locs es21 hO hP hD hS => ?_)
      replace hR := bnd_step hR es21
      have hF := frm_sI hF es21 (by unfold M_ME_read_12; omega)
      refine mi_iinc (k := 0) (x := i21) (d := 1) (y := i21 + 1) (lv' := [(4, .int (nI (i21 + 1))), (0, .ref fr), (1, .int (nI at_)), (2, .int (nI 12)), (3, .ref f)]) hx hb dME_read_29 hl rfl (by decide) rfl (by decide) rfl (fun ls hl => ?_)
      refine lv_goto (tgt := 3) hx hb dME_read_32 (by decide) ?_
      exact ih21 (i21 + 1) s22 pl ls H locs (by omega) hF hR (lv_sub hl [0, 1, 2, 3, 4] rfl) hO hP hD hS
  exact lp21 256 0 s pl ls _ _ (by omega) hF hR (lv_sub hl [0, 1, 2, 3, 4] rfl) hO hP hD hS
def M_ME_less_1 (pf : Nat) (k : Nat) : Prop := k = pf ∨ (0 : Nat) = 1
noncomputable def F_ME_less_1_L0 (pf : Nat) : Nat → Nat → Sto → Sto
  | 0, i21, s21 => s21
  | n21 + 1, i21, s21 => bnd (sI s21 pf i21 (((((s21.1 pf i21) <<< ((nI 2) &&& 31)) + (nI 3329)) / (nI 6658)) - ((((s21.1 pf i21) <<< ((nI 2) &&& 31)) + (nI 3329)) / (nI 6658)) / (nI 2) * (nI 2))) fun s22 => F_ME_less_1_L0 pf n21 (i21 + 1) s22
noncomputable def F_ME_less_1 (pf : Nat) (s : Sto) : Sto := F_ME_less_1_L0 pf 256 0 s
set_option maxHeartbeats 8000000 in
set_option maxRecDepth 100000 in
theorem N_ME_less_1 (l : Launch) (g : Gd) (sz : Nat) (T : TyN) (s : Sto) (pl : va_W) (hO : okn g T s pl) (hU : inj T) (f : Nat) (pf : Nat) (k_f : T f = some pf) (n_f : nsp pf = (0, 256, []))  : Met l y_ME_less w_ME_less ({ frames := 0, cells := 0, slots := 0, locals := 0 } : Room) (va_Pc [.ref f, .int (nI 1)] (pr (en g) g.1 vcl sz ([] ++ pl))) (va_Qv (fun (u : (Sto) × va_W) => (u.1 = F_ME_less_1 pf s ∧ frm (M_ME_less_1 pf) s u.1 ∧ True) ∧ okn g T u.1 u.2) (po g.1 vcl (va_A ([] ++ pl) sz) (fun (u : (Sto) × va_W) => [] ++ u.2)) (va_A ([] ++ pl) sz)) 0 0 (va_A ([] ++ pl) sz) := by
  refine mc_entry (cc := c_ME_less) (maxL := 3) (ret := none) (by decide) rfl (Nat.le_of_ble_eq_true rfl) ?_
  intro p e s0 m args below meth c ls F hr hlk hnm hsz hP hD hE hA hl
  obtain ⟨hx, hb, hml, hown, hts⟩ := id F
  have hK := hE.1
  generalize va_A ([] ++ pl) sz = A at hD hE hA ⊢
  have hS : va_S A s0.heap s0.heap [] := va_S.rf
  have hl : lv_has ls 3 [(0, .ref f), (1, .int (nI 1))] := hl
  have hR : F_ME_less_1 pf s = F_ME_less_1 pf s := rfl
  have hF : frm (M_ME_less_1 pf) s s := frm_rf
  refine lv_iconst (v := nI 0) hx hb dME_less_0 (by decide) ?_
  refine lv_istore_n (lv' := [(2, .int (nI 0)), (0, .ref f), (1, .int (nI 1))]) hx hb dME_less_1 rfl hl (by decide) rfl (fun ls hl => ?_)
  have lp21 : ∀ (n21 : Nat) (i21 : Nat) (s21 : Sto) (pl : va_W) (ls : Array Slot) (H : Heap) (locs : List Loc), n21 + i21 = 256 → frm (M_ME_less_1 pf) s s21 → F_ME_less_1 pf s = F_ME_less_1_L0 pf n21 i21 s21 → lv_has ls 3 [(2, .int (nI i21)), (0, .ref f), (1, .int (nI 1))] → okn g T s21 pl → va_P g.1 vcl ([] ++ pl) H → va_D A ([] ++ pl) → va_S A s0.heap H locs → W p l e ({ frames := 0, cells := 0, slots := 0, locals := 0 } : Room) s0 m args below meth c H locs 0 0 (MQ below (va_Qv (fun (u : (Sto) × va_W) => (u.1 = F_ME_less_1 pf s ∧ frm (M_ME_less_1 pf) s u.1 ∧ True) ∧ okn g T u.1 u.2) (po g.1 vcl A (fun (u : (Sto) × va_W) => [] ++ u.2)) A) args s0 0 0 A) (F0 m 2 ls []) := by
    intro n21
    induction n21 with
    | zero =>
      intro i21 s21 pl ls H locs hm21 hF hR hl hO hP hD hS
      refine lv_iload_n hx hb dME_less_2 rfl (lv_at hl 0 rfl) ?_
      refine lv_sipush (v := nI 256) hx hb dME_less_3 (by decide) ?_
      refine mi_ge (tgt := 37) hx hb dME_less_6 (by decide) (by omega) (by omega) (fun h21 => ?_) (fun h21 => absurd h21 (by omega))
      exact mp_vret hx hb hr hlk hP hD hS (s21, pl) ⟨⟨hR.symm, hF, trivial⟩, hO⟩ [] rfl rfl rfl (by omega) (by omega) dME_less_37
    | succ n21 ih21 =>
      intro i21 s21 pl ls H locs hm21 hF hR hl hO hP hD hS
      refine lv_iload_n hx hb dME_less_2 rfl (lv_at hl 0 rfl) ?_
      refine lv_sipush (v := nI 256) hx hb dME_less_3 (by decide) ?_
      refine mi_ge (tgt := 37) hx hb dME_less_6 (by decide) (by omega) (by omega) (fun h22 => absurd h22 (by omega)) (fun h22 => ?_)
      refine lv_aload_n hx hb dME_less_9 rfl (lv_at hl 1 rfl) ?_
      refine lv_iload_n hx hb dME_less_10 rfl (lv_at hl 0 rfl) ?_
      refine lv_aload_n hx hb dME_less_11 rfl (lv_at hl 1 rfl) ?_
      refine lv_iload_n hx hb dME_less_12 rfl (lv_at hl 0 rfl) ?_
      refine nw_iald hx hb hK hO k_f (k := pf) n_f hP (by omega) (by omega) dME_less_13 ?_
      refine lv_iload_n hx hb dME_less_14 rfl (lv_at hl 2 rfl) ?_
      refine lv_iconst (v := nI 1) hx hb dME_less_15 (by decide) ?_
      refine mi_iadd hx hb dME_less_16 ?_
      refine mi_as (show nI (1 + 1) = nI 2 from rfl) ?_
      refine lv_ishl hx hb dME_less_17 ?_
      refine lv_sipush (v := nI 3329) hx hb dME_less_18 (by decide) ?_
      refine lv_iadd hx hb dME_less_21 ?_
      refine lv_sipush (v := nI 6658) hx hb dME_less_22 (by decide) ?_
      refine lv_idiv hx hb dME_less_25 (nI_ne0 (by omega) (by omega)) ?_
      refine lv_iconst (v := nI 1) hx hb dME_less_26 (by decide) ?_
      refine lv_iload_n hx hb dME_less_27 rfl (lv_at hl 2 rfl) ?_
      refine mi_ishl hx hb dME_less_28 (by decide) (by decide) ?_
      refine mi_as (show nI (1 * 2 ^ 1) = nI 2 from rfl) ?_
      refine lv_irem hx hb dME_less_29 (nI_ne0 (by omega) (by omega)) ?_
      refine nw_iast hx hb hK hO hU k_f (k := pf) n_f hP hD hS (by omega) (by omega) dME_less_30 (fun s22 pl H locs es21 hO hP hD hS => ?_)
      replace hR := bnd_step hR es21
      have hF := frm_sI hF es21 (by unfold M_ME_less_1; omega)
      refine mi_iinc (k := 0) (x := i21) (d := 1) (y := i21 + 1) (lv' := [(2, .int (nI (i21 + 1))), (0, .ref f), (1, .int (nI 1))]) hx hb dME_less_31 hl rfl (by decide) rfl (by decide) rfl (fun ls hl => ?_)
      refine lv_goto (tgt := 2) hx hb dME_less_34 (by decide) ?_
      exact ih21 (i21 + 1) s22 pl ls H locs (by omega) hF hR (lv_sub hl [0, 1, 2] rfl) hO hP hD hS
  exact lp21 256 0 s pl ls _ _ (by omega) hF hR (lv_sub hl [0, 1, 2] rfl) hO hP hD hS
def M_ME_less_4 (pf : Nat) (k : Nat) : Prop := k = pf ∨ (0 : Nat) = 1
noncomputable def F_ME_less_4_L0 (pf : Nat) : Nat → Nat → Sto → Sto
  | 0, i21, s21 => s21
  | n21 + 1, i21, s21 => bnd (sI s21 pf i21 (((((s21.1 pf i21) <<< ((nI 5) &&& 31)) + (nI 3329)) / (nI 6658)) - ((((s21.1 pf i21) <<< ((nI 5) &&& 31)) + (nI 3329)) / (nI 6658)) / (nI 16) * (nI 16))) fun s22 => F_ME_less_4_L0 pf n21 (i21 + 1) s22
noncomputable def F_ME_less_4 (pf : Nat) (s : Sto) : Sto := F_ME_less_4_L0 pf 256 0 s
set_option maxHeartbeats 8000000 in
set_option maxRecDepth 100000 in
theorem N_ME_less_4 (l : Launch) (g : Gd) (sz : Nat) (T : TyN) (s : Sto) (pl : va_W) (hO : okn g T s pl) (hU : inj T) (f : Nat) (pf : Nat) (k_f : T f = some pf) (n_f : nsp pf = (0, 256, []))  : Met l y_ME_less w_ME_less ({ frames := 0, cells := 0, slots := 0, locals := 0 } : Room) (va_Pc [.ref f, .int (nI 4)] (pr (en g) g.1 vcl sz ([] ++ pl))) (va_Qv (fun (u : (Sto) × va_W) => (u.1 = F_ME_less_4 pf s ∧ frm (M_ME_less_4 pf) s u.1 ∧ True) ∧ okn g T u.1 u.2) (po g.1 vcl (va_A ([] ++ pl) sz) (fun (u : (Sto) × va_W) => [] ++ u.2)) (va_A ([] ++ pl) sz)) 0 0 (va_A ([] ++ pl) sz) := by
  refine mc_entry (cc := c_ME_less) (maxL := 3) (ret := none) (by decide) rfl (Nat.le_of_ble_eq_true rfl) ?_
  intro p e s0 m args below meth c ls F hr hlk hnm hsz hP hD hE hA hl
  obtain ⟨hx, hb, hml, hown, hts⟩ := id F
  have hK := hE.1
  generalize va_A ([] ++ pl) sz = A at hD hE hA ⊢
  have hS : va_S A s0.heap s0.heap [] := va_S.rf
  have hl : lv_has ls 3 [(0, .ref f), (1, .int (nI 4))] := hl
  have hR : F_ME_less_4 pf s = F_ME_less_4 pf s := rfl
  have hF : frm (M_ME_less_4 pf) s s := frm_rf
  refine lv_iconst (v := nI 0) hx hb dME_less_0 (by decide) ?_
  refine lv_istore_n (lv' := [(2, .int (nI 0)), (0, .ref f), (1, .int (nI 4))]) hx hb dME_less_1 rfl hl (by decide) rfl (fun ls hl => ?_)
  have lp21 : ∀ (n21 : Nat) (i21 : Nat) (s21 : Sto) (pl : va_W) (ls : Array Slot) (H : Heap) (locs : List Loc), n21 + i21 = 256 → frm (M_ME_less_4 pf) s s21 → F_ME_less_4 pf s = F_ME_less_4_L0 pf n21 i21 s21 → lv_has ls 3 [(2, .int (nI i21)), (0, .ref f), (1, .int (nI 4))] → okn g T s21 pl → va_P g.1 vcl ([] ++ pl) H → va_D A ([] ++ pl) → va_S A s0.heap H locs → W p l e ({ frames := 0, cells := 0, slots := 0, locals := 0 } : Room) s0 m args below meth c H locs 0 0 (MQ below (va_Qv (fun (u : (Sto) × va_W) => (u.1 = F_ME_less_4 pf s ∧ frm (M_ME_less_4 pf) s u.1 ∧ True) ∧ okn g T u.1 u.2) (po g.1 vcl A (fun (u : (Sto) × va_W) => [] ++ u.2)) A) args s0 0 0 A) (F0 m 2 ls []) := by
    intro n21
    induction n21 with
    | zero =>
      intro i21 s21 pl ls H locs hm21 hF hR hl hO hP hD hS
      refine lv_iload_n hx hb dME_less_2 rfl (lv_at hl 0 rfl) ?_
      refine lv_sipush (v := nI 256) hx hb dME_less_3 (by decide) ?_
      refine mi_ge (tgt := 37) hx hb dME_less_6 (by decide) (by omega) (by omega) (fun h21 => ?_) (fun h21 => absurd h21 (by omega))
      exact mp_vret hx hb hr hlk hP hD hS (s21, pl) ⟨⟨hR.symm, hF, trivial⟩, hO⟩ [] rfl rfl rfl (by omega) (by omega) dME_less_37
    | succ n21 ih21 =>
      intro i21 s21 pl ls H locs hm21 hF hR hl hO hP hD hS
      refine lv_iload_n hx hb dME_less_2 rfl (lv_at hl 0 rfl) ?_
      refine lv_sipush (v := nI 256) hx hb dME_less_3 (by decide) ?_
      refine mi_ge (tgt := 37) hx hb dME_less_6 (by decide) (by omega) (by omega) (fun h22 => absurd h22 (by omega)) (fun h22 => ?_)
      refine lv_aload_n hx hb dME_less_9 rfl (lv_at hl 1 rfl) ?_
      refine lv_iload_n hx hb dME_less_10 rfl (lv_at hl 0 rfl) ?_
      refine lv_aload_n hx hb dME_less_11 rfl (lv_at hl 1 rfl) ?_
      refine lv_iload_n hx hb dME_less_12 rfl (lv_at hl 0 rfl) ?_
      refine nw_iald hx hb hK hO k_f (k := pf) n_f hP (by omega) (by omega) dME_less_13 ?_
      refine lv_iload_n hx hb dME_less_14 rfl (lv_at hl 2 rfl) ?_
      refine lv_iconst (v := nI 1) hx hb dME_less_15 (by decide) ?_
      refine mi_iadd hx hb dME_less_16 ?_
      refine mi_as (show nI (4 + 1) = nI 5 from rfl) ?_
      refine lv_ishl hx hb dME_less_17 ?_
      refine lv_sipush (v := nI 3329) hx hb dME_less_18 (by decide) ?_
      refine lv_iadd hx hb dME_less_21 ?_
      refine lv_sipush (v := nI 6658) hx hb dME_less_22 (by decide) ?_
      refine lv_idiv hx hb dME_less_25 (nI_ne0 (by omega) (by omega)) ?_
      refine lv_iconst (v := nI 1) hx hb dME_less_26 (by decide) ?_
      refine lv_iload_n hx hb dME_less_27 rfl (lv_at hl 2 rfl) ?_
      refine mi_ishl hx hb dME_less_28 (by decide) (by decide) ?_
      refine mi_as (show nI (1 * 2 ^ 4) = nI 16 from rfl) ?_
      refine lv_irem hx hb dME_less_29 (nI_ne0 (by omega) (by omega)) ?_
      refine nw_iast hx hb hK hO hU k_f (k := pf) n_f hP hD hS (by omega) (by omega) dME_less_30 (fun s22 pl H locs es21 hO hP hD hS => ?_)
      replace hR := bnd_step hR es21
      have hF := frm_sI hF es21 (by unfold M_ME_less_4; omega)
      refine mi_iinc (k := 0) (x := i21) (d := 1) (y := i21 + 1) (lv' := [(2, .int (nI (i21 + 1))), (0, .ref f), (1, .int (nI 4))]) hx hb dME_less_31 hl rfl (by decide) rfl (by decide) rfl (fun ls hl => ?_)
      refine lv_goto (tgt := 2) hx hb dME_less_34 (by decide) ?_
      exact ih21 (i21 + 1) s22 pl ls H locs (by omega) hF hR (lv_sub hl [0, 1, 2] rfl) hO hP hD hS
  exact lp21 256 0 s pl ls _ _ (by omega) hF hR (lv_sub hl [0, 1, 2] rfl) hO hP hD hS
def M_ME_less_5 (pf : Nat) (k : Nat) : Prop := k = pf ∨ (0 : Nat) = 1
noncomputable def F_ME_less_5_L0 (pf : Nat) : Nat → Nat → Sto → Sto
  | 0, i21, s21 => s21
  | n21 + 1, i21, s21 => bnd (sI s21 pf i21 (((((s21.1 pf i21) <<< ((nI 6) &&& 31)) + (nI 3329)) / (nI 6658)) - ((((s21.1 pf i21) <<< ((nI 6) &&& 31)) + (nI 3329)) / (nI 6658)) / (nI 32) * (nI 32))) fun s22 => F_ME_less_5_L0 pf n21 (i21 + 1) s22
noncomputable def F_ME_less_5 (pf : Nat) (s : Sto) : Sto := F_ME_less_5_L0 pf 256 0 s
set_option maxHeartbeats 8000000 in
set_option maxRecDepth 100000 in
theorem N_ME_less_5 (l : Launch) (g : Gd) (sz : Nat) (T : TyN) (s : Sto) (pl : va_W) (hO : okn g T s pl) (hU : inj T) (f : Nat) (pf : Nat) (k_f : T f = some pf) (n_f : nsp pf = (0, 256, []))  : Met l y_ME_less w_ME_less ({ frames := 0, cells := 0, slots := 0, locals := 0 } : Room) (va_Pc [.ref f, .int (nI 5)] (pr (en g) g.1 vcl sz ([] ++ pl))) (va_Qv (fun (u : (Sto) × va_W) => (u.1 = F_ME_less_5 pf s ∧ frm (M_ME_less_5 pf) s u.1 ∧ True) ∧ okn g T u.1 u.2) (po g.1 vcl (va_A ([] ++ pl) sz) (fun (u : (Sto) × va_W) => [] ++ u.2)) (va_A ([] ++ pl) sz)) 0 0 (va_A ([] ++ pl) sz) := by
  refine mc_entry (cc := c_ME_less) (maxL := 3) (ret := none) (by decide) rfl (Nat.le_of_ble_eq_true rfl) ?_
  intro p e s0 m args below meth c ls F hr hlk hnm hsz hP hD hE hA hl
  obtain ⟨hx, hb, hml, hown, hts⟩ := id F
  have hK := hE.1
  generalize va_A ([] ++ pl) sz = A at hD hE hA ⊢
  have hS : va_S A s0.heap s0.heap [] := va_S.rf
  have hl : lv_has ls 3 [(0, .ref f), (1, .int (nI 5))] := hl
  have hR : F_ME_less_5 pf s = F_ME_less_5 pf s := rfl
  have hF : frm (M_ME_less_5 pf) s s := frm_rf
  refine lv_iconst (v := nI 0) hx hb dME_less_0 (by decide) ?_
  refine lv_istore_n (lv' := [(2, .int (nI 0)), (0, .ref f), (1, .int (nI 5))]) hx hb dME_less_1 rfl hl (by decide) rfl (fun ls hl => ?_)
  have lp21 : ∀ (n21 : Nat) (i21 : Nat) (s21 : Sto) (pl : va_W) (ls : Array Slot) (H : Heap) (locs : List Loc), n21 + i21 = 256 → frm (M_ME_less_5 pf) s s21 → F_ME_less_5 pf s = F_ME_less_5_L0 pf n21 i21 s21 → lv_has ls 3 [(2, .int (nI i21)), (0, .ref f), (1, .int (nI 5))] → okn g T s21 pl → va_P g.1 vcl ([] ++ pl) H → va_D A ([] ++ pl) → va_S A s0.heap H locs → W p l e ({ frames := 0, cells := 0, slots := 0, locals := 0 } : Room) s0 m args below meth c H locs 0 0 (MQ below (va_Qv (fun (u : (Sto) × va_W) => (u.1 = F_ME_less_5 pf s ∧ frm (M_ME_less_5 pf) s u.1 ∧ True) ∧ okn g T u.1 u.2) (po g.1 vcl A (fun (u : (Sto) × va_W) => [] ++ u.2)) A) args s0 0 0 A) (F0 m 2 ls []) := by
    intro n21
    induction n21 with
    | zero =>
      intro i21 s21 pl ls H locs hm21 hF hR hl hO hP hD hS
      refine lv_iload_n hx hb dME_less_2 rfl (lv_at hl 0 rfl) ?_
      refine lv_sipush (v := nI 256) hx hb dME_less_3 (by decide) ?_
      refine mi_ge (tgt := 37) hx hb dME_less_6 (by decide) (by omega) (by omega) (fun h21 => ?_) (fun h21 => absurd h21 (by omega))
      exact mp_vret hx hb hr hlk hP hD hS (s21, pl) ⟨⟨hR.symm, hF, trivial⟩, hO⟩ [] rfl rfl rfl (by omega) (by omega) dME_less_37
    | succ n21 ih21 =>
      intro i21 s21 pl ls H locs hm21 hF hR hl hO hP hD hS
      refine lv_iload_n hx hb dME_less_2 rfl (lv_at hl 0 rfl) ?_
      refine lv_sipush (v := nI 256) hx hb dME_less_3 (by decide) ?_
      refine mi_ge (tgt := 37) hx hb dME_less_6 (by decide) (by omega) (by omega) (fun h22 => absurd h22 (by omega)) (fun h22 => ?_)
      refine lv_aload_n hx hb dME_less_9 rfl (lv_at hl 1 rfl) ?_
      refine lv_iload_n hx hb dME_less_10 rfl (lv_at hl 0 rfl) ?_
      refine lv_aload_n hx hb dME_less_11 rfl (lv_at hl 1 rfl) ?_
      refine lv_iload_n hx hb dME_less_12 rfl (lv_at hl 0 rfl) ?_
      refine nw_iald hx hb hK hO k_f (k := pf) n_f hP (by omega) (by omega) dME_less_13 ?_
      refine lv_iload_n hx hb dME_less_14 rfl (lv_at hl 2 rfl) ?_
      refine lv_iconst (v := nI 1) hx hb dME_less_15 (by decide) ?_
      refine mi_iadd hx hb dME_less_16 ?_
      refine mi_as (show nI (5 + 1) = nI 6 from rfl) ?_
      refine lv_ishl hx hb dME_less_17 ?_
      refine lv_sipush (v := nI 3329) hx hb dME_less_18 (by decide) ?_
      refine lv_iadd hx hb dME_less_21 ?_
      refine lv_sipush (v := nI 6658) hx hb dME_less_22 (by decide) ?_
      refine lv_idiv hx hb dME_less_25 (nI_ne0 (by omega) (by omega)) ?_
      refine lv_iconst (v := nI 1) hx hb dME_less_26 (by decide) ?_
      refine lv_iload_n hx hb dME_less_27 rfl (lv_at hl 2 rfl) ?_
      refine mi_ishl hx hb dME_less_28 (by decide) (by decide) ?_
      refine mi_as (show nI (1 * 2 ^ 5) = nI 32 from rfl) ?_
      refine lv_irem hx hb dME_less_29 (nI_ne0 (by omega) (by omega)) ?_
      refine nw_iast hx hb hK hO hU k_f (k := pf) n_f hP hD hS (by omega) (by omega) dME_less_30 (fun s22 pl H locs es21 hO hP hD hS => ?_)
      replace hR := bnd_step hR es21
      have hF := frm_sI hF es21 (by unfold M_ME_less_5; omega)
      refine mi_iinc (k := 0) (x := i21) (d := 1) (y := i21 + 1) (lv' := [(2, .int (nI (i21 + 1))), (0, .ref f), (1, .int (nI 5))]) hx hb dME_less_31 hl rfl (by decide) rfl (by decide) rfl (fun ls hl => ?_)
      refine lv_goto (tgt := 2) hx hb dME_less_34 (by decide) ?_
      exact ih21 (i21 + 1) s22 pl ls H locs (by omega) hF hR (lv_sub hl [0, 1, 2] rfl) hO hP hD hS
  exact lp21 256 0 s pl ls _ _ (by omega) hF hR (lv_sub hl [0, 1, 2] rfl) hO hP hD hS
def M_ME_less_10 (pf : Nat) (k : Nat) : Prop := k = pf ∨ (0 : Nat) = 1
noncomputable def F_ME_less_10_L0 (pf : Nat) : Nat → Nat → Sto → Sto
  | 0, i21, s21 => s21
  | n21 + 1, i21, s21 => bnd (sI s21 pf i21 (((((s21.1 pf i21) <<< ((nI 11) &&& 31)) + (nI 3329)) / (nI 6658)) - ((((s21.1 pf i21) <<< ((nI 11) &&& 31)) + (nI 3329)) / (nI 6658)) / (nI 1024) * (nI 1024))) fun s22 => F_ME_less_10_L0 pf n21 (i21 + 1) s22
noncomputable def F_ME_less_10 (pf : Nat) (s : Sto) : Sto := F_ME_less_10_L0 pf 256 0 s
set_option maxHeartbeats 8000000 in
set_option maxRecDepth 100000 in
theorem N_ME_less_10 (l : Launch) (g : Gd) (sz : Nat) (T : TyN) (s : Sto) (pl : va_W) (hO : okn g T s pl) (hU : inj T) (f : Nat) (pf : Nat) (k_f : T f = some pf) (n_f : nsp pf = (0, 256, []))  : Met l y_ME_less w_ME_less ({ frames := 0, cells := 0, slots := 0, locals := 0 } : Room) (va_Pc [.ref f, .int (nI 10)] (pr (en g) g.1 vcl sz ([] ++ pl))) (va_Qv (fun (u : (Sto) × va_W) => (u.1 = F_ME_less_10 pf s ∧ frm (M_ME_less_10 pf) s u.1 ∧ True) ∧ okn g T u.1 u.2) (po g.1 vcl (va_A ([] ++ pl) sz) (fun (u : (Sto) × va_W) => [] ++ u.2)) (va_A ([] ++ pl) sz)) 0 0 (va_A ([] ++ pl) sz) := by
  refine mc_entry (cc := c_ME_less) (maxL := 3) (ret := none) (by decide) rfl (Nat.le_of_ble_eq_true rfl) ?_
  intro p e s0 m args below meth c ls F hr hlk hnm hsz hP hD hE hA hl
  obtain ⟨hx, hb, hml, hown, hts⟩ := id F
  have hK := hE.1
  generalize va_A ([] ++ pl) sz = A at hD hE hA ⊢
  have hS : va_S A s0.heap s0.heap [] := va_S.rf
  have hl : lv_has ls 3 [(0, .ref f), (1, .int (nI 10))] := hl
  have hR : F_ME_less_10 pf s = F_ME_less_10 pf s := rfl
  have hF : frm (M_ME_less_10 pf) s s := frm_rf
  refine lv_iconst (v := nI 0) hx hb dME_less_0 (by decide) ?_
  refine lv_istore_n (lv' := [(2, .int (nI 0)), (0, .ref f), (1, .int (nI 10))]) hx hb dME_less_1 rfl hl (by decide) rfl (fun ls hl => ?_)
  have lp21 : ∀ (n21 : Nat) (i21 : Nat) (s21 : Sto) (pl : va_W) (ls : Array Slot) (H : Heap) (locs : List Loc), n21 + i21 = 256 → frm (M_ME_less_10 pf) s s21 → F_ME_less_10 pf s = F_ME_less_10_L0 pf n21 i21 s21 → lv_has ls 3 [(2, .int (nI i21)), (0, .ref f), (1, .int (nI 10))] → okn g T s21 pl → va_P g.1 vcl ([] ++ pl) H → va_D A ([] ++ pl) → va_S A s0.heap H locs → W p l e ({ frames := 0, cells := 0, slots := 0, locals := 0 } : Room) s0 m args below meth c H locs 0 0 (MQ below (va_Qv (fun (u : (Sto) × va_W) => (u.1 = F_ME_less_10 pf s ∧ frm (M_ME_less_10 pf) s u.1 ∧ True) ∧ okn g T u.1 u.2) (po g.1 vcl A (fun (u : (Sto) × va_W) => [] ++ u.2)) A) args s0 0 0 A) (F0 m 2 ls []) := by
    intro n21
    induction n21 with
    | zero =>
      intro i21 s21 pl ls H locs hm21 hF hR hl hO hP hD hS
      refine lv_iload_n hx hb dME_less_2 rfl (lv_at hl 0 rfl) ?_
      refine lv_sipush (v := nI 256) hx hb dME_less_3 (by decide) ?_
      refine mi_ge (tgt := 37) hx hb dME_less_6 (by decide) (by omega) (by omega) (fun h21 => ?_) (fun h21 => absurd h21 (by omega))
      exact mp_vret hx hb hr hlk hP hD hS (s21, pl) ⟨⟨hR.symm, hF, trivial⟩, hO⟩ [] rfl rfl rfl (by omega) (by omega) dME_less_37
    | succ n21 ih21 =>
      intro i21 s21 pl ls H locs hm21 hF hR hl hO hP hD hS
      refine lv_iload_n hx hb dME_less_2 rfl (lv_at hl 0 rfl) ?_
      refine lv_sipush (v := nI 256) hx hb dME_less_3 (by decide) ?_
      refine mi_ge (tgt := 37) hx hb dME_less_6 (by decide) (by omega) (by omega) (fun h22 => absurd h22 (by omega)) (fun h22 => ?_)
      refine lv_aload_n hx hb dME_less_9 rfl (lv_at hl 1 rfl) ?_
      refine lv_iload_n hx hb dME_less_10 rfl (lv_at hl 0 rfl) ?_
      refine lv_aload_n hx hb dME_less_11 rfl (lv_at hl 1 rfl) ?_
      refine lv_iload_n hx hb dME_less_12 rfl (lv_at hl 0 rfl) ?_
      refine nw_iald hx hb hK hO k_f (k := pf) n_f hP (by omega) (by omega) dME_less_13 ?_
      refine lv_iload_n hx hb dME_less_14 rfl (lv_at hl 2 rfl) ?_
      refine lv_iconst (v := nI 1) hx hb dME_less_15 (by decide) ?_
      refine mi_iadd hx hb dME_less_16 ?_
      refine mi_as (show nI (10 + 1) = nI 11 from rfl) ?_
      refine lv_ishl hx hb dME_less_17 ?_
      refine lv_sipush (v := nI 3329) hx hb dME_less_18 (by decide) ?_
      refine lv_iadd hx hb dME_less_21 ?_
      refine lv_sipush (v := nI 6658) hx hb dME_less_22 (by decide) ?_
      refine lv_idiv hx hb dME_less_25 (nI_ne0 (by omega) (by omega)) ?_
      refine lv_iconst (v := nI 1) hx hb dME_less_26 (by decide) ?_
      refine lv_iload_n hx hb dME_less_27 rfl (lv_at hl 2 rfl) ?_
      refine mi_ishl hx hb dME_less_28 (by decide) (by decide) ?_
      refine mi_as (show nI (1 * 2 ^ 10) = nI 1024 from rfl) ?_
      refine lv_irem hx hb dME_less_29 (nI_ne0 (by omega) (by omega)) ?_
      refine nw_iast hx hb hK hO hU k_f (k := pf) n_f hP hD hS (by omega) (by omega) dME_less_30 (fun s22 pl H locs es21 hO hP hD hS => ?_)
      replace hR := bnd_step hR es21
      have hF := frm_sI hF es21 (by unfold M_ME_less_10; omega)
      refine mi_iinc (k := 0) (x := i21) (d := 1) (y := i21 + 1) (lv' := [(2, .int (nI (i21 + 1))), (0, .ref f), (1, .int (nI 10))]) hx hb dME_less_31 hl rfl (by decide) rfl (by decide) rfl (fun ls hl => ?_)
      refine lv_goto (tgt := 2) hx hb dME_less_34 (by decide) ?_
      exact ih21 (i21 + 1) s22 pl ls H locs (by omega) hF hR (lv_sub hl [0, 1, 2] rfl) hO hP hD hS
  exact lp21 256 0 s pl ls _ _ (by omega) hF hR (lv_sub hl [0, 1, 2] rfl) hO hP hD hS
def M_ME_less_11 (pf : Nat) (k : Nat) : Prop := k = pf ∨ (0 : Nat) = 1
noncomputable def F_ME_less_11_L0 (pf : Nat) : Nat → Nat → Sto → Sto
  | 0, i21, s21 => s21
  | n21 + 1, i21, s21 => bnd (sI s21 pf i21 (((((s21.1 pf i21) <<< ((nI 12) &&& 31)) + (nI 3329)) / (nI 6658)) - ((((s21.1 pf i21) <<< ((nI 12) &&& 31)) + (nI 3329)) / (nI 6658)) / (nI 2048) * (nI 2048))) fun s22 => F_ME_less_11_L0 pf n21 (i21 + 1) s22
noncomputable def F_ME_less_11 (pf : Nat) (s : Sto) : Sto := F_ME_less_11_L0 pf 256 0 s
set_option maxHeartbeats 8000000 in
set_option maxRecDepth 100000 in
theorem N_ME_less_11 (l : Launch) (g : Gd) (sz : Nat) (T : TyN) (s : Sto) (pl : va_W) (hO : okn g T s pl) (hU : inj T) (f : Nat) (pf : Nat) (k_f : T f = some pf) (n_f : nsp pf = (0, 256, []))  : Met l y_ME_less w_ME_less ({ frames := 0, cells := 0, slots := 0, locals := 0 } : Room) (va_Pc [.ref f, .int (nI 11)] (pr (en g) g.1 vcl sz ([] ++ pl))) (va_Qv (fun (u : (Sto) × va_W) => (u.1 = F_ME_less_11 pf s ∧ frm (M_ME_less_11 pf) s u.1 ∧ True) ∧ okn g T u.1 u.2) (po g.1 vcl (va_A ([] ++ pl) sz) (fun (u : (Sto) × va_W) => [] ++ u.2)) (va_A ([] ++ pl) sz)) 0 0 (va_A ([] ++ pl) sz) := by
  refine mc_entry (cc := c_ME_less) (maxL := 3) (ret := none) (by decide) rfl (Nat.le_of_ble_eq_true rfl) ?_
  intro p e s0 m args below meth c ls F hr hlk hnm hsz hP hD hE hA hl
  obtain ⟨hx, hb, hml, hown, hts⟩ := id F
  have hK := hE.1
  generalize va_A ([] ++ pl) sz = A at hD hE hA ⊢
  have hS : va_S A s0.heap s0.heap [] := va_S.rf
  have hl : lv_has ls 3 [(0, .ref f), (1, .int (nI 11))] := hl
  have hR : F_ME_less_11 pf s = F_ME_less_11 pf s := rfl
  have hF : frm (M_ME_less_11 pf) s s := frm_rf
  refine lv_iconst (v := nI 0) hx hb dME_less_0 (by decide) ?_
  refine lv_istore_n (lv' := [(2, .int (nI 0)), (0, .ref f), (1, .int (nI 11))]) hx hb dME_less_1 rfl hl (by decide) rfl (fun ls hl => ?_)
  have lp21 : ∀ (n21 : Nat) (i21 : Nat) (s21 : Sto) (pl : va_W) (ls : Array Slot) (H : Heap) (locs : List Loc), n21 + i21 = 256 → frm (M_ME_less_11 pf) s s21 → F_ME_less_11 pf s = F_ME_less_11_L0 pf n21 i21 s21 → lv_has ls 3 [(2, .int (nI i21)), (0, .ref f), (1, .int (nI 11))] → okn g T s21 pl → va_P g.1 vcl ([] ++ pl) H → va_D A ([] ++ pl) → va_S A s0.heap H locs → W p l e ({ frames := 0, cells := 0, slots := 0, locals := 0 } : Room) s0 m args below meth c H locs 0 0 (MQ below (va_Qv (fun (u : (Sto) × va_W) => (u.1 = F_ME_less_11 pf s ∧ frm (M_ME_less_11 pf) s u.1 ∧ True) ∧ okn g T u.1 u.2) (po g.1 vcl A (fun (u : (Sto) × va_W) => [] ++ u.2)) A) args s0 0 0 A) (F0 m 2 ls []) := by
    intro n21
    induction n21 with
    | zero =>
      intro i21 s21 pl ls H locs hm21 hF hR hl hO hP hD hS
      refine lv_iload_n hx hb dME_less_2 rfl (lv_at hl 0 rfl) ?_
      refine lv_sipush (v := nI 256) hx hb dME_less_3 (by decide) ?_
      refine mi_ge (tgt := 37) hx hb dME_less_6 (by decide) (by omega) (by omega) (fun h21 => ?_) (fun h21 => absurd h21 (by omega))
      exact mp_vret hx hb hr hlk hP hD hS (s21, pl) ⟨⟨hR.symm, hF, trivial⟩, hO⟩ [] rfl rfl rfl (by omega) (by omega) dME_less_37
    | succ n21 ih21 =>
      intro i21 s21 pl ls H locs hm21 hF hR hl hO hP hD hS
      refine lv_iload_n hx hb dME_less_2 rfl (lv_at hl 0 rfl) ?_
      refine lv_sipush (v := nI 256) hx hb dME_less_3 (by decide) ?_
      refine mi_ge (tgt := 37) hx hb dME_less_6 (by decide) (by omega) (by omega) (fun h22 => absurd h22 (by omega)) (fun h22 => ?_)
      refine lv_aload_n hx hb dME_less_9 rfl (lv_at hl 1 rfl) ?_
      refine lv_iload_n hx hb dME_less_10 rfl (lv_at hl 0 rfl) ?_
      refine lv_aload_n hx hb dME_less_11 rfl (lv_at hl 1 rfl) ?_
      refine lv_iload_n hx hb dME_less_12 rfl (lv_at hl 0 rfl) ?_
      refine nw_iald hx hb hK hO k_f (k := pf) n_f hP (by omega) (by omega) dME_less_13 ?_
      refine lv_iload_n hx hb dME_less_14 rfl (lv_at hl 2 rfl) ?_
      refine lv_iconst (v := nI 1) hx hb dME_less_15 (by decide) ?_
      refine mi_iadd hx hb dME_less_16 ?_
      refine mi_as (show nI (11 + 1) = nI 12 from rfl) ?_
      refine lv_ishl hx hb dME_less_17 ?_
      refine lv_sipush (v := nI 3329) hx hb dME_less_18 (by decide) ?_
      refine lv_iadd hx hb dME_less_21 ?_
      refine lv_sipush (v := nI 6658) hx hb dME_less_22 (by decide) ?_
      refine lv_idiv hx hb dME_less_25 (nI_ne0 (by omega) (by omega)) ?_
      refine lv_iconst (v := nI 1) hx hb dME_less_26 (by decide) ?_
      refine lv_iload_n hx hb dME_less_27 rfl (lv_at hl 2 rfl) ?_
      refine mi_ishl hx hb dME_less_28 (by decide) (by decide) ?_
      refine mi_as (show nI (1 * 2 ^ 11) = nI 2048 from rfl) ?_
      refine lv_irem hx hb dME_less_29 (nI_ne0 (by omega) (by omega)) ?_
      refine nw_iast hx hb hK hO hU k_f (k := pf) n_f hP hD hS (by omega) (by omega) dME_less_30 (fun s22 pl H locs es21 hO hP hD hS => ?_)
      replace hR := bnd_step hR es21
      have hF := frm_sI hF es21 (by unfold M_ME_less_11; omega)
      refine mi_iinc (k := 0) (x := i21) (d := 1) (y := i21 + 1) (lv' := [(2, .int (nI (i21 + 1))), (0, .ref f), (1, .int (nI 11))]) hx hb dME_less_31 hl rfl (by decide) rfl (by decide) rfl (fun ls hl => ?_)
      refine lv_goto (tgt := 2) hx hb dME_less_34 (by decide) ?_
      exact ih21 (i21 + 1) s22 pl ls H locs (by omega) hF hR (lv_sub hl [0, 1, 2] rfl) hO hP hD hS
  exact lp21 256 0 s pl ls _ _ (by omega) hF hR (lv_sub hl [0, 1, 2] rfl) hO hP hD hS
def M_ME_less_12 (pf : Nat) (k : Nat) : Prop := k = pf ∨ (0 : Nat) = 1
noncomputable def F_ME_less_12_L0 (pf : Nat) : Nat → Nat → Sto → Sto
  | 0, i21, s21 => s21
  | n21 + 1, i21, s21 => bnd (sI s21 pf i21 (((((s21.1 pf i21) <<< ((nI 13) &&& 31)) + (nI 3329)) / (nI 6658)) - ((((s21.1 pf i21) <<< ((nI 13) &&& 31)) + (nI 3329)) / (nI 6658)) / (nI 4096) * (nI 4096))) fun s22 => F_ME_less_12_L0 pf n21 (i21 + 1) s22
noncomputable def F_ME_less_12 (pf : Nat) (s : Sto) : Sto := F_ME_less_12_L0 pf 256 0 s
set_option maxHeartbeats 8000000 in
set_option maxRecDepth 100000 in
theorem N_ME_less_12 (l : Launch) (g : Gd) (sz : Nat) (T : TyN) (s : Sto) (pl : va_W) (hO : okn g T s pl) (hU : inj T) (f : Nat) (pf : Nat) (k_f : T f = some pf) (n_f : nsp pf = (0, 256, []))  : Met l y_ME_less w_ME_less ({ frames := 0, cells := 0, slots := 0, locals := 0 } : Room) (va_Pc [.ref f, .int (nI 12)] (pr (en g) g.1 vcl sz ([] ++ pl))) (va_Qv (fun (u : (Sto) × va_W) => (u.1 = F_ME_less_12 pf s ∧ frm (M_ME_less_12 pf) s u.1 ∧ True) ∧ okn g T u.1 u.2) (po g.1 vcl (va_A ([] ++ pl) sz) (fun (u : (Sto) × va_W) => [] ++ u.2)) (va_A ([] ++ pl) sz)) 0 0 (va_A ([] ++ pl) sz) := by
  refine mc_entry (cc := c_ME_less) (maxL := 3) (ret := none) (by decide) rfl (Nat.le_of_ble_eq_true rfl) ?_
  intro p e s0 m args below meth c ls F hr hlk hnm hsz hP hD hE hA hl
  obtain ⟨hx, hb, hml, hown, hts⟩ := id F
  have hK := hE.1
  generalize va_A ([] ++ pl) sz = A at hD hE hA ⊢
  have hS : va_S A s0.heap s0.heap [] := va_S.rf
  have hl : lv_has ls 3 [(0, .ref f), (1, .int (nI 12))] := hl
  have hR : F_ME_less_12 pf s = F_ME_less_12 pf s := rfl
  have hF : frm (M_ME_less_12 pf) s s := frm_rf
  refine lv_iconst (v := nI 0) hx hb dME_less_0 (by decide) ?_
  refine lv_istore_n (lv' := [(2, .int (nI 0)), (0, .ref f), (1, .int (nI 12))]) hx hb dME_less_1 rfl hl (by decide) rfl (fun ls hl => ?_)
  have lp21 : ∀ (n21 : Nat) (i21 : Nat) (s21 : Sto) (pl : va_W) (ls : Array Slot) (H : Heap) (locs : List Loc), n21 + i21 = 256 → frm (M_ME_less_12 pf) s s21 → F_ME_less_12 pf s = F_ME_less_12_L0 pf n21 i21 s21 → lv_has ls 3 [(2, .int (nI i21)), (0, .ref f), (1, .int (nI 12))] → okn g T s21 pl → va_P g.1 vcl ([] ++ pl) H → va_D A ([] ++ pl) → va_S A s0.heap H locs → W p l e ({ frames := 0, cells := 0, slots := 0, locals := 0 } : Room) s0 m args below meth c H locs 0 0 (MQ below (va_Qv (fun (u : (Sto) × va_W) => (u.1 = F_ME_less_12 pf s ∧ frm (M_ME_less_12 pf) s u.1 ∧ True) ∧ okn g T u.1 u.2) (po g.1 vcl A (fun (u : (Sto) × va_W) => [] ++ u.2)) A) args s0 0 0 A) (F0 m 2 ls []) := by
    intro n21
    induction n21 with
    | zero =>
      intro i21 s21 pl ls H locs hm21 hF hR hl hO hP hD hS
      refine lv_iload_n hx hb dME_less_2 rfl (lv_at hl 0 rfl) ?_
      refine lv_sipush (v := nI 256) hx hb dME_less_3 (by decide) ?_
      refine mi_ge (tgt := 37) hx hb dME_less_6 (by decide) (by omega) (by omega) (fun h21 => ?_) (fun h21 => absurd h21 (by omega))
      exact mp_vret hx hb hr hlk hP hD hS (s21, pl) ⟨⟨hR.symm, hF, trivial⟩, hO⟩ [] rfl rfl rfl (by omega) (by omega) dME_less_37
    | succ n21 ih21 =>
      intro i21 s21 pl ls H locs hm21 hF hR hl hO hP hD hS
      refine lv_iload_n hx hb dME_less_2 rfl (lv_at hl 0 rfl) ?_
      refine lv_sipush (v := nI 256) hx hb dME_less_3 (by decide) ?_
      refine mi_ge (tgt := 37) hx hb dME_less_6 (by decide) (by omega) (by omega) (fun h22 => absurd h22 (by omega)) (fun h22 => ?_)
      refine lv_aload_n hx hb dME_less_9 rfl (lv_at hl 1 rfl) ?_
      refine lv_iload_n hx hb dME_less_10 rfl (lv_at hl 0 rfl) ?_
      refine lv_aload_n hx hb dME_less_11 rfl (lv_at hl 1 rfl) ?_
      refine lv_iload_n hx hb dME_less_12 rfl (lv_at hl 0 rfl) ?_
      refine nw_iald hx hb hK hO k_f (k := pf) n_f hP (by omega) (by omega) dME_less_13 ?_
      refine lv_iload_n hx hb dME_less_14 rfl (lv_at hl 2 rfl) ?_
      refine lv_iconst (v := nI 1) hx hb dME_less_15 (by decide) ?_
      refine mi_iadd hx hb dME_less_16 ?_
      refine mi_as (show nI (12 + 1) = nI 13 from rfl) ?_
      refine lv_ishl hx hb dME_less_17 ?_
      refine lv_sipush (v := nI 3329) hx hb dME_less_18 (by decide) ?_
      refine lv_iadd hx hb dME_less_21 ?_
      refine lv_sipush (v := nI 6658) hx hb dME_less_22 (by decide) ?_
      refine lv_idiv hx hb dME_less_25 (nI_ne0 (by omega) (by omega)) ?_
      refine lv_iconst (v := nI 1) hx hb dME_less_26 (by decide) ?_
      refine lv_iload_n hx hb dME_less_27 rfl (lv_at hl 2 rfl) ?_
      refine mi_ishl hx hb dME_less_28 (by decide) (by decide) ?_
      refine mi_as (show nI (1 * 2 ^ 12) = nI 4096 from rfl) ?_
      refine lv_irem hx hb dME_less_29 (nI_ne0 (by omega) (by omega)) ?_
      refine nw_iast hx hb hK hO hU k_f (k := pf) n_f hP hD hS (by omega) (by omega) dME_less_30 (fun s22 pl H locs es21 hO hP hD hS => ?_)
      replace hR := bnd_step hR es21
      have hF := frm_sI hF es21 (by unfold M_ME_less_12; omega)
      refine mi_iinc (k := 0) (x := i21) (d := 1) (y := i21 + 1) (lv' := [(2, .int (nI (i21 + 1))), (0, .ref f), (1, .int (nI 12))]) hx hb dME_less_31 hl rfl (by decide) rfl (by decide) rfl (fun ls hl => ?_)
      refine lv_goto (tgt := 2) hx hb dME_less_34 (by decide) ?_
      exact ih21 (i21 + 1) s22 pl ls H locs (by omega) hF hR (lv_sub hl [0, 1, 2] rfl) hO hP hD hS
  exact lp21 256 0 s pl ls _ _ (by omega) hF hR (lv_sub hl [0, 1, 2] rfl) hO hP hD hS
def M_ME_more_1 (pf : Nat) (k : Nat) : Prop := k = pf ∨ (0 : Nat) = 1
noncomputable def F_ME_more_1_L0 (pf : Nat) : Nat → Nat → Sto → Sto
  | 0, i21, s21 => s21
  | n21 + 1, i21, s21 => bnd (sI s21 pf i21 ((((s21.1 pf i21) * (nI 3329)) + (nI 1)) >>> ((nI 1) &&& 31))) fun s22 => F_ME_more_1_L0 pf n21 (i21 + 1) s22
noncomputable def F_ME_more_1 (pf : Nat) (s : Sto) : Sto := F_ME_more_1_L0 pf 256 0 s
set_option maxHeartbeats 8000000 in
set_option maxRecDepth 100000 in
theorem N_ME_more_1 (l : Launch) (g : Gd) (sz : Nat) (T : TyN) (s : Sto) (pl : va_W) (hO : okn g T s pl) (hU : inj T) (f : Nat) (pf : Nat) (k_f : T f = some pf) (n_f : nsp pf = (0, 256, []))  : Met l y_ME_more w_ME_more ({ frames := 0, cells := 0, slots := 0, locals := 0 } : Room) (va_Pc [.ref f, .int (nI 1)] (pr (en g) g.1 vcl sz ([] ++ pl))) (va_Qv (fun (u : (Sto) × va_W) => (u.1 = F_ME_more_1 pf s ∧ frm (M_ME_more_1 pf) s u.1 ∧ True) ∧ okn g T u.1 u.2) (po g.1 vcl (va_A ([] ++ pl) sz) (fun (u : (Sto) × va_W) => [] ++ u.2)) (va_A ([] ++ pl) sz)) 0 0 (va_A ([] ++ pl) sz) := by
  refine mc_entry (cc := c_ME_more) (maxL := 3) (ret := none) (by decide) rfl (Nat.le_of_ble_eq_true rfl) ?_
  intro p e s0 m args below meth c ls F hr hlk hnm hsz hP hD hE hA hl
  obtain ⟨hx, hb, hml, hown, hts⟩ := id F
  have hK := hE.1
  generalize va_A ([] ++ pl) sz = A at hD hE hA ⊢
  have hS : va_S A s0.heap s0.heap [] := va_S.rf
  have hl : lv_has ls 3 [(0, .ref f), (1, .int (nI 1))] := hl
  have hR : F_ME_more_1 pf s = F_ME_more_1 pf s := rfl
  have hF : frm (M_ME_more_1 pf) s s := frm_rf
  refine lv_iconst (v := nI 0) hx hb dME_more_0 (by decide) ?_
  refine lv_istore_n (lv' := [(2, .int (nI 0)), (0, .ref f), (1, .int (nI 1))]) hx hb dME_more_1 rfl hl (by decide) rfl (fun ls hl => ?_)
  have lp21 : ∀ (n21 : Nat) (i21 : Nat) (s21 : Sto) (pl : va_W) (ls : Array Slot) (H : Heap) (locs : List Loc), n21 + i21 = 256 → frm (M_ME_more_1 pf) s s21 → F_ME_more_1 pf s = F_ME_more_1_L0 pf n21 i21 s21 → lv_has ls 3 [(2, .int (nI i21)), (0, .ref f), (1, .int (nI 1))] → okn g T s21 pl → va_P g.1 vcl ([] ++ pl) H → va_D A ([] ++ pl) → va_S A s0.heap H locs → W p l e ({ frames := 0, cells := 0, slots := 0, locals := 0 } : Room) s0 m args below meth c H locs 0 0 (MQ below (va_Qv (fun (u : (Sto) × va_W) => (u.1 = F_ME_more_1 pf s ∧ frm (M_ME_more_1 pf) s u.1 ∧ True) ∧ okn g T u.1 u.2) (po g.1 vcl A (fun (u : (Sto) × va_W) => [] ++ u.2)) A) args s0 0 0 A) (F0 m 2 ls []) := by
    intro n21
    induction n21 with
    | zero =>
      intro i21 s21 pl ls H locs hm21 hF hR hl hO hP hD hS
      refine lv_iload_n hx hb dME_more_2 rfl (lv_at hl 0 rfl) ?_
      refine lv_sipush (v := nI 256) hx hb dME_more_3 (by decide) ?_
      refine mi_ge (tgt := 33) hx hb dME_more_6 (by decide) (by omega) (by omega) (fun h21 => ?_) (fun h21 => absurd h21 (by omega))
      exact mp_vret hx hb hr hlk hP hD hS (s21, pl) ⟨⟨hR.symm, hF, trivial⟩, hO⟩ [] rfl rfl rfl (by omega) (by omega) dME_more_33
    | succ n21 ih21 =>
      intro i21 s21 pl ls H locs hm21 hF hR hl hO hP hD hS
      refine lv_iload_n hx hb dME_more_2 rfl (lv_at hl 0 rfl) ?_
      refine lv_sipush (v := nI 256) hx hb dME_more_3 (by decide) ?_
      refine mi_ge (tgt := 33) hx hb dME_more_6 (by decide) (by omega) (by omega) (fun h22 => absurd h22 (by omega)) (fun h22 => ?_)
      refine lv_aload_n hx hb dME_more_9 rfl (lv_at hl 1 rfl) ?_
      refine lv_iload_n hx hb dME_more_10 rfl (lv_at hl 0 rfl) ?_
      refine lv_aload_n hx hb dME_more_11 rfl (lv_at hl 1 rfl) ?_
      refine lv_iload_n hx hb dME_more_12 rfl (lv_at hl 0 rfl) ?_
      refine nw_iald hx hb hK hO k_f (k := pf) n_f hP (by omega) (by omega) dME_more_13 ?_
      refine lv_sipush (v := nI 3329) hx hb dME_more_14 (by decide) ?_
      refine lv_imul hx hb dME_more_17 ?_
      refine lv_iconst (v := nI 1) hx hb dME_more_18 (by decide) ?_
      refine lv_iload_n hx hb dME_more_19 rfl (lv_at hl 2 rfl) ?_
      refine lv_iconst (v := nI 1) hx hb dME_more_20 (by decide) ?_
      refine mi_isub hx hb dME_more_21 (by omega) ?_
      refine mi_as (show nI (1 - 1) = nI 0 from rfl) ?_
      refine mi_ishl hx hb dME_more_22 (by decide) (by decide) ?_
      refine mi_as (show nI (1 * 2 ^ 0) = nI 1 from rfl) ?_
      refine lv_iadd hx hb dME_more_23 ?_
      refine lv_iload_n hx hb dME_more_24 rfl (lv_at hl 2 rfl) ?_
      refine lv_ishr hx hb dME_more_25 ?_
      refine nw_iast hx hb hK hO hU k_f (k := pf) n_f hP hD hS (by omega) (by omega) dME_more_26 (fun s22 pl H locs es21 hO hP hD hS => ?_)
      replace hR := bnd_step hR es21
      have hF := frm_sI hF es21 (by unfold M_ME_more_1; omega)
      refine mi_iinc (k := 0) (x := i21) (d := 1) (y := i21 + 1) (lv' := [(2, .int (nI (i21 + 1))), (0, .ref f), (1, .int (nI 1))]) hx hb dME_more_27 hl rfl (by decide) rfl (by decide) rfl (fun ls hl => ?_)
      refine lv_goto (tgt := 2) hx hb dME_more_30 (by decide) ?_
      exact ih21 (i21 + 1) s22 pl ls H locs (by omega) hF hR (lv_sub hl [0, 1, 2] rfl) hO hP hD hS
  exact lp21 256 0 s pl ls _ _ (by omega) hF hR (lv_sub hl [0, 1, 2] rfl) hO hP hD hS
def M_ME_more_4 (pf : Nat) (k : Nat) : Prop := k = pf ∨ (0 : Nat) = 1
noncomputable def F_ME_more_4_L0 (pf : Nat) : Nat → Nat → Sto → Sto
  | 0, i21, s21 => s21
  | n21 + 1, i21, s21 => bnd (sI s21 pf i21 ((((s21.1 pf i21) * (nI 3329)) + (nI 8)) >>> ((nI 4) &&& 31))) fun s22 => F_ME_more_4_L0 pf n21 (i21 + 1) s22
noncomputable def F_ME_more_4 (pf : Nat) (s : Sto) : Sto := F_ME_more_4_L0 pf 256 0 s
set_option maxHeartbeats 8000000 in
set_option maxRecDepth 100000 in
theorem N_ME_more_4 (l : Launch) (g : Gd) (sz : Nat) (T : TyN) (s : Sto) (pl : va_W) (hO : okn g T s pl) (hU : inj T) (f : Nat) (pf : Nat) (k_f : T f = some pf) (n_f : nsp pf = (0, 256, []))  : Met l y_ME_more w_ME_more ({ frames := 0, cells := 0, slots := 0, locals := 0 } : Room) (va_Pc [.ref f, .int (nI 4)] (pr (en g) g.1 vcl sz ([] ++ pl))) (va_Qv (fun (u : (Sto) × va_W) => (u.1 = F_ME_more_4 pf s ∧ frm (M_ME_more_4 pf) s u.1 ∧ True) ∧ okn g T u.1 u.2) (po g.1 vcl (va_A ([] ++ pl) sz) (fun (u : (Sto) × va_W) => [] ++ u.2)) (va_A ([] ++ pl) sz)) 0 0 (va_A ([] ++ pl) sz) := by
  refine mc_entry (cc := c_ME_more) (maxL := 3) (ret := none) (by decide) rfl (Nat.le_of_ble_eq_true rfl) ?_
  intro p e s0 m args below meth c ls F hr hlk hnm hsz hP hD hE hA hl
  obtain ⟨hx, hb, hml, hown, hts⟩ := id F
  have hK := hE.1
  generalize va_A ([] ++ pl) sz = A at hD hE hA ⊢
  have hS : va_S A s0.heap s0.heap [] := va_S.rf
  have hl : lv_has ls 3 [(0, .ref f), (1, .int (nI 4))] := hl
  have hR : F_ME_more_4 pf s = F_ME_more_4 pf s := rfl
  have hF : frm (M_ME_more_4 pf) s s := frm_rf
  refine lv_iconst (v := nI 0) hx hb dME_more_0 (by decide) ?_
  refine lv_istore_n (lv' := [(2, .int (nI 0)), (0, .ref f), (1, .int (nI 4))]) hx hb dME_more_1 rfl hl (by decide) rfl (fun ls hl => ?_)
  have lp21 : ∀ (n21 : Nat) (i21 : Nat) (s21 : Sto) (pl : va_W) (ls : Array Slot) (H : Heap) (locs : List Loc), n21 + i21 = 256 → frm (M_ME_more_4 pf) s s21 → F_ME_more_4 pf s = F_ME_more_4_L0 pf n21 i21 s21 → lv_has ls 3 [(2, .int (nI i21)), (0, .ref f), (1, .int (nI 4))] → okn g T s21 pl → va_P g.1 vcl ([] ++ pl) H → va_D A ([] ++ pl) → va_S A s0.heap H locs → W p l e ({ frames := 0, cells := 0, slots := 0, locals := 0 } : Room) s0 m args below meth c H locs 0 0 (MQ below (va_Qv (fun (u : (Sto) × va_W) => (u.1 = F_ME_more_4 pf s ∧ frm (M_ME_more_4 pf) s u.1 ∧ True) ∧ okn g T u.1 u.2) (po g.1 vcl A (fun (u : (Sto) × va_W) => [] ++ u.2)) A) args s0 0 0 A) (F0 m 2 ls []) := by
    intro n21
    induction n21 with
    | zero =>
      intro i21 s21 pl ls H locs hm21 hF hR hl hO hP hD hS
      refine lv_iload_n hx hb dME_more_2 rfl (lv_at hl 0 rfl) ?_
      refine lv_sipush (v := nI 256) hx hb dME_more_3 (by decide) ?_
      refine mi_ge (tgt := 33) hx hb dME_more_6 (by decide) (by omega) (by omega) (fun h21 => ?_) (fun h21 => absurd h21 (by omega))
      exact mp_vret hx hb hr hlk hP hD hS (s21, pl) ⟨⟨hR.symm, hF, trivial⟩, hO⟩ [] rfl rfl rfl (by omega) (by omega) dME_more_33
    | succ n21 ih21 =>
      intro i21 s21 pl ls H locs hm21 hF hR hl hO hP hD hS
      refine lv_iload_n hx hb dME_more_2 rfl (lv_at hl 0 rfl) ?_
      refine lv_sipush (v := nI 256) hx hb dME_more_3 (by decide) ?_
      refine mi_ge (tgt := 33) hx hb dME_more_6 (by decide) (by omega) (by omega) (fun h22 => absurd h22 (by omega)) (fun h22 => ?_)
      refine lv_aload_n hx hb dME_more_9 rfl (lv_at hl 1 rfl) ?_
      refine lv_iload_n hx hb dME_more_10 rfl (lv_at hl 0 rfl) ?_
      refine lv_aload_n hx hb dME_more_11 rfl (lv_at hl 1 rfl) ?_
      refine lv_iload_n hx hb dME_more_12 rfl (lv_at hl 0 rfl) ?_
      refine nw_iald hx hb hK hO k_f (k := pf) n_f hP (by omega) (by omega) dME_more_13 ?_
      refine lv_sipush (v := nI 3329) hx hb dME_more_14 (by decide) ?_
      refine lv_imul hx hb dME_more_17 ?_
      refine lv_iconst (v := nI 1) hx hb dME_more_18 (by decide) ?_
      refine lv_iload_n hx hb dME_more_19 rfl (lv_at hl 2 rfl) ?_
      refine lv_iconst (v := nI 1) hx hb dME_more_20 (by decide) ?_
      refine mi_isub hx hb dME_more_21 (by omega) ?_
      refine mi_as (show nI (4 - 1) = nI 3 from rfl) ?_
      refine mi_ishl hx hb dME_more_22 (by decide) (by decide) ?_
      refine mi_as (show nI (1 * 2 ^ 3) = nI 8 from rfl) ?_
      refine lv_iadd hx hb dME_more_23 ?_
      refine lv_iload_n hx hb dME_more_24 rfl (lv_at hl 2 rfl) ?_
      refine lv_ishr hx hb dME_more_25 ?_
      refine nw_iast hx hb hK hO hU k_f (k := pf) n_f hP hD hS (by omega) (by omega) dME_more_26 (fun s22 pl H locs es21 hO hP hD hS => ?_)
      replace hR := bnd_step hR es21
      have hF := frm_sI hF es21 (by unfold M_ME_more_4; omega)
      refine mi_iinc (k := 0) (x := i21) (d := 1) (y := i21 + 1) (lv' := [(2, .int (nI (i21 + 1))), (0, .ref f), (1, .int (nI 4))]) hx hb dME_more_27 hl rfl (by decide) rfl (by decide) rfl (fun ls hl => ?_)
      refine lv_goto (tgt := 2) hx hb dME_more_30 (by decide) ?_
      exact ih21 (i21 + 1) s22 pl ls H locs (by omega) hF hR (lv_sub hl [0, 1, 2] rfl) hO hP hD hS
  exact lp21 256 0 s pl ls _ _ (by omega) hF hR (lv_sub hl [0, 1, 2] rfl) hO hP hD hS
def M_ME_more_5 (pf : Nat) (k : Nat) : Prop := k = pf ∨ (0 : Nat) = 1
noncomputable def F_ME_more_5_L0 (pf : Nat) : Nat → Nat → Sto → Sto
  | 0, i21, s21 => s21
  | n21 + 1, i21, s21 => bnd (sI s21 pf i21 ((((s21.1 pf i21) * (nI 3329)) + (nI 16)) >>> ((nI 5) &&& 31))) fun s22 => F_ME_more_5_L0 pf n21 (i21 + 1) s22
noncomputable def F_ME_more_5 (pf : Nat) (s : Sto) : Sto := F_ME_more_5_L0 pf 256 0 s
set_option maxHeartbeats 8000000 in
set_option maxRecDepth 100000 in
theorem N_ME_more_5 (l : Launch) (g : Gd) (sz : Nat) (T : TyN) (s : Sto) (pl : va_W) (hO : okn g T s pl) (hU : inj T) (f : Nat) (pf : Nat) (k_f : T f = some pf) (n_f : nsp pf = (0, 256, []))  : Met l y_ME_more w_ME_more ({ frames := 0, cells := 0, slots := 0, locals := 0 } : Room) (va_Pc [.ref f, .int (nI 5)] (pr (en g) g.1 vcl sz ([] ++ pl))) (va_Qv (fun (u : (Sto) × va_W) => (u.1 = F_ME_more_5 pf s ∧ frm (M_ME_more_5 pf) s u.1 ∧ True) ∧ okn g T u.1 u.2) (po g.1 vcl (va_A ([] ++ pl) sz) (fun (u : (Sto) × va_W) => [] ++ u.2)) (va_A ([] ++ pl) sz)) 0 0 (va_A ([] ++ pl) sz) := by
  refine mc_entry (cc := c_ME_more) (maxL := 3) (ret := none) (by decide) rfl (Nat.le_of_ble_eq_true rfl) ?_
  intro p e s0 m args below meth c ls F hr hlk hnm hsz hP hD hE hA hl
  obtain ⟨hx, hb, hml, hown, hts⟩ := id F
  have hK := hE.1
  generalize va_A ([] ++ pl) sz = A at hD hE hA ⊢
  have hS : va_S A s0.heap s0.heap [] := va_S.rf
  have hl : lv_has ls 3 [(0, .ref f), (1, .int (nI 5))] := hl
  have hR : F_ME_more_5 pf s = F_ME_more_5 pf s := rfl
  have hF : frm (M_ME_more_5 pf) s s := frm_rf
  refine lv_iconst (v := nI 0) hx hb dME_more_0 (by decide) ?_
  refine lv_istore_n (lv' := [(2, .int (nI 0)), (0, .ref f), (1, .int (nI 5))]) hx hb dME_more_1 rfl hl (by decide) rfl (fun ls hl => ?_)
  have lp21 : ∀ (n21 : Nat) (i21 : Nat) (s21 : Sto) (pl : va_W) (ls : Array Slot) (H : Heap) (locs : List Loc), n21 + i21 = 256 → frm (M_ME_more_5 pf) s s21 → F_ME_more_5 pf s = F_ME_more_5_L0 pf n21 i21 s21 → lv_has ls 3 [(2, .int (nI i21)), (0, .ref f), (1, .int (nI 5))] → okn g T s21 pl → va_P g.1 vcl ([] ++ pl) H → va_D A ([] ++ pl) → va_S A s0.heap H locs → W p l e ({ frames := 0, cells := 0, slots := 0, locals := 0 } : Room) s0 m args below meth c H locs 0 0 (MQ below (va_Qv (fun (u : (Sto) × va_W) => (u.1 = F_ME_more_5 pf s ∧ frm (M_ME_more_5 pf) s u.1 ∧ True) ∧ okn g T u.1 u.2) (po g.1 vcl A (fun (u : (Sto) × va_W) => [] ++ u.2)) A) args s0 0 0 A) (F0 m 2 ls []) := by
    intro n21
    induction n21 with
    | zero =>
      intro i21 s21 pl ls H locs hm21 hF hR hl hO hP hD hS
      refine lv_iload_n hx hb dME_more_2 rfl (lv_at hl 0 rfl) ?_
      refine lv_sipush (v := nI 256) hx hb dME_more_3 (by decide) ?_
      refine mi_ge (tgt := 33) hx hb dME_more_6 (by decide) (by omega) (by omega) (fun h21 => ?_) (fun h21 => absurd h21 (by omega))
      exact mp_vret hx hb hr hlk hP hD hS (s21, pl) ⟨⟨hR.symm, hF, trivial⟩, hO⟩ [] rfl rfl rfl (by omega) (by omega) dME_more_33
    | succ n21 ih21 =>
      intro i21 s21 pl ls H locs hm21 hF hR hl hO hP hD hS
      refine lv_iload_n hx hb dME_more_2 rfl (lv_at hl 0 rfl) ?_
      refine lv_sipush (v := nI 256) hx hb dME_more_3 (by decide) ?_
      refine mi_ge (tgt := 33) hx hb dME_more_6 (by decide) (by omega) (by omega) (fun h22 => absurd h22 (by omega)) (fun h22 => ?_)
      refine lv_aload_n hx hb dME_more_9 rfl (lv_at hl 1 rfl) ?_
      refine lv_iload_n hx hb dME_more_10 rfl (lv_at hl 0 rfl) ?_
      refine lv_aload_n hx hb dME_more_11 rfl (lv_at hl 1 rfl) ?_
      refine lv_iload_n hx hb dME_more_12 rfl (lv_at hl 0 rfl) ?_
      refine nw_iald hx hb hK hO k_f (k := pf) n_f hP (by omega) (by omega) dME_more_13 ?_
      refine lv_sipush (v := nI 3329) hx hb dME_more_14 (by decide) ?_
      refine lv_imul hx hb dME_more_17 ?_
      refine lv_iconst (v := nI 1) hx hb dME_more_18 (by decide) ?_
      refine lv_iload_n hx hb dME_more_19 rfl (lv_at hl 2 rfl) ?_
      refine lv_iconst (v := nI 1) hx hb dME_more_20 (by decide) ?_
      refine mi_isub hx hb dME_more_21 (by omega) ?_
      refine mi_as (show nI (5 - 1) = nI 4 from rfl) ?_
      refine mi_ishl hx hb dME_more_22 (by decide) (by decide) ?_
      refine mi_as (show nI (1 * 2 ^ 4) = nI 16 from rfl) ?_
      refine lv_iadd hx hb dME_more_23 ?_
      refine lv_iload_n hx hb dME_more_24 rfl (lv_at hl 2 rfl) ?_
      refine lv_ishr hx hb dME_more_25 ?_
      refine nw_iast hx hb hK hO hU k_f (k := pf) n_f hP hD hS (by omega) (by omega) dME_more_26 (fun s22 pl H locs es21 hO hP hD hS => ?_)
      replace hR := bnd_step hR es21
      have hF := frm_sI hF es21 (by unfold M_ME_more_5; omega)
      refine mi_iinc (k := 0) (x := i21) (d := 1) (y := i21 + 1) (lv' := [(2, .int (nI (i21 + 1))), (0, .ref f), (1, .int (nI 5))]) hx hb dME_more_27 hl rfl (by decide) rfl (by decide) rfl (fun ls hl => ?_)
      refine lv_goto (tgt := 2) hx hb dME_more_30 (by decide) ?_
      exact ih21 (i21 + 1) s22 pl ls H locs (by omega) hF hR (lv_sub hl [0, 1, 2] rfl) hO hP hD hS
  exact lp21 256 0 s pl ls _ _ (by omega) hF hR (lv_sub hl [0, 1, 2] rfl) hO hP hD hS
def M_ME_more_10 (pf : Nat) (k : Nat) : Prop := k = pf ∨ (0 : Nat) = 1
noncomputable def F_ME_more_10_L0 (pf : Nat) : Nat → Nat → Sto → Sto
  | 0, i21, s21 => s21
  | n21 + 1, i21, s21 => bnd (sI s21 pf i21 ((((s21.1 pf i21) * (nI 3329)) + (nI 512)) >>> ((nI 10) &&& 31))) fun s22 => F_ME_more_10_L0 pf n21 (i21 + 1) s22
noncomputable def F_ME_more_10 (pf : Nat) (s : Sto) : Sto := F_ME_more_10_L0 pf 256 0 s
set_option maxHeartbeats 8000000 in
set_option maxRecDepth 100000 in
theorem N_ME_more_10 (l : Launch) (g : Gd) (sz : Nat) (T : TyN) (s : Sto) (pl : va_W) (hO : okn g T s pl) (hU : inj T) (f : Nat) (pf : Nat) (k_f : T f = some pf) (n_f : nsp pf = (0, 256, []))  : Met l y_ME_more w_ME_more ({ frames := 0, cells := 0, slots := 0, locals := 0 } : Room) (va_Pc [.ref f, .int (nI 10)] (pr (en g) g.1 vcl sz ([] ++ pl))) (va_Qv (fun (u : (Sto) × va_W) => (u.1 = F_ME_more_10 pf s ∧ frm (M_ME_more_10 pf) s u.1 ∧ True) ∧ okn g T u.1 u.2) (po g.1 vcl (va_A ([] ++ pl) sz) (fun (u : (Sto) × va_W) => [] ++ u.2)) (va_A ([] ++ pl) sz)) 0 0 (va_A ([] ++ pl) sz) := by
  refine mc_entry (cc := c_ME_more) (maxL := 3) (ret := none) (by decide) rfl (Nat.le_of_ble_eq_true rfl) ?_
  intro p e s0 m args below meth c ls F hr hlk hnm hsz hP hD hE hA hl
  obtain ⟨hx, hb, hml, hown, hts⟩ := id F
  have hK := hE.1
  generalize va_A ([] ++ pl) sz = A at hD hE hA ⊢
  have hS : va_S A s0.heap s0.heap [] := va_S.rf
  have hl : lv_has ls 3 [(0, .ref f), (1, .int (nI 10))] := hl
  have hR : F_ME_more_10 pf s = F_ME_more_10 pf s := rfl
  have hF : frm (M_ME_more_10 pf) s s := frm_rf
  refine lv_iconst (v := nI 0) hx hb dME_more_0 (by decide) ?_
  refine lv_istore_n (lv' := [(2, .int (nI 0)), (0, .ref f), (1, .int (nI 10))]) hx hb dME_more_1 rfl hl (by decide) rfl (fun ls hl => ?_)
  have lp21 : ∀ (n21 : Nat) (i21 : Nat) (s21 : Sto) (pl : va_W) (ls : Array Slot) (H : Heap) (locs : List Loc), n21 + i21 = 256 → frm (M_ME_more_10 pf) s s21 → F_ME_more_10 pf s = F_ME_more_10_L0 pf n21 i21 s21 → lv_has ls 3 [(2, .int (nI i21)), (0, .ref f), (1, .int (nI 10))] → okn g T s21 pl → va_P g.1 vcl ([] ++ pl) H → va_D A ([] ++ pl) → va_S A s0.heap H locs → W p l e ({ frames := 0, cells := 0, slots := 0, locals := 0 } : Room) s0 m args below meth c H locs 0 0 (MQ below (va_Qv (fun (u : (Sto) × va_W) => (u.1 = F_ME_more_10 pf s ∧ frm (M_ME_more_10 pf) s u.1 ∧ True) ∧ okn g T u.1 u.2) (po g.1 vcl A (fun (u : (Sto) × va_W) => [] ++ u.2)) A) args s0 0 0 A) (F0 m 2 ls []) := by
    intro n21
    induction n21 with
    | zero =>
      intro i21 s21 pl ls H locs hm21 hF hR hl hO hP hD hS
      refine lv_iload_n hx hb dME_more_2 rfl (lv_at hl 0 rfl) ?_
      refine lv_sipush (v := nI 256) hx hb dME_more_3 (by decide) ?_
      refine mi_ge (tgt := 33) hx hb dME_more_6 (by decide) (by omega) (by omega) (fun h21 => ?_) (fun h21 => absurd h21 (by omega))
      exact mp_vret hx hb hr hlk hP hD hS (s21, pl) ⟨⟨hR.symm, hF, trivial⟩, hO⟩ [] rfl rfl rfl (by omega) (by omega) dME_more_33
    | succ n21 ih21 =>
      intro i21 s21 pl ls H locs hm21 hF hR hl hO hP hD hS
      refine lv_iload_n hx hb dME_more_2 rfl (lv_at hl 0 rfl) ?_
      refine lv_sipush (v := nI 256) hx hb dME_more_3 (by decide) ?_
      refine mi_ge (tgt := 33) hx hb dME_more_6 (by decide) (by omega) (by omega) (fun h22 => absurd h22 (by omega)) (fun h22 => ?_)
      refine lv_aload_n hx hb dME_more_9 rfl (lv_at hl 1 rfl) ?_
      refine lv_iload_n hx hb dME_more_10 rfl (lv_at hl 0 rfl) ?_
      refine lv_aload_n hx hb dME_more_11 rfl (lv_at hl 1 rfl) ?_
      refine lv_iload_n hx hb dME_more_12 rfl (lv_at hl 0 rfl) ?_
      refine nw_iald hx hb hK hO k_f (k := pf) n_f hP (by omega) (by omega) dME_more_13 ?_
      refine lv_sipush (v := nI 3329) hx hb dME_more_14 (by decide) ?_
      refine lv_imul hx hb dME_more_17 ?_
      refine lv_iconst (v := nI 1) hx hb dME_more_18 (by decide) ?_
      refine lv_iload_n hx hb dME_more_19 rfl (lv_at hl 2 rfl) ?_
      refine lv_iconst (v := nI 1) hx hb dME_more_20 (by decide) ?_
      refine mi_isub hx hb dME_more_21 (by omega) ?_
      refine mi_as (show nI (10 - 1) = nI 9 from rfl) ?_
      refine mi_ishl hx hb dME_more_22 (by decide) (by decide) ?_
      refine mi_as (show nI (1 * 2 ^ 9) = nI 512 from rfl) ?_
      refine lv_iadd hx hb dME_more_23 ?_
      refine lv_iload_n hx hb dME_more_24 rfl (lv_at hl 2 rfl) ?_
      refine lv_ishr hx hb dME_more_25 ?_
      refine nw_iast hx hb hK hO hU k_f (k := pf) n_f hP hD hS (by omega) (by omega) dME_more_26 (fun s22 pl H locs es21 hO hP hD hS => ?_)
      replace hR := bnd_step hR es21
      have hF := frm_sI hF es21 (by unfold M_ME_more_10; omega)
      refine mi_iinc (k := 0) (x := i21) (d := 1) (y := i21 + 1) (lv' := [(2, .int (nI (i21 + 1))), (0, .ref f), (1, .int (nI 10))]) hx hb dME_more_27 hl rfl (by decide) rfl (by decide) rfl (fun ls hl => ?_)
      refine lv_goto (tgt := 2) hx hb dME_more_30 (by decide) ?_
      exact ih21 (i21 + 1) s22 pl ls H locs (by omega) hF hR (lv_sub hl [0, 1, 2] rfl) hO hP hD hS
  exact lp21 256 0 s pl ls _ _ (by omega) hF hR (lv_sub hl [0, 1, 2] rfl) hO hP hD hS
def M_ME_more_11 (pf : Nat) (k : Nat) : Prop := k = pf ∨ (0 : Nat) = 1
noncomputable def F_ME_more_11_L0 (pf : Nat) : Nat → Nat → Sto → Sto
  | 0, i21, s21 => s21
  | n21 + 1, i21, s21 => bnd (sI s21 pf i21 ((((s21.1 pf i21) * (nI 3329)) + (nI 1024)) >>> ((nI 11) &&& 31))) fun s22 => F_ME_more_11_L0 pf n21 (i21 + 1) s22
noncomputable def F_ME_more_11 (pf : Nat) (s : Sto) : Sto := F_ME_more_11_L0 pf 256 0 s
set_option maxHeartbeats 8000000 in
set_option maxRecDepth 100000 in
theorem N_ME_more_11 (l : Launch) (g : Gd) (sz : Nat) (T : TyN) (s : Sto) (pl : va_W) (hO : okn g T s pl) (hU : inj T) (f : Nat) (pf : Nat) (k_f : T f = some pf) (n_f : nsp pf = (0, 256, []))  : Met l y_ME_more w_ME_more ({ frames := 0, cells := 0, slots := 0, locals := 0 } : Room) (va_Pc [.ref f, .int (nI 11)] (pr (en g) g.1 vcl sz ([] ++ pl))) (va_Qv (fun (u : (Sto) × va_W) => (u.1 = F_ME_more_11 pf s ∧ frm (M_ME_more_11 pf) s u.1 ∧ True) ∧ okn g T u.1 u.2) (po g.1 vcl (va_A ([] ++ pl) sz) (fun (u : (Sto) × va_W) => [] ++ u.2)) (va_A ([] ++ pl) sz)) 0 0 (va_A ([] ++ pl) sz) := by
  refine mc_entry (cc := c_ME_more) (maxL := 3) (ret := none) (by decide) rfl (Nat.le_of_ble_eq_true rfl) ?_
  intro p e s0 m args below meth c ls F hr hlk hnm hsz hP hD hE hA hl
  obtain ⟨hx, hb, hml, hown, hts⟩ := id F
  have hK := hE.1
  generalize va_A ([] ++ pl) sz = A at hD hE hA ⊢
  have hS : va_S A s0.heap s0.heap [] := va_S.rf
  have hl : lv_has ls 3 [(0, .ref f), (1, .int (nI 11))] := hl
  have hR : F_ME_more_11 pf s = F_ME_more_11 pf s := rfl
  have hF : frm (M_ME_more_11 pf) s s := frm_rf
  refine lv_iconst (v := nI 0) hx hb dME_more_0 (by decide) ?_
  refine lv_istore_n (lv' := [(2, .int (nI 0)), (0, .ref f), (1, .int (nI 11))]) hx hb dME_more_1 rfl hl (by decide) rfl (fun ls hl => ?_)
  have lp21 : ∀ (n21 : Nat) (i21 : Nat) (s21 : Sto) (pl : va_W) (ls : Array Slot) (H : Heap) (locs : List Loc), n21 + i21 = 256 → frm (M_ME_more_11 pf) s s21 → F_ME_more_11 pf s = F_ME_more_11_L0 pf n21 i21 s21 → lv_has ls 3 [(2, .int (nI i21)), (0, .ref f), (1, .int (nI 11))] → okn g T s21 pl → va_P g.1 vcl ([] ++ pl) H → va_D A ([] ++ pl) → va_S A s0.heap H locs → W p l e ({ frames := 0, cells := 0, slots := 0, locals := 0 } : Room) s0 m args below meth c H locs 0 0 (MQ below (va_Qv (fun (u : (Sto) × va_W) => (u.1 = F_ME_more_11 pf s ∧ frm (M_ME_more_11 pf) s u.1 ∧ True) ∧ okn g T u.1 u.2) (po g.1 vcl A (fun (u : (Sto) × va_W) => [] ++ u.2)) A) args s0 0 0 A) (F0 m 2 ls []) := by
    intro n21
    induction n21 with
    | zero =>
      intro i21 s21 pl ls H locs hm21 hF hR hl hO hP hD hS
      refine lv_iload_n hx hb dME_more_2 rfl (lv_at hl 0 rfl) ?_
      refine lv_sipush (v := nI 256) hx hb dME_more_3 (by decide) ?_
      refine mi_ge (tgt := 33) hx hb dME_more_6 (by decide) (by omega) (by omega) (fun h21 => ?_) (fun h21 => absurd h21 (by omega))
      exact mp_vret hx hb hr hlk hP hD hS (s21, pl) ⟨⟨hR.symm, hF, trivial⟩, hO⟩ [] rfl rfl rfl (by omega) (by omega) dME_more_33
    | succ n21 ih21 =>
      intro i21 s21 pl ls H locs hm21 hF hR hl hO hP hD hS
      refine lv_iload_n hx hb dME_more_2 rfl (lv_at hl 0 rfl) ?_
      refine lv_sipush (v := nI 256) hx hb dME_more_3 (by decide) ?_
      refine mi_ge (tgt := 33) hx hb dME_more_6 (by decide) (by omega) (by omega) (fun h22 => absurd h22 (by omega)) (fun h22 => ?_)
      refine lv_aload_n hx hb dME_more_9 rfl (lv_at hl 1 rfl) ?_
      refine lv_iload_n hx hb dME_more_10 rfl (lv_at hl 0 rfl) ?_
      refine lv_aload_n hx hb dME_more_11 rfl (lv_at hl 1 rfl) ?_
      refine lv_iload_n hx hb dME_more_12 rfl (lv_at hl 0 rfl) ?_
      refine nw_iald hx hb hK hO k_f (k := pf) n_f hP (by omega) (by omega) dME_more_13 ?_
      refine lv_sipush (v := nI 3329) hx hb dME_more_14 (by decide) ?_
      refine lv_imul hx hb dME_more_17 ?_
      refine lv_iconst (v := nI 1) hx hb dME_more_18 (by decide) ?_
      refine lv_iload_n hx hb dME_more_19 rfl (lv_at hl 2 rfl) ?_
      refine lv_iconst (v := nI 1) hx hb dME_more_20 (by decide) ?_
      refine mi_isub hx hb dME_more_21 (by omega) ?_
      refine mi_as (show nI (11 - 1) = nI 10 from rfl) ?_
      refine mi_ishl hx hb dME_more_22 (by decide) (by decide) ?_
      refine mi_as (show nI (1 * 2 ^ 10) = nI 1024 from rfl) ?_
      refine lv_iadd hx hb dME_more_23 ?_
      refine lv_iload_n hx hb dME_more_24 rfl (lv_at hl 2 rfl) ?_
      refine lv_ishr hx hb dME_more_25 ?_
      refine nw_iast hx hb hK hO hU k_f (k := pf) n_f hP hD hS (by omega) (by omega) dME_more_26 (fun s22 pl H locs es21 hO hP hD hS => ?_)
      replace hR := bnd_step hR es21
      have hF := frm_sI hF es21 (by unfold M_ME_more_11; omega)
      refine mi_iinc (k := 0) (x := i21) (d := 1) (y := i21 + 1) (lv' := [(2, .int (nI (i21 + 1))), (0, .ref f), (1, .int (nI 11))]) hx hb dME_more_27 hl rfl (by decide) rfl (by decide) rfl (fun ls hl => ?_)
      refine lv_goto (tgt := 2) hx hb dME_more_30 (by decide) ?_
      exact ih21 (i21 + 1) s22 pl ls H locs (by omega) hF hR (lv_sub hl [0, 1, 2] rfl) hO hP hD hS
  exact lp21 256 0 s pl ls _ _ (by omega) hF hR (lv_sub hl [0, 1, 2] rfl) hO hP hD hS
def M_ME_more_12 (pf : Nat) (k : Nat) : Prop := k = pf ∨ (0 : Nat) = 1
noncomputable def F_ME_more_12_L0 (pf : Nat) : Nat → Nat → Sto → Sto
  | 0, i21, s21 => s21
  | n21 + 1, i21, s21 => bnd (sI s21 pf i21 ((((s21.1 pf i21) * (nI 3329)) + (nI 2048)) >>> ((nI 12) &&& 31))) fun s22 => F_ME_more_12_L0 pf n21 (i21 + 1) s22
noncomputable def F_ME_more_12 (pf : Nat) (s : Sto) : Sto := F_ME_more_12_L0 pf 256 0 s
set_option maxHeartbeats 8000000 in
set_option maxRecDepth 100000 in
theorem N_ME_more_12 (l : Launch) (g : Gd) (sz : Nat) (T : TyN) (s : Sto) (pl : va_W) (hO : okn g T s pl) (hU : inj T) (f : Nat) (pf : Nat) (k_f : T f = some pf) (n_f : nsp pf = (0, 256, []))  : Met l y_ME_more w_ME_more ({ frames := 0, cells := 0, slots := 0, locals := 0 } : Room) (va_Pc [.ref f, .int (nI 12)] (pr (en g) g.1 vcl sz ([] ++ pl))) (va_Qv (fun (u : (Sto) × va_W) => (u.1 = F_ME_more_12 pf s ∧ frm (M_ME_more_12 pf) s u.1 ∧ True) ∧ okn g T u.1 u.2) (po g.1 vcl (va_A ([] ++ pl) sz) (fun (u : (Sto) × va_W) => [] ++ u.2)) (va_A ([] ++ pl) sz)) 0 0 (va_A ([] ++ pl) sz) := by
  refine mc_entry (cc := c_ME_more) (maxL := 3) (ret := none) (by decide) rfl (Nat.le_of_ble_eq_true rfl) ?_
  intro p e s0 m args below meth c ls F hr hlk hnm hsz hP hD hE hA hl
  obtain ⟨hx, hb, hml, hown, hts⟩ := id F
  have hK := hE.1
  generalize va_A ([] ++ pl) sz = A at hD hE hA ⊢
  have hS : va_S A s0.heap s0.heap [] := va_S.rf
  have hl : lv_has ls 3 [(0, .ref f), (1, .int (nI 12))] := hl
  have hR : F_ME_more_12 pf s = F_ME_more_12 pf s := rfl
  have hF : frm (M_ME_more_12 pf) s s := frm_rf
  refine lv_iconst (v := nI 0) hx hb dME_more_0 (by decide) ?_
  refine lv_istore_n (lv' := [(2, .int (nI 0)), (0, .ref f), (1, .int (nI 12))]) hx hb dME_more_1 rfl hl (by decide) rfl (fun ls hl => ?_)
  have lp21 : ∀ (n21 : Nat) (i21 : Nat) (s21 : Sto) (pl : va_W) (ls : Array Slot) (H : Heap) (locs : List Loc), n21 + i21 = 256 → frm (M_ME_more_12 pf) s s21 → F_ME_more_12 pf s = F_ME_more_12_L0 pf n21 i21 s21 → lv_has ls 3 [(2, .int (nI i21)), (0, .ref f), (1, .int (nI 12))] → okn g T s21 pl → va_P g.1 vcl ([] ++ pl) H → va_D A ([] ++ pl) → va_S A s0.heap H locs → W p l e ({ frames := 0, cells := 0, slots := 0, locals := 0 } : Room) s0 m args below meth c H locs 0 0 (MQ below (va_Qv (fun (u : (Sto) × va_W) => (u.1 = F_ME_more_12 pf s ∧ frm (M_ME_more_12 pf) s u.1 ∧ True) ∧ okn g T u.1 u.2) (po g.1 vcl A (fun (u : (Sto) × va_W) => [] ++ u.2)) A) args s0 0 0 A) (F0 m 2 ls []) := by
    intro n21
    induction n21 with
    | zero =>
      intro i21 s21 pl ls H locs hm21 hF hR hl hO hP hD hS
      refine lv_iload_n hx hb dME_more_2 rfl (lv_at hl 0 rfl) ?_
      refine lv_sipush (v := nI 256) hx hb dME_more_3 (by decide) ?_
      refine mi_ge (tgt := 33) hx hb dME_more_6 (by decide) (by omega) (by omega) (fun h21 => ?_) (fun h21 => absurd h21 (by omega))
      exact mp_vret hx hb hr hlk hP hD hS (s21, pl) ⟨⟨hR.symm, hF, trivial⟩, hO⟩ [] rfl rfl rfl (by omega) (by omega) dME_more_33
    | succ n21 ih21 =>
      intro i21 s21 pl ls H locs hm21 hF hR hl hO hP hD hS
      refine lv_iload_n hx hb dME_more_2 rfl (lv_at hl 0 rfl) ?_
      refine lv_sipush (v := nI 256) hx hb dME_more_3 (by decide) ?_
      refine mi_ge (tgt := 33) hx hb dME_more_6 (by decide) (by omega) (by omega) (fun h22 => absurd h22 (by omega)) (fun h22 => ?_)
      refine lv_aload_n hx hb dME_more_9 rfl (lv_at hl 1 rfl) ?_
      refine lv_iload_n hx hb dME_more_10 rfl (lv_at hl 0 rfl) ?_
      refine lv_aload_n hx hb dME_more_11 rfl (lv_at hl 1 rfl) ?_
      refine lv_iload_n hx hb dME_more_12 rfl (lv_at hl 0 rfl) ?_
      refine nw_iald hx hb hK hO k_f (k := pf) n_f hP (by omega) (by omega) dME_more_13 ?_
      refine lv_sipush (v := nI 3329) hx hb dME_more_14 (by decide) ?_
      refine lv_imul hx hb dME_more_17 ?_
      refine lv_iconst (v := nI 1) hx hb dME_more_18 (by decide) ?_
      refine lv_iload_n hx hb dME_more_19 rfl (lv_at hl 2 rfl) ?_
      refine lv_iconst (v := nI 1) hx hb dME_more_20 (by decide) ?_
      refine mi_isub hx hb dME_more_21 (by omega) ?_
      refine mi_as (show nI (12 - 1) = nI 11 from rfl) ?_
      refine mi_ishl hx hb dME_more_22 (by decide) (by decide) ?_
      refine mi_as (show nI (1 * 2 ^ 11) = nI 2048 from rfl) ?_
      refine lv_iadd hx hb dME_more_23 ?_
      refine lv_iload_n hx hb dME_more_24 rfl (lv_at hl 2 rfl) ?_
      refine lv_ishr hx hb dME_more_25 ?_
      refine nw_iast hx hb hK hO hU k_f (k := pf) n_f hP hD hS (by omega) (by omega) dME_more_26 (fun s22 pl H locs es21 hO hP hD hS => ?_)
      replace hR := bnd_step hR es21
      have hF := frm_sI hF es21 (by unfold M_ME_more_12; omega)
      refine mi_iinc (k := 0) (x := i21) (d := 1) (y := i21 + 1) (lv' := [(2, .int (nI (i21 + 1))), (0, .ref f), (1, .int (nI 12))]) hx hb dME_more_27 hl rfl (by decide) rfl (by decide) rfl (fun ls hl => ?_)
      refine lv_goto (tgt := 2) hx hb dME_more_30 (by decide) ?_
      exact ih21 (i21 + 1) s22 pl ls H locs (by omega) hF hR (lv_sub hl [0, 1, 2] rfl) hO hP hD hS
  exact lp21 256 0 s pl ls _ _ (by omega) hF hR (lv_sub hl [0, 1, 2] rfl) hO hP hD hS
def M_ME_noise_2 (pf : Nat) (k : Nat) : Prop := k = 172 ∨ k = 221 ∨ k = pf ∨ (0 : Nat) = 1
noncomputable def F_ME_noise_2_L1 (pf : Nat) (i21 : Nat) (kk : Nat → Sto → Sto) : Nat → Nat → Int32 → Sto → Sto
  | 0, i22, z21, s27 => if 0 ≤ z21 then bnd (sI s27 pf i21 z21) fun s28 => kk (i21 + 1) s28 else bnd (sI s27 pf i21 (z21 + (nI 3329))) fun s29 => kk (i21 + 1) s29
  | n22 + 1, i22, z21, s27 => bnd (F_M_unpack 221 192 (((2 * i21) * 2) + i22) 1 s27) fun q21 => bnd (F_M_unpack 221 192 ((((2 * i21) * 2) + 2) + i22) 1 q21.2) fun q22 => bnd ((z21 + ((q21.1) - (q22.1)))) fun z22 => F_ME_noise_2_L1 pf i21 kk n22 (i22 + 1) z22 q22.2
noncomputable def F_ME_noise_2_L0 (pf : Nat) : Nat → Nat → Sto → Sto
  | 0, i21, s26 => s26
  | n21 + 1, i21, s26 => F_ME_noise_2_L1 pf i21 (F_ME_noise_2_L0 pf n21) 2 0 (nI 0) s26
noncomputable def F_ME_noise_2 (pf : Nat) (pb : Nat) (n : Nat) (at_ : Nat) (wh : Int32) (s : Sto) : Sto := bnd (F_MS_shake  s) fun s21 => bnd (F_MS_puts pb n at_ 32 s21) fun s22 => bnd (F_MS_put wh s22) fun s23 => bnd (F_MS_end  s23) fun s24 => bnd (F_MS_take 221 192 0 128 s24) fun s25 => F_ME_noise_2_L0 pf 256 0 s25
set_option maxHeartbeats 8000000 in
set_option maxRecDepth 100000 in
theorem N_ME_noise_2 (l : Launch) (g : Gd) (sz : Nat) (T : TyN) (s : Sto) (pl : va_W) (hO : okn g T s pl) (hU : inj T) (h0 f b : Nat) (pf : Nat) (pb : Nat) (n : Nat) (at_ : Nat) (wh : Int32) (k_h0 : T h0 = some 184) (k_f : T f = some pf) (n_f : nsp pf = (0, 256, [])) (k_b : T b = some pb) (n_b : nsp pb = (1, n, [])) (h1 : at_ + 32 ≤ n) (h2 : n < 65536)  : Met l y_ME_noise w_ME_noise ({ frames := 4, cells := 0, slots := 0, locals := 90 } : Room) (va_Pc [.ref h0, .ref f, .ref b, .int (nI at_), .int wh, .int (nI 2)] (pr (en g) g.1 vcl sz ([] ++ pl))) (va_Qv (fun (u : (Sto) × va_W) => (u.1 = F_ME_noise_2 pf pb n at_ wh s ∧ frm (M_ME_noise_2 pf) s u.1 ∧ True) ∧ okn g T u.1 u.2) (po g.1 vcl (va_A ([] ++ pl) sz) (fun (u : (Sto) × va_W) => [] ++ u.2)) (va_A ([] ++ pl) sz)) 0 0 (va_A ([] ++ pl) sz) := by
  refine mc_entry (cc := c_ME_noise) (maxL := 9) (ret := none) (by decide) rfl (Nat.le_of_ble_eq_true rfl) ?_
  intro p e s0 m args below meth c ls F hr hlk hnm hsz hP hD hE hA hl
  obtain ⟨hx, hb, hml, hown, hts⟩ := id F
  have hK := hE.1
  generalize va_A ([] ++ pl) sz = A at hD hE hA ⊢
  have hS : va_S A s0.heap s0.heap [] := va_S.rf
  have hl : lv_has ls 9 [(0, .ref h0), (1, .ref f), (2, .ref b), (3, .int (nI at_)), (4, .int wh), (5, .int (nI 2))] := hl
  have hR : F_ME_noise_2 pf pb n at_ wh s = F_ME_noise_2 pf pb n at_ wh s := rfl
  have hF : frm (M_ME_noise_2 pf) s s := frm_rf
  refine lv_aload_n hx hb dME_noise_0 rfl (lv_at hl 0 rfl) ?_
  refine nw_get (C := "LatticeKeysModel$Secrets") (TT := T_ME) (N := 14) hx hb hts (wg_ft i_ME) hown hK hO k_h0 (kn := 184) (ci := 11) (fl := [(3, 172), (3, 178), (3, 185), (3, 202), (3, 207), (3, 212), (3, 217), (3, 218), (3, 219), (3, 220), (3, 221), (3, 222), (3, 223), (3, 224)]) rfl hP rfl 0 (by decide) (hts _ (wg_t kw_1379)) (fun _ h9 => h9) (cd := (3, 172)) rfl dME_noise_1 (fun v21 hv21 => ?_)
  obtain ⟨r21, rfl, kr21⟩ := (show ∃ r : Nat, v21 = .ref r ∧ T r = some 172 from hv21)
  refine mp_v (cx := []) (wr := []) hP hD hS hA [] [] rfl rfl rfl (by decide) (va_runV (As := []) (rest := []) F (N_MS_shake l g _ T s pl hO hU r21 kr21) (cwV 0 hts (wg_app (wg_c kw_1660 (wg_c kw_1661 (wg_c kw_1662 (wg_c kw_10 wg_n)))) kw_1663) rfl rfl rfl (by decide +kernel) ⟨by decide, by decide⟩) (pn_W "LatticeKeysModel$Sponge" (en_ok g) (ci := 9) (kn := 172) (fl := [(3, 173), (3, 174), (3, 175), (3, 176), (3, 177), (0, 0), (0, 0), (0, 0)]) hK hO kr21 rfl hP hD hS hA hE [] rfl rfl rfl) rfl rfl hl.1 rfl (lv_room (Nat.le_of_ble_eq_true rfl)) dME_noise_4 ⟨by omega, by omega⟩) (fun  u21 H locs hu21 hP hD hS => ?_)
  obtain ⟨s21, pl⟩ := u21
  obtain ⟨⟨eq21, hFc21, ⟨x21, hx_21, hb_21⟩, ⟨x22, hx_22, hb_22⟩, -⟩, hO⟩ := hu21
  have hO : okn g T s21 pl := hO
  have hP : va_P g.1 vcl ([] ++ pl) _ := hP
  have hD : va_D _ ([] ++ pl) := hD
  have hFc21 : frm (M_MS_shake) s s21 := hFc21
  have hb_21 : x21 = 0 := hb_21
  have hb_22 : x22 = 136 := hb_22
  replace hR := bnd_step hR eq21
  have hF := frm_tr hF hFc21 (fun k hk => by unfold M_MS_shake at hk; unfold M_ME_noise_2; omega)
  refine W.widen (k := 0) (n := 0) (by omega) (by omega) ?_
  refine lv_aload_n hx hb dME_noise_7 rfl (lv_at hl 0 rfl) ?_
  refine nw_get (C := "LatticeKeysModel$Secrets") (TT := T_ME) (N := 14) hx hb hts (wg_ft i_ME) hown hK hO k_h0 (kn := 184) (ci := 11) (fl := [(3, 172), (3, 178), (3, 185), (3, 202), (3, 207), (3, 212), (3, 217), (3, 218), (3, 219), (3, 220), (3, 221), (3, 222), (3, 223), (3, 224)]) rfl hP rfl 0 (by decide) (hts _ (wg_t kw_1379)) (fun _ h9 => h9) (cd := (3, 172)) rfl dME_noise_8 (fun v22 hv22 => ?_)
  obtain ⟨r22, rfl, kr22⟩ := (show ∃ r : Nat, v22 = .ref r ∧ T r = some 172 from hv22)
  refine lv_aload_n hx hb dME_noise_11 rfl (lv_at hl 2 rfl) ?_
  refine lv_iload_n hx hb dME_noise_12 rfl (lv_at hl 3 rfl) ?_
  refine lv_bipush (v := nI 32) hx hb dME_noise_13 (by decide) ?_
  refine mp_v (cx := []) (wr := []) hP hD hS hA [] [] rfl rfl rfl (by decide) (va_runV (As := [.ref b, .int (nI at_), .int (nI 32)]) (rest := []) F (N_MS_puts l g _ T s21 pl hO hU r22 b pb n at_ 32 x21 x22 kr22 k_b n_b hx_21 hx_22 (by omega) (by omega) (by omega) (by omega)) (cwV 3 hts (wg_app (wg_c kw_1611 (wg_c kw_1612 (wg_c kw_1613 (wg_c kw_10 wg_n)))) kw_1614) rfl rfl rfl (by decide +kernel) ⟨by decide, by decide⟩) (pn_W "LatticeKeysModel$Sponge" (en_ok g) (ci := 9) (kn := 172) (fl := [(3, 173), (3, 174), (3, 175), (3, 176), (3, 177), (0, 0), (0, 0), (0, 0)]) hK hO kr22 rfl hP hD hS hA hE [] rfl rfl rfl) rfl rfl hl.1 rfl (lv_room (Nat.le_of_ble_eq_true rfl)) dME_noise_15 ⟨by omega, by omega⟩) (fun  u22 H locs hu22 hP hD hS => ?_)
  obtain ⟨s22, pl⟩ := u22
  obtain ⟨⟨eq22, hFc22, ⟨x24, hx_24, hb_24⟩, ⟨x25, hx_25, hb_25⟩, -⟩, hO⟩ := hu22
  have hO : okn g T s22 pl := hO
  have hP : va_P g.1 vcl ([] ++ pl) _ := hP
  have hD : va_D _ ([] ++ pl) := hD
  have hFc22 : frm (M_MS_puts) s21 s22 := hFc22
  have hb_24 : x24 < x22 := hb_24
  have hb_25 : x25 = x22 := hb_25
  replace hR := bnd_step hR eq22
  have hF := frm_tr hF hFc22 (fun k hk => by unfold M_MS_puts at hk; unfold M_ME_noise_2; omega)
  refine W.widen (k := 0) (n := 0) (by omega) (by omega) ?_
  refine lv_aload_n hx hb dME_noise_18 rfl (lv_at hl 0 rfl) ?_
  refine nw_get (C := "LatticeKeysModel$Secrets") (TT := T_ME) (N := 14) hx hb hts (wg_ft i_ME) hown hK hO k_h0 (kn := 184) (ci := 11) (fl := [(3, 172), (3, 178), (3, 185), (3, 202), (3, 207), (3, 212), (3, 217), (3, 218), (3, 219), (3, 220), (3, 221), (3, 222), (3, 223), (3, 224)]) rfl hP rfl 0 (by decide) (hts _ (wg_t kw_1379)) (fun _ h9 => h9) (cd := (3, 172)) rfl dME_noise_19 (fun v23 hv23 => ?_)
  obtain ⟨r23, rfl, kr23⟩ := (show ∃ r : Nat, v23 = .ref r ∧ T r = some 172 from hv23)
  refine lv_iload hx hb dME_noise_22 (lv_at hl 4 rfl) ?_
  refine mp_v (cx := []) (wr := []) hP hD hS hA [] [] rfl rfl rfl (by decide) (va_runV (As := [.int wh]) (rest := []) F (N_MS_put l g _ T s22 pl hO hU r23 wh x24 x25 kr23 hx_24 hx_25 (by omega) (by omega)) (cwV 1 hts (wg_app (wg_c kw_1632 (wg_c kw_1616 (wg_c kw_1617 (wg_c kw_10 wg_n)))) kw_1618) rfl rfl rfl (by decide +kernel) ⟨by decide, by decide⟩) (pn_W "LatticeKeysModel$Sponge" (en_ok g) (ci := 9) (kn := 172) (fl := [(3, 173), (3, 174), (3, 175), (3, 176), (3, 177), (0, 0), (0, 0), (0, 0)]) hK hO kr23 rfl hP hD hS hA hE [] rfl rfl rfl) rfl rfl hl.1 rfl (lv_room (Nat.le_of_ble_eq_true rfl)) dME_noise_24 ⟨by omega, by omega⟩) (fun  u23 H locs hu23 hP hD hS => ?_)
  obtain ⟨s23, pl⟩ := u23
  obtain ⟨⟨eq23, hFc23, ⟨x27, hx_27, hb_27⟩, ⟨x28, hx_28, hb_28⟩, -⟩, hO⟩ := hu23
  have hO : okn g T s23 pl := hO
  have hP : va_P g.1 vcl ([] ++ pl) _ := hP
  have hD : va_D _ ([] ++ pl) := hD
  have hFc23 : frm (M_MS_put) s22 s23 := hFc23
  have hb_27 : x27 < x25 := hb_27
  have hb_28 : x28 = x25 := hb_28
  replace hR := bnd_step hR eq23
  have hF := frm_tr hF hFc23 (fun k hk => by unfold M_MS_put at hk; unfold M_ME_noise_2; omega)
  refine W.widen (k := 0) (n := 0) (by omega) (by omega) ?_
  refine lv_aload_n hx hb dME_noise_27 rfl (lv_at hl 0 rfl) ?_
  refine nw_get (C := "LatticeKeysModel$Secrets") (TT := T_ME) (N := 14) hx hb hts (wg_ft i_ME) hown hK hO k_h0 (kn := 184) (ci := 11) (fl := [(3, 172), (3, 178), (3, 185), (3, 202), (3, 207), (3, 212), (3, 217), (3, 218), (3, 219), (3, 220), (3, 221), (3, 222), (3, 223), (3, 224)]) rfl hP rfl 0 (by decide) (hts _ (wg_t kw_1379)) (fun _ h9 => h9) (cd := (3, 172)) rfl dME_noise_28 (fun v24 hv24 => ?_)
  obtain ⟨r24, rfl, kr24⟩ := (show ∃ r : Nat, v24 = .ref r ∧ T r = some 172 from hv24)
  refine mp_v (cx := []) (wr := []) hP hD hS hA [] [] rfl rfl rfl (by decide) (va_runV (As := []) (rest := []) F (N_MS_end l g _ T s23 pl hO hU r24 x27 x28 kr24 hx_27 hx_28 (by omega) (by omega)) (cwV 0 hts (wg_app (wg_c kw_1633 (wg_c kw_1634 (wg_c kw_1635 (wg_c kw_10 wg_n)))) kw_1636) rfl rfl rfl (by decide +kernel) ⟨by decide, by decide⟩) (pn_W "LatticeKeysModel$Sponge" (en_ok g) (ci := 9) (kn := 172) (fl := [(3, 173), (3, 174), (3, 175), (3, 176), (3, 177), (0, 0), (0, 0), (0, 0)]) hK hO kr24 rfl hP hD hS hA hE [] rfl rfl rfl) rfl rfl hl.1 rfl (lv_room (Nat.le_of_ble_eq_true rfl)) dME_noise_31 ⟨by omega, by omega⟩) (fun  u24 H locs hu24 hP hD hS => ?_)
  obtain ⟨s24, pl⟩ := u24
  obtain ⟨⟨eq24, hFc24, ⟨x30, hx_30, hb_30⟩, ⟨x31, hx_31, hb_31⟩, -⟩, hO⟩ := hu24
  have hO : okn g T s24 pl := hO
  have hP : va_P g.1 vcl ([] ++ pl) _ := hP
  have hD : va_D _ ([] ++ pl) := hD
  have hFc24 : frm (M_MS_end) s23 s24 := hFc24
  have hb_30 : x30 = 0 := hb_30
  have hb_31 : x31 = x28 := hb_31
  replace hR := bnd_step hR eq24
  have hF := frm_tr hF hFc24 (fun k hk => by unfold M_MS_end at hk; unfold M_ME_noise_2; omega)
  refine W.widen (k := 0) (n := 0) (by omega) (by omega) ?_
  refine lv_aload_n hx hb dME_noise_34 rfl (lv_at hl 0 rfl) ?_
  refine nw_get (C := "LatticeKeysModel$Secrets") (TT := T_ME) (N := 14) hx hb hts (wg_ft i_ME) hown hK hO k_h0 (kn := 184) (ci := 11) (fl := [(3, 172), (3, 178), (3, 185), (3, 202), (3, 207), (3, 212), (3, 217), (3, 218), (3, 219), (3, 220), (3, 221), (3, 222), (3, 223), (3, 224)]) rfl hP rfl 0 (by decide) (hts _ (wg_t kw_1379)) (fun _ h9 => h9) (cd := (3, 172)) rfl dME_noise_35 (fun v25 hv25 => ?_)
  obtain ⟨r25, rfl, kr25⟩ := (show ∃ r : Nat, v25 = .ref r ∧ T r = some 172 from hv25)
  refine lv_aload_n hx hb dME_noise_38 rfl (lv_at hl 0 rfl) ?_
  refine nw_get (C := "LatticeKeysModel$Secrets") (TT := T_ME) (N := 14) hx hb hts (wg_ft i_ME) hown hK hO k_h0 (kn := 184) (ci := 11) (fl := [(3, 172), (3, 178), (3, 185), (3, 202), (3, 207), (3, 212), (3, 217), (3, 218), (3, 219), (3, 220), (3, 221), (3, 222), (3, 223), (3, 224)]) rfl hP rfl 10 (by decide) (hts _ (wg_t kw_1389)) (fun _ h9 => h9) (cd := (3, 221)) rfl dME_noise_39 (fun v26 hv26 => ?_)
  obtain ⟨r26, rfl, kr26⟩ := (show ∃ r : Nat, v26 = .ref r ∧ T r = some 221 from hv26)
  refine lv_iconst (v := nI 0) hx hb dME_noise_42 (by decide) ?_
  refine lv_bipush (v := nI 64) hx hb dME_noise_43 (by decide) ?_
  refine lv_iload hx hb dME_noise_45 (lv_at hl 5 rfl) ?_
  refine mi_imul hx hb dME_noise_47 ?_
  refine mi_as (show nI (64 * 2) = nI 128 from rfl) ?_
  refine mp_v (cx := []) (wr := []) hP hD hS hA [] [] rfl rfl rfl (by decide) (va_runV (As := [.ref r26, .int (nI 0), .int (nI 128)]) (rest := []) F (N_MS_take l g _ T s24 pl hO hU r25 r26 221 192 0 128 x30 x31 kr25 kr26 rfl hx_30 hx_31 (by omega) (by omega) (by omega) (by omega)) (cwV 3 hts (wg_app (wg_c kw_1637 (wg_c kw_1638 (wg_c kw_1639 (wg_c kw_10 wg_n)))) kw_1640) rfl rfl rfl (by decide +kernel) ⟨by decide, by decide⟩) (pn_W "LatticeKeysModel$Sponge" (en_ok g) (ci := 9) (kn := 172) (fl := [(3, 173), (3, 174), (3, 175), (3, 176), (3, 177), (0, 0), (0, 0), (0, 0)]) hK hO kr25 rfl hP hD hS hA hE [] rfl rfl rfl) rfl rfl hl.1 rfl (lv_room (Nat.le_of_ble_eq_true rfl)) dME_noise_48 ⟨by omega, by omega⟩) (fun  u25 H locs hu25 hP hD hS => ?_)
  obtain ⟨s25, pl⟩ := u25
  obtain ⟨⟨eq25, hFc25, ⟨x33, hx_33, hb_33⟩, ⟨x34, hx_34, hb_34⟩, -⟩, hO⟩ := hu25
  have hO : okn g T s25 pl := hO
  have hP : va_P g.1 vcl ([] ++ pl) _ := hP
  have hD : va_D _ ([] ++ pl) := hD
  have hFc25 : frm (M_MS_take 221) s24 s25 := hFc25
  have hb_33 : x33 ≤ x31 := hb_33
  have hb_34 : x34 = x31 := hb_34
  replace hR := bnd_step hR eq25
  have hF := frm_tr hF hFc25 (fun k hk => by unfold M_MS_take at hk; unfold M_ME_noise_2; omega)
  refine W.widen (k := 0) (n := 0) (by omega) (by omega) ?_
  refine lv_iconst (v := nI 0) hx hb dME_noise_51 (by decide) ?_
  refine lv_istore (lv' := [(6, .int (nI 0)), (0, .ref h0), (1, .ref f), (2, .ref b), (3, .int (nI at_)), (4, .int wh), (5, .int (nI 2))]) hx hb dME_noise_52 hl (by decide) rfl (fun ls hl => ?_)
  have lp21 : ∀ (n21 : Nat) (i21 : Nat) (s26 : Sto) (pl : va_W) (ls : Array Slot) (H : Heap) (locs : List Loc), n21 + i21 = 256 → frm (M_ME_noise_2 pf) s s26 → F_ME_noise_2 pf pb n at_ wh s = F_ME_noise_2_L0 pf n21 i21 s26 → lv_has ls 9 [(6, .int (nI i21)), (0, .ref h0), (1, .ref f), (5, .int (nI 2))] → okn g T s26 pl → va_P g.1 vcl ([] ++ pl) H → va_D A ([] ++ pl) → va_S A s0.heap H locs → W p l e ({ frames := 4, cells := 0, slots := 0, locals := 90 } : Room) s0 m args below meth c H locs 0 0 (MQ below (va_Qv (fun (u : (Sto) × va_W) => (u.1 = F_ME_noise_2 pf pb n at_ wh s ∧ frm (M_ME_noise_2 pf) s u.1 ∧ True) ∧ okn g T u.1 u.2) (po g.1 vcl A (fun (u : (Sto) × va_W) => [] ++ u.2)) A) args s0 0 0 A) (F0 m 54 ls []) := by
    intro n21
    induction n21 with
    | zero =>
      intro i21 s26 pl ls H locs hm21 hF hR hl hO hP hD hS
      refine lv_iload hx hb dME_noise_54 (lv_at hl 0 rfl) ?_
      refine lv_sipush (v := nI 256) hx hb dME_noise_56 (by decide) ?_
      refine mi_ge (tgt := 152) hx hb dME_noise_59 (by decide) (by omega) (by omega) (fun h21 => ?_) (fun h21 => absurd h21 (by omega))
      exact mp_vret hx hb hr hlk hP hD hS (s26, pl) ⟨⟨hR.symm, hF, trivial⟩, hO⟩ [] rfl rfl rfl (by omega) (by omega) dME_noise_152
    | succ n21 ih21 =>
      intro i21 s26 pl ls H locs hm21 hF hR hl hO hP hD hS
      refine lv_iload hx hb dME_noise_54 (lv_at hl 0 rfl) ?_
      refine lv_sipush (v := nI 256) hx hb dME_noise_56 (by decide) ?_
      refine mi_ge (tgt := 152) hx hb dME_noise_59 (by decide) (by omega) (by omega) (fun h22 => absurd h22 (by omega)) (fun h22 => ?_)
      refine lv_iconst (v := nI 0) hx hb dME_noise_62 (by decide) ?_
      refine lv_istore (lv' := [(7, .int (nI 0)), (6, .int (nI i21)), (0, .ref h0), (1, .ref f), (5, .int (nI 2))]) hx hb dME_noise_63 hl (by decide) rfl (fun ls hl => ?_)
      refine lv_iconst (v := nI 0) hx hb dME_noise_65 (by decide) ?_
      refine lv_istore (lv' := [(8, .int (nI 0)), (7, .int (nI 0)), (6, .int (nI i21)), (0, .ref h0), (1, .ref f), (5, .int (nI 2))]) hx hb dME_noise_66 hl (by decide) rfl (fun ls hl => ?_)
      have lp22 : ∀ (n22 : Nat) (i22 : Nat) (z21 : Int32) (s27 : Sto) (pl : va_W) (ls : Array Slot) (H : Heap) (locs : List Loc), n22 + i22 = 2 → frm (M_ME_noise_2 pf) s s27 → F_ME_noise_2 pf pb n at_ wh s = F_ME_noise_2_L1 pf i21 (F_ME_noise_2_L0 pf n21) n22 i22 z21 s27 → lv_has ls 9 [(8, .int (nI i22)), (7, .int z21), (6, .int (nI i21)), (0, .ref h0), (1, .ref f), (5, .int (nI 2))] → okn g T s27 pl → va_P g.1 vcl ([] ++ pl) H → va_D A ([] ++ pl) → va_S A s0.heap H locs → W p l e ({ frames := 4, cells := 0, slots := 0, locals := 90 } : Room) s0 m args below meth c H locs 0 0 (MQ below (va_Qv (fun (u : (Sto) × va_W) => (u.1 = F_ME_noise_2 pf pb n at_ wh s ∧ frm (M_ME_noise_2 pf) s u.1 ∧ True) ∧ okn g T u.1 u.2) (po g.1 vcl A (fun (u : (Sto) × va_W) => [] ++ u.2)) A) args s0 0 0 A) (F0 m 68 ls []) := by
        intro n22
        induction n22 with
        | zero =>
          intro i22 z21 s27 pl ls H locs hm22 hF hR hl hO hP hD hS
          refine lv_iload hx hb dME_noise_68 (lv_at hl 0 rfl) ?_
          refine lv_iload hx hb dME_noise_70 (lv_at hl 5 rfl) ?_
          refine mi_ge (tgt := 126) hx hb dME_noise_72 (by decide) (by omega) (by omega) (fun h23 => ?_) (fun h23 => absurd h23 (by omega))
          refine lv_aload_n hx hb dME_noise_126 rfl (lv_at hl 4 rfl) ?_
          refine lv_iload hx hb dME_noise_127 (lv_at hl 2 rfl) ?_
          refine lv_iload hx hb dME_noise_129 (lv_at hl 1 rfl) ?_
          refine lv_if_ge (tgt := 143) hx hb dME_noise_131 (by decide) (fun h24 => ?_) (fun h24 => ?_)
          · replace hR := hR.trans (if_pos h24)
            refine lv_iload hx hb dME_noise_143 (lv_at hl 1 rfl) ?_
            refine nw_iast hx hb hK hO hU k_f (k := pf) n_f hP hD hS (by omega) (by omega) dME_noise_145 (fun s28 pl H locs es21 hO hP hD hS => ?_)
            replace hR := bnd_step hR es21
            have hF := frm_sI hF es21 (by unfold M_ME_noise_2; omega)
            refine mi_iinc (k := 2) (x := i21) (d := 1) (y := i21 + 1) (lv' := [(6, .int (nI (i21 + 1))), (8, .int (nI i22)), (7, .int z21), (0, .ref h0), (1, .ref f), (5, .int (nI 2))]) hx hb dME_noise_146 hl rfl (by decide) rfl (by decide) rfl (fun ls hl => ?_)
            refine lv_goto (tgt := 54) hx hb dME_noise_149 (by decide) ?_
            exact ih21 (i21 + 1) s28 pl ls H locs (by omega) hF hR (lv_sub hl [0, 3, 4, 5] rfl) hO hP hD hS
          · replace hR := hR.trans (if_neg h24)
            refine lv_iload hx hb dME_noise_134 (lv_at hl 1 rfl) ?_
            refine lv_sipush (v := nI 3329) hx hb dME_noise_136 (by decide) ?_
            refine lv_iadd hx hb dME_noise_139 ?_
            refine lv_goto (tgt := 145) hx hb dME_noise_140 (by decide) ?_
            refine nw_iast hx hb hK hO hU k_f (k := pf) n_f hP hD hS (by omega) (by omega) dME_noise_145 (fun s29 pl H locs es22 hO hP hD hS => ?_)
            replace hR := bnd_step hR es22
            have hF := frm_sI hF es22 (by unfold M_ME_noise_2; omega)
            refine mi_iinc (k := 2) (x := i21) (d := 1) (y := i21 + 1) (lv' := [(6, .int (nI (i21 + 1))), (8, .int (nI i22)), (7, .int z21), (0, .ref h0), (1, .ref f), (5, .int (nI 2))]) hx hb dME_noise_146 hl rfl (by decide) rfl (by decide) rfl (fun ls hl => ?_)
            refine lv_goto (tgt := 54) hx hb dME_noise_149 (by decide) ?_
            exact ih21 (i21 + 1) s29 pl ls H locs (by omega) hF hR (lv_sub hl [0, 3, 4, 5] rfl) hO hP hD hS
        | succ n22 ih22 =>
          intro i22 z21 s27 pl ls H locs hm22 hF hR hl hO hP hD hS
          refine lv_iload hx hb dME_noise_68 (lv_at hl 0 rfl) ?_
          refine lv_iload hx hb dME_noise_70 (lv_at hl 5 rfl) ?_
          refine mi_ge (tgt := 126) hx hb dME_noise_72 (by decide) (by omega) (by omega) (fun h25 => absurd h25 (by omega)) (fun h25 => ?_)
          refine lv_iload hx hb dME_noise_75 (lv_at hl 1 rfl) ?_
          refine lv_aload_n hx hb dME_noise_77 rfl (lv_at hl 3 rfl) ?_
          refine nw_get (C := "LatticeKeysModel$Secrets") (TT := T_ME) (N := 14) hx hb hts (wg_ft i_ME) hown hK hO k_h0 (kn := 184) (ci := 11) (fl := [(3, 172), (3, 178), (3, 185), (3, 202), (3, 207), (3, 212), (3, 217), (3, 218), (3, 219), (3, 220), (3, 221), (3, 222), (3, 223), (3, 224)]) rfl hP rfl 10 (by decide) (hts _ (wg_t kw_1389)) (fun _ h9 => h9) (cd := (3, 221)) rfl dME_noise_78 (fun v27 hv27 => ?_)
          obtain ⟨r27, rfl, kr27⟩ := (show ∃ r : Nat, v27 = .ref r ∧ T r = some 221 from hv27)
          refine lv_iconst (v := nI 2) hx hb dME_noise_81 (by decide) ?_
          refine lv_iload hx hb dME_noise_82 (lv_at hl 2 rfl) ?_
          refine mi_imul hx hb dME_noise_84 ?_
          refine lv_iload hx hb dME_noise_85 (lv_at hl 5 rfl) ?_
          refine mi_imul hx hb dME_noise_87 ?_
          refine lv_iload hx hb dME_noise_88 (lv_at hl 0 rfl) ?_
          refine mi_iadd hx hb dME_noise_90 ?_
          refine lv_iconst (v := nI 1) hx hb dME_noise_91 (by decide) ?_
          refine mp_i (cx := []) (wr := []) hP hD hS hA [] [] rfl rfl rfl (by decide) (va_runSN (As := [.ref r27, .int (nI (((2 * i21) * 2) + i22)), .int (nI 1)]) (rest := [.int z21]) F (N_M_unpack l g _ T s27 pl hO hU r27 221 192 (((2 * i21) * 2) + i22) 1 kr27 rfl (by omega) (by omega) (by omega)) ⟨va_cnB 3 hts (wg_in kw_1667) rfl rfl rfl (hE.2.2.2.2.2.2.2.1) (hts _ (wg_t kw_9)) (by decide +kernel) ⟨by decide, by decide⟩, hts _ (wg_t kw_1666), trivial⟩ (pp_S (en_ok g) hP hD hS hA hE [] rfl rfl) rfl rfl hl.1 rfl (lv_room (Nat.le_of_ble_eq_true rfl)) dME_noise_92 ⟨by omega, by omega⟩) (fun r28 u26 H locs hu26 hP hD hS => ?_)
          obtain ⟨q21, pl⟩ := u26
          obtain ⟨⟨eq26, rfl, hFc26, -⟩, hO⟩ := hu26
          have hO : okn g T q21.2 pl := hO
          have hP : va_P g.1 vcl ([] ++ pl) _ := hP
          have hD : va_D _ ([] ++ pl) := hD
          have hFc26 : frm (M_M_unpack) s27 q21.2 := hFc26
          replace hR := bnd_step hR eq26
          have hF := frm_tr hF hFc26 (fun k hk => by unfold M_M_unpack at hk; unfold M_ME_noise_2; omega)
          refine W.widen (k := 0) (n := 0) (by omega) (by omega) ?_
          refine lv_aload_n hx hb dME_noise_95 rfl (lv_at hl 3 rfl) ?_
          refine nw_get (C := "LatticeKeysModel$Secrets") (TT := T_ME) (N := 14) hx hb hts (wg_ft i_ME) hown hK hO k_h0 (kn := 184) (ci := 11) (fl := [(3, 172), (3, 178), (3, 185), (3, 202), (3, 207), (3, 212), (3, 217), (3, 218), (3, 219), (3, 220), (3, 221), (3, 222), (3, 223), (3, 224)]) rfl hP rfl 10 (by decide) (hts _ (wg_t kw_1389)) (fun _ h9 => h9) (cd := (3, 221)) rfl dME_noise_96 (fun v28 hv28 => ?_)
          obtain ⟨r29, rfl, kr28⟩ := (show ∃ r : Nat, v28 = .ref r ∧ T r = some 221 from hv28)
          refine lv_iconst (v := nI 2) hx hb dME_noise_99 (by decide) ?_
          refine lv_iload hx hb dME_noise_100 (lv_at hl 2 rfl) ?_
          refine mi_imul hx hb dME_noise_102 ?_
          refine lv_iload hx hb dME_noise_103 (lv_at hl 5 rfl) ?_
          refine mi_imul hx hb dME_noise_105 ?_
          refine lv_iload hx hb dME_noise_106 (lv_at hl 5 rfl) ?_
          refine mi_iadd hx hb dME_noise_108 ?_
          refine lv_iload hx hb dME_noise_109 (lv_at hl 0 rfl) ?_
          refine mi_iadd hx hb dME_noise_111 ?_
          refine lv_iconst (v := nI 1) hx hb dME_noise_112 (by decide) ?_
          refine mp_i (cx := []) (wr := []) hP hD hS hA [] [] rfl rfl rfl (by decide) (va_runSN (As := [.ref r29, .int (nI ((((2 * i21) * 2) + 2) + i22)), .int (nI 1)]) (rest := [.int q21.1, .int z21]) F (N_M_unpack l g _ T q21.2 pl hO hU r29 221 192 ((((2 * i21) * 2) + 2) + i22) 1 kr28 rfl (by omega) (by omega) (by omega)) ⟨va_cnB 3 hts (wg_in kw_1667) rfl rfl rfl (hE.2.2.2.2.2.2.2.1) (hts _ (wg_t kw_9)) (by decide +kernel) ⟨by decide, by decide⟩, hts _ (wg_t kw_1666), trivial⟩ (pp_S (en_ok g) hP hD hS hA hE [] rfl rfl) rfl rfl hl.1 rfl (lv_room (Nat.le_of_ble_eq_true rfl)) dME_noise_113 ⟨by omega, by omega⟩) (fun r30 u27 H locs hu27 hP hD hS => ?_)
          obtain ⟨q22, pl⟩ := u27
          obtain ⟨⟨eq27, rfl, hFc27, -⟩, hO⟩ := hu27
          have hO : okn g T q22.2 pl := hO
          have hP : va_P g.1 vcl ([] ++ pl) _ := hP
          have hD : va_D _ ([] ++ pl) := hD
          have hFc27 : frm (M_M_unpack) q21.2 q22.2 := hFc27
          replace hR := bnd_step hR eq27
          have hF := frm_tr hF hFc27 (fun k hk => by unfold M_M_unpack at hk; unfold M_ME_noise_2; omega)
          refine W.widen (k := 0) (n := 0) (by omega) (by omega) ?_
          refine lv_isub hx hb dME_noise_116 ?_
          refine lv_iadd hx hb dME_noise_117 ?_
          refine mi_eqv (fun z22 ez21 => ?_)
          replace hR := bnd_step hR ez21
          refine lv_istore (lv' := [(7, .int z22), (8, .int (nI i22)), (6, .int (nI i21)), (0, .ref h0), (1, .ref f), (5, .int (nI 2))]) hx hb dME_noise_118 hl (by decide) rfl (fun ls hl => ?_)
          refine mi_iinc (k := 1) (x := i22) (d := 1) (y := i22 + 1) (lv' := [(8, .int (nI (i22 + 1))), (7, .int z22), (6, .int (nI i21)), (0, .ref h0), (1, .ref f), (5, .int (nI 2))]) hx hb dME_noise_120 hl rfl (by decide) rfl (by decide) rfl (fun ls hl => ?_)
          refine lv_goto (tgt := 68) hx hb dME_noise_123 (by decide) ?_
          exact ih22 (i22 + 1) z22 q22.2 pl ls H locs (by omega) hF hR (lv_sub hl [0, 1, 2, 3, 4, 5] rfl) hO hP hD hS
      exact lp22 2 0 (nI 0) s26 pl ls _ _ (by omega) hF hR (lv_sub hl [0, 1, 2, 3, 4, 5] rfl) hO hP hD hS
  exact lp21 256 0 s25 pl ls _ _ (by omega) hF hR (lv_sub hl [0, 1, 2, 6] rfl) hO hP hD hS
def M_ME_noise_3 (pf : Nat) (k : Nat) : Prop := k = 172 ∨ k = 221 ∨ k = pf ∨ (0 : Nat) = 1
noncomputable def F_ME_noise_3_L1 (pf : Nat) (i21 : Nat) (kk : Nat → Sto → Sto) : Nat → Nat → Int32 → Sto → Sto
  | 0, i22, z21, s27 => if 0 ≤ z21 then bnd (sI s27 pf i21 z21) fun s28 => kk (i21 + 1) s28 else bnd (sI s27 pf i21 (z21 + (nI 3329))) fun s29 => kk (i21 + 1) s29
  | n22 + 1, i22, z21, s27 => bnd (F_M_unpack 221 192 (((2 * i21) * 3) + i22) 1 s27) fun q21 => bnd (F_M_unpack 221 192 ((((2 * i21) * 3) + 3) + i22) 1 q21.2) fun q22 => bnd ((z21 + ((q21.1) - (q22.1)))) fun z22 => F_ME_noise_3_L1 pf i21 kk n22 (i22 + 1) z22 q22.2
noncomputable def F_ME_noise_3_L0 (pf : Nat) : Nat → Nat → Sto → Sto
  | 0, i21, s26 => s26
  | n21 + 1, i21, s26 => F_ME_noise_3_L1 pf i21 (F_ME_noise_3_L0 pf n21) 3 0 (nI 0) s26
noncomputable def F_ME_noise_3 (pf : Nat) (pb : Nat) (n : Nat) (at_ : Nat) (wh : Int32) (s : Sto) : Sto := bnd (F_MS_shake  s) fun s21 => bnd (F_MS_puts pb n at_ 32 s21) fun s22 => bnd (F_MS_put wh s22) fun s23 => bnd (F_MS_end  s23) fun s24 => bnd (F_MS_take 221 192 0 192 s24) fun s25 => F_ME_noise_3_L0 pf 256 0 s25
set_option maxHeartbeats 8000000 in
set_option maxRecDepth 100000 in
theorem N_ME_noise_3 (l : Launch) (g : Gd) (sz : Nat) (T : TyN) (s : Sto) (pl : va_W) (hO : okn g T s pl) (hU : inj T) (h0 f b : Nat) (pf : Nat) (pb : Nat) (n : Nat) (at_ : Nat) (wh : Int32) (k_h0 : T h0 = some 184) (k_f : T f = some pf) (n_f : nsp pf = (0, 256, [])) (k_b : T b = some pb) (n_b : nsp pb = (1, n, [])) (h1 : at_ + 32 ≤ n) (h2 : n < 65536)  : Met l y_ME_noise w_ME_noise ({ frames := 4, cells := 0, slots := 0, locals := 90 } : Room) (va_Pc [.ref h0, .ref f, .ref b, .int (nI at_), .int wh, .int (nI 3)] (pr (en g) g.1 vcl sz ([] ++ pl))) (va_Qv (fun (u : (Sto) × va_W) => (u.1 = F_ME_noise_3 pf pb n at_ wh s ∧ frm (M_ME_noise_3 pf) s u.1 ∧ True) ∧ okn g T u.1 u.2) (po g.1 vcl (va_A ([] ++ pl) sz) (fun (u : (Sto) × va_W) => [] ++ u.2)) (va_A ([] ++ pl) sz)) 0 0 (va_A ([] ++ pl) sz) := by
  refine mc_entry (cc := c_ME_noise) (maxL := 9) (ret := none) (by decide) rfl (Nat.le_of_ble_eq_true rfl) ?_
  intro p e s0 m args below meth c ls F hr hlk hnm hsz hP hD hE hA hl
  obtain ⟨hx, hb, hml, hown, hts⟩ := id F
  have hK := hE.1
  generalize va_A ([] ++ pl) sz = A at hD hE hA ⊢
  have hS : va_S A s0.heap s0.heap [] := va_S.rf
  have hl : lv_has ls 9 [(0, .ref h0), (1, .ref f), (2, .ref b), (3, .int (nI at_)), (4, .int wh), (5, .int (nI 3))] := hl
  have hR : F_ME_noise_3 pf pb n at_ wh s = F_ME_noise_3 pf pb n at_ wh s := rfl
  have hF : frm (M_ME_noise_3 pf) s s := frm_rf
  refine lv_aload_n hx hb dME_noise_0 rfl (lv_at hl 0 rfl) ?_
  refine nw_get (C := "LatticeKeysModel$Secrets") (TT := T_ME) (N := 14) hx hb hts (wg_ft i_ME) hown hK hO k_h0 (kn := 184) (ci := 11) (fl := [(3, 172), (3, 178), (3, 185), (3, 202), (3, 207), (3, 212), (3, 217), (3, 218), (3, 219), (3, 220), (3, 221), (3, 222), (3, 223), (3, 224)]) rfl hP rfl 0 (by decide) (hts _ (wg_t kw_1379)) (fun _ h9 => h9) (cd := (3, 172)) rfl dME_noise_1 (fun v21 hv21 => ?_)
  obtain ⟨r21, rfl, kr21⟩ := (show ∃ r : Nat, v21 = .ref r ∧ T r = some 172 from hv21)
  refine mp_v (cx := []) (wr := []) hP hD hS hA [] [] rfl rfl rfl (by decide) (va_runV (As := []) (rest := []) F (N_MS_shake l g _ T s pl hO hU r21 kr21) (cwV 0 hts (wg_app (wg_c kw_1660 (wg_c kw_1661 (wg_c kw_1662 (wg_c kw_10 wg_n)))) kw_1663) rfl rfl rfl (by decide +kernel) ⟨by decide, by decide⟩) (pn_W "LatticeKeysModel$Sponge" (en_ok g) (ci := 9) (kn := 172) (fl := [(3, 173), (3, 174), (3, 175), (3, 176), (3, 177), (0, 0), (0, 0), (0, 0)]) hK hO kr21 rfl hP hD hS hA hE [] rfl rfl rfl) rfl rfl hl.1 rfl (lv_room (Nat.le_of_ble_eq_true rfl)) dME_noise_4 ⟨by omega, by omega⟩) (fun  u21 H locs hu21 hP hD hS => ?_)
  obtain ⟨s21, pl⟩ := u21
  obtain ⟨⟨eq21, hFc21, ⟨x21, hx_21, hb_21⟩, ⟨x22, hx_22, hb_22⟩, -⟩, hO⟩ := hu21
  have hO : okn g T s21 pl := hO
  have hP : va_P g.1 vcl ([] ++ pl) _ := hP
  have hD : va_D _ ([] ++ pl) := hD
  have hFc21 : frm (M_MS_shake) s s21 := hFc21
  have hb_21 : x21 = 0 := hb_21
  have hb_22 : x22 = 136 := hb_22
  replace hR := bnd_step hR eq21
  have hF := frm_tr hF hFc21 (fun k hk => by unfold M_MS_shake at hk; unfold M_ME_noise_3; omega)
  refine W.widen (k := 0) (n := 0) (by omega) (by omega) ?_
  refine lv_aload_n hx hb dME_noise_7 rfl (lv_at hl 0 rfl) ?_
  refine nw_get (C := "LatticeKeysModel$Secrets") (TT := T_ME) (N := 14) hx hb hts (wg_ft i_ME) hown hK hO k_h0 (kn := 184) (ci := 11) (fl := [(3, 172), (3, 178), (3, 185), (3, 202), (3, 207), (3, 212), (3, 217), (3, 218), (3, 219), (3, 220), (3, 221), (3, 222), (3, 223), (3, 224)]) rfl hP rfl 0 (by decide) (hts _ (wg_t kw_1379)) (fun _ h9 => h9) (cd := (3, 172)) rfl dME_noise_8 (fun v22 hv22 => ?_)
  obtain ⟨r22, rfl, kr22⟩ := (show ∃ r : Nat, v22 = .ref r ∧ T r = some 172 from hv22)
  refine lv_aload_n hx hb dME_noise_11 rfl (lv_at hl 2 rfl) ?_
  refine lv_iload_n hx hb dME_noise_12 rfl (lv_at hl 3 rfl) ?_
  refine lv_bipush (v := nI 32) hx hb dME_noise_13 (by decide) ?_
  refine mp_v (cx := []) (wr := []) hP hD hS hA [] [] rfl rfl rfl (by decide) (va_runV (As := [.ref b, .int (nI at_), .int (nI 32)]) (rest := []) F (N_MS_puts l g _ T s21 pl hO hU r22 b pb n at_ 32 x21 x22 kr22 k_b n_b hx_21 hx_22 (by omega) (by omega) (by omega) (by omega)) (cwV 3 hts (wg_app (wg_c kw_1611 (wg_c kw_1612 (wg_c kw_1613 (wg_c kw_10 wg_n)))) kw_1614) rfl rfl rfl (by decide +kernel) ⟨by decide, by decide⟩) (pn_W "LatticeKeysModel$Sponge" (en_ok g) (ci := 9) (kn := 172) (fl := [(3, 173), (3, 174), (3, 175), (3, 176), (3, 177), (0, 0), (0, 0), (0, 0)]) hK hO kr22 rfl hP hD hS hA hE [] rfl rfl rfl) rfl rfl hl.1 rfl (lv_room (Nat.le_of_ble_eq_true rfl)) dME_noise_15 ⟨by omega, by omega⟩) (fun  u22 H locs hu22 hP hD hS => ?_)
  obtain ⟨s22, pl⟩ := u22
  obtain ⟨⟨eq22, hFc22, ⟨x24, hx_24, hb_24⟩, ⟨x25, hx_25, hb_25⟩, -⟩, hO⟩ := hu22
  have hO : okn g T s22 pl := hO
  have hP : va_P g.1 vcl ([] ++ pl) _ := hP
  have hD : va_D _ ([] ++ pl) := hD
  have hFc22 : frm (M_MS_puts) s21 s22 := hFc22
  have hb_24 : x24 < x22 := hb_24
  have hb_25 : x25 = x22 := hb_25
  replace hR := bnd_step hR eq22
  have hF := frm_tr hF hFc22 (fun k hk => by unfold M_MS_puts at hk; unfold M_ME_noise_3; omega)
  refine W.widen (k := 0) (n := 0) (by omega) (by omega) ?_
  refine lv_aload_n hx hb dME_noise_18 rfl (lv_at hl 0 rfl) ?_
  refine nw_get (C := "LatticeKeysModel$Secrets") (TT := T_ME) (N := 14) hx hb hts (wg_ft i_ME) hown hK hO k_h0 (kn := 184) (ci := 11) (fl := [(3, 172), (3, 178), (3, 185), (3, 202), (3, 207), (3, 212), (3, 217), (3, 218), (3, 219), (3, 220), (3, 221), (3, 222), (3, 223), (3, 224)]) rfl hP rfl 0 (by decide) (hts _ (wg_t kw_1379)) (fun _ h9 => h9) (cd := (3, 172)) rfl dME_noise_19 (fun v23 hv23 => ?_)
  obtain ⟨r23, rfl, kr23⟩ := (show ∃ r : Nat, v23 = .ref r ∧ T r = some 172 from hv23)
  refine lv_iload hx hb dME_noise_22 (lv_at hl 4 rfl) ?_
  refine mp_v (cx := []) (wr := []) hP hD hS hA [] [] rfl rfl rfl (by decide) (va_runV (As := [.int wh]) (rest := []) F (N_MS_put l g _ T s22 pl hO hU r23 wh x24 x25 kr23 hx_24 hx_25 (by omega) (by omega)) (cwV 1 hts (wg_app (wg_c kw_1632 (wg_c kw_1616 (wg_c kw_1617 (wg_c kw_10 wg_n)))) kw_1618) rfl rfl rfl (by decide +kernel) ⟨by decide, by decide⟩) (pn_W "LatticeKeysModel$Sponge" (en_ok g) (ci := 9) (kn := 172) (fl := [(3, 173), (3, 174), (3, 175), (3, 176), (3, 177), (0, 0), (0, 0), (0, 0)]) hK hO kr23 rfl hP hD hS hA hE [] rfl rfl rfl) rfl rfl hl.1 rfl (lv_room (Nat.le_of_ble_eq_true rfl)) dME_noise_24 ⟨by omega, by omega⟩) (fun  u23 H locs hu23 hP hD hS => ?_)
  obtain ⟨s23, pl⟩ := u23
  obtain ⟨⟨eq23, hFc23, ⟨x27, hx_27, hb_27⟩, ⟨x28, hx_28, hb_28⟩, -⟩, hO⟩ := hu23
  have hO : okn g T s23 pl := hO
  have hP : va_P g.1 vcl ([] ++ pl) _ := hP
  have hD : va_D _ ([] ++ pl) := hD
  have hFc23 : frm (M_MS_put) s22 s23 := hFc23
  have hb_27 : x27 < x25 := hb_27
  have hb_28 : x28 = x25 := hb_28
  replace hR := bnd_step hR eq23
  have hF := frm_tr hF hFc23 (fun k hk => by unfold M_MS_put at hk; unfold M_ME_noise_3; omega)
  refine W.widen (k := 0) (n := 0) (by omega) (by omega) ?_
  refine lv_aload_n hx hb dME_noise_27 rfl (lv_at hl 0 rfl) ?_
  refine nw_get (C := "LatticeKeysModel$Secrets") (TT := T_ME) (N := 14) hx hb hts (wg_ft i_ME) hown hK hO k_h0 (kn := 184) (ci := 11) (fl := [(3, 172), (3, 178), (3, 185), (3, 202), (3, 207), (3, 212), (3, 217), (3, 218), (3, 219), (3, 220), (3, 221), (3, 222), (3, 223), (3, 224)]) rfl hP rfl 0 (by decide) (hts _ (wg_t kw_1379)) (fun _ h9 => h9) (cd := (3, 172)) rfl dME_noise_28 (fun v24 hv24 => ?_)
  obtain ⟨r24, rfl, kr24⟩ := (show ∃ r : Nat, v24 = .ref r ∧ T r = some 172 from hv24)
  refine mp_v (cx := []) (wr := []) hP hD hS hA [] [] rfl rfl rfl (by decide) (va_runV (As := []) (rest := []) F (N_MS_end l g _ T s23 pl hO hU r24 x27 x28 kr24 hx_27 hx_28 (by omega) (by omega)) (cwV 0 hts (wg_app (wg_c kw_1633 (wg_c kw_1634 (wg_c kw_1635 (wg_c kw_10 wg_n)))) kw_1636) rfl rfl rfl (by decide +kernel) ⟨by decide, by decide⟩) (pn_W "LatticeKeysModel$Sponge" (en_ok g) (ci := 9) (kn := 172) (fl := [(3, 173), (3, 174), (3, 175), (3, 176), (3, 177), (0, 0), (0, 0), (0, 0)]) hK hO kr24 rfl hP hD hS hA hE [] rfl rfl rfl) rfl rfl hl.1 rfl (lv_room (Nat.le_of_ble_eq_true rfl)) dME_noise_31 ⟨by omega, by omega⟩) (fun  u24 H locs hu24 hP hD hS => ?_)
  obtain ⟨s24, pl⟩ := u24
  obtain ⟨⟨eq24, hFc24, ⟨x30, hx_30, hb_30⟩, ⟨x31, hx_31, hb_31⟩, -⟩, hO⟩ := hu24
  have hO : okn g T s24 pl := hO
  have hP : va_P g.1 vcl ([] ++ pl) _ := hP
  have hD : va_D _ ([] ++ pl) := hD
  have hFc24 : frm (M_MS_end) s23 s24 := hFc24
  have hb_30 : x30 = 0 := hb_30
  have hb_31 : x31 = x28 := hb_31
  replace hR := bnd_step hR eq24
  have hF := frm_tr hF hFc24 (fun k hk => by unfold M_MS_end at hk; unfold M_ME_noise_3; omega)
  refine W.widen (k := 0) (n := 0) (by omega) (by omega) ?_
  refine lv_aload_n hx hb dME_noise_34 rfl (lv_at hl 0 rfl) ?_
  refine nw_get (C := "LatticeKeysModel$Secrets") (TT := T_ME) (N := 14) hx hb hts (wg_ft i_ME) hown hK hO k_h0 (kn := 184) (ci := 11) (fl := [(3, 172), (3, 178), (3, 185), (3, 202), (3, 207), (3, 212), (3, 217), (3, 218), (3, 219), (3, 220), (3, 221), (3, 222), (3, 223), (3, 224)]) rfl hP rfl 0 (by decide) (hts _ (wg_t kw_1379)) (fun _ h9 => h9) (cd := (3, 172)) rfl dME_noise_35 (fun v25 hv25 => ?_)
  obtain ⟨r25, rfl, kr25⟩ := (show ∃ r : Nat, v25 = .ref r ∧ T r = some 172 from hv25)
  refine lv_aload_n hx hb dME_noise_38 rfl (lv_at hl 0 rfl) ?_
  refine nw_get (C := "LatticeKeysModel$Secrets") (TT := T_ME) (N := 14) hx hb hts (wg_ft i_ME) hown hK hO k_h0 (kn := 184) (ci := 11) (fl := [(3, 172), (3, 178), (3, 185), (3, 202), (3, 207), (3, 212), (3, 217), (3, 218), (3, 219), (3, 220), (3, 221), (3, 222), (3, 223), (3, 224)]) rfl hP rfl 10 (by decide) (hts _ (wg_t kw_1389)) (fun _ h9 => h9) (cd := (3, 221)) rfl dME_noise_39 (fun v26 hv26 => ?_)
  obtain ⟨r26, rfl, kr26⟩ := (show ∃ r : Nat, v26 = .ref r ∧ T r = some 221 from hv26)
  refine lv_iconst (v := nI 0) hx hb dME_noise_42 (by decide) ?_
  refine lv_bipush (v := nI 64) hx hb dME_noise_43 (by decide) ?_
  refine lv_iload hx hb dME_noise_45 (lv_at hl 5 rfl) ?_
  refine mi_imul hx hb dME_noise_47 ?_
  refine mi_as (show nI (64 * 3) = nI 192 from rfl) ?_
  refine mp_v (cx := []) (wr := []) hP hD hS hA [] [] rfl rfl rfl (by decide) (va_runV (As := [.ref r26, .int (nI 0), .int (nI 192)]) (rest := []) F (N_MS_take l g _ T s24 pl hO hU r25 r26 221 192 0 192 x30 x31 kr25 kr26 rfl hx_30 hx_31 (by omega) (by omega) (by omega) (by omega)) (cwV 3 hts (wg_app (wg_c kw_1637 (wg_c kw_1638 (wg_c kw_1639 (wg_c kw_10 wg_n)))) kw_1640) rfl rfl rfl (by decide +kernel) ⟨by decide, by decide⟩) (pn_W "LatticeKeysModel$Sponge" (en_ok g) (ci := 9) (kn := 172) (fl := [(3, 173), (3, 174), (3, 175), (3, 176), (3, 177), (0, 0), (0, 0), (0, 0)]) hK hO kr25 rfl hP hD hS hA hE [] rfl rfl rfl) rfl rfl hl.1 rfl (lv_room (Nat.le_of_ble_eq_true rfl)) dME_noise_48 ⟨by omega, by omega⟩) (fun  u25 H locs hu25 hP hD hS => ?_)
  obtain ⟨s25, pl⟩ := u25
  obtain ⟨⟨eq25, hFc25, ⟨x33, hx_33, hb_33⟩, ⟨x34, hx_34, hb_34⟩, -⟩, hO⟩ := hu25
  have hO : okn g T s25 pl := hO
  have hP : va_P g.1 vcl ([] ++ pl) _ := hP
  have hD : va_D _ ([] ++ pl) := hD
  have hFc25 : frm (M_MS_take 221) s24 s25 := hFc25
  have hb_33 : x33 ≤ x31 := hb_33
  have hb_34 : x34 = x31 := hb_34
  replace hR := bnd_step hR eq25
  have hF := frm_tr hF hFc25 (fun k hk => by unfold M_MS_take at hk; unfold M_ME_noise_3; omega)
  refine W.widen (k := 0) (n := 0) (by omega) (by omega) ?_
  refine lv_iconst (v := nI 0) hx hb dME_noise_51 (by decide) ?_
  refine lv_istore (lv' := [(6, .int (nI 0)), (0, .ref h0), (1, .ref f), (2, .ref b), (3, .int (nI at_)), (4, .int wh), (5, .int (nI 3))]) hx hb dME_noise_52 hl (by decide) rfl (fun ls hl => ?_)
  have lp21 : ∀ (n21 : Nat) (i21 : Nat) (s26 : Sto) (pl : va_W) (ls : Array Slot) (H : Heap) (locs : List Loc), n21 + i21 = 256 → frm (M_ME_noise_3 pf) s s26 → F_ME_noise_3 pf pb n at_ wh s = F_ME_noise_3_L0 pf n21 i21 s26 → lv_has ls 9 [(6, .int (nI i21)), (0, .ref h0), (1, .ref f), (5, .int (nI 3))] → okn g T s26 pl → va_P g.1 vcl ([] ++ pl) H → va_D A ([] ++ pl) → va_S A s0.heap H locs → W p l e ({ frames := 4, cells := 0, slots := 0, locals := 90 } : Room) s0 m args below meth c H locs 0 0 (MQ below (va_Qv (fun (u : (Sto) × va_W) => (u.1 = F_ME_noise_3 pf pb n at_ wh s ∧ frm (M_ME_noise_3 pf) s u.1 ∧ True) ∧ okn g T u.1 u.2) (po g.1 vcl A (fun (u : (Sto) × va_W) => [] ++ u.2)) A) args s0 0 0 A) (F0 m 54 ls []) := by
    intro n21
    induction n21 with
    | zero =>
      intro i21 s26 pl ls H locs hm21 hF hR hl hO hP hD hS
      refine lv_iload hx hb dME_noise_54 (lv_at hl 0 rfl) ?_
      refine lv_sipush (v := nI 256) hx hb dME_noise_56 (by decide) ?_
      refine mi_ge (tgt := 152) hx hb dME_noise_59 (by decide) (by omega) (by omega) (fun h21 => ?_) (fun h21 => absurd h21 (by omega))
      exact mp_vret hx hb hr hlk hP hD hS (s26, pl) ⟨⟨hR.symm, hF, trivial⟩, hO⟩ [] rfl rfl rfl (by omega) (by omega) dME_noise_152
    | succ n21 ih21 =>
      intro i21 s26 pl ls H locs hm21 hF hR hl hO hP hD hS
      refine lv_iload hx hb dME_noise_54 (lv_at hl 0 rfl) ?_
      refine lv_sipush (v := nI 256) hx hb dME_noise_56 (by decide) ?_
      refine mi_ge (tgt := 152) hx hb dME_noise_59 (by decide) (by omega) (by omega) (fun h22 => absurd h22 (by omega)) (fun h22 => ?_)
      refine lv_iconst (v := nI 0) hx hb dME_noise_62 (by decide) ?_
      refine lv_istore (lv' := [(7, .int (nI 0)), (6, .int (nI i21)), (0, .ref h0), (1, .ref f), (5, .int (nI 3))]) hx hb dME_noise_63 hl (by decide) rfl (fun ls hl => ?_)
      refine lv_iconst (v := nI 0) hx hb dME_noise_65 (by decide) ?_
      refine lv_istore (lv' := [(8, .int (nI 0)), (7, .int (nI 0)), (6, .int (nI i21)), (0, .ref h0), (1, .ref f), (5, .int (nI 3))]) hx hb dME_noise_66 hl (by decide) rfl (fun ls hl => ?_)
      have lp22 : ∀ (n22 : Nat) (i22 : Nat) (z21 : Int32) (s27 : Sto) (pl : va_W) (ls : Array Slot) (H : Heap) (locs : List Loc), n22 + i22 = 3 → frm (M_ME_noise_3 pf) s s27 → F_ME_noise_3 pf pb n at_ wh s = F_ME_noise_3_L1 pf i21 (F_ME_noise_3_L0 pf n21) n22 i22 z21 s27 → lv_has ls 9 [(8, .int (nI i22)), (7, .int z21), (6, .int (nI i21)), (0, .ref h0), (1, .ref f), (5, .int (nI 3))] → okn g T s27 pl → va_P g.1 vcl ([] ++ pl) H → va_D A ([] ++ pl) → va_S A s0.heap H locs → W p l e ({ frames := 4, cells := 0, slots := 0, locals := 90 } : Room) s0 m args below meth c H locs 0 0 (MQ below (va_Qv (fun (u : (Sto) × va_W) => (u.1 = F_ME_noise_3 pf pb n at_ wh s ∧ frm (M_ME_noise_3 pf) s u.1 ∧ True) ∧ okn g T u.1 u.2) (po g.1 vcl A (fun (u : (Sto) × va_W) => [] ++ u.2)) A) args s0 0 0 A) (F0 m 68 ls []) := by
        intro n22
        induction n22 with
        | zero =>
          intro i22 z21 s27 pl ls H locs hm22 hF hR hl hO hP hD hS
          refine lv_iload hx hb dME_noise_68 (lv_at hl 0 rfl) ?_
          refine lv_iload hx hb dME_noise_70 (lv_at hl 5 rfl) ?_
          refine mi_ge (tgt := 126) hx hb dME_noise_72 (by decide) (by omega) (by omega) (fun h23 => ?_) (fun h23 => absurd h23 (by omega))
          refine lv_aload_n hx hb dME_noise_126 rfl (lv_at hl 4 rfl) ?_
          refine lv_iload hx hb dME_noise_127 (lv_at hl 2 rfl) ?_
          refine lv_iload hx hb dME_noise_129 (lv_at hl 1 rfl) ?_
          refine lv_if_ge (tgt := 143) hx hb dME_noise_131 (by decide) (fun h24 => ?_) (fun h24 => ?_)
          · replace hR := hR.trans (if_pos h24)
            refine lv_iload hx hb dME_noise_143 (lv_at hl 1 rfl) ?_
            refine nw_iast hx hb hK hO hU k_f (k := pf) n_f hP hD hS (by omega) (by omega) dME_noise_145 (fun s28 pl H locs es21 hO hP hD hS => ?_)
            replace hR := bnd_step hR es21
            have hF := frm_sI hF es21 (by unfold M_ME_noise_3; omega)
            refine mi_iinc (k := 2) (x := i21) (d := 1) (y := i21 + 1) (lv' := [(6, .int (nI (i21 + 1))), (8, .int (nI i22)), (7, .int z21), (0, .ref h0), (1, .ref f), (5, .int (nI 3))]) hx hb dME_noise_146 hl rfl (by decide) rfl (by decide) rfl (fun ls hl => ?_)
            refine lv_goto (tgt := 54) hx hb dME_noise_149 (by decide) ?_
            exact ih21 (i21 + 1) s28 pl ls H locs (by omega) hF hR (lv_sub hl [0, 3, 4, 5] rfl) hO hP hD hS
          · replace hR := hR.trans (if_neg h24)
            refine lv_iload hx hb dME_noise_134 (lv_at hl 1 rfl) ?_
            refine lv_sipush (v := nI 3329) hx hb dME_noise_136 (by decide) ?_
            refine lv_iadd hx hb dME_noise_139 ?_
            refine lv_goto (tgt := 145) hx hb dME_noise_140 (by decide) ?_
            refine nw_iast hx hb hK hO hU k_f (k := pf) n_f hP hD hS (by omega) (by omega) dME_noise_145 (fun s29 pl H locs es22 hO hP hD hS => ?_)
            replace hR := bnd_step hR es22
            have hF := frm_sI hF es22 (by unfold M_ME_noise_3; omega)
            refine mi_iinc (k := 2) (x := i21) (d := 1) (y := i21 + 1) (lv' := [(6, .int (nI (i21 + 1))), (8, .int (nI i22)), (7, .int z21), (0, .ref h0), (1, .ref f), (5, .int (nI 3))]) hx hb dME_noise_146 hl rfl (by decide) rfl (by decide) rfl (fun ls hl => ?_)
            refine lv_goto (tgt := 54) hx hb dME_noise_149 (by decide) ?_
            exact ih21 (i21 + 1) s29 pl ls H locs (by omega) hF hR (lv_sub hl [0, 3, 4, 5] rfl) hO hP hD hS
        | succ n22 ih22 =>
          intro i22 z21 s27 pl ls H locs hm22 hF hR hl hO hP hD hS
          refine lv_iload hx hb dME_noise_68 (lv_at hl 0 rfl) ?_
          refine lv_iload hx hb dME_noise_70 (lv_at hl 5 rfl) ?_
          refine mi_ge (tgt := 126) hx hb dME_noise_72 (by decide) (by omega) (by omega) (fun h25 => absurd h25 (by omega)) (fun h25 => ?_)
          refine lv_iload hx hb dME_noise_75 (lv_at hl 1 rfl) ?_
          refine lv_aload_n hx hb dME_noise_77 rfl (lv_at hl 3 rfl) ?_
          refine nw_get (C := "LatticeKeysModel$Secrets") (TT := T_ME) (N := 14) hx hb hts (wg_ft i_ME) hown hK hO k_h0 (kn := 184) (ci := 11) (fl := [(3, 172), (3, 178), (3, 185), (3, 202), (3, 207), (3, 212), (3, 217), (3, 218), (3, 219), (3, 220), (3, 221), (3, 222), (3, 223), (3, 224)]) rfl hP rfl 10 (by decide) (hts _ (wg_t kw_1389)) (fun _ h9 => h9) (cd := (3, 221)) rfl dME_noise_78 (fun v27 hv27 => ?_)
          obtain ⟨r27, rfl, kr27⟩ := (show ∃ r : Nat, v27 = .ref r ∧ T r = some 221 from hv27)
          refine lv_iconst (v := nI 2) hx hb dME_noise_81 (by decide) ?_
          refine lv_iload hx hb dME_noise_82 (lv_at hl 2 rfl) ?_
          refine mi_imul hx hb dME_noise_84 ?_
          refine lv_iload hx hb dME_noise_85 (lv_at hl 5 rfl) ?_
          refine mi_imul hx hb dME_noise_87 ?_
          refine lv_iload hx hb dME_noise_88 (lv_at hl 0 rfl) ?_
          refine mi_iadd hx hb dME_noise_90 ?_
          refine lv_iconst (v := nI 1) hx hb dME_noise_91 (by decide) ?_
          refine mp_i (cx := []) (wr := []) hP hD hS hA [] [] rfl rfl rfl (by decide) (va_runSN (As := [.ref r27, .int (nI (((2 * i21) * 3) + i22)), .int (nI 1)]) (rest := [.int z21]) F (N_M_unpack l g _ T s27 pl hO hU r27 221 192 (((2 * i21) * 3) + i22) 1 kr27 rfl (by omega) (by omega) (by omega)) ⟨va_cnB 3 hts (wg_in kw_1667) rfl rfl rfl (hE.2.2.2.2.2.2.2.1) (hts _ (wg_t kw_9)) (by decide +kernel) ⟨by decide, by decide⟩, hts _ (wg_t kw_1666), trivial⟩ (pp_S (en_ok g) hP hD hS hA hE [] rfl rfl) rfl rfl hl.1 rfl (lv_room (Nat.le_of_ble_eq_true rfl)) dME_noise_92 ⟨by omega, by omega⟩) (fun r28 u26 H locs hu26 hP hD hS => ?_)
          obtain ⟨q21, pl⟩ := u26
          obtain ⟨⟨eq26, rfl, hFc26, -⟩, hO⟩ := hu26
          have hO : okn g T q21.2 pl := hO
          have hP : va_P g.1 vcl ([] ++ pl) _ := hP
          have hD : va_D _ ([] ++ pl) := hD
          have hFc26 : frm (M_M_unpack) s27 q21.2 := hFc26
          replace hR := bnd_step hR eq26
          have hF := frm_tr hF hFc26 (fun k hk => by unfold M_M_unpack at hk; unfold M_ME_noise_3; omega)
          refine W.widen (k := 0) (n := 0) (by omega) (by omega) ?_
          refine lv_aload_n hx hb dME_noise_95 rfl (lv_at hl 3 rfl) ?_
          refine nw_get (C := "LatticeKeysModel$Secrets") (TT := T_ME) (N := 14) hx hb hts (wg_ft i_ME) hown hK hO k_h0 (kn := 184) (ci := 11) (fl := [(3, 172), (3, 178), (3, 185), (3, 202), (3, 207), (3, 212), (3, 217), (3, 218), (3, 219), (3, 220), (3, 221), (3, 222), (3, 223), (3, 224)]) rfl hP rfl 10 (by decide) (hts _ (wg_t kw_1389)) (fun _ h9 => h9) (cd := (3, 221)) rfl dME_noise_96 (fun v28 hv28 => ?_)
          obtain ⟨r29, rfl, kr28⟩ := (show ∃ r : Nat, v28 = .ref r ∧ T r = some 221 from hv28)
          refine lv_iconst (v := nI 2) hx hb dME_noise_99 (by decide) ?_
          refine lv_iload hx hb dME_noise_100 (lv_at hl 2 rfl) ?_
          refine mi_imul hx hb dME_noise_102 ?_
          refine lv_iload hx hb dME_noise_103 (lv_at hl 5 rfl) ?_
          refine mi_imul hx hb dME_noise_105 ?_
          refine lv_iload hx hb dME_noise_106 (lv_at hl 5 rfl) ?_
          refine mi_iadd hx hb dME_noise_108 ?_
          refine lv_iload hx hb dME_noise_109 (lv_at hl 0 rfl) ?_
          refine mi_iadd hx hb dME_noise_111 ?_
          refine lv_iconst (v := nI 1) hx hb dME_noise_112 (by decide) ?_
          refine mp_i (cx := []) (wr := []) hP hD hS hA [] [] rfl rfl rfl (by decide) (va_runSN (As := [.ref r29, .int (nI ((((2 * i21) * 3) + 3) + i22)), .int (nI 1)]) (rest := [.int q21.1, .int z21]) F (N_M_unpack l g _ T q21.2 pl hO hU r29 221 192 ((((2 * i21) * 3) + 3) + i22) 1 kr28 rfl (by omega) (by omega) (by omega)) ⟨va_cnB 3 hts (wg_in kw_1667) rfl rfl rfl (hE.2.2.2.2.2.2.2.1) (hts _ (wg_t kw_9)) (by decide +kernel) ⟨by decide, by decide⟩, hts _ (wg_t kw_1666), trivial⟩ (pp_S (en_ok g) hP hD hS hA hE [] rfl rfl) rfl rfl hl.1 rfl (lv_room (Nat.le_of_ble_eq_true rfl)) dME_noise_113 ⟨by omega, by omega⟩) (fun r30 u27 H locs hu27 hP hD hS => ?_)
          obtain ⟨q22, pl⟩ := u27
          obtain ⟨⟨eq27, rfl, hFc27, -⟩, hO⟩ := hu27
          have hO : okn g T q22.2 pl := hO
          have hP : va_P g.1 vcl ([] ++ pl) _ := hP
          have hD : va_D _ ([] ++ pl) := hD
          have hFc27 : frm (M_M_unpack) q21.2 q22.2 := hFc27
          replace hR := bnd_step hR eq27
          have hF := frm_tr hF hFc27 (fun k hk => by unfold M_M_unpack at hk; unfold M_ME_noise_3; omega)
          refine W.widen (k := 0) (n := 0) (by omega) (by omega) ?_
          refine lv_isub hx hb dME_noise_116 ?_
          refine lv_iadd hx hb dME_noise_117 ?_
          refine mi_eqv (fun z22 ez21 => ?_)
          replace hR := bnd_step hR ez21
          refine lv_istore (lv' := [(7, .int z22), (8, .int (nI i22)), (6, .int (nI i21)), (0, .ref h0), (1, .ref f), (5, .int (nI 3))]) hx hb dME_noise_118 hl (by decide) rfl (fun ls hl => ?_)
          refine mi_iinc (k := 1) (x := i22) (d := 1) (y := i22 + 1) (lv' := [(8, .int (nI (i22 + 1))), (7, .int z22), (6, .int (nI i21)), (0, .ref h0), (1, .ref f), (5, .int (nI 3))]) hx hb dME_noise_120 hl rfl (by decide) rfl (by decide) rfl (fun ls hl => ?_)
          refine lv_goto (tgt := 68) hx hb dME_noise_123 (by decide) ?_
          exact ih22 (i22 + 1) z22 q22.2 pl ls H locs (by omega) hF hR (lv_sub hl [0, 1, 2, 3, 4, 5] rfl) hO hP hD hS
      exact lp22 3 0 (nI 0) s26 pl ls _ _ (by omega) hF hR (lv_sub hl [0, 1, 2, 3, 4, 5] rfl) hO hP hD hS
  exact lp21 256 0 s25 pl ls _ _ (by omega) hF hR (lv_sub hl [0, 1, 2, 6] rfl) hO hP hD hS
def M_ME_hash (pt : Nat) (k : Nat) : Prop := k = 172 ∨ k = pt ∨ (0 : Nat) = 1
noncomputable def F_ME_hash (pb : Nat) (n : Nat) (at_ : Nat) (len : Nat) (pt : Nat) (nt : Nat) (wh : Nat) (s : Sto) : Sto := bnd (F_MS_begin 136 (nI 6) s) fun s21 => bnd (F_MS_puts pb n at_ len s21) fun s22 => bnd (F_MS_end  s22) fun s23 => bnd (F_MS_take pt nt wh 32 s23) fun s24 => s24
set_option maxHeartbeats 8000000 in
set_option maxRecDepth 100000 in
theorem N_ME_hash (l : Launch) (g : Gd) (sz : Nat) (T : TyN) (s : Sto) (pl : va_W) (hO : okn g T s pl) (hU : inj T) (h0 b to : Nat) (pb : Nat) (n : Nat) (at_ : Nat) (len : Nat) (pt : Nat) (nt : Nat) (wh : Nat) (k_h0 : T h0 = some 184) (k_b : T b = some pb) (n_b : nsp pb = (1, n, [])) (k_to : T to = some pt) (n_to : nsp pt = (1, nt, [])) (h1 : at_ + len ≤ n) (h2 : n < 65536) (h3 : wh + 32 ≤ nt) (h4 : nt < 65536)  : Met l y_ME_hash w_ME_hash ({ frames := 4, cells := 0, slots := 0, locals := 90 } : Room) (va_Pc [.ref h0, .ref b, .int (nI at_), .int (nI len), .ref to, .int (nI wh)] (pr (en g) g.1 vcl sz ([] ++ pl))) (va_Qv (fun (u : (Sto) × va_W) => (u.1 = F_ME_hash pb n at_ len pt nt wh s ∧ frm (M_ME_hash pt) s u.1 ∧ True) ∧ okn g T u.1 u.2) (po g.1 vcl (va_A ([] ++ pl) sz) (fun (u : (Sto) × va_W) => [] ++ u.2)) (va_A ([] ++ pl) sz)) 0 0 (va_A ([] ++ pl) sz) := by
  refine mc_entry (cc := c_ME_hash) (maxL := 6) (ret := none) (by decide) rfl (Nat.le_of_ble_eq_true rfl) ?_
  intro p e s0 m args below meth c ls F hr hlk hnm hsz hP hD hE hA hl
  obtain ⟨hx, hb, hml, hown, hts⟩ := id F
  have hK := hE.1
  generalize va_A ([] ++ pl) sz = A at hD hE hA ⊢
  have hS : va_S A s0.heap s0.heap [] := va_S.rf
  have hl : lv_has ls 6 [(0, .ref h0), (1, .ref b), (2, .int (nI at_)), (3, .int (nI len)), (4, .ref to), (5, .int (nI wh))] := hl
  have hR : F_ME_hash pb n at_ len pt nt wh s = F_ME_hash pb n at_ len pt nt wh s := rfl
  have hF : frm (M_ME_hash pt) s s := frm_rf
  refine lv_aload_n hx hb dME_hash_0 rfl (lv_at hl 0 rfl) ?_
  refine nw_get (C := "LatticeKeysModel$Secrets") (TT := T_ME) (N := 14) hx hb hts (wg_ft i_ME) hown hK hO k_h0 (kn := 184) (ci := 11) (fl := [(3, 172), (3, 178), (3, 185), (3, 202), (3, 207), (3, 212), (3, 217), (3, 218), (3, 219), (3, 220), (3, 221), (3, 222), (3, 223), (3, 224)]) rfl hP rfl 0 (by decide) (hts _ (wg_t kw_1379)) (fun _ h9 => h9) (cd := (3, 172)) rfl dME_hash_1 (fun v21 hv21 => ?_)
  obtain ⟨r21, rfl, kr21⟩ := (show ∃ r : Nat, v21 = .ref r ∧ T r = some 172 from hv21)
  refine lv_sipush (v := nI 136) hx hb dME_hash_4 (by decide) ?_
  refine lv_bipush (v := nI 6) hx hb dME_hash_7 (by decide) ?_
  refine mp_v (cx := []) (wr := []) hP hD hS hA [] [] rfl rfl rfl (by decide) (va_runV (As := [.int (nI 136), .int (nI 6)]) (rest := []) F (N_MS_begin l g _ T s pl hO hU r21 136 (nI 6) kr21 (by omega)) (cwV 2 hts (wg_app (wg_c kw_1607 (wg_c kw_1608 (wg_c kw_1609 (wg_c kw_10 wg_n)))) kw_1610) rfl rfl rfl (by decide +kernel) ⟨by decide, by decide⟩) (pn_W "LatticeKeysModel$Sponge" (en_ok g) (ci := 9) (kn := 172) (fl := [(3, 173), (3, 174), (3, 175), (3, 176), (3, 177), (0, 0), (0, 0), (0, 0)]) hK hO kr21 rfl hP hD hS hA hE [] rfl rfl rfl) rfl rfl hl.1 rfl (lv_room (Nat.le_of_ble_eq_true rfl)) dME_hash_9 ⟨by omega, by omega⟩) (fun  u21 H locs hu21 hP hD hS => ?_)
  obtain ⟨s21, pl⟩ := u21
  obtain ⟨⟨eq21, hFc21, ⟨x21, hx_21, hb_21⟩, ⟨x22, hx_22, hb_22⟩, -⟩, hO⟩ := hu21
  have hO : okn g T s21 pl := hO
  have hP : va_P g.1 vcl ([] ++ pl) _ := hP
  have hD : va_D _ ([] ++ pl) := hD
  have hFc21 : frm (M_MS_begin) s s21 := hFc21
  have hb_21 : x21 = 0 := hb_21
  have hb_22 : x22 = 136 := hb_22
  replace hR := bnd_step hR eq21
  have hF := frm_tr hF hFc21 (fun k hk => by unfold M_MS_begin at hk; unfold M_ME_hash; omega)
  refine W.widen (k := 0) (n := 0) (by omega) (by omega) ?_
  refine lv_aload_n hx hb dME_hash_12 rfl (lv_at hl 0 rfl) ?_
  refine nw_get (C := "LatticeKeysModel$Secrets") (TT := T_ME) (N := 14) hx hb hts (wg_ft i_ME) hown hK hO k_h0 (kn := 184) (ci := 11) (fl := [(3, 172), (3, 178), (3, 185), (3, 202), (3, 207), (3, 212), (3, 217), (3, 218), (3, 219), (3, 220), (3, 221), (3, 222), (3, 223), (3, 224)]) rfl hP rfl 0 (by decide) (hts _ (wg_t kw_1379)) (fun _ h9 => h9) (cd := (3, 172)) rfl dME_hash_13 (fun v22 hv22 => ?_)
  obtain ⟨r22, rfl, kr22⟩ := (show ∃ r : Nat, v22 = .ref r ∧ T r = some 172 from hv22)
  refine lv_aload_n hx hb dME_hash_16 rfl (lv_at hl 1 rfl) ?_
  refine lv_iload_n hx hb dME_hash_17 rfl (lv_at hl 2 rfl) ?_
  refine lv_iload_n hx hb dME_hash_18 rfl (lv_at hl 3 rfl) ?_
  refine mp_v (cx := []) (wr := []) hP hD hS hA [] [] rfl rfl rfl (by decide) (va_runV (As := [.ref b, .int (nI at_), .int (nI len)]) (rest := []) F (N_MS_puts l g _ T s21 pl hO hU r22 b pb n at_ len x21 x22 kr22 k_b n_b hx_21 hx_22 (by omega) (by omega) (by omega) (by omega)) (cwV 3 hts (wg_app (wg_c kw_1611 (wg_c kw_1612 (wg_c kw_1613 (wg_c kw_10 wg_n)))) kw_1614) rfl rfl rfl (by decide +kernel) ⟨by decide, by decide⟩) (pn_W "LatticeKeysModel$Sponge" (en_ok g) (ci := 9) (kn := 172) (fl := [(3, 173), (3, 174), (3, 175), (3, 176), (3, 177), (0, 0), (0, 0), (0, 0)]) hK hO kr22 rfl hP hD hS hA hE [] rfl rfl rfl) rfl rfl hl.1 rfl (lv_room (Nat.le_of_ble_eq_true rfl)) dME_hash_19 ⟨by omega, by omega⟩) (fun  u22 H locs hu22 hP hD hS => ?_)
  obtain ⟨s22, pl⟩ := u22
  obtain ⟨⟨eq22, hFc22, ⟨x24, hx_24, hb_24⟩, ⟨x25, hx_25, hb_25⟩, -⟩, hO⟩ := hu22
  have hO : okn g T s22 pl := hO
  have hP : va_P g.1 vcl ([] ++ pl) _ := hP
  have hD : va_D _ ([] ++ pl) := hD
  have hFc22 : frm (M_MS_puts) s21 s22 := hFc22
  have hb_24 : x24 < x22 := hb_24
  have hb_25 : x25 = x22 := hb_25
  replace hR := bnd_step hR eq22
  have hF := frm_tr hF hFc22 (fun k hk => by unfold M_MS_puts at hk; unfold M_ME_hash; omega)
  refine W.widen (k := 0) (n := 0) (by omega) (by omega) ?_
  refine lv_aload_n hx hb dME_hash_22 rfl (lv_at hl 0 rfl) ?_
  refine nw_get (C := "LatticeKeysModel$Secrets") (TT := T_ME) (N := 14) hx hb hts (wg_ft i_ME) hown hK hO k_h0 (kn := 184) (ci := 11) (fl := [(3, 172), (3, 178), (3, 185), (3, 202), (3, 207), (3, 212), (3, 217), (3, 218), (3, 219), (3, 220), (3, 221), (3, 222), (3, 223), (3, 224)]) rfl hP rfl 0 (by decide) (hts _ (wg_t kw_1379)) (fun _ h9 => h9) (cd := (3, 172)) rfl dME_hash_23 (fun v23 hv23 => ?_)
  obtain ⟨r23, rfl, kr23⟩ := (show ∃ r : Nat, v23 = .ref r ∧ T r = some 172 from hv23)
  refine mp_v (cx := []) (wr := []) hP hD hS hA [] [] rfl rfl rfl (by decide) (va_runV (As := []) (rest := []) F (N_MS_end l g _ T s22 pl hO hU r23 x24 x25 kr23 hx_24 hx_25 (by omega) (by omega)) (cwV 0 hts (wg_app (wg_c kw_1633 (wg_c kw_1634 (wg_c kw_1635 (wg_c kw_10 wg_n)))) kw_1636) rfl rfl rfl (by decide +kernel) ⟨by decide, by decide⟩) (pn_W "LatticeKeysModel$Sponge" (en_ok g) (ci := 9) (kn := 172) (fl := [(3, 173), (3, 174), (3, 175), (3, 176), (3, 177), (0, 0), (0, 0), (0, 0)]) hK hO kr23 rfl hP hD hS hA hE [] rfl rfl rfl) rfl rfl hl.1 rfl (lv_room (Nat.le_of_ble_eq_true rfl)) dME_hash_26 ⟨by omega, by omega⟩) (fun  u23 H locs hu23 hP hD hS => ?_)
  obtain ⟨s23, pl⟩ := u23
  obtain ⟨⟨eq23, hFc23, ⟨x27, hx_27, hb_27⟩, ⟨x28, hx_28, hb_28⟩, -⟩, hO⟩ := hu23
  have hO : okn g T s23 pl := hO
  have hP : va_P g.1 vcl ([] ++ pl) _ := hP
  have hD : va_D _ ([] ++ pl) := hD
  have hFc23 : frm (M_MS_end) s22 s23 := hFc23
  have hb_27 : x27 = 0 := hb_27
  have hb_28 : x28 = x25 := hb_28
  replace hR := bnd_step hR eq23
  have hF := frm_tr hF hFc23 (fun k hk => by unfold M_MS_end at hk; unfold M_ME_hash; omega)
  refine W.widen (k := 0) (n := 0) (by omega) (by omega) ?_
  refine lv_aload_n hx hb dME_hash_29 rfl (lv_at hl 0 rfl) ?_
  refine nw_get (C := "LatticeKeysModel$Secrets") (TT := T_ME) (N := 14) hx hb hts (wg_ft i_ME) hown hK hO k_h0 (kn := 184) (ci := 11) (fl := [(3, 172), (3, 178), (3, 185), (3, 202), (3, 207), (3, 212), (3, 217), (3, 218), (3, 219), (3, 220), (3, 221), (3, 222), (3, 223), (3, 224)]) rfl hP rfl 0 (by decide) (hts _ (wg_t kw_1379)) (fun _ h9 => h9) (cd := (3, 172)) rfl dME_hash_30 (fun v24 hv24 => ?_)
  obtain ⟨r24, rfl, kr24⟩ := (show ∃ r : Nat, v24 = .ref r ∧ T r = some 172 from hv24)
  refine lv_aload hx hb dME_hash_33 (lv_at hl 4 rfl) ?_
  refine lv_iload hx hb dME_hash_35 (lv_at hl 5 rfl) ?_
  refine lv_bipush (v := nI 32) hx hb dME_hash_37 (by decide) ?_
  refine mp_v (cx := []) (wr := []) hP hD hS hA [] [] rfl rfl rfl (by decide) (va_runV (As := [.ref to, .int (nI wh), .int (nI 32)]) (rest := []) F (N_MS_take l g _ T s23 pl hO hU r24 to pt nt wh 32 x27 x28 kr24 k_to n_to hx_27 hx_28 (by omega) (by omega) (by omega) (by omega)) (cwV 3 hts (wg_app (wg_c kw_1637 (wg_c kw_1638 (wg_c kw_1639 (wg_c kw_10 wg_n)))) kw_1640) rfl rfl rfl (by decide +kernel) ⟨by decide, by decide⟩) (pn_W "LatticeKeysModel$Sponge" (en_ok g) (ci := 9) (kn := 172) (fl := [(3, 173), (3, 174), (3, 175), (3, 176), (3, 177), (0, 0), (0, 0), (0, 0)]) hK hO kr24 rfl hP hD hS hA hE [] rfl rfl rfl) rfl rfl hl.1 rfl (lv_room (Nat.le_of_ble_eq_true rfl)) dME_hash_39 ⟨by omega, by omega⟩) (fun  u24 H locs hu24 hP hD hS => ?_)
  obtain ⟨s24, pl⟩ := u24
  obtain ⟨⟨eq24, hFc24, ⟨x30, hx_30, hb_30⟩, ⟨x31, hx_31, hb_31⟩, -⟩, hO⟩ := hu24
  have hO : okn g T s24 pl := hO
  have hP : va_P g.1 vcl ([] ++ pl) _ := hP
  have hD : va_D _ ([] ++ pl) := hD
  have hFc24 : frm (M_MS_take pt) s23 s24 := hFc24
  have hb_30 : x30 ≤ x28 := hb_30
  have hb_31 : x31 = x28 := hb_31
  replace hR := bnd_step hR eq24
  have hF := frm_tr hF hFc24 (fun k hk => by unfold M_MS_take at hk; unfold M_ME_hash; omega)
  refine W.widen (k := 0) (n := 0) (by omega) (by omega) ?_
  exact mp_vret hx hb hr hlk hP hD hS (s24, pl) ⟨⟨hR.symm, hF, trivial⟩, hO⟩ [] rfl rfl rfl (by omega) (by omega) dME_hash_42
def M_ME_both (k : Nat) : Prop := k = 172 ∨ k = 220 ∨ (0 : Nat) = 1
noncomputable def F_ME_both (pb : Nat) (n : Nat) (s : Sto) : Sto := bnd (F_MS_begin 72 (nI 6) s) fun s21 => bnd (F_MS_puts pb n 0 32 s21) fun s22 => bnd (F_MS_puts 222 32 0 32 s22) fun s23 => bnd (F_MS_end  s23) fun s24 => bnd (F_MS_take 220 64 0 64 s24) fun s25 => s25
set_option maxHeartbeats 8000000 in
set_option maxRecDepth 100000 in
theorem N_ME_both (l : Launch) (g : Gd) (sz : Nat) (T : TyN) (s : Sto) (pl : va_W) (hO : okn g T s pl) (hU : inj T) (h0 b : Nat) (pb : Nat) (n : Nat) (k_h0 : T h0 = some 184) (k_b : T b = some pb) (n_b : nsp pb = (1, n, [])) (h1 : 32 ≤ n) (h2 : n < 65536)  : Met l y_ME_both w_ME_both ({ frames := 4, cells := 0, slots := 0, locals := 90 } : Room) (va_Pc [.ref h0, .ref b] (pr (en g) g.1 vcl sz ([] ++ pl))) (va_Qv (fun (u : (Sto) × va_W) => (u.1 = F_ME_both pb n s ∧ frm (M_ME_both) s u.1 ∧ True) ∧ okn g T u.1 u.2) (po g.1 vcl (va_A ([] ++ pl) sz) (fun (u : (Sto) × va_W) => [] ++ u.2)) (va_A ([] ++ pl) sz)) 0 0 (va_A ([] ++ pl) sz) := by
  refine mc_entry (cc := c_ME_both) (maxL := 2) (ret := none) (by decide) rfl (Nat.le_of_ble_eq_true rfl) ?_
  intro p e s0 m args below meth c ls F hr hlk hnm hsz hP hD hE hA hl
  obtain ⟨hx, hb, hml, hown, hts⟩ := id F
  have hK := hE.1
  generalize va_A ([] ++ pl) sz = A at hD hE hA ⊢
  have hS : va_S A s0.heap s0.heap [] := va_S.rf
  have hl : lv_has ls 2 [(0, .ref h0), (1, .ref b)] := hl
  have hR : F_ME_both pb n s = F_ME_both pb n s := rfl
  have hF : frm (M_ME_both) s s := frm_rf
  refine lv_aload_n hx hb dME_both_0 rfl (lv_at hl 0 rfl) ?_
  refine nw_get (C := "LatticeKeysModel$Secrets") (TT := T_ME) (N := 14) hx hb hts (wg_ft i_ME) hown hK hO k_h0 (kn := 184) (ci := 11) (fl := [(3, 172), (3, 178), (3, 185), (3, 202), (3, 207), (3, 212), (3, 217), (3, 218), (3, 219), (3, 220), (3, 221), (3, 222), (3, 223), (3, 224)]) rfl hP rfl 0 (by decide) (hts _ (wg_t kw_1379)) (fun _ h9 => h9) (cd := (3, 172)) rfl dME_both_1 (fun v21 hv21 => ?_)
  obtain ⟨r21, rfl, kr21⟩ := (show ∃ r : Nat, v21 = .ref r ∧ T r = some 172 from hv21)
  refine lv_bipush (v := nI 72) hx hb dME_both_4 (by decide) ?_
  refine lv_bipush (v := nI 6) hx hb dME_both_6 (by decide) ?_
  refine mp_v (cx := []) (wr := []) hP hD hS hA [] [] rfl rfl rfl (by decide) (va_runV (As := [.int (nI 72), .int (nI 6)]) (rest := []) F (N_MS_begin l g _ T s pl hO hU r21 72 (nI 6) kr21 (by omega)) (cwV 2 hts (wg_app (wg_c kw_1607 (wg_c kw_1608 (wg_c kw_1609 (wg_c kw_10 wg_n)))) kw_1610) rfl rfl rfl (by decide +kernel) ⟨by decide, by decide⟩) (pn_W "LatticeKeysModel$Sponge" (en_ok g) (ci := 9) (kn := 172) (fl := [(3, 173), (3, 174), (3, 175), (3, 176), (3, 177), (0, 0), (0, 0), (0, 0)]) hK hO kr21 rfl hP hD hS hA hE [] rfl rfl rfl) rfl rfl hl.1 rfl (lv_room (Nat.le_of_ble_eq_true rfl)) dME_both_8 ⟨by omega, by omega⟩) (fun  u21 H locs hu21 hP hD hS => ?_)
  obtain ⟨s21, pl⟩ := u21
  obtain ⟨⟨eq21, hFc21, ⟨x21, hx_21, hb_21⟩, ⟨x22, hx_22, hb_22⟩, -⟩, hO⟩ := hu21
  have hO : okn g T s21 pl := hO
  have hP : va_P g.1 vcl ([] ++ pl) _ := hP
  have hD : va_D _ ([] ++ pl) := hD
  have hFc21 : frm (M_MS_begin) s s21 := hFc21
  have hb_21 : x21 = 0 := hb_21
  have hb_22 : x22 = 72 := hb_22
  replace hR := bnd_step hR eq21
  have hF := frm_tr hF hFc21 (fun k hk => by unfold M_MS_begin at hk; unfold M_ME_both; omega)
  refine W.widen (k := 0) (n := 0) (by omega) (by omega) ?_
  refine lv_aload_n hx hb dME_both_11 rfl (lv_at hl 0 rfl) ?_
  refine nw_get (C := "LatticeKeysModel$Secrets") (TT := T_ME) (N := 14) hx hb hts (wg_ft i_ME) hown hK hO k_h0 (kn := 184) (ci := 11) (fl := [(3, 172), (3, 178), (3, 185), (3, 202), (3, 207), (3, 212), (3, 217), (3, 218), (3, 219), (3, 220), (3, 221), (3, 222), (3, 223), (3, 224)]) rfl hP rfl 0 (by decide) (hts _ (wg_t kw_1379)) (fun _ h9 => h9) (cd := (3, 172)) rfl dME_both_12 (fun v22 hv22 => ?_)
  obtain ⟨r22, rfl, kr22⟩ := (show ∃ r : Nat, v22 = .ref r ∧ T r = some 172 from hv22)
  refine lv_aload_n hx hb dME_both_15 rfl (lv_at hl 1 rfl) ?_
  refine lv_iconst (v := nI 0) hx hb dME_both_16 (by decide) ?_
  refine lv_bipush (v := nI 32) hx hb dME_both_17 (by decide) ?_
  refine mp_v (cx := []) (wr := []) hP hD hS hA [] [] rfl rfl rfl (by decide) (va_runV (As := [.ref b, .int (nI 0), .int (nI 32)]) (rest := []) F (N_MS_puts l g _ T s21 pl hO hU r22 b pb n 0 32 x21 x22 kr22 k_b n_b hx_21 hx_22 (by omega) (by omega) (by omega) (by omega)) (cwV 3 hts (wg_app (wg_c kw_1611 (wg_c kw_1612 (wg_c kw_1613 (wg_c kw_10 wg_n)))) kw_1614) rfl rfl rfl (by decide +kernel) ⟨by decide, by decide⟩) (pn_W "LatticeKeysModel$Sponge" (en_ok g) (ci := 9) (kn := 172) (fl := [(3, 173), (3, 174), (3, 175), (3, 176), (3, 177), (0, 0), (0, 0), (0, 0)]) hK hO kr22 rfl hP hD hS hA hE [] rfl rfl rfl) rfl rfl hl.1 rfl (lv_room (Nat.le_of_ble_eq_true rfl)) dME_both_19 ⟨by omega, by omega⟩) (fun  u22 H locs hu22 hP hD hS => ?_)
  obtain ⟨s22, pl⟩ := u22
  obtain ⟨⟨eq22, hFc22, ⟨x24, hx_24, hb_24⟩, ⟨x25, hx_25, hb_25⟩, -⟩, hO⟩ := hu22
  have hO : okn g T s22 pl := hO
  have hP : va_P g.1 vcl ([] ++ pl) _ := hP
  have hD : va_D _ ([] ++ pl) := hD
  have hFc22 : frm (M_MS_puts) s21 s22 := hFc22
  have hb_24 : x24 < x22 := hb_24
  have hb_25 : x25 = x22 := hb_25
  replace hR := bnd_step hR eq22
  have hF := frm_tr hF hFc22 (fun k hk => by unfold M_MS_puts at hk; unfold M_ME_both; omega)
  refine W.widen (k := 0) (n := 0) (by omega) (by omega) ?_
  refine lv_aload_n hx hb dME_both_22 rfl (lv_at hl 0 rfl) ?_
  refine nw_get (C := "LatticeKeysModel$Secrets") (TT := T_ME) (N := 14) hx hb hts (wg_ft i_ME) hown hK hO k_h0 (kn := 184) (ci := 11) (fl := [(3, 172), (3, 178), (3, 185), (3, 202), (3, 207), (3, 212), (3, 217), (3, 218), (3, 219), (3, 220), (3, 221), (3, 222), (3, 223), (3, 224)]) rfl hP rfl 0 (by decide) (hts _ (wg_t kw_1379)) (fun _ h9 => h9) (cd := (3, 172)) rfl dME_both_23 (fun v23 hv23 => ?_)
  obtain ⟨r23, rfl, kr23⟩ := (show ∃ r : Nat, v23 = .ref r ∧ T r = some 172 from hv23)
  refine lv_aload_n hx hb dME_both_26 rfl (lv_at hl 0 rfl) ?_
  refine nw_get (C := "LatticeKeysModel$Secrets") (TT := T_ME) (N := 14) hx hb hts (wg_ft i_ME) hown hK hO k_h0 (kn := 184) (ci := 11) (fl := [(3, 172), (3, 178), (3, 185), (3, 202), (3, 207), (3, 212), (3, 217), (3, 218), (3, 219), (3, 220), (3, 221), (3, 222), (3, 223), (3, 224)]) rfl hP rfl 11 (by decide) (hts _ (wg_t kw_1390)) (fun _ h9 => h9) (cd := (3, 222)) rfl dME_both_27 (fun v24 hv24 => ?_)
  obtain ⟨r24, rfl, kr24⟩ := (show ∃ r : Nat, v24 = .ref r ∧ T r = some 222 from hv24)
  refine lv_iconst (v := nI 0) hx hb dME_both_30 (by decide) ?_
  refine lv_bipush (v := nI 32) hx hb dME_both_31 (by decide) ?_
  refine mp_v (cx := []) (wr := []) hP hD hS hA [] [] rfl rfl rfl (by decide) (va_runV (As := [.ref r24, .int (nI 0), .int (nI 32)]) (rest := []) F (N_MS_puts l g _ T s22 pl hO hU r23 r24 222 32 0 32 x24 x25 kr23 kr24 rfl hx_24 hx_25 (by omega) (by omega) (by omega) (by omega)) (cwV 3 hts (wg_app (wg_c kw_1611 (wg_c kw_1612 (wg_c kw_1613 (wg_c kw_10 wg_n)))) kw_1614) rfl rfl rfl (by decide +kernel) ⟨by decide, by decide⟩) (pn_W "LatticeKeysModel$Sponge" (en_ok g) (ci := 9) (kn := 172) (fl := [(3, 173), (3, 174), (3, 175), (3, 176), (3, 177), (0, 0), (0, 0), (0, 0)]) hK hO kr23 rfl hP hD hS hA hE [] rfl rfl rfl) rfl rfl hl.1 rfl (lv_room (Nat.le_of_ble_eq_true rfl)) dME_both_33 ⟨by omega, by omega⟩) (fun  u23 H locs hu23 hP hD hS => ?_)
  obtain ⟨s23, pl⟩ := u23
  obtain ⟨⟨eq23, hFc23, ⟨x27, hx_27, hb_27⟩, ⟨x28, hx_28, hb_28⟩, -⟩, hO⟩ := hu23
  have hO : okn g T s23 pl := hO
  have hP : va_P g.1 vcl ([] ++ pl) _ := hP
  have hD : va_D _ ([] ++ pl) := hD
  have hFc23 : frm (M_MS_puts) s22 s23 := hFc23
  have hb_27 : x27 < x25 := hb_27
  have hb_28 : x28 = x25 := hb_28
  replace hR := bnd_step hR eq23
  have hF := frm_tr hF hFc23 (fun k hk => by unfold M_MS_puts at hk; unfold M_ME_both; omega)
  refine W.widen (k := 0) (n := 0) (by omega) (by omega) ?_
  refine lv_aload_n hx hb dME_both_36 rfl (lv_at hl 0 rfl) ?_
  refine nw_get (C := "LatticeKeysModel$Secrets") (TT := T_ME) (N := 14) hx hb hts (wg_ft i_ME) hown hK hO k_h0 (kn := 184) (ci := 11) (fl := [(3, 172), (3, 178), (3, 185), (3, 202), (3, 207), (3, 212), (3, 217), (3, 218), (3, 219), (3, 220), (3, 221), (3, 222), (3, 223), (3, 224)]) rfl hP rfl 0 (by decide) (hts _ (wg_t kw_1379)) (fun _ h9 => h9) (cd := (3, 172)) rfl dME_both_37 (fun v25 hv25 => ?_)
  obtain ⟨r25, rfl, kr25⟩ := (show ∃ r : Nat, v25 = .ref r ∧ T r = some 172 from hv25)
  refine mp_v (cx := []) (wr := []) hP hD hS hA [] [] rfl rfl rfl (by decide) (va_runV (As := []) (rest := []) F (N_MS_end l g _ T s23 pl hO hU r25 x27 x28 kr25 hx_27 hx_28 (by omega) (by omega)) (cwV 0 hts (wg_app (wg_c kw_1633 (wg_c kw_1634 (wg_c kw_1635 (wg_c kw_10 wg_n)))) kw_1636) rfl rfl rfl (by decide +kernel) ⟨by decide, by decide⟩) (pn_W "LatticeKeysModel$Sponge" (en_ok g) (ci := 9) (kn := 172) (fl := [(3, 173), (3, 174), (3, 175), (3, 176), (3, 177), (0, 0), (0, 0), (0, 0)]) hK hO kr25 rfl hP hD hS hA hE [] rfl rfl rfl) rfl rfl hl.1 rfl (lv_room (Nat.le_of_ble_eq_true rfl)) dME_both_40 ⟨by omega, by omega⟩) (fun  u24 H locs hu24 hP hD hS => ?_)
  obtain ⟨s24, pl⟩ := u24
  obtain ⟨⟨eq24, hFc24, ⟨x30, hx_30, hb_30⟩, ⟨x31, hx_31, hb_31⟩, -⟩, hO⟩ := hu24
  have hO : okn g T s24 pl := hO
  have hP : va_P g.1 vcl ([] ++ pl) _ := hP
  have hD : va_D _ ([] ++ pl) := hD
  have hFc24 : frm (M_MS_end) s23 s24 := hFc24
  have hb_30 : x30 = 0 := hb_30
  have hb_31 : x31 = x28 := hb_31
  replace hR := bnd_step hR eq24
  have hF := frm_tr hF hFc24 (fun k hk => by unfold M_MS_end at hk; unfold M_ME_both; omega)
  refine W.widen (k := 0) (n := 0) (by omega) (by omega) ?_
  refine lv_aload_n hx hb dME_both_43 rfl (lv_at hl 0 rfl) ?_
  refine nw_get (C := "LatticeKeysModel$Secrets") (TT := T_ME) (N := 14) hx hb hts (wg_ft i_ME) hown hK hO k_h0 (kn := 184) (ci := 11) (fl := [(3, 172), (3, 178), (3, 185), (3, 202), (3, 207), (3, 212), (3, 217), (3, 218), (3, 219), (3, 220), (3, 221), (3, 222), (3, 223), (3, 224)]) rfl hP rfl 0 (by decide) (hts _ (wg_t kw_1379)) (fun _ h9 => h9) (cd := (3, 172)) rfl dME_both_44 (fun v26 hv26 => ?_)
  obtain ⟨r26, rfl, kr26⟩ := (show ∃ r : Nat, v26 = .ref r ∧ T r = some 172 from hv26)
  refine lv_aload_n hx hb dME_both_47 rfl (lv_at hl 0 rfl) ?_
  refine nw_get (C := "LatticeKeysModel$Secrets") (TT := T_ME) (N := 14) hx hb hts (wg_ft i_ME) hown hK hO k_h0 (kn := 184) (ci := 11) (fl := [(3, 172), (3, 178), (3, 185), (3, 202), (3, 207), (3, 212), (3, 217), (3, 218), (3, 219), (3, 220), (3, 221), (3, 222), (3, 223), (3, 224)]) rfl hP rfl 9 (by decide) (hts _ (wg_t kw_1388)) (fun _ h9 => h9) (cd := (3, 220)) rfl dME_both_48 (fun v27 hv27 => ?_)
  obtain ⟨r27, rfl, kr27⟩ := (show ∃ r : Nat, v27 = .ref r ∧ T r = some 220 from hv27)
  refine lv_iconst (v := nI 0) hx hb dME_both_51 (by decide) ?_
  refine lv_bipush (v := nI 64) hx hb dME_both_52 (by decide) ?_
  refine mp_v (cx := []) (wr := []) hP hD hS hA [] [] rfl rfl rfl (by decide) (va_runV (As := [.ref r27, .int (nI 0), .int (nI 64)]) (rest := []) F (N_MS_take l g _ T s24 pl hO hU r26 r27 220 64 0 64 x30 x31 kr26 kr27 rfl hx_30 hx_31 (by omega) (by omega) (by omega) (by omega)) (cwV 3 hts (wg_app (wg_c kw_1637 (wg_c kw_1638 (wg_c kw_1639 (wg_c kw_10 wg_n)))) kw_1640) rfl rfl rfl (by decide +kernel) ⟨by decide, by decide⟩) (pn_W "LatticeKeysModel$Sponge" (en_ok g) (ci := 9) (kn := 172) (fl := [(3, 173), (3, 174), (3, 175), (3, 176), (3, 177), (0, 0), (0, 0), (0, 0)]) hK hO kr26 rfl hP hD hS hA hE [] rfl rfl rfl) rfl rfl hl.1 rfl (lv_room (Nat.le_of_ble_eq_true rfl)) dME_both_54 ⟨by omega, by omega⟩) (fun  u25 H locs hu25 hP hD hS => ?_)
  obtain ⟨s25, pl⟩ := u25
  obtain ⟨⟨eq25, hFc25, ⟨x33, hx_33, hb_33⟩, ⟨x34, hx_34, hb_34⟩, -⟩, hO⟩ := hu25
  have hO : okn g T s25 pl := hO
  have hP : va_P g.1 vcl ([] ++ pl) _ := hP
  have hD : va_D _ ([] ++ pl) := hD
  have hFc25 : frm (M_MS_take 220) s24 s25 := hFc25
  have hb_33 : x33 ≤ x31 := hb_33
  have hb_34 : x34 = x31 := hb_34
  replace hR := bnd_step hR eq25
  have hF := frm_tr hF hFc25 (fun k hk => by unfold M_MS_take at hk; unfold M_ME_both; omega)
  refine W.widen (k := 0) (n := 0) (by omega) (by omega) ?_
  exact mp_vret hx hb hr hlk hP hD hS (s25, pl) ⟨⟨hR.symm, hF, trivial⟩, hO⟩ [] rfl rfl rfl (by omega) (by omega) dME_both_57
