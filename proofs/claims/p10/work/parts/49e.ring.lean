set_option linter.all false
abbrev c_RG_addPair : ByteArray := prog_9_method_8_code
abbrev y_RG_addPair : MethodName := ⟨"LatticeKeys$Ring", "addPair", "([I[I[IIJ)V"⟩
abbrev w_RG_addPair : List Cond := Cond.code y_RG_addPair c_RG_addPair 13 none :: WG
theorem dRG_addPair_0 : decode c_RG_addPair 0 = .ok (.aload_n 2, 1) := by decide +kernel
theorem dRG_addPair_1 : decode c_RG_addPair 1 = .ok (.iload 4, 2) := by decide +kernel
theorem dRG_addPair_3 : decode c_RG_addPair 3 = .ok (.iconst 1, 1) := by decide +kernel
theorem dRG_addPair_4 : decode c_RG_addPair 4 = .ok (.iadd, 1) := by decide +kernel
theorem dRG_addPair_5 : decode c_RG_addPair 5 = .ok (.iaload, 1) := by decide +kernel
theorem dRG_addPair_6 : decode c_RG_addPair 6 = .ok (.i2l, 1) := by decide +kernel
theorem dRG_addPair_7 : decode c_RG_addPair 7 = .ok (.aload_n 3, 1) := by decide +kernel
theorem dRG_addPair_8 : decode c_RG_addPair 8 = .ok (.iload 4, 2) := by decide +kernel
theorem dRG_addPair_10 : decode c_RG_addPair 10 = .ok (.iconst 1, 1) := by decide +kernel
theorem dRG_addPair_11 : decode c_RG_addPair 11 = .ok (.iadd, 1) := by decide +kernel
theorem dRG_addPair_12 : decode c_RG_addPair 12 = .ok (.iaload, 1) := by decide +kernel
theorem dRG_addPair_13 : decode c_RG_addPair 13 = .ok (.i2l, 1) := by decide +kernel
theorem dRG_addPair_14 : decode c_RG_addPair 14 = .ok (.lmul, 1) := by decide +kernel
theorem dRG_addPair_15 : decode c_RG_addPair 15 = .ok (.aload_n 0, 1) := by decide +kernel
theorem dRG_addPair_16 : decode c_RG_addPair 16 = .ok (.getfield 7, 3) := by decide +kernel
theorem dRG_addPair_19 : decode c_RG_addPair 19 = .ok (.i2l, 1) := by decide +kernel
theorem dRG_addPair_20 : decode c_RG_addPair 20 = .ok (.lrem, 1) := by decide +kernel
theorem dRG_addPair_21 : decode c_RG_addPair 21 = .ok (.lstore 7, 2) := by decide +kernel
theorem dRG_addPair_23 : decode c_RG_addPair 23 = .ok (.aload_n 2, 1) := by decide +kernel
theorem dRG_addPair_24 : decode c_RG_addPair 24 = .ok (.iload 4, 2) := by decide +kernel
theorem dRG_addPair_26 : decode c_RG_addPair 26 = .ok (.iaload, 1) := by decide +kernel
theorem dRG_addPair_27 : decode c_RG_addPair 27 = .ok (.i2l, 1) := by decide +kernel
theorem dRG_addPair_28 : decode c_RG_addPair 28 = .ok (.aload_n 3, 1) := by decide +kernel
theorem dRG_addPair_29 : decode c_RG_addPair 29 = .ok (.iload 4, 2) := by decide +kernel
theorem dRG_addPair_31 : decode c_RG_addPair 31 = .ok (.iaload, 1) := by decide +kernel
theorem dRG_addPair_32 : decode c_RG_addPair 32 = .ok (.i2l, 1) := by decide +kernel
theorem dRG_addPair_33 : decode c_RG_addPair 33 = .ok (.lmul, 1) := by decide +kernel
theorem dRG_addPair_34 : decode c_RG_addPair 34 = .ok (.lload 7, 2) := by decide +kernel
theorem dRG_addPair_36 : decode c_RG_addPair 36 = .ok (.lload 5, 2) := by decide +kernel
theorem dRG_addPair_38 : decode c_RG_addPair 38 = .ok (.lmul, 1) := by decide +kernel
theorem dRG_addPair_39 : decode c_RG_addPair 39 = .ok (.ladd, 1) := by decide +kernel
theorem dRG_addPair_40 : decode c_RG_addPair 40 = .ok (.lstore 9, 2) := by decide +kernel
theorem dRG_addPair_42 : decode c_RG_addPair 42 = .ok (.aload_n 2, 1) := by decide +kernel
theorem dRG_addPair_43 : decode c_RG_addPair 43 = .ok (.iload 4, 2) := by decide +kernel
theorem dRG_addPair_45 : decode c_RG_addPair 45 = .ok (.iaload, 1) := by decide +kernel
theorem dRG_addPair_46 : decode c_RG_addPair 46 = .ok (.i2l, 1) := by decide +kernel
theorem dRG_addPair_47 : decode c_RG_addPair 47 = .ok (.aload_n 3, 1) := by decide +kernel
theorem dRG_addPair_48 : decode c_RG_addPair 48 = .ok (.iload 4, 2) := by decide +kernel
theorem dRG_addPair_50 : decode c_RG_addPair 50 = .ok (.iconst 1, 1) := by decide +kernel
theorem dRG_addPair_51 : decode c_RG_addPair 51 = .ok (.iadd, 1) := by decide +kernel
theorem dRG_addPair_52 : decode c_RG_addPair 52 = .ok (.iaload, 1) := by decide +kernel
theorem dRG_addPair_53 : decode c_RG_addPair 53 = .ok (.i2l, 1) := by decide +kernel
theorem dRG_addPair_54 : decode c_RG_addPair 54 = .ok (.lmul, 1) := by decide +kernel
theorem dRG_addPair_55 : decode c_RG_addPair 55 = .ok (.aload_n 2, 1) := by decide +kernel
theorem dRG_addPair_56 : decode c_RG_addPair 56 = .ok (.iload 4, 2) := by decide +kernel
theorem dRG_addPair_58 : decode c_RG_addPair 58 = .ok (.iconst 1, 1) := by decide +kernel
theorem dRG_addPair_59 : decode c_RG_addPair 59 = .ok (.iadd, 1) := by decide +kernel
theorem dRG_addPair_60 : decode c_RG_addPair 60 = .ok (.iaload, 1) := by decide +kernel
theorem dRG_addPair_61 : decode c_RG_addPair 61 = .ok (.i2l, 1) := by decide +kernel
theorem dRG_addPair_62 : decode c_RG_addPair 62 = .ok (.aload_n 3, 1) := by decide +kernel
theorem dRG_addPair_63 : decode c_RG_addPair 63 = .ok (.iload 4, 2) := by decide +kernel
theorem dRG_addPair_65 : decode c_RG_addPair 65 = .ok (.iaload, 1) := by decide +kernel
theorem dRG_addPair_66 : decode c_RG_addPair 66 = .ok (.i2l, 1) := by decide +kernel
theorem dRG_addPair_67 : decode c_RG_addPair 67 = .ok (.lmul, 1) := by decide +kernel
theorem dRG_addPair_68 : decode c_RG_addPair 68 = .ok (.ladd, 1) := by decide +kernel
theorem dRG_addPair_69 : decode c_RG_addPair 69 = .ok (.lstore 11, 2) := by decide +kernel
theorem dRG_addPair_71 : decode c_RG_addPair 71 = .ok (.aload_n 1, 1) := by decide +kernel
theorem dRG_addPair_72 : decode c_RG_addPair 72 = .ok (.iload 4, 2) := by decide +kernel
theorem dRG_addPair_74 : decode c_RG_addPair 74 = .ok (.aload_n 1, 1) := by decide +kernel
theorem dRG_addPair_75 : decode c_RG_addPair 75 = .ok (.iload 4, 2) := by decide +kernel
theorem dRG_addPair_77 : decode c_RG_addPair 77 = .ok (.iaload, 1) := by decide +kernel
theorem dRG_addPair_78 : decode c_RG_addPair 78 = .ok (.i2l, 1) := by decide +kernel
theorem dRG_addPair_79 : decode c_RG_addPair 79 = .ok (.lload 9, 2) := by decide +kernel
theorem dRG_addPair_81 : decode c_RG_addPair 81 = .ok (.ladd, 1) := by decide +kernel
theorem dRG_addPair_82 : decode c_RG_addPair 82 = .ok (.aload_n 0, 1) := by decide +kernel
theorem dRG_addPair_83 : decode c_RG_addPair 83 = .ok (.getfield 7, 3) := by decide +kernel
theorem dRG_addPair_86 : decode c_RG_addPair 86 = .ok (.i2l, 1) := by decide +kernel
theorem dRG_addPair_87 : decode c_RG_addPair 87 = .ok (.lrem, 1) := by decide +kernel
theorem dRG_addPair_88 : decode c_RG_addPair 88 = .ok (.l2i, 1) := by decide +kernel
theorem dRG_addPair_89 : decode c_RG_addPair 89 = .ok (.iastore, 1) := by decide +kernel
theorem dRG_addPair_90 : decode c_RG_addPair 90 = .ok (.aload_n 1, 1) := by decide +kernel
theorem dRG_addPair_91 : decode c_RG_addPair 91 = .ok (.iload 4, 2) := by decide +kernel
theorem dRG_addPair_93 : decode c_RG_addPair 93 = .ok (.iconst 1, 1) := by decide +kernel
theorem dRG_addPair_94 : decode c_RG_addPair 94 = .ok (.iadd, 1) := by decide +kernel
theorem dRG_addPair_95 : decode c_RG_addPair 95 = .ok (.aload_n 1, 1) := by decide +kernel
theorem dRG_addPair_96 : decode c_RG_addPair 96 = .ok (.iload 4, 2) := by decide +kernel
theorem dRG_addPair_98 : decode c_RG_addPair 98 = .ok (.iconst 1, 1) := by decide +kernel
theorem dRG_addPair_99 : decode c_RG_addPair 99 = .ok (.iadd, 1) := by decide +kernel
theorem dRG_addPair_100 : decode c_RG_addPair 100 = .ok (.iaload, 1) := by decide +kernel
theorem dRG_addPair_101 : decode c_RG_addPair 101 = .ok (.i2l, 1) := by decide +kernel
theorem dRG_addPair_102 : decode c_RG_addPair 102 = .ok (.lload 11, 2) := by decide +kernel
theorem dRG_addPair_104 : decode c_RG_addPair 104 = .ok (.ladd, 1) := by decide +kernel
theorem dRG_addPair_105 : decode c_RG_addPair 105 = .ok (.aload_n 0, 1) := by decide +kernel
theorem dRG_addPair_106 : decode c_RG_addPair 106 = .ok (.getfield 7, 3) := by decide +kernel
theorem dRG_addPair_109 : decode c_RG_addPair 109 = .ok (.i2l, 1) := by decide +kernel
theorem dRG_addPair_110 : decode c_RG_addPair 110 = .ok (.lrem, 1) := by decide +kernel
theorem dRG_addPair_111 : decode c_RG_addPair 111 = .ok (.l2i, 1) := by decide +kernel
theorem dRG_addPair_112 : decode c_RG_addPair 112 = .ok (.iastore, 1) := by decide +kernel
theorem dRG_addPair_113 : decode c_RG_addPair 113 = .ok (.return_, 1) := by decide +kernel
abbrev c_RG_addProduct : ByteArray := prog_9_method_7_code
abbrev y_RG_addProduct : MethodName := ⟨"LatticeKeys$Ring", "addProduct", "([I[I[I)V"⟩
abbrev w_RG_addProduct : List Cond := Cond.code y_RG_addProduct c_RG_addProduct 6 none :: WG
theorem dRG_addProduct_0 : decode c_RG_addProduct 0 = .ok (.aload_n 0, 1) := by decide +kernel
theorem dRG_addProduct_1 : decode c_RG_addProduct 1 = .ok (.getfield 13, 3) := by decide +kernel
theorem dRG_addProduct_4 : decode c_RG_addProduct 4 = .ok (.bipush 8, 2) := by decide +kernel
theorem dRG_addProduct_6 : decode c_RG_addProduct 6 = .ok (.if_icmp .ne 49, 3) := by decide +kernel
theorem dRG_addProduct_9 : decode c_RG_addProduct 9 = .ok (.iconst 0, 1) := by decide +kernel
theorem dRG_addProduct_10 : decode c_RG_addProduct 10 = .ok (.istore 4, 2) := by decide +kernel
theorem dRG_addProduct_12 : decode c_RG_addProduct 12 = .ok (.iload 4, 2) := by decide +kernel
theorem dRG_addProduct_14 : decode c_RG_addProduct 14 = .ok (.sipush 256, 3) := by decide +kernel
theorem dRG_addProduct_17 : decode c_RG_addProduct 17 = .ok (.if_icmp .ge 37, 3) := by decide +kernel
theorem dRG_addProduct_20 : decode c_RG_addProduct 20 = .ok (.aload_n 1, 1) := by decide +kernel
theorem dRG_addProduct_21 : decode c_RG_addProduct 21 = .ok (.iload 4, 2) := by decide +kernel
theorem dRG_addProduct_23 : decode c_RG_addProduct 23 = .ok (.aload_n 1, 1) := by decide +kernel
theorem dRG_addProduct_24 : decode c_RG_addProduct 24 = .ok (.iload 4, 2) := by decide +kernel
theorem dRG_addProduct_26 : decode c_RG_addProduct 26 = .ok (.iaload, 1) := by decide +kernel
theorem dRG_addProduct_27 : decode c_RG_addProduct 27 = .ok (.i2l, 1) := by decide +kernel
theorem dRG_addProduct_28 : decode c_RG_addProduct 28 = .ok (.aload_n 2, 1) := by decide +kernel
theorem dRG_addProduct_29 : decode c_RG_addProduct 29 = .ok (.iload 4, 2) := by decide +kernel
theorem dRG_addProduct_31 : decode c_RG_addProduct 31 = .ok (.iaload, 1) := by decide +kernel
theorem dRG_addProduct_32 : decode c_RG_addProduct 32 = .ok (.i2l, 1) := by decide +kernel
theorem dRG_addProduct_33 : decode c_RG_addProduct 33 = .ok (.aload_n 3, 1) := by decide +kernel
theorem dRG_addProduct_34 : decode c_RG_addProduct 34 = .ok (.iload 4, 2) := by decide +kernel
theorem dRG_addProduct_36 : decode c_RG_addProduct 36 = .ok (.iaload, 1) := by decide +kernel
theorem dRG_addProduct_37 : decode c_RG_addProduct 37 = .ok (.i2l, 1) := by decide +kernel
theorem dRG_addProduct_38 : decode c_RG_addProduct 38 = .ok (.lmul, 1) := by decide +kernel
theorem dRG_addProduct_39 : decode c_RG_addProduct 39 = .ok (.ladd, 1) := by decide +kernel
theorem dRG_addProduct_40 : decode c_RG_addProduct 40 = .ok (.aload_n 0, 1) := by decide +kernel
theorem dRG_addProduct_41 : decode c_RG_addProduct 41 = .ok (.getfield 7, 3) := by decide +kernel
theorem dRG_addProduct_44 : decode c_RG_addProduct 44 = .ok (.i2l, 1) := by decide +kernel
theorem dRG_addProduct_45 : decode c_RG_addProduct 45 = .ok (.lrem, 1) := by decide +kernel
theorem dRG_addProduct_46 : decode c_RG_addProduct 46 = .ok (.l2i, 1) := by decide +kernel
theorem dRG_addProduct_47 : decode c_RG_addProduct 47 = .ok (.iastore, 1) := by decide +kernel
theorem dRG_addProduct_48 : decode c_RG_addProduct 48 = .ok (.iinc 4 1, 3) := by decide +kernel
theorem dRG_addProduct_51 : decode c_RG_addProduct 51 = .ok (.goto (-39), 3) := by decide +kernel
theorem dRG_addProduct_54 : decode c_RG_addProduct 54 = .ok (.return_, 1) := by decide +kernel
theorem dRG_addProduct_55 : decode c_RG_addProduct 55 = .ok (.iconst 0, 1) := by decide +kernel
theorem dRG_addProduct_56 : decode c_RG_addProduct 56 = .ok (.istore 4, 2) := by decide +kernel
theorem dRG_addProduct_58 : decode c_RG_addProduct 58 = .ok (.iload 4, 2) := by decide +kernel
theorem dRG_addProduct_60 : decode c_RG_addProduct 60 = .ok (.bipush 64, 2) := by decide +kernel
theorem dRG_addProduct_62 : decode c_RG_addProduct 62 = .ok (.if_icmp .ge 56, 3) := by decide +kernel
theorem dRG_addProduct_65 : decode c_RG_addProduct 65 = .ok (.aload_n 0, 1) := by decide +kernel
theorem dRG_addProduct_66 : decode c_RG_addProduct 66 = .ok (.getfield 19, 3) := by decide +kernel
theorem dRG_addProduct_69 : decode c_RG_addProduct 69 = .ok (.bipush 64, 2) := by decide +kernel
theorem dRG_addProduct_71 : decode c_RG_addProduct 71 = .ok (.iload 4, 2) := by decide +kernel
theorem dRG_addProduct_73 : decode c_RG_addProduct 73 = .ok (.iadd, 1) := by decide +kernel
theorem dRG_addProduct_74 : decode c_RG_addProduct 74 = .ok (.iaload, 1) := by decide +kernel
theorem dRG_addProduct_75 : decode c_RG_addProduct 75 = .ok (.istore 5, 2) := by decide +kernel
theorem dRG_addProduct_77 : decode c_RG_addProduct 77 = .ok (.aload_n 0, 1) := by decide +kernel
theorem dRG_addProduct_78 : decode c_RG_addProduct 78 = .ok (.aload_n 1, 1) := by decide +kernel
theorem dRG_addProduct_79 : decode c_RG_addProduct 79 = .ok (.aload_n 2, 1) := by decide +kernel
theorem dRG_addProduct_80 : decode c_RG_addProduct 80 = .ok (.aload_n 3, 1) := by decide +kernel
theorem dRG_addProduct_81 : decode c_RG_addProduct 81 = .ok (.iconst 4, 1) := by decide +kernel
theorem dRG_addProduct_82 : decode c_RG_addProduct 82 = .ok (.iload 4, 2) := by decide +kernel
theorem dRG_addProduct_84 : decode c_RG_addProduct 84 = .ok (.imul, 1) := by decide +kernel
theorem dRG_addProduct_85 : decode c_RG_addProduct 85 = .ok (.iload 5, 2) := by decide +kernel
theorem dRG_addProduct_87 : decode c_RG_addProduct 87 = .ok (.i2l, 1) := by decide +kernel
theorem dRG_addProduct_88 : decode c_RG_addProduct 88 = .ok (.invokevirtual 34, 3) := by decide +kernel
theorem dRG_addProduct_91 : decode c_RG_addProduct 91 = .ok (.aload_n 0, 1) := by decide +kernel
theorem dRG_addProduct_92 : decode c_RG_addProduct 92 = .ok (.aload_n 1, 1) := by decide +kernel
theorem dRG_addProduct_93 : decode c_RG_addProduct 93 = .ok (.aload_n 2, 1) := by decide +kernel
theorem dRG_addProduct_94 : decode c_RG_addProduct 94 = .ok (.aload_n 3, 1) := by decide +kernel
theorem dRG_addProduct_95 : decode c_RG_addProduct 95 = .ok (.iconst 4, 1) := by decide +kernel
theorem dRG_addProduct_96 : decode c_RG_addProduct 96 = .ok (.iload 4, 2) := by decide +kernel
theorem dRG_addProduct_98 : decode c_RG_addProduct 98 = .ok (.imul, 1) := by decide +kernel
theorem dRG_addProduct_99 : decode c_RG_addProduct 99 = .ok (.iconst 2, 1) := by decide +kernel
theorem dRG_addProduct_100 : decode c_RG_addProduct 100 = .ok (.iadd, 1) := by decide +kernel
theorem dRG_addProduct_101 : decode c_RG_addProduct 101 = .ok (.aload_n 0, 1) := by decide +kernel
theorem dRG_addProduct_102 : decode c_RG_addProduct 102 = .ok (.getfield 7, 3) := by decide +kernel
theorem dRG_addProduct_105 : decode c_RG_addProduct 105 = .ok (.iload 5, 2) := by decide +kernel
theorem dRG_addProduct_107 : decode c_RG_addProduct 107 = .ok (.isub, 1) := by decide +kernel
theorem dRG_addProduct_108 : decode c_RG_addProduct 108 = .ok (.i2l, 1) := by decide +kernel
theorem dRG_addProduct_109 : decode c_RG_addProduct 109 = .ok (.invokevirtual 34, 3) := by decide +kernel
theorem dRG_addProduct_112 : decode c_RG_addProduct 112 = .ok (.iinc 4 1, 3) := by decide +kernel
theorem dRG_addProduct_115 : decode c_RG_addProduct 115 = .ok (.goto (-57), 3) := by decide +kernel
theorem dRG_addProduct_118 : decode c_RG_addProduct 118 = .ok (.return_, 1) := by decide +kernel
abbrev c_RG_add : ByteArray := prog_9_method_9_code
abbrev y_RG_add : MethodName := ⟨"LatticeKeys$Ring", "add", "([I[I)V"⟩
abbrev w_RG_add : List Cond := Cond.code y_RG_add c_RG_add 5 none :: WG
theorem dRG_add_0 : decode c_RG_add 0 = .ok (.iconst 0, 1) := by decide +kernel
theorem dRG_add_1 : decode c_RG_add 1 = .ok (.istore_n 3, 1) := by decide +kernel
theorem dRG_add_2 : decode c_RG_add 2 = .ok (.iload_n 3, 1) := by decide +kernel
theorem dRG_add_3 : decode c_RG_add 3 = .ok (.sipush 256, 3) := by decide +kernel
theorem dRG_add_6 : decode c_RG_add 6 = .ok (.if_icmp .ge 42, 3) := by decide +kernel
theorem dRG_add_9 : decode c_RG_add 9 = .ok (.aload_n 1, 1) := by decide +kernel
theorem dRG_add_10 : decode c_RG_add 10 = .ok (.iload_n 3, 1) := by decide +kernel
theorem dRG_add_11 : decode c_RG_add 11 = .ok (.iaload, 1) := by decide +kernel
theorem dRG_add_12 : decode c_RG_add 12 = .ok (.aload_n 2, 1) := by decide +kernel
theorem dRG_add_13 : decode c_RG_add 13 = .ok (.iload_n 3, 1) := by decide +kernel
theorem dRG_add_14 : decode c_RG_add 14 = .ok (.iaload, 1) := by decide +kernel
theorem dRG_add_15 : decode c_RG_add 15 = .ok (.iadd, 1) := by decide +kernel
theorem dRG_add_16 : decode c_RG_add 16 = .ok (.istore 4, 2) := by decide +kernel
theorem dRG_add_18 : decode c_RG_add 18 = .ok (.aload_n 1, 1) := by decide +kernel
theorem dRG_add_19 : decode c_RG_add 19 = .ok (.iload_n 3, 1) := by decide +kernel
theorem dRG_add_20 : decode c_RG_add 20 = .ok (.iload 4, 2) := by decide +kernel
theorem dRG_add_22 : decode c_RG_add 22 = .ok (.aload_n 0, 1) := by decide +kernel
theorem dRG_add_23 : decode c_RG_add 23 = .ok (.getfield 7, 3) := by decide +kernel
theorem dRG_add_26 : decode c_RG_add 26 = .ok (.if_icmp .lt 13, 3) := by decide +kernel
theorem dRG_add_29 : decode c_RG_add 29 = .ok (.iload 4, 2) := by decide +kernel
theorem dRG_add_31 : decode c_RG_add 31 = .ok (.aload_n 0, 1) := by decide +kernel
theorem dRG_add_32 : decode c_RG_add 32 = .ok (.getfield 7, 3) := by decide +kernel
theorem dRG_add_35 : decode c_RG_add 35 = .ok (.isub, 1) := by decide +kernel
theorem dRG_add_36 : decode c_RG_add 36 = .ok (.goto 5, 3) := by decide +kernel
theorem dRG_add_39 : decode c_RG_add 39 = .ok (.iload 4, 2) := by decide +kernel
theorem dRG_add_41 : decode c_RG_add 41 = .ok (.iastore, 1) := by decide +kernel
theorem dRG_add_42 : decode c_RG_add 42 = .ok (.iinc 3 1, 3) := by decide +kernel
theorem dRG_add_45 : decode c_RG_add 45 = .ok (.goto (-43), 3) := by decide +kernel
theorem dRG_add_48 : decode c_RG_add 48 = .ok (.return_, 1) := by decide +kernel
abbrev c_RG_subtract : ByteArray := prog_9_method_10_code
abbrev y_RG_subtract : MethodName := ⟨"LatticeKeys$Ring", "subtract", "([I[I)V"⟩
abbrev w_RG_subtract : List Cond := Cond.code y_RG_subtract c_RG_subtract 5 none :: WG
theorem dRG_subtract_0 : decode c_RG_subtract 0 = .ok (.iconst 0, 1) := by decide +kernel
theorem dRG_subtract_1 : decode c_RG_subtract 1 = .ok (.istore_n 3, 1) := by decide +kernel
theorem dRG_subtract_2 : decode c_RG_subtract 2 = .ok (.iload_n 3, 1) := by decide +kernel
theorem dRG_subtract_3 : decode c_RG_subtract 3 = .ok (.sipush 256, 3) := by decide +kernel
theorem dRG_subtract_6 : decode c_RG_subtract 6 = .ok (.if_icmp .ge 38, 3) := by decide +kernel
theorem dRG_subtract_9 : decode c_RG_subtract 9 = .ok (.aload_n 1, 1) := by decide +kernel
theorem dRG_subtract_10 : decode c_RG_subtract 10 = .ok (.iload_n 3, 1) := by decide +kernel
theorem dRG_subtract_11 : decode c_RG_subtract 11 = .ok (.iaload, 1) := by decide +kernel
theorem dRG_subtract_12 : decode c_RG_subtract 12 = .ok (.aload_n 2, 1) := by decide +kernel
theorem dRG_subtract_13 : decode c_RG_subtract 13 = .ok (.iload_n 3, 1) := by decide +kernel
theorem dRG_subtract_14 : decode c_RG_subtract 14 = .ok (.iaload, 1) := by decide +kernel
theorem dRG_subtract_15 : decode c_RG_subtract 15 = .ok (.isub, 1) := by decide +kernel
theorem dRG_subtract_16 : decode c_RG_subtract 16 = .ok (.istore 4, 2) := by decide +kernel
theorem dRG_subtract_18 : decode c_RG_subtract 18 = .ok (.aload_n 1, 1) := by decide +kernel
theorem dRG_subtract_19 : decode c_RG_subtract 19 = .ok (.iload_n 3, 1) := by decide +kernel
theorem dRG_subtract_20 : decode c_RG_subtract 20 = .ok (.iload 4, 2) := by decide +kernel
theorem dRG_subtract_22 : decode c_RG_subtract 22 = .ok (.ifCond .ge 13, 3) := by decide +kernel
theorem dRG_subtract_25 : decode c_RG_subtract 25 = .ok (.iload 4, 2) := by decide +kernel
theorem dRG_subtract_27 : decode c_RG_subtract 27 = .ok (.aload_n 0, 1) := by decide +kernel
theorem dRG_subtract_28 : decode c_RG_subtract 28 = .ok (.getfield 7, 3) := by decide +kernel
theorem dRG_subtract_31 : decode c_RG_subtract 31 = .ok (.iadd, 1) := by decide +kernel
theorem dRG_subtract_32 : decode c_RG_subtract 32 = .ok (.goto 5, 3) := by decide +kernel
theorem dRG_subtract_35 : decode c_RG_subtract 35 = .ok (.iload 4, 2) := by decide +kernel
theorem dRG_subtract_37 : decode c_RG_subtract 37 = .ok (.iastore, 1) := by decide +kernel
theorem dRG_subtract_38 : decode c_RG_subtract 38 = .ok (.iinc 3 1, 3) := by decide +kernel
theorem dRG_subtract_41 : decode c_RG_subtract 41 = .ok (.goto (-39), 3) := by decide +kernel
theorem dRG_subtract_44 : decode c_RG_subtract 44 = .ok (.return_, 1) := by decide +kernel
abbrev c_RG_flip : ByteArray := prog_9_method_11_code
abbrev y_RG_flip : MethodName := ⟨"LatticeKeys$Ring", "flip", "([II[I)V"⟩
abbrev w_RG_flip : List Cond := Cond.code y_RG_flip c_RG_flip 6 none :: WG
theorem dRG_flip_0 : decode c_RG_flip 0 = .ok (.iconst 0, 1) := by decide +kernel
theorem dRG_flip_1 : decode c_RG_flip 1 = .ok (.istore 4, 2) := by decide +kernel
theorem dRG_flip_3 : decode c_RG_flip 3 = .ok (.iload 4, 2) := by decide +kernel
theorem dRG_flip_5 : decode c_RG_flip 5 = .ok (.sipush 256, 3) := by decide +kernel
theorem dRG_flip_8 : decode c_RG_flip 8 = .ok (.if_icmp .ge 38, 3) := by decide +kernel
theorem dRG_flip_11 : decode c_RG_flip 11 = .ok (.iload_n 2, 1) := by decide +kernel
theorem dRG_flip_12 : decode c_RG_flip 12 = .ok (.aload_n 1, 1) := by decide +kernel
theorem dRG_flip_13 : decode c_RG_flip 13 = .ok (.iload 4, 2) := by decide +kernel
theorem dRG_flip_15 : decode c_RG_flip 15 = .ok (.iaload, 1) := by decide +kernel
theorem dRG_flip_16 : decode c_RG_flip 16 = .ok (.isub, 1) := by decide +kernel
theorem dRG_flip_17 : decode c_RG_flip 17 = .ok (.istore 5, 2) := by decide +kernel
theorem dRG_flip_19 : decode c_RG_flip 19 = .ok (.aload_n 3, 1) := by decide +kernel
theorem dRG_flip_20 : decode c_RG_flip 20 = .ok (.iload 4, 2) := by decide +kernel
theorem dRG_flip_22 : decode c_RG_flip 22 = .ok (.iload 5, 2) := by decide +kernel
theorem dRG_flip_24 : decode c_RG_flip 24 = .ok (.ifCond .ge 13, 3) := by decide +kernel
theorem dRG_flip_27 : decode c_RG_flip 27 = .ok (.iload 5, 2) := by decide +kernel
theorem dRG_flip_29 : decode c_RG_flip 29 = .ok (.aload_n 0, 1) := by decide +kernel
theorem dRG_flip_30 : decode c_RG_flip 30 = .ok (.getfield 7, 3) := by decide +kernel
theorem dRG_flip_33 : decode c_RG_flip 33 = .ok (.iadd, 1) := by decide +kernel
theorem dRG_flip_34 : decode c_RG_flip 34 = .ok (.goto 5, 3) := by decide +kernel
theorem dRG_flip_37 : decode c_RG_flip 37 = .ok (.iload 5, 2) := by decide +kernel
theorem dRG_flip_39 : decode c_RG_flip 39 = .ok (.iastore, 1) := by decide +kernel
theorem dRG_flip_40 : decode c_RG_flip 40 = .ok (.iinc 4 1, 3) := by decide +kernel
theorem dRG_flip_43 : decode c_RG_flip 43 = .ok (.goto (-40), 3) := by decide +kernel
theorem dRG_flip_46 : decode c_RG_flip 46 = .ok (.return_, 1) := by decide +kernel
abbrev c_RG_isShort : ByteArray := prog_9_method_12_code
abbrev y_RG_isShort : MethodName := ⟨"LatticeKeys$Ring", "isShort", "([II)Z"⟩
abbrev w_RG_isShort : List Cond := Cond.code y_RG_isShort c_RG_isShort 4 (some .boolean) :: WG
theorem dRG_isShort_0 : decode c_RG_isShort 0 = .ok (.iconst 0, 1) := by decide +kernel
theorem dRG_isShort_1 : decode c_RG_isShort 1 = .ok (.istore_n 3, 1) := by decide +kernel
theorem dRG_isShort_2 : decode c_RG_isShort 2 = .ok (.iload_n 3, 1) := by decide +kernel
theorem dRG_isShort_3 : decode c_RG_isShort 3 = .ok (.sipush 256, 3) := by decide +kernel
theorem dRG_isShort_6 : decode c_RG_isShort 6 = .ok (.if_icmp .ge 30, 3) := by decide +kernel
theorem dRG_isShort_9 : decode c_RG_isShort 9 = .ok (.aload_n 1, 1) := by decide +kernel
theorem dRG_isShort_10 : decode c_RG_isShort 10 = .ok (.iload_n 3, 1) := by decide +kernel
theorem dRG_isShort_11 : decode c_RG_isShort 11 = .ok (.iaload, 1) := by decide +kernel
theorem dRG_isShort_12 : decode c_RG_isShort 12 = .ok (.iload_n 2, 1) := by decide +kernel
theorem dRG_isShort_13 : decode c_RG_isShort 13 = .ok (.if_icmp .lt 17, 3) := by decide +kernel
theorem dRG_isShort_16 : decode c_RG_isShort 16 = .ok (.aload_n 1, 1) := by decide +kernel
theorem dRG_isShort_17 : decode c_RG_isShort 17 = .ok (.iload_n 3, 1) := by decide +kernel
theorem dRG_isShort_18 : decode c_RG_isShort 18 = .ok (.iaload, 1) := by decide +kernel
theorem dRG_isShort_19 : decode c_RG_isShort 19 = .ok (.aload_n 0, 1) := by decide +kernel
theorem dRG_isShort_20 : decode c_RG_isShort 20 = .ok (.getfield 7, 3) := by decide +kernel
theorem dRG_isShort_23 : decode c_RG_isShort 23 = .ok (.iload_n 2, 1) := by decide +kernel
theorem dRG_isShort_24 : decode c_RG_isShort 24 = .ok (.isub, 1) := by decide +kernel
theorem dRG_isShort_25 : decode c_RG_isShort 25 = .ok (.if_icmp .gt 5, 3) := by decide +kernel
theorem dRG_isShort_28 : decode c_RG_isShort 28 = .ok (.iconst 0, 1) := by decide +kernel
theorem dRG_isShort_29 : decode c_RG_isShort 29 = .ok (.ireturn, 1) := by decide +kernel
theorem dRG_isShort_30 : decode c_RG_isShort 30 = .ok (.iinc 3 1, 3) := by decide +kernel
theorem dRG_isShort_33 : decode c_RG_isShort 33 = .ok (.goto (-31), 3) := by decide +kernel
theorem dRG_isShort_36 : decode c_RG_isShort 36 = .ok (.iconst 1, 1) := by decide +kernel
theorem dRG_isShort_37 : decode c_RG_isShort 37 = .ok (.ireturn, 1) := by decide +kernel
def M_RG_addPair_7 (ps_ : Nat) (k : Nat) : Prop := k = ps_ ∨ (0 : Nat) = 1
noncomputable def F_RG_addPair_7 (ps_ : Nat) (pf : Nat) (pg : Nat) (at_ : Nat) (rt : Int64) (s : Sto) : Sto := bnd (((((s.1 pf (at_ + 1)).toInt64) * ((s.1 pg (at_ + 1)).toInt64)) - (((s.1 pf (at_ + 1)).toInt64) * ((s.1 pg (at_ + 1)).toInt64)) / ((nI 3329).toInt64) * ((nI 3329).toInt64))) fun y21 => bnd (((((s.1 pf at_).toInt64) * ((s.1 pg at_).toInt64)) + (y21 * rt))) fun y22 => bnd (((((s.1 pf at_).toInt64) * ((s.1 pg (at_ + 1)).toInt64)) + (((s.1 pf (at_ + 1)).toInt64) * ((s.1 pg at_).toInt64)))) fun y23 => bnd (sI s ps_ at_ (((((s.1 ps_ at_).toInt64) + y22) - (((s.1 ps_ at_).toInt64) + y22) / ((nI 3329).toInt64) * ((nI 3329).toInt64)).toInt32)) fun s21 => bnd (sI s21 ps_ (at_ + 1) (((((s21.1 ps_ (at_ + 1)).toInt64) + y23) - (((s21.1 ps_ (at_ + 1)).toInt64) + y23) / ((nI 3329).toInt64) * ((nI 3329).toInt64)).toInt32)) fun s22 => s22
set_option maxHeartbeats 400000 in
set_option maxRecDepth 100000 in
theorem N_RG_addPair_7 (l : Launch) (g : Gd) (sz : Nat) (T : TyN) (s : Sto) (pl : va_W) (hO : okn g T s pl) (hU : inj T) (h0 sm f fg : Nat) (ps_ : Nat) (pf : Nat) (pg : Nat) (at_ : Nat) (rt : Int64) (k_h0 : T h0 = some 20) (k_sm : T sm = some ps_) (n_sm : nsp ps_ = (0, 256, [])) (k_f : T f = some pf) (n_f : nsp pf = (0, 256, [])) (k_fg : T fg = some pg) (n_fg : nsp pg = (0, 256, [])) (h1 : at_ + 1 < 256)  : Met l y_RG_addPair w_RG_addPair ({ frames := 0, cells := 0, slots := 0, locals := 0 } : Room) (va_Pc [.ref h0, .ref sm, .ref f, .ref fg, .int (nI at_), .long rt] (pr (en g) g.1 vcl sz ([] ++ pl))) (va_Qv (fun (u : (Sto) × va_W) => (u.1 = F_RG_addPair_7 ps_ pf pg at_ rt s ∧ frm (M_RG_addPair_7 ps_) s u.1 ∧ True) ∧ okn g T u.1 u.2) (po g.1 vcl (va_A ([] ++ pl) sz) (fun (u : (Sto) × va_W) => [] ++ u.2)) (va_A ([] ++ pl) sz)) 0 0 (va_A ([] ++ pl) sz) := by
  refine mc_entry (cc := c_RG_addPair) (maxL := 13) (ret := none) (by decide) rfl (Nat.le_of_ble_eq_true rfl) ?_
  intro p e s0 m args below meth c ls F hr hlk hnm hsz hP hD hE hA hl
  obtain ⟨hx, hb, hml, hown, hts⟩ := id F
  have hK := hE.1
  generalize va_A ([] ++ pl) sz = A at hD hE hA ⊢
  have hS : va_S A s0.heap s0.heap [] := va_S.rf
  have hl : lv_has ls 13 [(0, .ref h0), (1, .ref sm), (2, .ref f), (3, .ref fg), (4, .int (nI at_)), (5, .long rt)] := hl
  have hR : F_RG_addPair_7 ps_ pf pg at_ rt s = F_RG_addPair_7 ps_ pf pg at_ rt s := rfl
  have hF : frm (M_RG_addPair_7 ps_) s s := frm_rf
  refine lv_aload_n hx hb dRG_addPair_0 rfl (lv_at hl 2 rfl) ?_
  refine lv_iload hx hb dRG_addPair_1 (lv_at hl 4 rfl) ?_
  refine lv_iconst (v := nI 1) hx hb dRG_addPair_3 (by decide) ?_
  refine mi_iadd hx hb dRG_addPair_4 ?_
  refine nw_iald hx hb hK hO k_f (k := pf) n_f hP (by omega) (by omega) dRG_addPair_5 ?_
  refine lv_i2l hx hb dRG_addPair_6 rfl ?_
  refine lv_aload_n hx hb dRG_addPair_7 rfl (lv_at hl 3 rfl) ?_
  refine lv_iload hx hb dRG_addPair_8 (lv_at hl 4 rfl) ?_
  refine lv_iconst (v := nI 1) hx hb dRG_addPair_10 (by decide) ?_
  refine mi_iadd hx hb dRG_addPair_11 ?_
  refine nw_iald hx hb hK hO k_fg (k := pg) n_fg hP (by omega) (by omega) dRG_addPair_12 ?_
  refine lv_i2l hx hb dRG_addPair_13 rfl ?_
  refine lv_lmul hx hb dRG_addPair_14 ?_
  refine lv_aload_n hx hb dRG_addPair_15 rfl (lv_at hl 0 rfl) ?_
  refine nw_get (C := "LatticeKeys$Ring") (TT := T_RG) (N := 4) hx hb hts (wg_ft i_RG) hown hK hO k_h0 (kn := 20) (ci := 4) (fl := [(1, 3329), (1, 7), (1, 3303), (3, 21)]) rfl hP rfl 0 (by decide) (hts _ (wg_t kw_91)) (fun _ h9 => h9) (cd := (1, 3329)) rfl dRG_addPair_16 (fun v21 hv21 => ?_)
  obtain rfl := (show v21 = .int (nI 3329) from hv21)
  refine lv_i2l hx hb dRG_addPair_19 rfl ?_
  refine lv_lrem hx hb dRG_addPair_20 (by decide) ?_
  refine ml_eqv (fun y21 ez21 => ?_)
  replace hR := bnd_step hR ez21
  refine lv_lstore (lv' := [(7, .long y21), (0, .ref h0), (1, .ref sm), (2, .ref f), (3, .ref fg), (4, .int (nI at_)), (5, .long rt)]) hx hb dRG_addPair_21 hl (by decide) rfl (fun ls hl => ?_)
  refine lv_aload_n hx hb dRG_addPair_23 rfl (lv_at hl 3 rfl) ?_
  refine lv_iload hx hb dRG_addPair_24 (lv_at hl 5 rfl) ?_
  refine nw_iald hx hb hK hO k_f (k := pf) n_f hP (by omega) (by omega) dRG_addPair_26 ?_
  refine lv_i2l hx hb dRG_addPair_27 rfl ?_
  refine lv_aload_n hx hb dRG_addPair_28 rfl (lv_at hl 4 rfl) ?_
  refine lv_iload hx hb dRG_addPair_29 (lv_at hl 5 rfl) ?_
  refine nw_iald hx hb hK hO k_fg (k := pg) n_fg hP (by omega) (by omega) dRG_addPair_31 ?_
  refine lv_i2l hx hb dRG_addPair_32 rfl ?_
  refine lv_lmul hx hb dRG_addPair_33 ?_
  refine lv_lload hx hb dRG_addPair_34 (lv_at hl 0 rfl) ?_
  refine lv_lload hx hb dRG_addPair_36 (lv_at hl 6 rfl) ?_
  refine lv_lmul hx hb dRG_addPair_38 ?_
  refine lv_ladd hx hb dRG_addPair_39 ?_
  refine ml_eqv (fun y22 ez22 => ?_)
  replace hR := bnd_step hR ez22
  refine lv_lstore (lv' := [(9, .long y22), (7, .long y21), (0, .ref h0), (1, .ref sm), (2, .ref f), (3, .ref fg), (4, .int (nI at_)), (5, .long rt)]) hx hb dRG_addPair_40 hl (by decide) rfl (fun ls hl => ?_)
  refine lv_aload_n hx hb dRG_addPair_42 rfl (lv_at hl 4 rfl) ?_
  refine lv_iload hx hb dRG_addPair_43 (lv_at hl 6 rfl) ?_
  refine nw_iald hx hb hK hO k_f (k := pf) n_f hP (by omega) (by omega) dRG_addPair_45 ?_
  refine lv_i2l hx hb dRG_addPair_46 rfl ?_
  refine lv_aload_n hx hb dRG_addPair_47 rfl (lv_at hl 5 rfl) ?_
  refine lv_iload hx hb dRG_addPair_48 (lv_at hl 6 rfl) ?_
  refine lv_iconst (v := nI 1) hx hb dRG_addPair_50 (by decide) ?_
  refine mi_iadd hx hb dRG_addPair_51 ?_
  refine nw_iald hx hb hK hO k_fg (k := pg) n_fg hP (by omega) (by omega) dRG_addPair_52 ?_
  refine lv_i2l hx hb dRG_addPair_53 rfl ?_
  refine lv_lmul hx hb dRG_addPair_54 ?_
  refine lv_aload_n hx hb dRG_addPair_55 rfl (lv_at hl 4 rfl) ?_
  refine lv_iload hx hb dRG_addPair_56 (lv_at hl 6 rfl) ?_
  refine lv_iconst (v := nI 1) hx hb dRG_addPair_58 (by decide) ?_
  refine mi_iadd hx hb dRG_addPair_59 ?_
  refine nw_iald hx hb hK hO k_f (k := pf) n_f hP (by omega) (by omega) dRG_addPair_60 ?_
  refine lv_i2l hx hb dRG_addPair_61 rfl ?_
  refine lv_aload_n hx hb dRG_addPair_62 rfl (lv_at hl 5 rfl) ?_
  refine lv_iload hx hb dRG_addPair_63 (lv_at hl 6 rfl) ?_
  refine nw_iald hx hb hK hO k_fg (k := pg) n_fg hP (by omega) (by omega) dRG_addPair_65 ?_
  refine lv_i2l hx hb dRG_addPair_66 rfl ?_
  refine lv_lmul hx hb dRG_addPair_67 ?_
  refine lv_ladd hx hb dRG_addPair_68 ?_
  refine ml_eqv (fun y23 ez23 => ?_)
  replace hR := bnd_step hR ez23
  refine lv_lstore (lv' := [(11, .long y23), (9, .long y22), (7, .long y21), (0, .ref h0), (1, .ref sm), (2, .ref f), (3, .ref fg), (4, .int (nI at_)), (5, .long rt)]) hx hb dRG_addPair_69 hl (by decide) rfl (fun ls hl => ?_)
  refine lv_aload_n hx hb dRG_addPair_71 rfl (lv_at hl 4 rfl) ?_
  refine lv_iload hx hb dRG_addPair_72 (lv_at hl 7 rfl) ?_
  refine lv_aload_n hx hb dRG_addPair_74 rfl (lv_at hl 4 rfl) ?_
  refine lv_iload hx hb dRG_addPair_75 (lv_at hl 7 rfl) ?_
  refine nw_iald hx hb hK hO k_sm (k := ps_) n_sm hP (by omega) (by omega) dRG_addPair_77 ?_
  refine lv_i2l hx hb dRG_addPair_78 rfl ?_
  refine lv_lload hx hb dRG_addPair_79 (lv_at hl 1 rfl) ?_
  refine lv_ladd hx hb dRG_addPair_81 ?_
  refine lv_aload_n hx hb dRG_addPair_82 rfl (lv_at hl 3 rfl) ?_
  refine nw_get (C := "LatticeKeys$Ring") (TT := T_RG) (N := 4) hx hb hts (wg_ft i_RG) hown hK hO k_h0 (kn := 20) (ci := 4) (fl := [(1, 3329), (1, 7), (1, 3303), (3, 21)]) rfl hP rfl 0 (by decide) (hts _ (wg_t kw_91)) (fun _ h9 => h9) (cd := (1, 3329)) rfl dRG_addPair_83 (fun v22 hv22 => ?_)
  obtain rfl := (show v22 = .int (nI 3329) from hv22)
  refine lv_i2l hx hb dRG_addPair_86 rfl ?_
  refine lv_lrem hx hb dRG_addPair_87 (by decide) ?_
  refine lv_l2i hx hb dRG_addPair_88 rfl ?_
  refine nw_iast hx hb hK hO hU k_sm (k := ps_) n_sm hP hD hS (by omega) (by omega) dRG_addPair_89 (fun s21 pl H locs es21 hO hP hD hS => ?_)
  replace hR := bnd_step hR es21
  have hF := frm_sI hF es21 (by unfold M_RG_addPair_7; omega)
  refine lv_aload_n hx hb dRG_addPair_90 rfl (lv_at hl 4 rfl) ?_
  refine lv_iload hx hb dRG_addPair_91 (lv_at hl 7 rfl) ?_
  refine lv_iconst (v := nI 1) hx hb dRG_addPair_93 (by decide) ?_
  refine mi_iadd hx hb dRG_addPair_94 ?_
  refine lv_aload_n hx hb dRG_addPair_95 rfl (lv_at hl 4 rfl) ?_
  refine lv_iload hx hb dRG_addPair_96 (lv_at hl 7 rfl) ?_
  refine lv_iconst (v := nI 1) hx hb dRG_addPair_98 (by decide) ?_
  refine mi_iadd hx hb dRG_addPair_99 ?_
  refine nw_iald hx hb hK hO k_sm (k := ps_) n_sm hP (by omega) (by omega) dRG_addPair_100 ?_
  refine lv_i2l hx hb dRG_addPair_101 rfl ?_
  refine lv_lload hx hb dRG_addPair_102 (lv_at hl 0 rfl) ?_
  refine lv_ladd hx hb dRG_addPair_104 ?_
  refine lv_aload_n hx hb dRG_addPair_105 rfl (lv_at hl 3 rfl) ?_
  refine nw_get (C := "LatticeKeys$Ring") (TT := T_RG) (N := 4) hx hb hts (wg_ft i_RG) hown hK hO k_h0 (kn := 20) (ci := 4) (fl := [(1, 3329), (1, 7), (1, 3303), (3, 21)]) rfl hP rfl 0 (by decide) (hts _ (wg_t kw_91)) (fun _ h9 => h9) (cd := (1, 3329)) rfl dRG_addPair_106 (fun v23 hv23 => ?_)
  obtain rfl := (show v23 = .int (nI 3329) from hv23)
  refine lv_i2l hx hb dRG_addPair_109 rfl ?_
  refine lv_lrem hx hb dRG_addPair_110 (by decide) ?_
  refine lv_l2i hx hb dRG_addPair_111 rfl ?_
  refine nw_iast hx hb hK hO hU k_sm (k := ps_) n_sm hP hD hS (by omega) (by omega) dRG_addPair_112 (fun s22 pl H locs es22 hO hP hD hS => ?_)
  replace hR := bnd_step hR es22
  have hF := frm_sI hF es22 (by unfold M_RG_addPair_7; omega)
  exact mp_vret hx hb hr hlk hP hD hS (s22, pl) ⟨⟨hR.symm, hF, trivial⟩, hO⟩ [] rfl rfl rfl (by omega) (by omega) dRG_addPair_113
def M_RG_addPair_8 (ps_ : Nat) (k : Nat) : Prop := k = ps_ ∨ (0 : Nat) = 1
noncomputable def F_RG_addPair_8 (ps_ : Nat) (pf : Nat) (pg : Nat) (at_ : Nat) (rt : Int64) (s : Sto) : Sto := bnd (((((s.1 pf (at_ + 1)).toInt64) * ((s.1 pg (at_ + 1)).toInt64)) - (((s.1 pf (at_ + 1)).toInt64) * ((s.1 pg (at_ + 1)).toInt64)) / ((nI 8380417).toInt64) * ((nI 8380417).toInt64))) fun y21 => bnd (((((s.1 pf at_).toInt64) * ((s.1 pg at_).toInt64)) + (y21 * rt))) fun y22 => bnd (((((s.1 pf at_).toInt64) * ((s.1 pg (at_ + 1)).toInt64)) + (((s.1 pf (at_ + 1)).toInt64) * ((s.1 pg at_).toInt64)))) fun y23 => bnd (sI s ps_ at_ (((((s.1 ps_ at_).toInt64) + y22) - (((s.1 ps_ at_).toInt64) + y22) / ((nI 8380417).toInt64) * ((nI 8380417).toInt64)).toInt32)) fun s21 => bnd (sI s21 ps_ (at_ + 1) (((((s21.1 ps_ (at_ + 1)).toInt64) + y23) - (((s21.1 ps_ (at_ + 1)).toInt64) + y23) / ((nI 8380417).toInt64) * ((nI 8380417).toInt64)).toInt32)) fun s22 => s22
set_option maxHeartbeats 400000 in
set_option maxRecDepth 100000 in
theorem N_RG_addPair_8 (l : Launch) (g : Gd) (sz : Nat) (T : TyN) (s : Sto) (pl : va_W) (hO : okn g T s pl) (hU : inj T) (h0 sm f fg : Nat) (ps_ : Nat) (pf : Nat) (pg : Nat) (at_ : Nat) (rt : Int64) (k_h0 : T h0 = some 22) (k_sm : T sm = some ps_) (n_sm : nsp ps_ = (0, 256, [])) (k_f : T f = some pf) (n_f : nsp pf = (0, 256, [])) (k_fg : T fg = some pg) (n_fg : nsp pg = (0, 256, [])) (h1 : at_ + 1 < 256)  : Met l y_RG_addPair w_RG_addPair ({ frames := 0, cells := 0, slots := 0, locals := 0 } : Room) (va_Pc [.ref h0, .ref sm, .ref f, .ref fg, .int (nI at_), .long rt] (pr (en g) g.1 vcl sz ([] ++ pl))) (va_Qv (fun (u : (Sto) × va_W) => (u.1 = F_RG_addPair_8 ps_ pf pg at_ rt s ∧ frm (M_RG_addPair_8 ps_) s u.1 ∧ True) ∧ okn g T u.1 u.2) (po g.1 vcl (va_A ([] ++ pl) sz) (fun (u : (Sto) × va_W) => [] ++ u.2)) (va_A ([] ++ pl) sz)) 0 0 (va_A ([] ++ pl) sz) := by
  refine mc_entry (cc := c_RG_addPair) (maxL := 13) (ret := none) (by decide) rfl (Nat.le_of_ble_eq_true rfl) ?_
  intro p e s0 m args below meth c ls F hr hlk hnm hsz hP hD hE hA hl
  obtain ⟨hx, hb, hml, hown, hts⟩ := id F
  have hK := hE.1
  generalize va_A ([] ++ pl) sz = A at hD hE hA ⊢
  have hS : va_S A s0.heap s0.heap [] := va_S.rf
  have hl : lv_has ls 13 [(0, .ref h0), (1, .ref sm), (2, .ref f), (3, .ref fg), (4, .int (nI at_)), (5, .long rt)] := hl
  have hR : F_RG_addPair_8 ps_ pf pg at_ rt s = F_RG_addPair_8 ps_ pf pg at_ rt s := rfl
  have hF : frm (M_RG_addPair_8 ps_) s s := frm_rf
  refine lv_aload_n hx hb dRG_addPair_0 rfl (lv_at hl 2 rfl) ?_
  refine lv_iload hx hb dRG_addPair_1 (lv_at hl 4 rfl) ?_
  refine lv_iconst (v := nI 1) hx hb dRG_addPair_3 (by decide) ?_
  refine mi_iadd hx hb dRG_addPair_4 ?_
  refine nw_iald hx hb hK hO k_f (k := pf) n_f hP (by omega) (by omega) dRG_addPair_5 ?_
  refine lv_i2l hx hb dRG_addPair_6 rfl ?_
  refine lv_aload_n hx hb dRG_addPair_7 rfl (lv_at hl 3 rfl) ?_
  refine lv_iload hx hb dRG_addPair_8 (lv_at hl 4 rfl) ?_
  refine lv_iconst (v := nI 1) hx hb dRG_addPair_10 (by decide) ?_
  refine mi_iadd hx hb dRG_addPair_11 ?_
  refine nw_iald hx hb hK hO k_fg (k := pg) n_fg hP (by omega) (by omega) dRG_addPair_12 ?_
  refine lv_i2l hx hb dRG_addPair_13 rfl ?_
  refine lv_lmul hx hb dRG_addPair_14 ?_
  refine lv_aload_n hx hb dRG_addPair_15 rfl (lv_at hl 0 rfl) ?_
  refine nw_get (C := "LatticeKeys$Ring") (TT := T_RG) (N := 4) hx hb hts (wg_ft i_RG) hown hK hO k_h0 (kn := 22) (ci := 4) (fl := [(1, 8380417), (1, 8), (1, 8347681), (3, 23)]) rfl hP rfl 0 (by decide) (hts _ (wg_t kw_91)) (fun _ h9 => h9) (cd := (1, 8380417)) rfl dRG_addPair_16 (fun v21 hv21 => ?_)
  obtain rfl := (show v21 = .int (nI 8380417) from hv21)
  refine lv_i2l hx hb dRG_addPair_19 rfl ?_
  refine lv_lrem hx hb dRG_addPair_20 (by decide) ?_
  refine ml_eqv (fun y21 ez21 => ?_)
  replace hR := bnd_step hR ez21
  refine lv_lstore (lv' := [(7, .long y21), (0, .ref h0), (1, .ref sm), (2, .ref f), (3, .ref fg), (4, .int (nI at_)), (5, .long rt)]) hx hb dRG_addPair_21 hl (by decide) rfl (fun ls hl => ?_)
  refine lv_aload_n hx hb dRG_addPair_23 rfl (lv_at hl 3 rfl) ?_
  refine lv_iload hx hb dRG_addPair_24 (lv_at hl 5 rfl) ?_
  refine nw_iald hx hb hK hO k_f (k := pf) n_f hP (by omega) (by omega) dRG_addPair_26 ?_
  refine lv_i2l hx hb dRG_addPair_27 rfl ?_
  refine lv_aload_n hx hb dRG_addPair_28 rfl (lv_at hl 4 rfl) ?_
  refine lv_iload hx hb dRG_addPair_29 (lv_at hl 5 rfl) ?_
  refine nw_iald hx hb hK hO k_fg (k := pg) n_fg hP (by omega) (by omega) dRG_addPair_31 ?_
  refine lv_i2l hx hb dRG_addPair_32 rfl ?_
  refine lv_lmul hx hb dRG_addPair_33 ?_
  refine lv_lload hx hb dRG_addPair_34 (lv_at hl 0 rfl) ?_
  refine lv_lload hx hb dRG_addPair_36 (lv_at hl 6 rfl) ?_
  refine lv_lmul hx hb dRG_addPair_38 ?_
  refine lv_ladd hx hb dRG_addPair_39 ?_
  refine ml_eqv (fun y22 ez22 => ?_)
  replace hR := bnd_step hR ez22
  refine lv_lstore (lv' := [(9, .long y22), (7, .long y21), (0, .ref h0), (1, .ref sm), (2, .ref f), (3, .ref fg), (4, .int (nI at_)), (5, .long rt)]) hx hb dRG_addPair_40 hl (by decide) rfl (fun ls hl => ?_)
  refine lv_aload_n hx hb dRG_addPair_42 rfl (lv_at hl 4 rfl) ?_
  refine lv_iload hx hb dRG_addPair_43 (lv_at hl 6 rfl) ?_
  refine nw_iald hx hb hK hO k_f (k := pf) n_f hP (by omega) (by omega) dRG_addPair_45 ?_
  refine lv_i2l hx hb dRG_addPair_46 rfl ?_
  refine lv_aload_n hx hb dRG_addPair_47 rfl (lv_at hl 5 rfl) ?_
  refine lv_iload hx hb dRG_addPair_48 (lv_at hl 6 rfl) ?_
  refine lv_iconst (v := nI 1) hx hb dRG_addPair_50 (by decide) ?_
  refine mi_iadd hx hb dRG_addPair_51 ?_
  refine nw_iald hx hb hK hO k_fg (k := pg) n_fg hP (by omega) (by omega) dRG_addPair_52 ?_
  refine lv_i2l hx hb dRG_addPair_53 rfl ?_
  refine lv_lmul hx hb dRG_addPair_54 ?_
  refine lv_aload_n hx hb dRG_addPair_55 rfl (lv_at hl 4 rfl) ?_
  refine lv_iload hx hb dRG_addPair_56 (lv_at hl 6 rfl) ?_
  refine lv_iconst (v := nI 1) hx hb dRG_addPair_58 (by decide) ?_
  refine mi_iadd hx hb dRG_addPair_59 ?_
  refine nw_iald hx hb hK hO k_f (k := pf) n_f hP (by omega) (by omega) dRG_addPair_60 ?_
  refine lv_i2l hx hb dRG_addPair_61 rfl ?_
  refine lv_aload_n hx hb dRG_addPair_62 rfl (lv_at hl 5 rfl) ?_
  refine lv_iload hx hb dRG_addPair_63 (lv_at hl 6 rfl) ?_
  refine nw_iald hx hb hK hO k_fg (k := pg) n_fg hP (by omega) (by omega) dRG_addPair_65 ?_
  refine lv_i2l hx hb dRG_addPair_66 rfl ?_
  refine lv_lmul hx hb dRG_addPair_67 ?_
  refine lv_ladd hx hb dRG_addPair_68 ?_
  refine ml_eqv (fun y23 ez23 => ?_)
  replace hR := bnd_step hR ez23
  refine lv_lstore (lv' := [(11, .long y23), (9, .long y22), (7, .long y21), (0, .ref h0), (1, .ref sm), (2, .ref f), (3, .ref fg), (4, .int (nI at_)), (5, .long rt)]) hx hb dRG_addPair_69 hl (by decide) rfl (fun ls hl => ?_)
  refine lv_aload_n hx hb dRG_addPair_71 rfl (lv_at hl 4 rfl) ?_
  refine lv_iload hx hb dRG_addPair_72 (lv_at hl 7 rfl) ?_
  refine lv_aload_n hx hb dRG_addPair_74 rfl (lv_at hl 4 rfl) ?_
  refine lv_iload hx hb dRG_addPair_75 (lv_at hl 7 rfl) ?_
  refine nw_iald hx hb hK hO k_sm (k := ps_) n_sm hP (by omega) (by omega) dRG_addPair_77 ?_
  refine lv_i2l hx hb dRG_addPair_78 rfl ?_
  refine lv_lload hx hb dRG_addPair_79 (lv_at hl 1 rfl) ?_
  refine lv_ladd hx hb dRG_addPair_81 ?_
  refine lv_aload_n hx hb dRG_addPair_82 rfl (lv_at hl 3 rfl) ?_
  refine nw_get (C := "LatticeKeys$Ring") (TT := T_RG) (N := 4) hx hb hts (wg_ft i_RG) hown hK hO k_h0 (kn := 22) (ci := 4) (fl := [(1, 8380417), (1, 8), (1, 8347681), (3, 23)]) rfl hP rfl 0 (by decide) (hts _ (wg_t kw_91)) (fun _ h9 => h9) (cd := (1, 8380417)) rfl dRG_addPair_83 (fun v22 hv22 => ?_)
  obtain rfl := (show v22 = .int (nI 8380417) from hv22)
  refine lv_i2l hx hb dRG_addPair_86 rfl ?_
  refine lv_lrem hx hb dRG_addPair_87 (by decide) ?_
  refine lv_l2i hx hb dRG_addPair_88 rfl ?_
  refine nw_iast hx hb hK hO hU k_sm (k := ps_) n_sm hP hD hS (by omega) (by omega) dRG_addPair_89 (fun s21 pl H locs es21 hO hP hD hS => ?_)
  replace hR := bnd_step hR es21
  have hF := frm_sI hF es21 (by unfold M_RG_addPair_8; omega)
  refine lv_aload_n hx hb dRG_addPair_90 rfl (lv_at hl 4 rfl) ?_
  refine lv_iload hx hb dRG_addPair_91 (lv_at hl 7 rfl) ?_
  refine lv_iconst (v := nI 1) hx hb dRG_addPair_93 (by decide) ?_
  refine mi_iadd hx hb dRG_addPair_94 ?_
  refine lv_aload_n hx hb dRG_addPair_95 rfl (lv_at hl 4 rfl) ?_
  refine lv_iload hx hb dRG_addPair_96 (lv_at hl 7 rfl) ?_
  refine lv_iconst (v := nI 1) hx hb dRG_addPair_98 (by decide) ?_
  refine mi_iadd hx hb dRG_addPair_99 ?_
  refine nw_iald hx hb hK hO k_sm (k := ps_) n_sm hP (by omega) (by omega) dRG_addPair_100 ?_
  refine lv_i2l hx hb dRG_addPair_101 rfl ?_
  refine lv_lload hx hb dRG_addPair_102 (lv_at hl 0 rfl) ?_
  refine lv_ladd hx hb dRG_addPair_104 ?_
  refine lv_aload_n hx hb dRG_addPair_105 rfl (lv_at hl 3 rfl) ?_
  refine nw_get (C := "LatticeKeys$Ring") (TT := T_RG) (N := 4) hx hb hts (wg_ft i_RG) hown hK hO k_h0 (kn := 22) (ci := 4) (fl := [(1, 8380417), (1, 8), (1, 8347681), (3, 23)]) rfl hP rfl 0 (by decide) (hts _ (wg_t kw_91)) (fun _ h9 => h9) (cd := (1, 8380417)) rfl dRG_addPair_106 (fun v23 hv23 => ?_)
  obtain rfl := (show v23 = .int (nI 8380417) from hv23)
  refine lv_i2l hx hb dRG_addPair_109 rfl ?_
  refine lv_lrem hx hb dRG_addPair_110 (by decide) ?_
  refine lv_l2i hx hb dRG_addPair_111 rfl ?_
  refine nw_iast hx hb hK hO hU k_sm (k := ps_) n_sm hP hD hS (by omega) (by omega) dRG_addPair_112 (fun s22 pl H locs es22 hO hP hD hS => ?_)
  replace hR := bnd_step hR es22
  have hF := frm_sI hF es22 (by unfold M_RG_addPair_8; omega)
  exact mp_vret hx hb hr hlk hP hD hS (s22, pl) ⟨⟨hR.symm, hF, trivial⟩, hO⟩ [] rfl rfl rfl (by omega) (by omega) dRG_addPair_113
def M_RG_addProduct_7 (ps_ : Nat) (k : Nat) : Prop := k = ps_ ∨ (0 : Nat) = 1
noncomputable def F_RG_addProduct_7_L0 (ps_ : Nat) (pf : Nat) (pg : Nat) : Nat → Nat → Sto → Sto
  | 0, i21, s21 => s21
  | n21 + 1, i21, s21 => bnd ((ctI 1 (64 + i21))) fun z21 => bnd (F_RG_addPair_7 ps_ pf pg (4 * i21) (z21.toInt64) s21) fun s22 => bnd (F_RG_addPair_7 ps_ pf pg ((4 * i21) + 2) (((nI 3329) - z21).toInt64) s22) fun s23 => F_RG_addProduct_7_L0 ps_ pf pg n21 (i21 + 1) s23
noncomputable def F_RG_addProduct_7 (ps_ : Nat) (pf : Nat) (pg : Nat) (s : Sto) : Sto := F_RG_addProduct_7_L0 ps_ pf pg 64 0 s
set_option maxHeartbeats 400000 in
set_option maxRecDepth 100000 in
theorem N_RG_addProduct_7 (l : Launch) (g : Gd) (sz : Nat) (T : TyN) (s : Sto) (pl : va_W) (hO : okn g T s pl) (hU : inj T) (h0 sm f fg : Nat) (ps_ : Nat) (pf : Nat) (pg : Nat) (k_h0 : T h0 = some 20) (k_sm : T sm = some ps_) (n_sm : nsp ps_ = (0, 256, [])) (k_f : T f = some pf) (n_f : nsp pf = (0, 256, [])) (k_fg : T fg = some pg) (n_fg : nsp pg = (0, 256, []))  : Met l y_RG_addProduct w_RG_addProduct ({ frames := 1, cells := 0, slots := 0, locals := 32 } : Room) (va_Pc [.ref h0, .ref sm, .ref f, .ref fg] (pr (en g) g.1 vcl sz ([] ++ pl))) (va_Qv (fun (u : (Sto) × va_W) => (u.1 = F_RG_addProduct_7 ps_ pf pg s ∧ frm (M_RG_addProduct_7 ps_) s u.1 ∧ True) ∧ okn g T u.1 u.2) (po g.1 vcl (va_A ([] ++ pl) sz) (fun (u : (Sto) × va_W) => [] ++ u.2)) (va_A ([] ++ pl) sz)) 0 0 (va_A ([] ++ pl) sz) := by
  refine mc_entry (cc := c_RG_addProduct) (maxL := 6) (ret := none) (by decide) rfl (Nat.le_of_ble_eq_true rfl) ?_
  intro p e s0 m args below meth c ls F hr hlk hnm hsz hP hD hE hA hl
  obtain ⟨hx, hb, hml, hown, hts⟩ := id F
  have hK := hE.1
  generalize va_A ([] ++ pl) sz = A at hD hE hA ⊢
  have hS : va_S A s0.heap s0.heap [] := va_S.rf
  have hl : lv_has ls 6 [(0, .ref h0), (1, .ref sm), (2, .ref f), (3, .ref fg)] := hl
  have hR : F_RG_addProduct_7 ps_ pf pg s = F_RG_addProduct_7 ps_ pf pg s := rfl
  have hF : frm (M_RG_addProduct_7 ps_) s s := frm_rf
  refine lv_aload_n hx hb dRG_addProduct_0 rfl (lv_at hl 0 rfl) ?_
  refine nw_get (C := "LatticeKeys$Ring") (TT := T_RG) (N := 4) hx hb hts (wg_ft i_RG) hown hK hO k_h0 (kn := 20) (ci := 4) (fl := [(1, 3329), (1, 7), (1, 3303), (3, 21)]) rfl hP rfl 1 (by decide) (hts _ (wg_t kw_92)) (fun _ h9 => h9) (cd := (1, 7)) rfl dRG_addProduct_1 (fun v21 hv21 => ?_)
  obtain rfl := (show v21 = .int (nI 7) from hv21)
  refine lv_bipush (v := nI 8) hx hb dRG_addProduct_4 (by decide) ?_
  refine mi_ne (tgt := 55) hx hb dRG_addProduct_6 (by decide) (by omega) (by omega) (fun h21 => ?_) (fun h21 => absurd h21 (by omega))
  refine lv_iconst (v := nI 0) hx hb dRG_addProduct_55 (by decide) ?_
  refine lv_istore (lv' := [(4, .int (nI 0)), (0, .ref h0), (1, .ref sm), (2, .ref f), (3, .ref fg)]) hx hb dRG_addProduct_56 hl (by decide) rfl (fun ls hl => ?_)
  have lp21 : ∀ (n21 : Nat) (i21 : Nat) (s21 : Sto) (pl : va_W) (ls : Array Slot) (H : Heap) (locs : List Loc), n21 + i21 = 64 → frm (M_RG_addProduct_7 ps_) s s21 → F_RG_addProduct_7 ps_ pf pg s = F_RG_addProduct_7_L0 ps_ pf pg n21 i21 s21 → lv_has ls 6 [(4, .int (nI i21)), (0, .ref h0), (1, .ref sm), (2, .ref f), (3, .ref fg)] → okn g T s21 pl → va_P g.1 vcl ([] ++ pl) H → va_D A ([] ++ pl) → va_S A s0.heap H locs → W p l e ({ frames := 1, cells := 0, slots := 0, locals := 32 } : Room) s0 m args below meth c H locs 0 0 (MQ below (va_Qv (fun (u : (Sto) × va_W) => (u.1 = F_RG_addProduct_7 ps_ pf pg s ∧ frm (M_RG_addProduct_7 ps_) s u.1 ∧ True) ∧ okn g T u.1 u.2) (po g.1 vcl A (fun (u : (Sto) × va_W) => [] ++ u.2)) A) args s0 0 0 A) (F0 m 58 ls []) := by
    intro n21
    induction n21 with
    | zero =>
      intro i21 s21 pl ls H locs hm21 hF hR hl hO hP hD hS
      refine lv_iload hx hb dRG_addProduct_58 (lv_at hl 0 rfl) ?_
      refine lv_bipush (v := nI 64) hx hb dRG_addProduct_60 (by decide) ?_
      refine mi_ge (tgt := 118) hx hb dRG_addProduct_62 (by decide) (by omega) (by omega) (fun h22 => ?_) (fun h22 => absurd h22 (by omega))
      exact mp_vret hx hb hr hlk hP hD hS (s21, pl) ⟨⟨hR.symm, hF, trivial⟩, hO⟩ [] rfl rfl rfl (by omega) (by omega) dRG_addProduct_118
    | succ n21 ih21 =>
      intro i21 s21 pl ls H locs hm21 hF hR hl hO hP hD hS
      refine lv_iload hx hb dRG_addProduct_58 (lv_at hl 0 rfl) ?_
      refine lv_bipush (v := nI 64) hx hb dRG_addProduct_60 (by decide) ?_
      refine mi_ge (tgt := 118) hx hb dRG_addProduct_62 (by decide) (by omega) (by omega) (fun h23 => absurd h23 (by omega)) (fun h23 => ?_)
      refine lv_aload_n hx hb dRG_addProduct_65 rfl (lv_at hl 1 rfl) ?_
      refine nw_get (C := "LatticeKeys$Ring") (TT := T_RG) (N := 4) hx hb hts (wg_ft i_RG) hown hK hO k_h0 (kn := 20) (ci := 4) (fl := [(1, 3329), (1, 7), (1, 3303), (3, 21)]) rfl hP rfl 3 (by decide) (hts _ (wg_t kw_94)) (fun _ h9 => h9) (cd := (3, 21)) rfl dRG_addProduct_66 (fun v22 hv22 => ?_)
      obtain ⟨r21, rfl, kr21⟩ := (show ∃ r : Nat, v22 = .ref r ∧ T r = some 21 from hv22)
      refine lv_bipush (v := nI 64) hx hb dRG_addProduct_69 (by decide) ?_
      refine lv_iload hx hb dRG_addProduct_71 (lv_at hl 0 rfl) ?_
      refine mi_iadd hx hb dRG_addProduct_73 ?_
      refine nw_ialdT hx hb hK hO kr21 (k := 21) (d := 1) rfl hP (by omega) (by omega) dRG_addProduct_74 ?_
      refine mi_eqv (fun z21 ez21 => ?_)
      replace hR := bnd_step hR ez21
      refine lv_istore (lv' := [(5, .int z21), (4, .int (nI i21)), (0, .ref h0), (1, .ref sm), (2, .ref f), (3, .ref fg)]) hx hb dRG_addProduct_75 hl (by decide) rfl (fun ls hl => ?_)
      refine lv_aload_n hx hb dRG_addProduct_77 rfl (lv_at hl 2 rfl) ?_
      refine lv_aload_n hx hb dRG_addProduct_78 rfl (lv_at hl 3 rfl) ?_
      refine lv_aload_n hx hb dRG_addProduct_79 rfl (lv_at hl 4 rfl) ?_
      refine lv_aload_n hx hb dRG_addProduct_80 rfl (lv_at hl 5 rfl) ?_
      refine lv_iconst (v := nI 4) hx hb dRG_addProduct_81 (by decide) ?_
      refine lv_iload hx hb dRG_addProduct_82 (lv_at hl 1 rfl) ?_
      refine mi_imul hx hb dRG_addProduct_84 ?_
      refine lv_iload hx hb dRG_addProduct_85 (lv_at hl 0 rfl) ?_
      refine lv_i2l hx hb dRG_addProduct_87 rfl ?_
      refine mp_v (cx := []) (wr := []) hP hD hS hA [] [] rfl rfl rfl (by decide) (va_runV (As := [.ref sm, .ref f, .ref fg, .int (nI (4 * i21)), .long z21.toInt64]) (rest := []) F (N_RG_addPair_7 l g _ T s21 pl hO hU h0 sm f fg ps_ pf pg (4 * i21) (z21.toInt64) k_h0 k_sm n_sm k_f n_f k_fg n_fg (by omega)) (cwV 5 hts (wg_app (wg_c kw_657 (wg_c kw_659 (wg_c ks_9 (wg_c kw_4 wg_n)))) kw_660) rfl rfl rfl (by decide +kernel) ⟨by decide, by decide⟩) (pn_W "LatticeKeys$Ring" (en_ok g) (ci := 4) (kn := 20) (fl := [(1, 3329), (1, 7), (1, 3303), (3, 21)]) hK hO k_h0 rfl hP hD hS hA hE [] rfl rfl rfl) rfl rfl hl.1 rfl (lv_room (Nat.le_of_ble_eq_true rfl)) dRG_addProduct_88 ⟨by omega, by omega⟩) (fun  u21 H locs hu21 hP hD hS => ?_)
      obtain ⟨s22, pl⟩ := u21
      obtain ⟨⟨eq21, hFc21, -⟩, hO⟩ := hu21
      have hO : okn g T s22 pl := hO
      have hP : va_P g.1 vcl ([] ++ pl) _ := hP
      have hD : va_D _ ([] ++ pl) := hD
      have hFc21 : frm (M_RG_addPair_7 ps_) s21 s22 := hFc21
      replace hR := bnd_step hR eq21
      have hF := frm_tr hF hFc21 (fun k hk => by unfold M_RG_addPair_7 at hk; unfold M_RG_addProduct_7; omega)
      refine W.widen (k := 0) (n := 0) (by omega) (by omega) ?_
      refine lv_aload_n hx hb dRG_addProduct_91 rfl (lv_at hl 2 rfl) ?_
      refine lv_aload_n hx hb dRG_addProduct_92 rfl (lv_at hl 3 rfl) ?_
      refine lv_aload_n hx hb dRG_addProduct_93 rfl (lv_at hl 4 rfl) ?_
      refine lv_aload_n hx hb dRG_addProduct_94 rfl (lv_at hl 5 rfl) ?_
      refine lv_iconst (v := nI 4) hx hb dRG_addProduct_95 (by decide) ?_
      refine lv_iload hx hb dRG_addProduct_96 (lv_at hl 1 rfl) ?_
      refine mi_imul hx hb dRG_addProduct_98 ?_
      refine lv_iconst (v := nI 2) hx hb dRG_addProduct_99 (by decide) ?_
      refine mi_iadd hx hb dRG_addProduct_100 ?_
      refine lv_aload_n hx hb dRG_addProduct_101 rfl (lv_at hl 2 rfl) ?_
      refine nw_get (C := "LatticeKeys$Ring") (TT := T_RG) (N := 4) hx hb hts (wg_ft i_RG) hown hK hO k_h0 (kn := 20) (ci := 4) (fl := [(1, 3329), (1, 7), (1, 3303), (3, 21)]) rfl hP rfl 0 (by decide) (hts _ (wg_t kw_91)) (fun _ h9 => h9) (cd := (1, 3329)) rfl dRG_addProduct_102 (fun v23 hv23 => ?_)
      obtain rfl := (show v23 = .int (nI 3329) from hv23)
      refine lv_iload hx hb dRG_addProduct_105 (lv_at hl 0 rfl) ?_
      refine lv_isub hx hb dRG_addProduct_107 ?_
      refine lv_i2l hx hb dRG_addProduct_108 rfl ?_
      refine mp_v (cx := []) (wr := []) hP hD hS hA [] [] rfl rfl rfl (by decide) (va_runV (As := [.ref sm, .ref f, .ref fg, .int (nI ((4 * i21) + 2)), .long (((nI 3329) - z21).toInt64)]) (rest := []) F (N_RG_addPair_7 l g _ T s22 pl hO hU h0 sm f fg ps_ pf pg ((4 * i21) + 2) (((nI 3329) - z21).toInt64) k_h0 k_sm n_sm k_f n_f k_fg n_fg (by omega)) (cwV 5 hts (wg_app (wg_c kw_657 (wg_c kw_659 (wg_c ks_9 (wg_c kw_4 wg_n)))) kw_660) rfl rfl rfl (by decide +kernel) ⟨by decide, by decide⟩) (pn_W "LatticeKeys$Ring" (en_ok g) (ci := 4) (kn := 20) (fl := [(1, 3329), (1, 7), (1, 3303), (3, 21)]) hK hO k_h0 rfl hP hD hS hA hE [] rfl rfl rfl) rfl rfl hl.1 rfl (lv_room (Nat.le_of_ble_eq_true rfl)) dRG_addProduct_109 ⟨by omega, by omega⟩) (fun  u22 H locs hu22 hP hD hS => ?_)
      obtain ⟨s23, pl⟩ := u22
      obtain ⟨⟨eq22, hFc22, -⟩, hO⟩ := hu22
      have hO : okn g T s23 pl := hO
      have hP : va_P g.1 vcl ([] ++ pl) _ := hP
      have hD : va_D _ ([] ++ pl) := hD
      have hFc22 : frm (M_RG_addPair_7 ps_) s22 s23 := hFc22
      replace hR := bnd_step hR eq22
      have hF := frm_tr hF hFc22 (fun k hk => by unfold M_RG_addPair_7 at hk; unfold M_RG_addProduct_7; omega)
      refine W.widen (k := 0) (n := 0) (by omega) (by omega) ?_
      refine mi_iinc (k := 1) (x := i21) (d := 1) (y := i21 + 1) (lv' := [(4, .int (nI (i21 + 1))), (5, .int z21), (0, .ref h0), (1, .ref sm), (2, .ref f), (3, .ref fg)]) hx hb dRG_addProduct_112 hl rfl (by decide) rfl (by decide) rfl (fun ls hl => ?_)
      refine lv_goto (tgt := 58) hx hb dRG_addProduct_115 (by decide) ?_
      exact ih21 (i21 + 1) s23 pl ls H locs (by omega) hF hR (lv_sub hl [0, 2, 3, 4, 5] rfl) hO hP hD hS
  exact lp21 64 0 s pl ls _ _ (by omega) hF hR (lv_sub hl [0, 1, 2, 3, 4] rfl) hO hP hD hS
def M_RG_addProduct_8 (ps_ : Nat) (k : Nat) : Prop := k = ps_ ∨ (0 : Nat) = 1
noncomputable def F_RG_addProduct_8_L0 (ps_ : Nat) (pf : Nat) (pg : Nat) : Nat → Nat → Sto → Sto
  | 0, i21, s21 => s21
  | n21 + 1, i21, s21 => bnd (sI s21 ps_ i21 (((((s21.1 ps_ i21).toInt64) + (((s21.1 pf i21).toInt64) * ((s21.1 pg i21).toInt64))) - (((s21.1 ps_ i21).toInt64) + (((s21.1 pf i21).toInt64) * ((s21.1 pg i21).toInt64))) / ((nI 8380417).toInt64) * ((nI 8380417).toInt64)).toInt32)) fun s22 => F_RG_addProduct_8_L0 ps_ pf pg n21 (i21 + 1) s22
noncomputable def F_RG_addProduct_8 (ps_ : Nat) (pf : Nat) (pg : Nat) (s : Sto) : Sto := F_RG_addProduct_8_L0 ps_ pf pg 256 0 s
set_option maxHeartbeats 400000 in
set_option maxRecDepth 100000 in
theorem N_RG_addProduct_8 (l : Launch) (g : Gd) (sz : Nat) (T : TyN) (s : Sto) (pl : va_W) (hO : okn g T s pl) (hU : inj T) (h0 sm f fg : Nat) (ps_ : Nat) (pf : Nat) (pg : Nat) (k_h0 : T h0 = some 22) (k_sm : T sm = some ps_) (n_sm : nsp ps_ = (0, 256, [])) (k_f : T f = some pf) (n_f : nsp pf = (0, 256, [])) (k_fg : T fg = some pg) (n_fg : nsp pg = (0, 256, []))  : Met l y_RG_addProduct w_RG_addProduct ({ frames := 0, cells := 0, slots := 0, locals := 0 } : Room) (va_Pc [.ref h0, .ref sm, .ref f, .ref fg] (pr (en g) g.1 vcl sz ([] ++ pl))) (va_Qv (fun (u : (Sto) × va_W) => (u.1 = F_RG_addProduct_8 ps_ pf pg s ∧ frm (M_RG_addProduct_8 ps_) s u.1 ∧ True) ∧ okn g T u.1 u.2) (po g.1 vcl (va_A ([] ++ pl) sz) (fun (u : (Sto) × va_W) => [] ++ u.2)) (va_A ([] ++ pl) sz)) 0 0 (va_A ([] ++ pl) sz) := by
  refine mc_entry (cc := c_RG_addProduct) (maxL := 6) (ret := none) (by decide) rfl (Nat.le_of_ble_eq_true rfl) ?_
  intro p e s0 m args below meth c ls F hr hlk hnm hsz hP hD hE hA hl
  obtain ⟨hx, hb, hml, hown, hts⟩ := id F
  have hK := hE.1
  generalize va_A ([] ++ pl) sz = A at hD hE hA ⊢
  have hS : va_S A s0.heap s0.heap [] := va_S.rf
  have hl : lv_has ls 6 [(0, .ref h0), (1, .ref sm), (2, .ref f), (3, .ref fg)] := hl
  have hR : F_RG_addProduct_8 ps_ pf pg s = F_RG_addProduct_8 ps_ pf pg s := rfl
  have hF : frm (M_RG_addProduct_8 ps_) s s := frm_rf
  refine lv_aload_n hx hb dRG_addProduct_0 rfl (lv_at hl 0 rfl) ?_
  refine nw_get (C := "LatticeKeys$Ring") (TT := T_RG) (N := 4) hx hb hts (wg_ft i_RG) hown hK hO k_h0 (kn := 22) (ci := 4) (fl := [(1, 8380417), (1, 8), (1, 8347681), (3, 23)]) rfl hP rfl 1 (by decide) (hts _ (wg_t kw_92)) (fun _ h9 => h9) (cd := (1, 8)) rfl dRG_addProduct_1 (fun v21 hv21 => ?_)
  obtain rfl := (show v21 = .int (nI 8) from hv21)
  refine lv_bipush (v := nI 8) hx hb dRG_addProduct_4 (by decide) ?_
  refine mi_ne (tgt := 55) hx hb dRG_addProduct_6 (by decide) (by omega) (by omega) (fun h21 => absurd h21 (by omega)) (fun h21 => ?_)
  refine lv_iconst (v := nI 0) hx hb dRG_addProduct_9 (by decide) ?_
  refine lv_istore (lv' := [(4, .int (nI 0)), (0, .ref h0), (1, .ref sm), (2, .ref f), (3, .ref fg)]) hx hb dRG_addProduct_10 hl (by decide) rfl (fun ls hl => ?_)
  have lp21 : ∀ (n21 : Nat) (i21 : Nat) (s21 : Sto) (pl : va_W) (ls : Array Slot) (H : Heap) (locs : List Loc), n21 + i21 = 256 → frm (M_RG_addProduct_8 ps_) s s21 → F_RG_addProduct_8 ps_ pf pg s = F_RG_addProduct_8_L0 ps_ pf pg n21 i21 s21 → lv_has ls 6 [(4, .int (nI i21)), (0, .ref h0), (1, .ref sm), (2, .ref f), (3, .ref fg)] → okn g T s21 pl → va_P g.1 vcl ([] ++ pl) H → va_D A ([] ++ pl) → va_S A s0.heap H locs → W p l e ({ frames := 0, cells := 0, slots := 0, locals := 0 } : Room) s0 m args below meth c H locs 0 0 (MQ below (va_Qv (fun (u : (Sto) × va_W) => (u.1 = F_RG_addProduct_8 ps_ pf pg s ∧ frm (M_RG_addProduct_8 ps_) s u.1 ∧ True) ∧ okn g T u.1 u.2) (po g.1 vcl A (fun (u : (Sto) × va_W) => [] ++ u.2)) A) args s0 0 0 A) (F0 m 12 ls []) := by
    intro n21
    induction n21 with
    | zero =>
      intro i21 s21 pl ls H locs hm21 hF hR hl hO hP hD hS
      refine lv_iload hx hb dRG_addProduct_12 (lv_at hl 0 rfl) ?_
      refine lv_sipush (v := nI 256) hx hb dRG_addProduct_14 (by decide) ?_
      refine mi_ge (tgt := 54) hx hb dRG_addProduct_17 (by decide) (by omega) (by omega) (fun h22 => ?_) (fun h22 => absurd h22 (by omega))
      exact mp_vret hx hb hr hlk hP hD hS (s21, pl) ⟨⟨hR.symm, hF, trivial⟩, hO⟩ [] rfl rfl rfl (by omega) (by omega) dRG_addProduct_54
    | succ n21 ih21 =>
      intro i21 s21 pl ls H locs hm21 hF hR hl hO hP hD hS
      refine lv_iload hx hb dRG_addProduct_12 (lv_at hl 0 rfl) ?_
      refine lv_sipush (v := nI 256) hx hb dRG_addProduct_14 (by decide) ?_
      refine mi_ge (tgt := 54) hx hb dRG_addProduct_17 (by decide) (by omega) (by omega) (fun h23 => absurd h23 (by omega)) (fun h23 => ?_)
      refine lv_aload_n hx hb dRG_addProduct_20 rfl (lv_at hl 2 rfl) ?_
      refine lv_iload hx hb dRG_addProduct_21 (lv_at hl 0 rfl) ?_
      refine lv_aload_n hx hb dRG_addProduct_23 rfl (lv_at hl 2 rfl) ?_
      refine lv_iload hx hb dRG_addProduct_24 (lv_at hl 0 rfl) ?_
      refine nw_iald hx hb hK hO k_sm (k := ps_) n_sm hP (by omega) (by omega) dRG_addProduct_26 ?_
      refine lv_i2l hx hb dRG_addProduct_27 rfl ?_
      refine lv_aload_n hx hb dRG_addProduct_28 rfl (lv_at hl 3 rfl) ?_
      refine lv_iload hx hb dRG_addProduct_29 (lv_at hl 0 rfl) ?_
      refine nw_iald hx hb hK hO k_f (k := pf) n_f hP (by omega) (by omega) dRG_addProduct_31 ?_
      refine lv_i2l hx hb dRG_addProduct_32 rfl ?_
      refine lv_aload_n hx hb dRG_addProduct_33 rfl (lv_at hl 4 rfl) ?_
      refine lv_iload hx hb dRG_addProduct_34 (lv_at hl 0 rfl) ?_
      refine nw_iald hx hb hK hO k_fg (k := pg) n_fg hP (by omega) (by omega) dRG_addProduct_36 ?_
      refine lv_i2l hx hb dRG_addProduct_37 rfl ?_
      refine lv_lmul hx hb dRG_addProduct_38 ?_
      refine lv_ladd hx hb dRG_addProduct_39 ?_
      refine lv_aload_n hx hb dRG_addProduct_40 rfl (lv_at hl 1 rfl) ?_
      refine nw_get (C := "LatticeKeys$Ring") (TT := T_RG) (N := 4) hx hb hts (wg_ft i_RG) hown hK hO k_h0 (kn := 22) (ci := 4) (fl := [(1, 8380417), (1, 8), (1, 8347681), (3, 23)]) rfl hP rfl 0 (by decide) (hts _ (wg_t kw_91)) (fun _ h9 => h9) (cd := (1, 8380417)) rfl dRG_addProduct_41 (fun v22 hv22 => ?_)
      obtain rfl := (show v22 = .int (nI 8380417) from hv22)
      refine lv_i2l hx hb dRG_addProduct_44 rfl ?_
      refine lv_lrem hx hb dRG_addProduct_45 (by decide) ?_
      refine lv_l2i hx hb dRG_addProduct_46 rfl ?_
      refine nw_iast hx hb hK hO hU k_sm (k := ps_) n_sm hP hD hS (by omega) (by omega) dRG_addProduct_47 (fun s22 pl H locs es21 hO hP hD hS => ?_)
      replace hR := bnd_step hR es21
      have hF := frm_sI hF es21 (by unfold M_RG_addProduct_8; omega)
      refine mi_iinc (k := 0) (x := i21) (d := 1) (y := i21 + 1) (lv' := [(4, .int (nI (i21 + 1))), (0, .ref h0), (1, .ref sm), (2, .ref f), (3, .ref fg)]) hx hb dRG_addProduct_48 hl rfl (by decide) rfl (by decide) rfl (fun ls hl => ?_)
      refine lv_goto (tgt := 12) hx hb dRG_addProduct_51 (by decide) ?_
      exact ih21 (i21 + 1) s22 pl ls H locs (by omega) hF hR (lv_sub hl [0, 1, 2, 3, 4] rfl) hO hP hD hS
  exact lp21 256 0 s pl ls _ _ (by omega) hF hR (lv_sub hl [0, 1, 2, 3, 4] rfl) hO hP hD hS
def M_RG_add_7 (pf : Nat) (k : Nat) : Prop := k = pf ∨ (0 : Nat) = 1
noncomputable def F_RG_add_7_L0 (pf : Nat) (pg : Nat) : Nat → Nat → Sto → Sto
  | 0, i21, s21 => s21
  | n21 + 1, i21, s21 => bnd (((s21.1 pf i21) + (s21.1 pg i21))) fun z21 => if z21 < (nI 3329) then bnd (sI s21 pf i21 z21) fun s22 => F_RG_add_7_L0 pf pg n21 (i21 + 1) s22 else bnd (sI s21 pf i21 (z21 - (nI 3329))) fun s23 => F_RG_add_7_L0 pf pg n21 (i21 + 1) s23
noncomputable def F_RG_add_7 (pf : Nat) (pg : Nat) (s : Sto) : Sto := F_RG_add_7_L0 pf pg 256 0 s
set_option maxHeartbeats 400000 in
set_option maxRecDepth 100000 in
theorem N_RG_add_7 (l : Launch) (g : Gd) (sz : Nat) (T : TyN) (s : Sto) (pl : va_W) (hO : okn g T s pl) (hU : inj T) (h0 f fg : Nat) (pf : Nat) (pg : Nat) (k_h0 : T h0 = some 20) (k_f : T f = some pf) (n_f : nsp pf = (0, 256, [])) (k_fg : T fg = some pg) (n_fg : nsp pg = (0, 256, []))  : Met l y_RG_add w_RG_add ({ frames := 0, cells := 0, slots := 0, locals := 0 } : Room) (va_Pc [.ref h0, .ref f, .ref fg] (pr (en g) g.1 vcl sz ([] ++ pl))) (va_Qv (fun (u : (Sto) × va_W) => (u.1 = F_RG_add_7 pf pg s ∧ frm (M_RG_add_7 pf) s u.1 ∧ True) ∧ okn g T u.1 u.2) (po g.1 vcl (va_A ([] ++ pl) sz) (fun (u : (Sto) × va_W) => [] ++ u.2)) (va_A ([] ++ pl) sz)) 0 0 (va_A ([] ++ pl) sz) := by
  refine mc_entry (cc := c_RG_add) (maxL := 5) (ret := none) (by decide) rfl (Nat.le_of_ble_eq_true rfl) ?_
  intro p e s0 m args below meth c ls F hr hlk hnm hsz hP hD hE hA hl
  obtain ⟨hx, hb, hml, hown, hts⟩ := id F
  have hK := hE.1
  generalize va_A ([] ++ pl) sz = A at hD hE hA ⊢
  have hS : va_S A s0.heap s0.heap [] := va_S.rf
  have hl : lv_has ls 5 [(0, .ref h0), (1, .ref f), (2, .ref fg)] := hl
  have hR : F_RG_add_7 pf pg s = F_RG_add_7 pf pg s := rfl
  have hF : frm (M_RG_add_7 pf) s s := frm_rf
  refine lv_iconst (v := nI 0) hx hb dRG_add_0 (by decide) ?_
  refine lv_istore_n (lv' := [(3, .int (nI 0)), (0, .ref h0), (1, .ref f), (2, .ref fg)]) hx hb dRG_add_1 rfl hl (by decide) rfl (fun ls hl => ?_)
  have lp21 : ∀ (n21 : Nat) (i21 : Nat) (s21 : Sto) (pl : va_W) (ls : Array Slot) (H : Heap) (locs : List Loc), n21 + i21 = 256 → frm (M_RG_add_7 pf) s s21 → F_RG_add_7 pf pg s = F_RG_add_7_L0 pf pg n21 i21 s21 → lv_has ls 5 [(3, .int (nI i21)), (0, .ref h0), (1, .ref f), (2, .ref fg)] → okn g T s21 pl → va_P g.1 vcl ([] ++ pl) H → va_D A ([] ++ pl) → va_S A s0.heap H locs → W p l e ({ frames := 0, cells := 0, slots := 0, locals := 0 } : Room) s0 m args below meth c H locs 0 0 (MQ below (va_Qv (fun (u : (Sto) × va_W) => (u.1 = F_RG_add_7 pf pg s ∧ frm (M_RG_add_7 pf) s u.1 ∧ True) ∧ okn g T u.1 u.2) (po g.1 vcl A (fun (u : (Sto) × va_W) => [] ++ u.2)) A) args s0 0 0 A) (F0 m 2 ls []) := by
    intro n21
    induction n21 with
    | zero =>
      intro i21 s21 pl ls H locs hm21 hF hR hl hO hP hD hS
      refine lv_iload_n hx hb dRG_add_2 rfl (lv_at hl 0 rfl) ?_
      refine lv_sipush (v := nI 256) hx hb dRG_add_3 (by decide) ?_
      refine mi_ge (tgt := 48) hx hb dRG_add_6 (by decide) (by omega) (by omega) (fun h21 => ?_) (fun h21 => absurd h21 (by omega))
      exact mp_vret hx hb hr hlk hP hD hS (s21, pl) ⟨⟨hR.symm, hF, trivial⟩, hO⟩ [] rfl rfl rfl (by omega) (by omega) dRG_add_48
    | succ n21 ih21 =>
      intro i21 s21 pl ls H locs hm21 hF hR hl hO hP hD hS
      refine lv_iload_n hx hb dRG_add_2 rfl (lv_at hl 0 rfl) ?_
      refine lv_sipush (v := nI 256) hx hb dRG_add_3 (by decide) ?_
      refine mi_ge (tgt := 48) hx hb dRG_add_6 (by decide) (by omega) (by omega) (fun h22 => absurd h22 (by omega)) (fun h22 => ?_)
      refine lv_aload_n hx hb dRG_add_9 rfl (lv_at hl 2 rfl) ?_
      refine lv_iload_n hx hb dRG_add_10 rfl (lv_at hl 0 rfl) ?_
      refine nw_iald hx hb hK hO k_f (k := pf) n_f hP (by omega) (by omega) dRG_add_11 ?_
      refine lv_aload_n hx hb dRG_add_12 rfl (lv_at hl 3 rfl) ?_
      refine lv_iload_n hx hb dRG_add_13 rfl (lv_at hl 0 rfl) ?_
      refine nw_iald hx hb hK hO k_fg (k := pg) n_fg hP (by omega) (by omega) dRG_add_14 ?_
      refine lv_iadd hx hb dRG_add_15 ?_
      refine mi_eqv (fun z21 ez21 => ?_)
      replace hR := bnd_step hR ez21
      refine lv_istore (lv' := [(4, .int z21), (3, .int (nI i21)), (0, .ref h0), (1, .ref f), (2, .ref fg)]) hx hb dRG_add_16 hl (by decide) rfl (fun ls hl => ?_)
      refine lv_aload_n hx hb dRG_add_18 rfl (lv_at hl 3 rfl) ?_
      refine lv_iload_n hx hb dRG_add_19 rfl (lv_at hl 1 rfl) ?_
      refine lv_iload hx hb dRG_add_20 (lv_at hl 0 rfl) ?_
      refine lv_aload_n hx hb dRG_add_22 rfl (lv_at hl 2 rfl) ?_
      refine nw_get (C := "LatticeKeys$Ring") (TT := T_RG) (N := 4) hx hb hts (wg_ft i_RG) hown hK hO k_h0 (kn := 20) (ci := 4) (fl := [(1, 3329), (1, 7), (1, 3303), (3, 21)]) rfl hP rfl 0 (by decide) (hts _ (wg_t kw_91)) (fun _ h9 => h9) (cd := (1, 3329)) rfl dRG_add_23 (fun v21 hv21 => ?_)
      obtain rfl := (show v21 = .int (nI 3329) from hv21)
      refine lv_icmp_lt (tgt := 39) hx hb dRG_add_26 (by decide) (fun h23 => ?_) (fun h23 => ?_)
      · replace hR := hR.trans (if_pos h23)
        refine lv_iload hx hb dRG_add_39 (lv_at hl 0 rfl) ?_
        refine nw_iast hx hb hK hO hU k_f (k := pf) n_f hP hD hS (by omega) (by omega) dRG_add_41 (fun s22 pl H locs es21 hO hP hD hS => ?_)
        replace hR := bnd_step hR es21
        have hF := frm_sI hF es21 (by unfold M_RG_add_7; omega)
        refine mi_iinc (k := 1) (x := i21) (d := 1) (y := i21 + 1) (lv' := [(3, .int (nI (i21 + 1))), (4, .int z21), (0, .ref h0), (1, .ref f), (2, .ref fg)]) hx hb dRG_add_42 hl rfl (by decide) rfl (by decide) rfl (fun ls hl => ?_)
        refine lv_goto (tgt := 2) hx hb dRG_add_45 (by decide) ?_
        exact ih21 (i21 + 1) s22 pl ls H locs (by omega) hF hR (lv_sub hl [0, 2, 3, 4] rfl) hO hP hD hS
      · replace hR := hR.trans (if_neg h23)
        refine lv_iload hx hb dRG_add_29 (lv_at hl 0 rfl) ?_
        refine lv_aload_n hx hb dRG_add_31 rfl (lv_at hl 2 rfl) ?_
        refine nw_get (C := "LatticeKeys$Ring") (TT := T_RG) (N := 4) hx hb hts (wg_ft i_RG) hown hK hO k_h0 (kn := 20) (ci := 4) (fl := [(1, 3329), (1, 7), (1, 3303), (3, 21)]) rfl hP rfl 0 (by decide) (hts _ (wg_t kw_91)) (fun _ h9 => h9) (cd := (1, 3329)) rfl dRG_add_32 (fun v22 hv22 => ?_)
        obtain rfl := (show v22 = .int (nI 3329) from hv22)
        refine lv_isub hx hb dRG_add_35 ?_
        refine lv_goto (tgt := 41) hx hb dRG_add_36 (by decide) ?_
        refine nw_iast hx hb hK hO hU k_f (k := pf) n_f hP hD hS (by omega) (by omega) dRG_add_41 (fun s23 pl H locs es22 hO hP hD hS => ?_)
        replace hR := bnd_step hR es22
        have hF := frm_sI hF es22 (by unfold M_RG_add_7; omega)
        refine mi_iinc (k := 1) (x := i21) (d := 1) (y := i21 + 1) (lv' := [(3, .int (nI (i21 + 1))), (4, .int z21), (0, .ref h0), (1, .ref f), (2, .ref fg)]) hx hb dRG_add_42 hl rfl (by decide) rfl (by decide) rfl (fun ls hl => ?_)
        refine lv_goto (tgt := 2) hx hb dRG_add_45 (by decide) ?_
        exact ih21 (i21 + 1) s23 pl ls H locs (by omega) hF hR (lv_sub hl [0, 2, 3, 4] rfl) hO hP hD hS
  exact lp21 256 0 s pl ls _ _ (by omega) hF hR (lv_sub hl [0, 1, 2, 3] rfl) hO hP hD hS
def M_RG_add_8 (pf : Nat) (k : Nat) : Prop := k = pf ∨ (0 : Nat) = 1
noncomputable def F_RG_add_8_L0 (pf : Nat) (pg : Nat) : Nat → Nat → Sto → Sto
  | 0, i21, s21 => s21
  | n21 + 1, i21, s21 => bnd (((s21.1 pf i21) + (s21.1 pg i21))) fun z21 => if z21 < (nI 8380417) then bnd (sI s21 pf i21 z21) fun s22 => F_RG_add_8_L0 pf pg n21 (i21 + 1) s22 else bnd (sI s21 pf i21 (z21 - (nI 8380417))) fun s23 => F_RG_add_8_L0 pf pg n21 (i21 + 1) s23
noncomputable def F_RG_add_8 (pf : Nat) (pg : Nat) (s : Sto) : Sto := F_RG_add_8_L0 pf pg 256 0 s
set_option maxHeartbeats 400000 in
set_option maxRecDepth 100000 in
theorem N_RG_add_8 (l : Launch) (g : Gd) (sz : Nat) (T : TyN) (s : Sto) (pl : va_W) (hO : okn g T s pl) (hU : inj T) (h0 f fg : Nat) (pf : Nat) (pg : Nat) (k_h0 : T h0 = some 22) (k_f : T f = some pf) (n_f : nsp pf = (0, 256, [])) (k_fg : T fg = some pg) (n_fg : nsp pg = (0, 256, []))  : Met l y_RG_add w_RG_add ({ frames := 0, cells := 0, slots := 0, locals := 0 } : Room) (va_Pc [.ref h0, .ref f, .ref fg] (pr (en g) g.1 vcl sz ([] ++ pl))) (va_Qv (fun (u : (Sto) × va_W) => (u.1 = F_RG_add_8 pf pg s ∧ frm (M_RG_add_8 pf) s u.1 ∧ True) ∧ okn g T u.1 u.2) (po g.1 vcl (va_A ([] ++ pl) sz) (fun (u : (Sto) × va_W) => [] ++ u.2)) (va_A ([] ++ pl) sz)) 0 0 (va_A ([] ++ pl) sz) := by
  refine mc_entry (cc := c_RG_add) (maxL := 5) (ret := none) (by decide) rfl (Nat.le_of_ble_eq_true rfl) ?_
  intro p e s0 m args below meth c ls F hr hlk hnm hsz hP hD hE hA hl
  obtain ⟨hx, hb, hml, hown, hts⟩ := id F
  have hK := hE.1
  generalize va_A ([] ++ pl) sz = A at hD hE hA ⊢
  have hS : va_S A s0.heap s0.heap [] := va_S.rf
  have hl : lv_has ls 5 [(0, .ref h0), (1, .ref f), (2, .ref fg)] := hl
  have hR : F_RG_add_8 pf pg s = F_RG_add_8 pf pg s := rfl
  have hF : frm (M_RG_add_8 pf) s s := frm_rf
  refine lv_iconst (v := nI 0) hx hb dRG_add_0 (by decide) ?_
  refine lv_istore_n (lv' := [(3, .int (nI 0)), (0, .ref h0), (1, .ref f), (2, .ref fg)]) hx hb dRG_add_1 rfl hl (by decide) rfl (fun ls hl => ?_)
  have lp21 : ∀ (n21 : Nat) (i21 : Nat) (s21 : Sto) (pl : va_W) (ls : Array Slot) (H : Heap) (locs : List Loc), n21 + i21 = 256 → frm (M_RG_add_8 pf) s s21 → F_RG_add_8 pf pg s = F_RG_add_8_L0 pf pg n21 i21 s21 → lv_has ls 5 [(3, .int (nI i21)), (0, .ref h0), (1, .ref f), (2, .ref fg)] → okn g T s21 pl → va_P g.1 vcl ([] ++ pl) H → va_D A ([] ++ pl) → va_S A s0.heap H locs → W p l e ({ frames := 0, cells := 0, slots := 0, locals := 0 } : Room) s0 m args below meth c H locs 0 0 (MQ below (va_Qv (fun (u : (Sto) × va_W) => (u.1 = F_RG_add_8 pf pg s ∧ frm (M_RG_add_8 pf) s u.1 ∧ True) ∧ okn g T u.1 u.2) (po g.1 vcl A (fun (u : (Sto) × va_W) => [] ++ u.2)) A) args s0 0 0 A) (F0 m 2 ls []) := by
    intro n21
    induction n21 with
    | zero =>
      intro i21 s21 pl ls H locs hm21 hF hR hl hO hP hD hS
      refine lv_iload_n hx hb dRG_add_2 rfl (lv_at hl 0 rfl) ?_
      refine lv_sipush (v := nI 256) hx hb dRG_add_3 (by decide) ?_
      refine mi_ge (tgt := 48) hx hb dRG_add_6 (by decide) (by omega) (by omega) (fun h21 => ?_) (fun h21 => absurd h21 (by omega))
      exact mp_vret hx hb hr hlk hP hD hS (s21, pl) ⟨⟨hR.symm, hF, trivial⟩, hO⟩ [] rfl rfl rfl (by omega) (by omega) dRG_add_48
    | succ n21 ih21 =>
      intro i21 s21 pl ls H locs hm21 hF hR hl hO hP hD hS
      refine lv_iload_n hx hb dRG_add_2 rfl (lv_at hl 0 rfl) ?_
      refine lv_sipush (v := nI 256) hx hb dRG_add_3 (by decide) ?_
      refine mi_ge (tgt := 48) hx hb dRG_add_6 (by decide) (by omega) (by omega) (fun h22 => absurd h22 (by omega)) (fun h22 => ?_)
      refine lv_aload_n hx hb dRG_add_9 rfl (lv_at hl 2 rfl) ?_
      refine lv_iload_n hx hb dRG_add_10 rfl (lv_at hl 0 rfl) ?_
      refine nw_iald hx hb hK hO k_f (k := pf) n_f hP (by omega) (by omega) dRG_add_11 ?_
      refine lv_aload_n hx hb dRG_add_12 rfl (lv_at hl 3 rfl) ?_
      refine lv_iload_n hx hb dRG_add_13 rfl (lv_at hl 0 rfl) ?_
      refine nw_iald hx hb hK hO k_fg (k := pg) n_fg hP (by omega) (by omega) dRG_add_14 ?_
      refine lv_iadd hx hb dRG_add_15 ?_
      refine mi_eqv (fun z21 ez21 => ?_)
      replace hR := bnd_step hR ez21
      refine lv_istore (lv' := [(4, .int z21), (3, .int (nI i21)), (0, .ref h0), (1, .ref f), (2, .ref fg)]) hx hb dRG_add_16 hl (by decide) rfl (fun ls hl => ?_)
      refine lv_aload_n hx hb dRG_add_18 rfl (lv_at hl 3 rfl) ?_
      refine lv_iload_n hx hb dRG_add_19 rfl (lv_at hl 1 rfl) ?_
      refine lv_iload hx hb dRG_add_20 (lv_at hl 0 rfl) ?_
      refine lv_aload_n hx hb dRG_add_22 rfl (lv_at hl 2 rfl) ?_
      refine nw_get (C := "LatticeKeys$Ring") (TT := T_RG) (N := 4) hx hb hts (wg_ft i_RG) hown hK hO k_h0 (kn := 22) (ci := 4) (fl := [(1, 8380417), (1, 8), (1, 8347681), (3, 23)]) rfl hP rfl 0 (by decide) (hts _ (wg_t kw_91)) (fun _ h9 => h9) (cd := (1, 8380417)) rfl dRG_add_23 (fun v21 hv21 => ?_)
      obtain rfl := (show v21 = .int (nI 8380417) from hv21)
      refine lv_icmp_lt (tgt := 39) hx hb dRG_add_26 (by decide) (fun h23 => ?_) (fun h23 => ?_)
      · replace hR := hR.trans (if_pos h23)
        refine lv_iload hx hb dRG_add_39 (lv_at hl 0 rfl) ?_
        refine nw_iast hx hb hK hO hU k_f (k := pf) n_f hP hD hS (by omega) (by omega) dRG_add_41 (fun s22 pl H locs es21 hO hP hD hS => ?_)
        replace hR := bnd_step hR es21
        have hF := frm_sI hF es21 (by unfold M_RG_add_8; omega)
        refine mi_iinc (k := 1) (x := i21) (d := 1) (y := i21 + 1) (lv' := [(3, .int (nI (i21 + 1))), (4, .int z21), (0, .ref h0), (1, .ref f), (2, .ref fg)]) hx hb dRG_add_42 hl rfl (by decide) rfl (by decide) rfl (fun ls hl => ?_)
        refine lv_goto (tgt := 2) hx hb dRG_add_45 (by decide) ?_
        exact ih21 (i21 + 1) s22 pl ls H locs (by omega) hF hR (lv_sub hl [0, 2, 3, 4] rfl) hO hP hD hS
      · replace hR := hR.trans (if_neg h23)
        refine lv_iload hx hb dRG_add_29 (lv_at hl 0 rfl) ?_
        refine lv_aload_n hx hb dRG_add_31 rfl (lv_at hl 2 rfl) ?_
        refine nw_get (C := "LatticeKeys$Ring") (TT := T_RG) (N := 4) hx hb hts (wg_ft i_RG) hown hK hO k_h0 (kn := 22) (ci := 4) (fl := [(1, 8380417), (1, 8), (1, 8347681), (3, 23)]) rfl hP rfl 0 (by decide) (hts _ (wg_t kw_91)) (fun _ h9 => h9) (cd := (1, 8380417)) rfl dRG_add_32 (fun v22 hv22 => ?_)
        obtain rfl := (show v22 = .int (nI 8380417) from hv22)
        refine lv_isub hx hb dRG_add_35 ?_
        refine lv_goto (tgt := 41) hx hb dRG_add_36 (by decide) ?_
        refine nw_iast hx hb hK hO hU k_f (k := pf) n_f hP hD hS (by omega) (by omega) dRG_add_41 (fun s23 pl H locs es22 hO hP hD hS => ?_)
        replace hR := bnd_step hR es22
        have hF := frm_sI hF es22 (by unfold M_RG_add_8; omega)
        refine mi_iinc (k := 1) (x := i21) (d := 1) (y := i21 + 1) (lv' := [(3, .int (nI (i21 + 1))), (4, .int z21), (0, .ref h0), (1, .ref f), (2, .ref fg)]) hx hb dRG_add_42 hl rfl (by decide) rfl (by decide) rfl (fun ls hl => ?_)
        refine lv_goto (tgt := 2) hx hb dRG_add_45 (by decide) ?_
        exact ih21 (i21 + 1) s23 pl ls H locs (by omega) hF hR (lv_sub hl [0, 2, 3, 4] rfl) hO hP hD hS
  exact lp21 256 0 s pl ls _ _ (by omega) hF hR (lv_sub hl [0, 1, 2, 3] rfl) hO hP hD hS
def M_RG_subtract_7 (pf : Nat) (k : Nat) : Prop := k = pf ∨ (0 : Nat) = 1
noncomputable def F_RG_subtract_7_L0 (pf : Nat) (pg : Nat) : Nat → Nat → Sto → Sto
  | 0, i21, s21 => s21
  | n21 + 1, i21, s21 => bnd (((s21.1 pf i21) - (s21.1 pg i21))) fun z21 => if 0 ≤ z21 then bnd (sI s21 pf i21 z21) fun s22 => F_RG_subtract_7_L0 pf pg n21 (i21 + 1) s22 else bnd (sI s21 pf i21 (z21 + (nI 3329))) fun s23 => F_RG_subtract_7_L0 pf pg n21 (i21 + 1) s23
noncomputable def F_RG_subtract_7 (pf : Nat) (pg : Nat) (s : Sto) : Sto := F_RG_subtract_7_L0 pf pg 256 0 s
set_option maxHeartbeats 400000 in
set_option maxRecDepth 100000 in
theorem N_RG_subtract_7 (l : Launch) (g : Gd) (sz : Nat) (T : TyN) (s : Sto) (pl : va_W) (hO : okn g T s pl) (hU : inj T) (h0 f fg : Nat) (pf : Nat) (pg : Nat) (k_h0 : T h0 = some 20) (k_f : T f = some pf) (n_f : nsp pf = (0, 256, [])) (k_fg : T fg = some pg) (n_fg : nsp pg = (0, 256, []))  : Met l y_RG_subtract w_RG_subtract ({ frames := 0, cells := 0, slots := 0, locals := 0 } : Room) (va_Pc [.ref h0, .ref f, .ref fg] (pr (en g) g.1 vcl sz ([] ++ pl))) (va_Qv (fun (u : (Sto) × va_W) => (u.1 = F_RG_subtract_7 pf pg s ∧ frm (M_RG_subtract_7 pf) s u.1 ∧ True) ∧ okn g T u.1 u.2) (po g.1 vcl (va_A ([] ++ pl) sz) (fun (u : (Sto) × va_W) => [] ++ u.2)) (va_A ([] ++ pl) sz)) 0 0 (va_A ([] ++ pl) sz) := by
  refine mc_entry (cc := c_RG_subtract) (maxL := 5) (ret := none) (by decide) rfl (Nat.le_of_ble_eq_true rfl) ?_
  intro p e s0 m args below meth c ls F hr hlk hnm hsz hP hD hE hA hl
  obtain ⟨hx, hb, hml, hown, hts⟩ := id F
  have hK := hE.1
  generalize va_A ([] ++ pl) sz = A at hD hE hA ⊢
  have hS : va_S A s0.heap s0.heap [] := va_S.rf
  have hl : lv_has ls 5 [(0, .ref h0), (1, .ref f), (2, .ref fg)] := hl
  have hR : F_RG_subtract_7 pf pg s = F_RG_subtract_7 pf pg s := rfl
  have hF : frm (M_RG_subtract_7 pf) s s := frm_rf
  refine lv_iconst (v := nI 0) hx hb dRG_subtract_0 (by decide) ?_
  refine lv_istore_n (lv' := [(3, .int (nI 0)), (0, .ref h0), (1, .ref f), (2, .ref fg)]) hx hb dRG_subtract_1 rfl hl (by decide) rfl (fun ls hl => ?_)
  have lp21 : ∀ (n21 : Nat) (i21 : Nat) (s21 : Sto) (pl : va_W) (ls : Array Slot) (H : Heap) (locs : List Loc), n21 + i21 = 256 → frm (M_RG_subtract_7 pf) s s21 → F_RG_subtract_7 pf pg s = F_RG_subtract_7_L0 pf pg n21 i21 s21 → lv_has ls 5 [(3, .int (nI i21)), (0, .ref h0), (1, .ref f), (2, .ref fg)] → okn g T s21 pl → va_P g.1 vcl ([] ++ pl) H → va_D A ([] ++ pl) → va_S A s0.heap H locs → W p l e ({ frames := 0, cells := 0, slots := 0, locals := 0 } : Room) s0 m args below meth c H locs 0 0 (MQ below (va_Qv (fun (u : (Sto) × va_W) => (u.1 = F_RG_subtract_7 pf pg s ∧ frm (M_RG_subtract_7 pf) s u.1 ∧ True) ∧ okn g T u.1 u.2) (po g.1 vcl A (fun (u : (Sto) × va_W) => [] ++ u.2)) A) args s0 0 0 A) (F0 m 2 ls []) := by
    intro n21
    induction n21 with
    | zero =>
      intro i21 s21 pl ls H locs hm21 hF hR hl hO hP hD hS
      refine lv_iload_n hx hb dRG_subtract_2 rfl (lv_at hl 0 rfl) ?_
      refine lv_sipush (v := nI 256) hx hb dRG_subtract_3 (by decide) ?_
      refine mi_ge (tgt := 44) hx hb dRG_subtract_6 (by decide) (by omega) (by omega) (fun h21 => ?_) (fun h21 => absurd h21 (by omega))
      exact mp_vret hx hb hr hlk hP hD hS (s21, pl) ⟨⟨hR.symm, hF, trivial⟩, hO⟩ [] rfl rfl rfl (by omega) (by omega) dRG_subtract_44
    | succ n21 ih21 =>
      intro i21 s21 pl ls H locs hm21 hF hR hl hO hP hD hS
      refine lv_iload_n hx hb dRG_subtract_2 rfl (lv_at hl 0 rfl) ?_
      refine lv_sipush (v := nI 256) hx hb dRG_subtract_3 (by decide) ?_
      refine mi_ge (tgt := 44) hx hb dRG_subtract_6 (by decide) (by omega) (by omega) (fun h22 => absurd h22 (by omega)) (fun h22 => ?_)
      refine lv_aload_n hx hb dRG_subtract_9 rfl (lv_at hl 2 rfl) ?_
      refine lv_iload_n hx hb dRG_subtract_10 rfl (lv_at hl 0 rfl) ?_
      refine nw_iald hx hb hK hO k_f (k := pf) n_f hP (by omega) (by omega) dRG_subtract_11 ?_
      refine lv_aload_n hx hb dRG_subtract_12 rfl (lv_at hl 3 rfl) ?_
      refine lv_iload_n hx hb dRG_subtract_13 rfl (lv_at hl 0 rfl) ?_
      refine nw_iald hx hb hK hO k_fg (k := pg) n_fg hP (by omega) (by omega) dRG_subtract_14 ?_
      refine lv_isub hx hb dRG_subtract_15 ?_
      refine mi_eqv (fun z21 ez21 => ?_)
      replace hR := bnd_step hR ez21
      refine lv_istore (lv' := [(4, .int z21), (3, .int (nI i21)), (0, .ref h0), (1, .ref f), (2, .ref fg)]) hx hb dRG_subtract_16 hl (by decide) rfl (fun ls hl => ?_)
      refine lv_aload_n hx hb dRG_subtract_18 rfl (lv_at hl 3 rfl) ?_
      refine lv_iload_n hx hb dRG_subtract_19 rfl (lv_at hl 1 rfl) ?_
      refine lv_iload hx hb dRG_subtract_20 (lv_at hl 0 rfl) ?_
      refine lv_if_ge (tgt := 35) hx hb dRG_subtract_22 (by decide) (fun h23 => ?_) (fun h23 => ?_)
      · replace hR := hR.trans (if_pos h23)
        refine lv_iload hx hb dRG_subtract_35 (lv_at hl 0 rfl) ?_
        refine nw_iast hx hb hK hO hU k_f (k := pf) n_f hP hD hS (by omega) (by omega) dRG_subtract_37 (fun s22 pl H locs es21 hO hP hD hS => ?_)
        replace hR := bnd_step hR es21
        have hF := frm_sI hF es21 (by unfold M_RG_subtract_7; omega)
        refine mi_iinc (k := 1) (x := i21) (d := 1) (y := i21 + 1) (lv' := [(3, .int (nI (i21 + 1))), (4, .int z21), (0, .ref h0), (1, .ref f), (2, .ref fg)]) hx hb dRG_subtract_38 hl rfl (by decide) rfl (by decide) rfl (fun ls hl => ?_)
        refine lv_goto (tgt := 2) hx hb dRG_subtract_41 (by decide) ?_
        exact ih21 (i21 + 1) s22 pl ls H locs (by omega) hF hR (lv_sub hl [0, 2, 3, 4] rfl) hO hP hD hS
      · replace hR := hR.trans (if_neg h23)
        refine lv_iload hx hb dRG_subtract_25 (lv_at hl 0 rfl) ?_
        refine lv_aload_n hx hb dRG_subtract_27 rfl (lv_at hl 2 rfl) ?_
        refine nw_get (C := "LatticeKeys$Ring") (TT := T_RG) (N := 4) hx hb hts (wg_ft i_RG) hown hK hO k_h0 (kn := 20) (ci := 4) (fl := [(1, 3329), (1, 7), (1, 3303), (3, 21)]) rfl hP rfl 0 (by decide) (hts _ (wg_t kw_91)) (fun _ h9 => h9) (cd := (1, 3329)) rfl dRG_subtract_28 (fun v21 hv21 => ?_)
        obtain rfl := (show v21 = .int (nI 3329) from hv21)
        refine lv_iadd hx hb dRG_subtract_31 ?_
        refine lv_goto (tgt := 37) hx hb dRG_subtract_32 (by decide) ?_
        refine nw_iast hx hb hK hO hU k_f (k := pf) n_f hP hD hS (by omega) (by omega) dRG_subtract_37 (fun s23 pl H locs es22 hO hP hD hS => ?_)
        replace hR := bnd_step hR es22
        have hF := frm_sI hF es22 (by unfold M_RG_subtract_7; omega)
        refine mi_iinc (k := 1) (x := i21) (d := 1) (y := i21 + 1) (lv' := [(3, .int (nI (i21 + 1))), (4, .int z21), (0, .ref h0), (1, .ref f), (2, .ref fg)]) hx hb dRG_subtract_38 hl rfl (by decide) rfl (by decide) rfl (fun ls hl => ?_)
        refine lv_goto (tgt := 2) hx hb dRG_subtract_41 (by decide) ?_
        exact ih21 (i21 + 1) s23 pl ls H locs (by omega) hF hR (lv_sub hl [0, 2, 3, 4] rfl) hO hP hD hS
  exact lp21 256 0 s pl ls _ _ (by omega) hF hR (lv_sub hl [0, 1, 2, 3] rfl) hO hP hD hS
def M_RG_subtract_8 (pf : Nat) (k : Nat) : Prop := k = pf ∨ (0 : Nat) = 1
noncomputable def F_RG_subtract_8_L0 (pf : Nat) (pg : Nat) : Nat → Nat → Sto → Sto
  | 0, i21, s21 => s21
  | n21 + 1, i21, s21 => bnd (((s21.1 pf i21) - (s21.1 pg i21))) fun z21 => if 0 ≤ z21 then bnd (sI s21 pf i21 z21) fun s22 => F_RG_subtract_8_L0 pf pg n21 (i21 + 1) s22 else bnd (sI s21 pf i21 (z21 + (nI 8380417))) fun s23 => F_RG_subtract_8_L0 pf pg n21 (i21 + 1) s23
noncomputable def F_RG_subtract_8 (pf : Nat) (pg : Nat) (s : Sto) : Sto := F_RG_subtract_8_L0 pf pg 256 0 s
set_option maxHeartbeats 400000 in
set_option maxRecDepth 100000 in
theorem N_RG_subtract_8 (l : Launch) (g : Gd) (sz : Nat) (T : TyN) (s : Sto) (pl : va_W) (hO : okn g T s pl) (hU : inj T) (h0 f fg : Nat) (pf : Nat) (pg : Nat) (k_h0 : T h0 = some 22) (k_f : T f = some pf) (n_f : nsp pf = (0, 256, [])) (k_fg : T fg = some pg) (n_fg : nsp pg = (0, 256, []))  : Met l y_RG_subtract w_RG_subtract ({ frames := 0, cells := 0, slots := 0, locals := 0 } : Room) (va_Pc [.ref h0, .ref f, .ref fg] (pr (en g) g.1 vcl sz ([] ++ pl))) (va_Qv (fun (u : (Sto) × va_W) => (u.1 = F_RG_subtract_8 pf pg s ∧ frm (M_RG_subtract_8 pf) s u.1 ∧ True) ∧ okn g T u.1 u.2) (po g.1 vcl (va_A ([] ++ pl) sz) (fun (u : (Sto) × va_W) => [] ++ u.2)) (va_A ([] ++ pl) sz)) 0 0 (va_A ([] ++ pl) sz) := by
  refine mc_entry (cc := c_RG_subtract) (maxL := 5) (ret := none) (by decide) rfl (Nat.le_of_ble_eq_true rfl) ?_
  intro p e s0 m args below meth c ls F hr hlk hnm hsz hP hD hE hA hl
  obtain ⟨hx, hb, hml, hown, hts⟩ := id F
  have hK := hE.1
  generalize va_A ([] ++ pl) sz = A at hD hE hA ⊢
  have hS : va_S A s0.heap s0.heap [] := va_S.rf
  have hl : lv_has ls 5 [(0, .ref h0), (1, .ref f), (2, .ref fg)] := hl
  have hR : F_RG_subtract_8 pf pg s = F_RG_subtract_8 pf pg s := rfl
  have hF : frm (M_RG_subtract_8 pf) s s := frm_rf
  refine lv_iconst (v := nI 0) hx hb dRG_subtract_0 (by decide) ?_
  refine lv_istore_n (lv' := [(3, .int (nI 0)), (0, .ref h0), (1, .ref f), (2, .ref fg)]) hx hb dRG_subtract_1 rfl hl (by decide) rfl (fun ls hl => ?_)
  have lp21 : ∀ (n21 : Nat) (i21 : Nat) (s21 : Sto) (pl : va_W) (ls : Array Slot) (H : Heap) (locs : List Loc), n21 + i21 = 256 → frm (M_RG_subtract_8 pf) s s21 → F_RG_subtract_8 pf pg s = F_RG_subtract_8_L0 pf pg n21 i21 s21 → lv_has ls 5 [(3, .int (nI i21)), (0, .ref h0), (1, .ref f), (2, .ref fg)] → okn g T s21 pl → va_P g.1 vcl ([] ++ pl) H → va_D A ([] ++ pl) → va_S A s0.heap H locs → W p l e ({ frames := 0, cells := 0, slots := 0, locals := 0 } : Room) s0 m args below meth c H locs 0 0 (MQ below (va_Qv (fun (u : (Sto) × va_W) => (u.1 = F_RG_subtract_8 pf pg s ∧ frm (M_RG_subtract_8 pf) s u.1 ∧ True) ∧ okn g T u.1 u.2) (po g.1 vcl A (fun (u : (Sto) × va_W) => [] ++ u.2)) A) args s0 0 0 A) (F0 m 2 ls []) := by
    intro n21
    induction n21 with
    | zero =>
      intro i21 s21 pl ls H locs hm21 hF hR hl hO hP hD hS
      refine lv_iload_n hx hb dRG_subtract_2 rfl (lv_at hl 0 rfl) ?_
      refine lv_sipush (v := nI 256) hx hb dRG_subtract_3 (by decide) ?_
      refine mi_ge (tgt := 44) hx hb dRG_subtract_6 (by decide) (by omega) (by omega) (fun h21 => ?_) (fun h21 => absurd h21 (by omega))
      exact mp_vret hx hb hr hlk hP hD hS (s21, pl) ⟨⟨hR.symm, hF, trivial⟩, hO⟩ [] rfl rfl rfl (by omega) (by omega) dRG_subtract_44
    | succ n21 ih21 =>
      intro i21 s21 pl ls H locs hm21 hF hR hl hO hP hD hS
      refine lv_iload_n hx hb dRG_subtract_2 rfl (lv_at hl 0 rfl) ?_
      refine lv_sipush (v := nI 256) hx hb dRG_subtract_3 (by decide) ?_
      refine mi_ge (tgt := 44) hx hb dRG_subtract_6 (by decide) (by omega) (by omega) (fun h22 => absurd h22 (by omega)) (fun h22 => ?_)
      refine lv_aload_n hx hb dRG_subtract_9 rfl (lv_at hl 2 rfl) ?_
      refine lv_iload_n hx hb dRG_subtract_10 rfl (lv_at hl 0 rfl) ?_
      refine nw_iald hx hb hK hO k_f (k := pf) n_f hP (by omega) (by omega) dRG_subtract_11 ?_
      refine lv_aload_n hx hb dRG_subtract_12 rfl (lv_at hl 3 rfl) ?_
      refine lv_iload_n hx hb dRG_subtract_13 rfl (lv_at hl 0 rfl) ?_
      refine nw_iald hx hb hK hO k_fg (k := pg) n_fg hP (by omega) (by omega) dRG_subtract_14 ?_
      refine lv_isub hx hb dRG_subtract_15 ?_
      refine mi_eqv (fun z21 ez21 => ?_)
      replace hR := bnd_step hR ez21
      refine lv_istore (lv' := [(4, .int z21), (3, .int (nI i21)), (0, .ref h0), (1, .ref f), (2, .ref fg)]) hx hb dRG_subtract_16 hl (by decide) rfl (fun ls hl => ?_)
      refine lv_aload_n hx hb dRG_subtract_18 rfl (lv_at hl 3 rfl) ?_
      refine lv_iload_n hx hb dRG_subtract_19 rfl (lv_at hl 1 rfl) ?_
      refine lv_iload hx hb dRG_subtract_20 (lv_at hl 0 rfl) ?_
      refine lv_if_ge (tgt := 35) hx hb dRG_subtract_22 (by decide) (fun h23 => ?_) (fun h23 => ?_)
      · replace hR := hR.trans (if_pos h23)
        refine lv_iload hx hb dRG_subtract_35 (lv_at hl 0 rfl) ?_
        refine nw_iast hx hb hK hO hU k_f (k := pf) n_f hP hD hS (by omega) (by omega) dRG_subtract_37 (fun s22 pl H locs es21 hO hP hD hS => ?_)
        replace hR := bnd_step hR es21
        have hF := frm_sI hF es21 (by unfold M_RG_subtract_8; omega)
        refine mi_iinc (k := 1) (x := i21) (d := 1) (y := i21 + 1) (lv' := [(3, .int (nI (i21 + 1))), (4, .int z21), (0, .ref h0), (1, .ref f), (2, .ref fg)]) hx hb dRG_subtract_38 hl rfl (by decide) rfl (by decide) rfl (fun ls hl => ?_)
        refine lv_goto (tgt := 2) hx hb dRG_subtract_41 (by decide) ?_
        exact ih21 (i21 + 1) s22 pl ls H locs (by omega) hF hR (lv_sub hl [0, 2, 3, 4] rfl) hO hP hD hS
      · replace hR := hR.trans (if_neg h23)
        refine lv_iload hx hb dRG_subtract_25 (lv_at hl 0 rfl) ?_
        refine lv_aload_n hx hb dRG_subtract_27 rfl (lv_at hl 2 rfl) ?_
        refine nw_get (C := "LatticeKeys$Ring") (TT := T_RG) (N := 4) hx hb hts (wg_ft i_RG) hown hK hO k_h0 (kn := 22) (ci := 4) (fl := [(1, 8380417), (1, 8), (1, 8347681), (3, 23)]) rfl hP rfl 0 (by decide) (hts _ (wg_t kw_91)) (fun _ h9 => h9) (cd := (1, 8380417)) rfl dRG_subtract_28 (fun v21 hv21 => ?_)
        obtain rfl := (show v21 = .int (nI 8380417) from hv21)
        refine lv_iadd hx hb dRG_subtract_31 ?_
        refine lv_goto (tgt := 37) hx hb dRG_subtract_32 (by decide) ?_
        refine nw_iast hx hb hK hO hU k_f (k := pf) n_f hP hD hS (by omega) (by omega) dRG_subtract_37 (fun s23 pl H locs es22 hO hP hD hS => ?_)
        replace hR := bnd_step hR es22
        have hF := frm_sI hF es22 (by unfold M_RG_subtract_8; omega)
        refine mi_iinc (k := 1) (x := i21) (d := 1) (y := i21 + 1) (lv' := [(3, .int (nI (i21 + 1))), (4, .int z21), (0, .ref h0), (1, .ref f), (2, .ref fg)]) hx hb dRG_subtract_38 hl rfl (by decide) rfl (by decide) rfl (fun ls hl => ?_)
        refine lv_goto (tgt := 2) hx hb dRG_subtract_41 (by decide) ?_
        exact ih21 (i21 + 1) s23 pl ls H locs (by omega) hF hR (lv_sub hl [0, 2, 3, 4] rfl) hO hP hD hS
  exact lp21 256 0 s pl ls _ _ (by omega) hF hR (lv_sub hl [0, 1, 2, 3] rfl) hO hP hD hS
def M_RG_flip_7 (pg : Nat) (k : Nat) : Prop := k = pg ∨ (0 : Nat) = 1
noncomputable def F_RG_flip_7_L0 (pf : Nat) (tp : Int32) (pg : Nat) : Nat → Nat → Sto → Sto
  | 0, i21, s21 => s21
  | n21 + 1, i21, s21 => bnd ((tp - (s21.1 pf i21))) fun z21 => if 0 ≤ z21 then bnd (sI s21 pg i21 z21) fun s22 => F_RG_flip_7_L0 pf tp pg n21 (i21 + 1) s22 else bnd (sI s21 pg i21 (z21 + (nI 3329))) fun s23 => F_RG_flip_7_L0 pf tp pg n21 (i21 + 1) s23
noncomputable def F_RG_flip_7 (pf : Nat) (tp : Int32) (pg : Nat) (s : Sto) : Sto := F_RG_flip_7_L0 pf tp pg 256 0 s
set_option maxHeartbeats 400000 in
set_option maxRecDepth 100000 in
theorem N_RG_flip_7 (l : Launch) (g : Gd) (sz : Nat) (T : TyN) (s : Sto) (pl : va_W) (hO : okn g T s pl) (hU : inj T) (h0 f fg : Nat) (pf : Nat) (tp : Int32) (pg : Nat) (k_h0 : T h0 = some 20) (k_f : T f = some pf) (n_f : nsp pf = (0, 256, [])) (k_fg : T fg = some pg) (n_fg : nsp pg = (0, 256, []))  : Met l y_RG_flip w_RG_flip ({ frames := 0, cells := 0, slots := 0, locals := 0 } : Room) (va_Pc [.ref h0, .ref f, .int tp, .ref fg] (pr (en g) g.1 vcl sz ([] ++ pl))) (va_Qv (fun (u : (Sto) × va_W) => (u.1 = F_RG_flip_7 pf tp pg s ∧ frm (M_RG_flip_7 pg) s u.1 ∧ True) ∧ okn g T u.1 u.2) (po g.1 vcl (va_A ([] ++ pl) sz) (fun (u : (Sto) × va_W) => [] ++ u.2)) (va_A ([] ++ pl) sz)) 0 0 (va_A ([] ++ pl) sz) := by
  refine mc_entry (cc := c_RG_flip) (maxL := 6) (ret := none) (by decide) rfl (Nat.le_of_ble_eq_true rfl) ?_
  intro p e s0 m args below meth c ls F hr hlk hnm hsz hP hD hE hA hl
  obtain ⟨hx, hb, hml, hown, hts⟩ := id F
  have hK := hE.1
  generalize va_A ([] ++ pl) sz = A at hD hE hA ⊢
  have hS : va_S A s0.heap s0.heap [] := va_S.rf
  have hl : lv_has ls 6 [(0, .ref h0), (1, .ref f), (2, .int tp), (3, .ref fg)] := hl
  have hR : F_RG_flip_7 pf tp pg s = F_RG_flip_7 pf tp pg s := rfl
  have hF : frm (M_RG_flip_7 pg) s s := frm_rf
  refine lv_iconst (v := nI 0) hx hb dRG_flip_0 (by decide) ?_
  refine lv_istore (lv' := [(4, .int (nI 0)), (0, .ref h0), (1, .ref f), (2, .int tp), (3, .ref fg)]) hx hb dRG_flip_1 hl (by decide) rfl (fun ls hl => ?_)
  have lp21 : ∀ (n21 : Nat) (i21 : Nat) (s21 : Sto) (pl : va_W) (ls : Array Slot) (H : Heap) (locs : List Loc), n21 + i21 = 256 → frm (M_RG_flip_7 pg) s s21 → F_RG_flip_7 pf tp pg s = F_RG_flip_7_L0 pf tp pg n21 i21 s21 → lv_has ls 6 [(4, .int (nI i21)), (0, .ref h0), (1, .ref f), (2, .int tp), (3, .ref fg)] → okn g T s21 pl → va_P g.1 vcl ([] ++ pl) H → va_D A ([] ++ pl) → va_S A s0.heap H locs → W p l e ({ frames := 0, cells := 0, slots := 0, locals := 0 } : Room) s0 m args below meth c H locs 0 0 (MQ below (va_Qv (fun (u : (Sto) × va_W) => (u.1 = F_RG_flip_7 pf tp pg s ∧ frm (M_RG_flip_7 pg) s u.1 ∧ True) ∧ okn g T u.1 u.2) (po g.1 vcl A (fun (u : (Sto) × va_W) => [] ++ u.2)) A) args s0 0 0 A) (F0 m 3 ls []) := by
    intro n21
    induction n21 with
    | zero =>
      intro i21 s21 pl ls H locs hm21 hF hR hl hO hP hD hS
      refine lv_iload hx hb dRG_flip_3 (lv_at hl 0 rfl) ?_
      refine lv_sipush (v := nI 256) hx hb dRG_flip_5 (by decide) ?_
      refine mi_ge (tgt := 46) hx hb dRG_flip_8 (by decide) (by omega) (by omega) (fun h21 => ?_) (fun h21 => absurd h21 (by omega))
      exact mp_vret hx hb hr hlk hP hD hS (s21, pl) ⟨⟨hR.symm, hF, trivial⟩, hO⟩ [] rfl rfl rfl (by omega) (by omega) dRG_flip_46
    | succ n21 ih21 =>
      intro i21 s21 pl ls H locs hm21 hF hR hl hO hP hD hS
      refine lv_iload hx hb dRG_flip_3 (lv_at hl 0 rfl) ?_
      refine lv_sipush (v := nI 256) hx hb dRG_flip_5 (by decide) ?_
      refine mi_ge (tgt := 46) hx hb dRG_flip_8 (by decide) (by omega) (by omega) (fun h22 => absurd h22 (by omega)) (fun h22 => ?_)
      refine lv_iload_n hx hb dRG_flip_11 rfl (lv_at hl 3 rfl) ?_
      refine lv_aload_n hx hb dRG_flip_12 rfl (lv_at hl 2 rfl) ?_
      refine lv_iload hx hb dRG_flip_13 (lv_at hl 0 rfl) ?_
      refine nw_iald hx hb hK hO k_f (k := pf) n_f hP (by omega) (by omega) dRG_flip_15 ?_
      refine lv_isub hx hb dRG_flip_16 ?_
      refine mi_eqv (fun z21 ez21 => ?_)
      replace hR := bnd_step hR ez21
      refine lv_istore (lv' := [(5, .int z21), (4, .int (nI i21)), (0, .ref h0), (1, .ref f), (2, .int tp), (3, .ref fg)]) hx hb dRG_flip_17 hl (by decide) rfl (fun ls hl => ?_)
      refine lv_aload_n hx hb dRG_flip_19 rfl (lv_at hl 5 rfl) ?_
      refine lv_iload hx hb dRG_flip_20 (lv_at hl 1 rfl) ?_
      refine lv_iload hx hb dRG_flip_22 (lv_at hl 0 rfl) ?_
      refine lv_if_ge (tgt := 37) hx hb dRG_flip_24 (by decide) (fun h23 => ?_) (fun h23 => ?_)
      · replace hR := hR.trans (if_pos h23)
        refine lv_iload hx hb dRG_flip_37 (lv_at hl 0 rfl) ?_
        refine nw_iast hx hb hK hO hU k_fg (k := pg) n_fg hP hD hS (by omega) (by omega) dRG_flip_39 (fun s22 pl H locs es21 hO hP hD hS => ?_)
        replace hR := bnd_step hR es21
        have hF := frm_sI hF es21 (by unfold M_RG_flip_7; omega)
        refine mi_iinc (k := 1) (x := i21) (d := 1) (y := i21 + 1) (lv' := [(4, .int (nI (i21 + 1))), (5, .int z21), (0, .ref h0), (1, .ref f), (2, .int tp), (3, .ref fg)]) hx hb dRG_flip_40 hl rfl (by decide) rfl (by decide) rfl (fun ls hl => ?_)
        refine lv_goto (tgt := 3) hx hb dRG_flip_43 (by decide) ?_
        exact ih21 (i21 + 1) s22 pl ls H locs (by omega) hF hR (lv_sub hl [0, 2, 3, 4, 5] rfl) hO hP hD hS
      · replace hR := hR.trans (if_neg h23)
        refine lv_iload hx hb dRG_flip_27 (lv_at hl 0 rfl) ?_
        refine lv_aload_n hx hb dRG_flip_29 rfl (lv_at hl 2 rfl) ?_
        refine nw_get (C := "LatticeKeys$Ring") (TT := T_RG) (N := 4) hx hb hts (wg_ft i_RG) hown hK hO k_h0 (kn := 20) (ci := 4) (fl := [(1, 3329), (1, 7), (1, 3303), (3, 21)]) rfl hP rfl 0 (by decide) (hts _ (wg_t kw_91)) (fun _ h9 => h9) (cd := (1, 3329)) rfl dRG_flip_30 (fun v21 hv21 => ?_)
        obtain rfl := (show v21 = .int (nI 3329) from hv21)
        refine lv_iadd hx hb dRG_flip_33 ?_
        refine lv_goto (tgt := 39) hx hb dRG_flip_34 (by decide) ?_
        refine nw_iast hx hb hK hO hU k_fg (k := pg) n_fg hP hD hS (by omega) (by omega) dRG_flip_39 (fun s23 pl H locs es22 hO hP hD hS => ?_)
        replace hR := bnd_step hR es22
        have hF := frm_sI hF es22 (by unfold M_RG_flip_7; omega)
        refine mi_iinc (k := 1) (x := i21) (d := 1) (y := i21 + 1) (lv' := [(4, .int (nI (i21 + 1))), (5, .int z21), (0, .ref h0), (1, .ref f), (2, .int tp), (3, .ref fg)]) hx hb dRG_flip_40 hl rfl (by decide) rfl (by decide) rfl (fun ls hl => ?_)
        refine lv_goto (tgt := 3) hx hb dRG_flip_43 (by decide) ?_
        exact ih21 (i21 + 1) s23 pl ls H locs (by omega) hF hR (lv_sub hl [0, 2, 3, 4, 5] rfl) hO hP hD hS
  exact lp21 256 0 s pl ls _ _ (by omega) hF hR (lv_sub hl [0, 1, 2, 3, 4] rfl) hO hP hD hS
def M_RG_flip_8 (pg : Nat) (k : Nat) : Prop := k = pg ∨ (0 : Nat) = 1
noncomputable def F_RG_flip_8_L0 (pf : Nat) (tp : Int32) (pg : Nat) : Nat → Nat → Sto → Sto
  | 0, i21, s21 => s21
  | n21 + 1, i21, s21 => bnd ((tp - (s21.1 pf i21))) fun z21 => if 0 ≤ z21 then bnd (sI s21 pg i21 z21) fun s22 => F_RG_flip_8_L0 pf tp pg n21 (i21 + 1) s22 else bnd (sI s21 pg i21 (z21 + (nI 8380417))) fun s23 => F_RG_flip_8_L0 pf tp pg n21 (i21 + 1) s23
noncomputable def F_RG_flip_8 (pf : Nat) (tp : Int32) (pg : Nat) (s : Sto) : Sto := F_RG_flip_8_L0 pf tp pg 256 0 s
set_option maxHeartbeats 400000 in
set_option maxRecDepth 100000 in
theorem N_RG_flip_8 (l : Launch) (g : Gd) (sz : Nat) (T : TyN) (s : Sto) (pl : va_W) (hO : okn g T s pl) (hU : inj T) (h0 f fg : Nat) (pf : Nat) (tp : Int32) (pg : Nat) (k_h0 : T h0 = some 22) (k_f : T f = some pf) (n_f : nsp pf = (0, 256, [])) (k_fg : T fg = some pg) (n_fg : nsp pg = (0, 256, []))  : Met l y_RG_flip w_RG_flip ({ frames := 0, cells := 0, slots := 0, locals := 0 } : Room) (va_Pc [.ref h0, .ref f, .int tp, .ref fg] (pr (en g) g.1 vcl sz ([] ++ pl))) (va_Qv (fun (u : (Sto) × va_W) => (u.1 = F_RG_flip_8 pf tp pg s ∧ frm (M_RG_flip_8 pg) s u.1 ∧ True) ∧ okn g T u.1 u.2) (po g.1 vcl (va_A ([] ++ pl) sz) (fun (u : (Sto) × va_W) => [] ++ u.2)) (va_A ([] ++ pl) sz)) 0 0 (va_A ([] ++ pl) sz) := by
  refine mc_entry (cc := c_RG_flip) (maxL := 6) (ret := none) (by decide) rfl (Nat.le_of_ble_eq_true rfl) ?_
  intro p e s0 m args below meth c ls F hr hlk hnm hsz hP hD hE hA hl
  obtain ⟨hx, hb, hml, hown, hts⟩ := id F
  have hK := hE.1
  generalize va_A ([] ++ pl) sz = A at hD hE hA ⊢
  have hS : va_S A s0.heap s0.heap [] := va_S.rf
  have hl : lv_has ls 6 [(0, .ref h0), (1, .ref f), (2, .int tp), (3, .ref fg)] := hl
  have hR : F_RG_flip_8 pf tp pg s = F_RG_flip_8 pf tp pg s := rfl
  have hF : frm (M_RG_flip_8 pg) s s := frm_rf
  refine lv_iconst (v := nI 0) hx hb dRG_flip_0 (by decide) ?_
  refine lv_istore (lv' := [(4, .int (nI 0)), (0, .ref h0), (1, .ref f), (2, .int tp), (3, .ref fg)]) hx hb dRG_flip_1 hl (by decide) rfl (fun ls hl => ?_)
  have lp21 : ∀ (n21 : Nat) (i21 : Nat) (s21 : Sto) (pl : va_W) (ls : Array Slot) (H : Heap) (locs : List Loc), n21 + i21 = 256 → frm (M_RG_flip_8 pg) s s21 → F_RG_flip_8 pf tp pg s = F_RG_flip_8_L0 pf tp pg n21 i21 s21 → lv_has ls 6 [(4, .int (nI i21)), (0, .ref h0), (1, .ref f), (2, .int tp), (3, .ref fg)] → okn g T s21 pl → va_P g.1 vcl ([] ++ pl) H → va_D A ([] ++ pl) → va_S A s0.heap H locs → W p l e ({ frames := 0, cells := 0, slots := 0, locals := 0 } : Room) s0 m args below meth c H locs 0 0 (MQ below (va_Qv (fun (u : (Sto) × va_W) => (u.1 = F_RG_flip_8 pf tp pg s ∧ frm (M_RG_flip_8 pg) s u.1 ∧ True) ∧ okn g T u.1 u.2) (po g.1 vcl A (fun (u : (Sto) × va_W) => [] ++ u.2)) A) args s0 0 0 A) (F0 m 3 ls []) := by
    intro n21
    induction n21 with
    | zero =>
      intro i21 s21 pl ls H locs hm21 hF hR hl hO hP hD hS
      refine lv_iload hx hb dRG_flip_3 (lv_at hl 0 rfl) ?_
      refine lv_sipush (v := nI 256) hx hb dRG_flip_5 (by decide) ?_
      refine mi_ge (tgt := 46) hx hb dRG_flip_8 (by decide) (by omega) (by omega) (fun h21 => ?_) (fun h21 => absurd h21 (by omega))
      exact mp_vret hx hb hr hlk hP hD hS (s21, pl) ⟨⟨hR.symm, hF, trivial⟩, hO⟩ [] rfl rfl rfl (by omega) (by omega) dRG_flip_46
    | succ n21 ih21 =>
      intro i21 s21 pl ls H locs hm21 hF hR hl hO hP hD hS
      refine lv_iload hx hb dRG_flip_3 (lv_at hl 0 rfl) ?_
      refine lv_sipush (v := nI 256) hx hb dRG_flip_5 (by decide) ?_
      refine mi_ge (tgt := 46) hx hb dRG_flip_8 (by decide) (by omega) (by omega) (fun h22 => absurd h22 (by omega)) (fun h22 => ?_)
      refine lv_iload_n hx hb dRG_flip_11 rfl (lv_at hl 3 rfl) ?_
      refine lv_aload_n hx hb dRG_flip_12 rfl (lv_at hl 2 rfl) ?_
      refine lv_iload hx hb dRG_flip_13 (lv_at hl 0 rfl) ?_
      refine nw_iald hx hb hK hO k_f (k := pf) n_f hP (by omega) (by omega) dRG_flip_15 ?_
      refine lv_isub hx hb dRG_flip_16 ?_
      refine mi_eqv (fun z21 ez21 => ?_)
      replace hR := bnd_step hR ez21
      refine lv_istore (lv' := [(5, .int z21), (4, .int (nI i21)), (0, .ref h0), (1, .ref f), (2, .int tp), (3, .ref fg)]) hx hb dRG_flip_17 hl (by decide) rfl (fun ls hl => ?_)
      refine lv_aload_n hx hb dRG_flip_19 rfl (lv_at hl 5 rfl) ?_
      refine lv_iload hx hb dRG_flip_20 (lv_at hl 1 rfl) ?_
      refine lv_iload hx hb dRG_flip_22 (lv_at hl 0 rfl) ?_
      refine lv_if_ge (tgt := 37) hx hb dRG_flip_24 (by decide) (fun h23 => ?_) (fun h23 => ?_)
      · replace hR := hR.trans (if_pos h23)
        refine lv_iload hx hb dRG_flip_37 (lv_at hl 0 rfl) ?_
        refine nw_iast hx hb hK hO hU k_fg (k := pg) n_fg hP hD hS (by omega) (by omega) dRG_flip_39 (fun s22 pl H locs es21 hO hP hD hS => ?_)
        replace hR := bnd_step hR es21
        have hF := frm_sI hF es21 (by unfold M_RG_flip_8; omega)
        refine mi_iinc (k := 1) (x := i21) (d := 1) (y := i21 + 1) (lv' := [(4, .int (nI (i21 + 1))), (5, .int z21), (0, .ref h0), (1, .ref f), (2, .int tp), (3, .ref fg)]) hx hb dRG_flip_40 hl rfl (by decide) rfl (by decide) rfl (fun ls hl => ?_)
        refine lv_goto (tgt := 3) hx hb dRG_flip_43 (by decide) ?_
        exact ih21 (i21 + 1) s22 pl ls H locs (by omega) hF hR (lv_sub hl [0, 2, 3, 4, 5] rfl) hO hP hD hS
      · replace hR := hR.trans (if_neg h23)
        refine lv_iload hx hb dRG_flip_27 (lv_at hl 0 rfl) ?_
        refine lv_aload_n hx hb dRG_flip_29 rfl (lv_at hl 2 rfl) ?_
        refine nw_get (C := "LatticeKeys$Ring") (TT := T_RG) (N := 4) hx hb hts (wg_ft i_RG) hown hK hO k_h0 (kn := 22) (ci := 4) (fl := [(1, 8380417), (1, 8), (1, 8347681), (3, 23)]) rfl hP rfl 0 (by decide) (hts _ (wg_t kw_91)) (fun _ h9 => h9) (cd := (1, 8380417)) rfl dRG_flip_30 (fun v21 hv21 => ?_)
        obtain rfl := (show v21 = .int (nI 8380417) from hv21)
        refine lv_iadd hx hb dRG_flip_33 ?_
        refine lv_goto (tgt := 39) hx hb dRG_flip_34 (by decide) ?_
        refine nw_iast hx hb hK hO hU k_fg (k := pg) n_fg hP hD hS (by omega) (by omega) dRG_flip_39 (fun s23 pl H locs es22 hO hP hD hS => ?_)
        replace hR := bnd_step hR es22
        have hF := frm_sI hF es22 (by unfold M_RG_flip_8; omega)
        refine mi_iinc (k := 1) (x := i21) (d := 1) (y := i21 + 1) (lv' := [(4, .int (nI (i21 + 1))), (5, .int z21), (0, .ref h0), (1, .ref f), (2, .int tp), (3, .ref fg)]) hx hb dRG_flip_40 hl rfl (by decide) rfl (by decide) rfl (fun ls hl => ?_)
        refine lv_goto (tgt := 3) hx hb dRG_flip_43 (by decide) ?_
        exact ih21 (i21 + 1) s23 pl ls H locs (by omega) hF hR (lv_sub hl [0, 2, 3, 4, 5] rfl) hO hP hD hS
  exact lp21 256 0 s pl ls _ _ (by omega) hF hR (lv_sub hl [0, 1, 2, 3, 4] rfl) hO hP hD hS
def M_RG_isShort_7 (k : Nat) : Prop := (0 : Nat) = 1
noncomputable def F_RG_isShort_7_L0 (pf : Nat) (bd : Int32) : Nat → Nat → Sto → Int32 × Sto
  | 0, i21, s21 => (nI 1, s21)
  | n21 + 1, i21, s21 => if (s21.1 pf i21) < bd then F_RG_isShort_7_L0 pf bd n21 (i21 + 1) s21 else if ((nI 3329) - bd) < (s21.1 pf i21) then F_RG_isShort_7_L0 pf bd n21 (i21 + 1) s21 else (nI 0, s21)
noncomputable def F_RG_isShort_7 (pf : Nat) (bd : Int32) (s : Sto) : Int32 × Sto := F_RG_isShort_7_L0 pf bd 256 0 s
set_option maxHeartbeats 400000 in
set_option maxRecDepth 100000 in
theorem N_RG_isShort_7 (l : Launch) (g : Gd) (sz : Nat) (T : TyN) (s : Sto) (pl : va_W) (hO : okn g T s pl) (hU : inj T) (h0 f : Nat) (pf : Nat) (bd : Int32) (k_h0 : T h0 = some 20) (k_f : T f = some pf) (n_f : nsp pf = (0, 256, []))  : Met l y_RG_isShort w_RG_isShort ({ frames := 0, cells := 0, slots := 0, locals := 0 } : Room) (va_Pc [.ref h0, .ref f, .int bd] (pr (en g) g.1 vcl sz ([] ++ pl))) (va_Qi (fun (r : Int32) (u : (Int32 × Sto) × va_W) => (u.1 = F_RG_isShort_7 pf bd s ∧ r = u.1.1 ∧ frm (M_RG_isShort_7) s u.1.2 ∧ True) ∧ okn g T u.1.2 u.2) (po g.1 vcl (va_A ([] ++ pl) sz) (fun (u : (Int32 × Sto) × va_W) => [] ++ u.2)) (va_A ([] ++ pl) sz)) 0 0 (va_A ([] ++ pl) sz) := by
  refine mc_entry (cc := c_RG_isShort) (maxL := 4) (ret := (some .boolean)) (by decide) rfl (Nat.le_of_ble_eq_true rfl) ?_
  intro p e s0 m args below meth c ls F hr hlk hnm hsz hP hD hE hA hl
  obtain ⟨hx, hb, hml, hown, hts⟩ := id F
  have hK := hE.1
  generalize va_A ([] ++ pl) sz = A at hD hE hA ⊢
  have hS : va_S A s0.heap s0.heap [] := va_S.rf
  have hl : lv_has ls 4 [(0, .ref h0), (1, .ref f), (2, .int bd)] := hl
  have hR : F_RG_isShort_7 pf bd s = F_RG_isShort_7 pf bd s := rfl
  have hF : frm (M_RG_isShort_7) s s := frm_rf
  refine lv_iconst (v := nI 0) hx hb dRG_isShort_0 (by decide) ?_
  refine lv_istore_n (lv' := [(3, .int (nI 0)), (0, .ref h0), (1, .ref f), (2, .int bd)]) hx hb dRG_isShort_1 rfl hl (by decide) rfl (fun ls hl => ?_)
  have lp21 : ∀ (n21 : Nat) (i21 : Nat) (s21 : Sto) (pl : va_W) (ls : Array Slot) (H : Heap) (locs : List Loc), n21 + i21 = 256 → frm (M_RG_isShort_7) s s21 → F_RG_isShort_7 pf bd s = F_RG_isShort_7_L0 pf bd n21 i21 s21 → lv_has ls 4 [(3, .int (nI i21)), (0, .ref h0), (1, .ref f), (2, .int bd)] → okn g T s21 pl → va_P g.1 vcl ([] ++ pl) H → va_D A ([] ++ pl) → va_S A s0.heap H locs → W p l e ({ frames := 0, cells := 0, slots := 0, locals := 0 } : Room) s0 m args below meth c H locs 0 0 (MQ below (va_Qi (fun (r : Int32) (u : (Int32 × Sto) × va_W) => (u.1 = F_RG_isShort_7 pf bd s ∧ r = u.1.1 ∧ frm (M_RG_isShort_7) s u.1.2 ∧ True) ∧ okn g T u.1.2 u.2) (po g.1 vcl A (fun (u : (Int32 × Sto) × va_W) => [] ++ u.2)) A) args s0 0 0 A) (F0 m 2 ls []) := by
    intro n21
    induction n21 with
    | zero =>
      intro i21 s21 pl ls H locs hm21 hF hR hl hO hP hD hS
      refine lv_iload_n hx hb dRG_isShort_2 rfl (lv_at hl 0 rfl) ?_
      refine lv_sipush (v := nI 256) hx hb dRG_isShort_3 (by decide) ?_
      refine mi_ge (tgt := 36) hx hb dRG_isShort_6 (by decide) (by omega) (by omega) (fun h21 => ?_) (fun h21 => absurd h21 (by omega))
      refine lv_iconst (v := nI 1) hx hb dRG_isShort_36 (by decide) ?_
      exact mp_zret hx hb hr hlk rfl hP hD hS ((nI 1, s21), pl) ⟨⟨hR.symm, rfl, hF, trivial⟩, hO⟩ [] rfl rfl rfl (by omega) (by omega) dRG_isShort_37
    | succ n21 ih21 =>
      intro i21 s21 pl ls H locs hm21 hF hR hl hO hP hD hS
      refine lv_iload_n hx hb dRG_isShort_2 rfl (lv_at hl 0 rfl) ?_
      refine lv_sipush (v := nI 256) hx hb dRG_isShort_3 (by decide) ?_
      refine mi_ge (tgt := 36) hx hb dRG_isShort_6 (by decide) (by omega) (by omega) (fun h22 => absurd h22 (by omega)) (fun h22 => ?_)
      refine lv_aload_n hx hb dRG_isShort_9 rfl (lv_at hl 2 rfl) ?_
      refine lv_iload_n hx hb dRG_isShort_10 rfl (lv_at hl 0 rfl) ?_
      refine nw_iald hx hb hK hO k_f (k := pf) n_f hP (by omega) (by omega) dRG_isShort_11 ?_
      refine lv_iload_n hx hb dRG_isShort_12 rfl (lv_at hl 3 rfl) ?_
      refine lv_icmp_lt (tgt := 30) hx hb dRG_isShort_13 (by decide) (fun h23 => ?_) (fun h23 => ?_)
      · replace hR := hR.trans (if_pos h23)
        refine mi_iinc (k := 0) (x := i21) (d := 1) (y := i21 + 1) (lv' := [(3, .int (nI (i21 + 1))), (0, .ref h0), (1, .ref f), (2, .int bd)]) hx hb dRG_isShort_30 hl rfl (by decide) rfl (by decide) rfl (fun ls hl => ?_)
        refine lv_goto (tgt := 2) hx hb dRG_isShort_33 (by decide) ?_
        exact ih21 (i21 + 1) s21 pl ls H locs (by omega) hF hR (lv_sub hl [0, 1, 2, 3] rfl) hO hP hD hS
      · replace hR := hR.trans (if_neg h23)
        refine lv_aload_n hx hb dRG_isShort_16 rfl (lv_at hl 2 rfl) ?_
        refine lv_iload_n hx hb dRG_isShort_17 rfl (lv_at hl 0 rfl) ?_
        refine nw_iald hx hb hK hO k_f (k := pf) n_f hP (by omega) (by omega) dRG_isShort_18 ?_
        refine lv_aload_n hx hb dRG_isShort_19 rfl (lv_at hl 1 rfl) ?_
        refine nw_get (C := "LatticeKeys$Ring") (TT := T_RG) (N := 4) hx hb hts (wg_ft i_RG) hown hK hO k_h0 (kn := 20) (ci := 4) (fl := [(1, 3329), (1, 7), (1, 3303), (3, 21)]) rfl hP rfl 0 (by decide) (hts _ (wg_t kw_91)) (fun _ h9 => h9) (cd := (1, 3329)) rfl dRG_isShort_20 (fun v21 hv21 => ?_)
        obtain rfl := (show v21 = .int (nI 3329) from hv21)
        refine lv_iload_n hx hb dRG_isShort_23 rfl (lv_at hl 3 rfl) ?_
        refine lv_isub hx hb dRG_isShort_24 ?_
        refine lv_icmp_gt (tgt := 30) hx hb dRG_isShort_25 (by decide) (fun h24 => ?_) (fun h24 => ?_)
        · replace hR := hR.trans (if_pos h24)
          refine mi_iinc (k := 0) (x := i21) (d := 1) (y := i21 + 1) (lv' := [(3, .int (nI (i21 + 1))), (0, .ref h0), (1, .ref f), (2, .int bd)]) hx hb dRG_isShort_30 hl rfl (by decide) rfl (by decide) rfl (fun ls hl => ?_)
          refine lv_goto (tgt := 2) hx hb dRG_isShort_33 (by decide) ?_
          exact ih21 (i21 + 1) s21 pl ls H locs (by omega) hF hR (lv_sub hl [0, 1, 2, 3] rfl) hO hP hD hS
        · replace hR := hR.trans (if_neg h24)
          refine lv_iconst (v := nI 0) hx hb dRG_isShort_28 (by decide) ?_
          exact mp_zret hx hb hr hlk rfl hP hD hS ((nI 0, s21), pl) ⟨⟨hR.symm, rfl, hF, trivial⟩, hO⟩ [] rfl rfl rfl (by omega) (by omega) dRG_isShort_29
  exact lp21 256 0 s pl ls _ _ (by omega) hF hR (lv_sub hl [0, 1, 2, 3] rfl) hO hP hD hS
def M_RG_isShort_8 (k : Nat) : Prop := (0 : Nat) = 1
noncomputable def F_RG_isShort_8_L0 (pf : Nat) (bd : Int32) : Nat → Nat → Sto → Int32 × Sto
  | 0, i21, s21 => (nI 1, s21)
  | n21 + 1, i21, s21 => if (s21.1 pf i21) < bd then F_RG_isShort_8_L0 pf bd n21 (i21 + 1) s21 else if ((nI 8380417) - bd) < (s21.1 pf i21) then F_RG_isShort_8_L0 pf bd n21 (i21 + 1) s21 else (nI 0, s21)
noncomputable def F_RG_isShort_8 (pf : Nat) (bd : Int32) (s : Sto) : Int32 × Sto := F_RG_isShort_8_L0 pf bd 256 0 s
set_option maxHeartbeats 400000 in
set_option maxRecDepth 100000 in
theorem N_RG_isShort_8 (l : Launch) (g : Gd) (sz : Nat) (T : TyN) (s : Sto) (pl : va_W) (hO : okn g T s pl) (hU : inj T) (h0 f : Nat) (pf : Nat) (bd : Int32) (k_h0 : T h0 = some 22) (k_f : T f = some pf) (n_f : nsp pf = (0, 256, []))  : Met l y_RG_isShort w_RG_isShort ({ frames := 0, cells := 0, slots := 0, locals := 0 } : Room) (va_Pc [.ref h0, .ref f, .int bd] (pr (en g) g.1 vcl sz ([] ++ pl))) (va_Qi (fun (r : Int32) (u : (Int32 × Sto) × va_W) => (u.1 = F_RG_isShort_8 pf bd s ∧ r = u.1.1 ∧ frm (M_RG_isShort_8) s u.1.2 ∧ True) ∧ okn g T u.1.2 u.2) (po g.1 vcl (va_A ([] ++ pl) sz) (fun (u : (Int32 × Sto) × va_W) => [] ++ u.2)) (va_A ([] ++ pl) sz)) 0 0 (va_A ([] ++ pl) sz) := by
  refine mc_entry (cc := c_RG_isShort) (maxL := 4) (ret := (some .boolean)) (by decide) rfl (Nat.le_of_ble_eq_true rfl) ?_
  intro p e s0 m args below meth c ls F hr hlk hnm hsz hP hD hE hA hl
  obtain ⟨hx, hb, hml, hown, hts⟩ := id F
  have hK := hE.1
  generalize va_A ([] ++ pl) sz = A at hD hE hA ⊢
  have hS : va_S A s0.heap s0.heap [] := va_S.rf
  have hl : lv_has ls 4 [(0, .ref h0), (1, .ref f), (2, .int bd)] := hl
  have hR : F_RG_isShort_8 pf bd s = F_RG_isShort_8 pf bd s := rfl
  have hF : frm (M_RG_isShort_8) s s := frm_rf
  refine lv_iconst (v := nI 0) hx hb dRG_isShort_0 (by decide) ?_
  refine lv_istore_n (lv' := [(3, .int (nI 0)), (0, .ref h0), (1, .ref f), (2, .int bd)]) hx hb dRG_isShort_1 rfl hl (by decide) rfl (fun ls hl => ?_)
  have lp21 : ∀ (n21 : Nat) (i21 : Nat) (s21 : Sto) (pl : va_W) (ls : Array Slot) (H : Heap) (locs : List Loc), n21 + i21 = 256 → frm (M_RG_isShort_8) s s21 → F_RG_isShort_8 pf bd s = F_RG_isShort_8_L0 pf bd n21 i21 s21 → lv_has ls 4 [(3, .int (nI i21)), (0, .ref h0), (1, .ref f), (2, .int bd)] → okn g T s21 pl → va_P g.1 vcl ([] ++ pl) H → va_D A ([] ++ pl) → va_S A s0.heap H locs → W p l e ({ frames := 0, cells := 0, slots := 0, locals := 0 } : Room) s0 m args below meth c H locs 0 0 (MQ below (va_Qi (fun (r : Int32) (u : (Int32 × Sto) × va_W) => (u.1 = F_RG_isShort_8 pf bd s ∧ r = u.1.1 ∧ frm (M_RG_isShort_8) s u.1.2 ∧ True) ∧ okn g T u.1.2 u.2) (po g.1 vcl A (fun (u : (Int32 × Sto) × va_W) => [] ++ u.2)) A) args s0 0 0 A) (F0 m 2 ls []) := by
    intro n21
    induction n21 with
    | zero =>
      intro i21 s21 pl ls H locs hm21 hF hR hl hO hP hD hS
      refine lv_iload_n hx hb dRG_isShort_2 rfl (lv_at hl 0 rfl) ?_
      refine lv_sipush (v := nI 256) hx hb dRG_isShort_3 (by decide) ?_
      refine mi_ge (tgt := 36) hx hb dRG_isShort_6 (by decide) (by omega) (by omega) (fun h21 => ?_) (fun h21 => absurd h21 (by omega))
      refine lv_iconst (v := nI 1) hx hb dRG_isShort_36 (by decide) ?_
      exact mp_zret hx hb hr hlk rfl hP hD hS ((nI 1, s21), pl) ⟨⟨hR.symm, rfl, hF, trivial⟩, hO⟩ [] rfl rfl rfl (by omega) (by omega) dRG_isShort_37
    | succ n21 ih21 =>
      intro i21 s21 pl ls H locs hm21 hF hR hl hO hP hD hS
      refine lv_iload_n hx hb dRG_isShort_2 rfl (lv_at hl 0 rfl) ?_
      refine lv_sipush (v := nI 256) hx hb dRG_isShort_3 (by decide) ?_
      refine mi_ge (tgt := 36) hx hb dRG_isShort_6 (by decide) (by omega) (by omega) (fun h22 => absurd h22 (by omega)) (fun h22 => ?_)
      refine lv_aload_n hx hb dRG_isShort_9 rfl (lv_at hl 2 rfl) ?_
      refine lv_iload_n hx hb dRG_isShort_10 rfl (lv_at hl 0 rfl) ?_
      refine nw_iald hx hb hK hO k_f (k := pf) n_f hP (by omega) (by omega) dRG_isShort_11 ?_
      refine lv_iload_n hx hb dRG_isShort_12 rfl (lv_at hl 3 rfl) ?_
      refine lv_icmp_lt (tgt := 30) hx hb dRG_isShort_13 (by decide) (fun h23 => ?_) (fun h23 => ?_)
      · replace hR := hR.trans (if_pos h23)
        refine mi_iinc (k := 0) (x := i21) (d := 1) (y := i21 + 1) (lv' := [(3, .int (nI (i21 + 1))), (0, .ref h0), (1, .ref f), (2, .int bd)]) hx hb dRG_isShort_30 hl rfl (by decide) rfl (by decide) rfl (fun ls hl => ?_)
        refine lv_goto (tgt := 2) hx hb dRG_isShort_33 (by decide) ?_
        exact ih21 (i21 + 1) s21 pl ls H locs (by omega) hF hR (lv_sub hl [0, 1, 2, 3] rfl) hO hP hD hS
      · replace hR := hR.trans (if_neg h23)
        refine lv_aload_n hx hb dRG_isShort_16 rfl (lv_at hl 2 rfl) ?_
        refine lv_iload_n hx hb dRG_isShort_17 rfl (lv_at hl 0 rfl) ?_
        refine nw_iald hx hb hK hO k_f (k := pf) n_f hP (by omega) (by omega) dRG_isShort_18 ?_
        refine lv_aload_n hx hb dRG_isShort_19 rfl (lv_at hl 1 rfl) ?_
        refine nw_get (C := "LatticeKeys$Ring") (TT := T_RG) (N := 4) hx hb hts (wg_ft i_RG) hown hK hO k_h0 (kn := 22) (ci := 4) (fl := [(1, 8380417), (1, 8), (1, 8347681), (3, 23)]) rfl hP rfl 0 (by decide) (hts _ (wg_t kw_91)) (fun _ h9 => h9) (cd := (1, 8380417)) rfl dRG_isShort_20 (fun v21 hv21 => ?_)
        obtain rfl := (show v21 = .int (nI 8380417) from hv21)
        refine lv_iload_n hx hb dRG_isShort_23 rfl (lv_at hl 3 rfl) ?_
        refine lv_isub hx hb dRG_isShort_24 ?_
        refine lv_icmp_gt (tgt := 30) hx hb dRG_isShort_25 (by decide) (fun h24 => ?_) (fun h24 => ?_)
        · replace hR := hR.trans (if_pos h24)
          refine mi_iinc (k := 0) (x := i21) (d := 1) (y := i21 + 1) (lv' := [(3, .int (nI (i21 + 1))), (0, .ref h0), (1, .ref f), (2, .int bd)]) hx hb dRG_isShort_30 hl rfl (by decide) rfl (by decide) rfl (fun ls hl => ?_)
          refine lv_goto (tgt := 2) hx hb dRG_isShort_33 (by decide) ?_
          exact ih21 (i21 + 1) s21 pl ls H locs (by omega) hF hR (lv_sub hl [0, 1, 2, 3] rfl) hO hP hD hS
        · replace hR := hR.trans (if_neg h24)
          refine lv_iconst (v := nI 0) hx hb dRG_isShort_28 (by decide) ?_
          exact mp_zret hx hb hr hlk rfl hP hD hS ((nI 0, s21), pl) ⟨⟨hR.symm, rfl, hF, trivial⟩, hO⟩ [] rfl rfl rfl (by omega) (by omega) dRG_isShort_29
  exact lp21 256 0 s pl ls _ _ (by omega) hF hR (lv_sub hl [0, 1, 2, 3] rfl) hO hP hD hS
