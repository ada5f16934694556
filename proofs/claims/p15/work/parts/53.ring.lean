abbrev c_RG_addPair : ByteArray := prog_9_method_8_code
abbrev y_RG_addPair : MethodName := ⟨"LatticeKeys$Ring", "addPair", "([I[I[IIJ)V"⟩
abbrev w_RG_addPair : List Cond := Cond.code y_RG_addPair c_RG_addPair 13 none :: WG
theorem dRG_addPair_0 : decode c_RG_addPair 0 = .ok (.aload_n 2, 1) := by decide +kernel
theorem dRG_addPair_1 : decode c_RG_addPair 1 = .ok (.iload 4, 2) := by decide +kernel
theorem dRG_addPair_3 : decode c_RG_addPair 3 = .ok (.iconst 1, 1) := by decide +kernel
theorem dRG_addPair_4 : decode c_RG_addPair 4 = .ok (.iadd, 1) := by decide +kernel
theorem dRG_addPair_5 : decode c_RG_addPair 5 = .ok (.iaload, 1) := by decide +kernel
theorem dRG_addPair_6 : decode c_RG_addPair 6 = .ok (.i2l, 1) := by decide +kernel
theorem dRG_addPair_7 : decode c_RG_addPair 7 = .ok (.aload_n 3, 1) := by decide +kernel
theorem dRG_addPair_8 : decode c_RG_addPair 8 = .ok (.iload 4, 2) := by decide +kernel
theorem dRG_addPair_10 : decode c_RG_addPair 10 = .ok (.iconst 1, 1) := by decide +kernel
theorem dRG_addPair_11 : decode c_RG_addPair 11 = .ok (.iadd, 1) := by decide +kernel
theorem dRG_addPair_12 : decode c_RG_addPair 12 = .ok (.iaload, 1) := by decide +kernel
theorem dRG_addPair_13 : decode c_RG_addPair 13 = .ok (.i2l, 1) := by decide +kernel
theorem dRG_addPair_14 : decode c_RG_addPair 14 = .ok (.lmul, 1) := by decide +kernel
theorem dRG_addPair_15 : decode c_RG_addPair 15 = .ok (.aload_n 0, 1) := by decide +kernel
theorem dRG_addPair_16 : decode c_RG_addPair 16 = .ok (.getfield 7, 3) := by decide +kernel
theorem dRG_addPair_19 : decode c_RG_addPair 19 = .ok (.i2l, 1) := by decide +kernel
theorem dRG_addPair_20 : decode c_RG_addPair 20 = .ok (.lrem, 1) := by decide +kernel
theorem dRG_addPair_21 : decode c_RG_addPair 21 = .ok (.lstore 7, 2) := by decide +kernel
theorem dRG_addPair_23 : decode c_RG_addPair 23 = .ok (.aload_n 2, 1) := by decide +kernel
theorem dRG_addPair_24 : decode c_RG_addPair 24 = .ok (.iload 4, 2) := by decide +kernel
theorem dRG_addPair_26 : decode c_RG_addPair 26 = .ok (.iaload, 1) := by decide +kernel
theorem dRG_addPair_27 : decode c_RG_addPair 27 = .ok (.i2l, 1) := by decide +kernel
theorem dRG_addPair_28 : decode c_RG_addPair 28 = .ok (.aload_n 3, 1) := by decide +kernel
theorem dRG_addPair_29 : decode c_RG_addPair 29 = .ok (.iload 4, 2) := by decide +kernel
theorem dRG_addPair_31 : decode c_RG_addPair 31 = .ok (.iaload, 1) := by decide +kernel
theorem dRG_addPair_32 : decode c_RG_addPair 32 = .ok (.i2l, 1) := by decide +kernel
theorem dRG_addPair_33 : decode c_RG_addPair 33 = .ok (.lmul, 1) := by decide +kernel
theorem dRG_addPair_34 : decode c_RG_addPair 34 = .ok (.lload 7, 2) := by decide +kernel
theorem dRG_addPair_36 : decode c_RG_addPair 36 = .ok (.lload 5, 2) := by decide +kernel
theorem dRG_addPair_38 : decode c_RG_addPair 38 = .ok (.lmul, 1) := by decide +kernel
theorem dRG_addPair_39 : decode c_RG_addPair 39 = .ok (.ladd, 1) := by decide +kernel
theorem dRG_addPair_40 : decode c_RG_addPair 40 = .ok (.lstore 9, 2) := by decide +kernel
theorem dRG_addPair_42 : decode c_RG_addPair 42 = .ok (.aload_n 2, 1) := by decide +kernel
theorem dRG_addPair_43 : decode c_RG_addPair 43 = .ok (.iload 4, 2) := by decide +kernel
theorem dRG_addPair_45 : decode c_RG_addPair 45 = .ok (.iaload, 1) := by decide +kernel
theorem dRG_addPair_46 : decode c_RG_addPair 46 = .ok (.i2l, 1) := by decide +kernel
theorem dRG_addPair_47 : decode c_RG_addPair 47 = .ok (.aload_n 3, 1) := by decide +kernel
theorem dRG_addPair_48 : decode c_RG_addPair 48 = .ok (.iload 4, 2) := by decide +kernel
theorem dRG_addPair_50 : decode c_RG_addPair 50 = .ok (.iconst 1, 1) := by decide +kernel
theorem dRG_addPair_51 : decode c_RG_addPair 51 = .ok (.iadd, 1) := by decide +kernel
theorem dRG_addPair_52 : decode c_RG_addPair 52 = .ok (.iaload, 1) := by decide +kernel
theorem dRG_addPair_53 : decode c_RG_addPair 53 = .ok (.i2l, 1) := by decide +kernel
theorem dRG_addPair_54 : decode c_RG_addPair 54 = .ok (.lmul, 1) := by decide +kernel
theorem dRG_addPair_55 : decode c_RG_addPair 55 = .ok (.aload_n 2, 1) := by decide +kernel
theorem dRG_addPair_56 : decode c_RG_addPair 56 = .ok (.iload 4, 2) := by decide +kernel
theorem dRG_addPair_58 : decode c_RG_addPair 58 = .ok (.iconst 1, 1) := by decide +kernel
theorem dRG_addPair_59 : decode c_RG_addPair 59 = .ok (.iadd, 1) := by decide +kernel
theorem dRG_addPair_60 : decode c_RG_addPair 60 = .ok (.iaload, 1) := by decide +kernel
theorem dRG_addPair_61 : decode c_RG_addPair 61 = .ok (.i2l, 1) := by decide +kernel
theorem dRG_addPair_62 : decode c_RG_addPair 62 = .ok (.aload_n 3, 1) := by decide +kernel
theorem dRG_addPair_63 : decode c_RG_addPair 63 = .ok (.iload 4, 2) := by decide +kernel
theorem dRG_addPair_65 : decode c_RG_addPair 65 = .ok (.iaload, 1) := by decide +kernel
theorem dRG_addPair_66 : decode c_RG_addPair 66 = .ok (.i2l, 1) := by decide +kernel
theorem dRG_addPair_67 : decode c_RG_addPair 67 = .ok (.lmul, 1) := by decide +kernel
theorem dRG_addPair_68 : decode c_RG_addPair 68 = .ok (.ladd, 1) := by decide +kernel
theorem dRG_addPair_69 : decode c_RG_addPair 69 = .ok (.lstore 11, 2) := by decide +kernel
theorem dRG_addPair_71 : decode c_RG_addPair 71 = .ok (.aload_n 1, 1) := by decide +kernel
theorem dRG_addPair_72 : decode c_RG_addPair 72 = .ok (.iload 4, 2) := by decide +kernel
theorem dRG_addPair_74 : decode c_RG_addPair 74 = .ok (.aload_n 1, 1) := by decide +kernel
theorem dRG_addPair_75 : decode c_RG_addPair 75 = .ok (.iload 4, 2) := by decide +kernel
theorem dRG_addPair_77 : decode c_RG_addPair 77 = .ok (.iaload, 1) := by decide +kernel
theorem dRG_addPair_78 : decode c_RG_addPair 78 = .ok (.i2l, 1) := by decide +kernel
theorem dRG_addPair_79 : decode c_RG_addPair 79 = .ok (.lload 9, 2) := by decide +kernel
theorem dRG_addPair_81 : decode c_RG_addPair 81 = .ok (.ladd, 1) := by decide +kernel
theorem dRG_addPair_82 : decode c_RG_addPair 82 = .ok (.aload_n 0, 1) := by decide +kernel
theorem dRG_addPair_83 : decode c_RG_addPair 83 = .ok (.getfield 7, 3) := by decide +kernel
theorem dRG_addPair_86 : decode c_RG_addPair 86 = .ok (.i2l, 1) := by decide +kernel
theorem dRG_addPair_87 : decode c_RG_addPair 87 = .ok (.lrem, 1) := by decide +kernel
theorem dRG_addPair_88 : decode c_RG_addPair 88 = .ok (.l2i, 1) := by decide +kernel
theorem dRG_addPair_89 : decode c_RG_addPair 89 = .ok (.iastore, 1) := by decide +kernel
theorem dRG_addPair_90 : decode c_RG_addPair 90 = .ok (.aload_n 1, 1) := by decide +kernel
theorem dRG_addPair_91 : decode c_RG_addPair 91 = .ok (.iload 4, 2) := by decide +kernel
theorem dRG_addPair_93 : decode c_RG_addPair 93 = .ok (.iconst 1, 1) := by decide +kernel
theorem dRG_addPair_94 : decode c_RG_addPair 94 = .ok (.iadd, 1) := by decide +kernel
theorem dRG_addPair_95 : decode c_RG_addPair 95 = .ok (.aload_n 1, 1) := by decide +kernel
theorem dRG_addPair_96 : decode c_RG_addPair 96 = .ok (.iload 4, 2) := by decide +kernel
theorem dRG_addPair_98 : decode c_RG_addPair 98 = .ok (.iconst 1, 1) := by decide +kernel
theorem dRG_addPair_99 : decode c_RG_addPair 99 = .ok (.iadd, 1) := by decide +kernel
theorem dRG_addPair_100 : decode c_RG_addPair 100 = .ok (.iaload, 1) := by decide +kernel
theorem dRG_addPair_101 : decode c_RG_addPair 101 = .ok (.i2l, 1) := by decide +kernel
theorem dRG_addPair_102 : decode c_RG_addPair 102 = .ok (.lload 11, 2) := by decide +kernel
theorem dRG_addPair_104 : decode c_RG_addPair 104 = .ok (.ladd, 1) := by decide +kernel
theorem dRG_addPair_105 : decode c_RG_addPair 105 = .ok (.aload_n 0, 1) := by decide +kernel
theorem dRG_addPair_106 : decode c_RG_addPair 106 = .ok (.getfield 7, 3) := by decide +kernel
theorem dRG_addPair_109 : decode c_RG_addPair 109 = .ok (.i2l, 1) := by decide +kernel
theorem dRG_addPair_110 : decode c_RG_addPair 110 = .ok (.lrem, 1) := by decide +kernel
theorem dRG_addPair_111 : decode c_RG_addPair 111 = .ok (.l2i, 1) := by decide +kernel
theorem dRG_addPair_112 : decode c_RG_addPair 112 = .ok (.iastore, 1) := by decide +kernel
theorem dRG_addPair_113 : decode c_RG_addPair 113 = .ok (.return_, 1) := by decide +kernel
abbrev c_RG_addProduct : ByteArray := prog_9_method_7_code
abbrev y_RG_addProduct : MethodName := ⟨"LatticeKeys$Ring", "addProduct", "([I[I[I)V"⟩
abbrev w_RG_addProduct : List Cond := Cond.code y_RG_addProduct c_RG_addProduct 6 none :: WG
theorem dRG_addProduct_0 : decode c_RG_addProduct 0 = .ok (.aload_n 0, 1) := by decide +kernel
theorem dRG_addProduct_1 : decode c_RG_addProduct 1 = .ok (.getfield 13, 3) := by decide +kernel
theorem dRG_addProduct_4 : decode c_RG_addProduct 4 = .ok (.bipush 8, 2) := by decide +kernel
theorem dRG_addProduct_6 : decode c_RG_addProduct 6 = .ok (.if_icmp .ne 49, 3) := by decide +kernel
theorem dRG_addProduct_9 : decode c_RG_addProduct 9 = .ok (.iconst 0, 1) := by decide +kernel
theorem dRG_addProduct_10 : decode c_RG_addProduct 10 = .ok (.istore 4, 2) := by decide +kernel
theorem dRG_addProduct_12 : decode c_RG_addProduct 12 = .ok (.iload 4, 2) := by decide +kernel
theorem dRG_addProduct_14 : decode c_RG_addProduct 14 = .ok (.sipush 256, 3) := by decide +kernel
theorem dRG_addProduct_17 : decode c_RG_addProduct 17 = .ok (.if_icmp .ge 37, 3) := by decide +kernel
theorem dRG_addProduct_20 : decode c_RG_addProduct 20 = .ok (.aload_n 1, 1) := by decide +kernel
theorem dRG_addProduct_21 : decode c_RG_addProduct 21 = .ok (.iload 4, 2) := by decide +kernel
theorem dRG_addProduct_23 : decode c_RG_addProduct 23 = .ok (.aload_n 1, 1) := by decide +kernel
theorem dRG_addProduct_24 : decode c_RG_addProduct 24 = .ok (.iload 4, 2) := by decide +kernel
theorem dRG_addProduct_26 : decode c_RG_addProduct 26 = .ok (.iaload, 1) := by decide +kernel
theorem dRG_addProduct_27 : decode c_RG_addProduct 27 = .ok (.i2l, 1) := by decide +kernel
theorem dRG_addProduct_28 : decode c_RG_addProduct 28 = .ok (.aload_n 2, 1) := by decide +kernel
theorem dRG_addProduct_29 : decode c_RG_addProduct 29 = .ok (.iload 4, 2) := by decide +kernel
theorem dRG_addProduct_31 : decode c_RG_addProduct 31 = .ok (.iaload, 1) := by decide +kernel
theorem dRG_addProduct_32 : decode c_RG_addProduct 32 = .ok (.i2l, 1) := by decide +kernel
theorem dRG_addProduct_33 : decode c_RG_addProduct 33 = .ok (.aload_n 3, 1) := by decide +kernel
theorem dRG_addProduct_34 : decode c_RG_addProduct 34 = .ok (.iload 4, 2) := by decide +kernel
theorem dRG_addProduct_36 : decode c_RG_addProduct 36 = .ok (.iaload, 1) := by decide +kernel
theorem dRG_addProduct_37 : decode c_RG_addProduct 37 = .ok (.i2l, 1) := by decide +kernel
theorem dRG_addProduct_38 : decode c_RG_addProduct 38 = .ok (.lmul, 1) := by decide +kernel
theorem dRG_addProduct_39 : decode c_RG_addProduct 39 = .ok (.ladd, 1) := by decide +kernel
theorem dRG_addProduct_40 : decode c_RG_addProduct 40 = .ok (.aload_n 0, 1) := by decide +kernel
theorem dRG_addProduct_41 : decode c_RG_addProduct 41 = .ok (.getfield 7, 3) := by decide +kernel
theorem dRG_addProduct_44 : decode c_RG_addProduct 44 = .ok (.i2l, 1) := by decide +kernel
theorem dRG_addProduct_45 : decode c_RG_addProduct 45 = .ok (.lrem, 1) := by decide +kernel
theorem dRG_addProduct_46 : decode c_RG_addProduct 46 = .ok (.l2i, 1) := by decide +kernel
theorem dRG_addProduct_47 : decode c_RG_addProduct 47 = .ok (.iastore, 1) := by decide +kernel
theorem dRG_addProduct_48 : decode c_RG_addProduct 48 = .ok (.iinc 4 1, 3) := by decide +kernel
theorem dRG_addProduct_51 : decode c_RG_addProduct 51 = .ok (.goto (-39), 3) := by decide +kernel
theorem dRG_addProduct_54 : decode c_RG_addProduct 54 = .ok (.return_, 1) := by decide +kernel
theorem dRG_addProduct_55 : decode c_RG_addProduct 55 = .ok (.iconst 0, 1) := by decide +kernel
theorem dRG_addProduct_56 : decode c_RG_addProduct 56 = .ok (.istore 4, 2) := by decide +kernel
theorem dRG_addProduct_58 : decode c_RG_addProduct 58 = .ok (.iload 4, 2) := by decide +kernel
theorem dRG_addProduct_60 : decode c_RG_addProduct 60 = .ok (.bipush 64, 2) := by decide +kernel
theorem dRG_addProduct_62 : decode c_RG_addProduct 62 = .ok (.if_icmp .ge 56, 3) := by decide +kernel
theorem dRG_addProduct_65 : decode c_RG_addProduct 65 = .ok (.aload_n 0, 1) := by decide +kernel
theorem dRG_addProduct_66 : decode c_RG_addProduct 66 = .ok (.getfield 19, 3) := by decide +kernel
theorem dRG_addProduct_69 : decode c_RG_addProduct 69 = .ok (.bipush 64, 2) := by decide +kernel
theorem dRG_addProduct_71 : decode c_RG_addProduct 71 = .ok (.iload 4, 2) := by decide +kernel
theorem dRG_addProduct_73 : decode c_RG_addProduct 73 = .ok (.iadd, 1) := by decide +kernel
theorem dRG_addProduct_74 : decode c_RG_addProduct 74 = .ok (.iaload, 1) := by decide +kernel
theorem dRG_addProduct_75 : decode c_RG_addProduct 75 = .ok (.istore 5, 2) := by decide +kernel
theorem dRG_addProduct_77 : decode c_RG_addProduct 77 = .ok (.aload_n 0, 1) := by decide +kernel
theorem dRG_addProduct_78 : decode c_RG_addProduct 78 = .ok (.aload_n 1, 1) := by decide +kernel
theorem dRG_addProduct_79 : decode c_RG_addProduct 79 = .ok (.aload_n 2, 1) := by decide +kernel
theorem dRG_addProduct_80 : decode c_RG_addProduct 80 = .ok (.aload_n 3, 1) := by decide +kernel
theorem dRG_addProduct_81 : decode c_RG_addProduct 81 = .ok (.iconst 4, 1) := by decide +kernel
theorem dRG_addProduct_82 : decode c_RG_addProduct 82 = .ok (.iload 4, 2) := by decide +kernel
theorem dRG_addProduct_84 : decode c_RG_addProduct 84 = .ok (.imul, 1) := by decide +kernel
theorem dRG_addProduct_85 : decode c_RG_addProduct 85 = .ok (.iload 5, 2) := by decide +kernel
theorem dRG_addProduct_87 : decode c_RG_addProduct 87 = .ok (.i2l, 1) := by decide +kernel
theorem dRG_addProduct_88 : decode c_RG_addProduct 88 = .ok (.invokevirtual 34, 3) := by decide +kernel
theorem dRG_addProduct_91 : decode c_RG_addProduct 91 = .ok (.aload_n 0, 1) := by decide +kernel
theorem dRG_addProduct_92 : decode c_RG_addProduct 92 = .ok (.aload_n 1, 1) := by decide +kernel
theorem dRG_addProduct_93 : decode c_RG_addProduct 93 = .ok (.aload_n 2, 1) := by decide +kernel
theorem dRG_addProduct_94 : decode c_RG_addProduct 94 = .ok (.aload_n 3, 1) := by decide +kernel
theorem dRG_addProduct_95 : decode c_RG_addProduct 95 = .ok (.iconst 4, 1) := by decide +kernel
theorem dRG_addProduct_96 : decode c_RG_addProduct 96 = .ok (.iload 4, 2) := by decide +kernel
theorem dRG_addProduct_98 : decode c_RG_addProduct 98 = .ok (.imul, 1) := by decide +kernel
theorem dRG_addProduct_99 : decode c_RG_addProduct 99 = .ok (.iconst 2, 1) := by decide +kernel
theorem dRG_addProduct_100 : decode c_RG_addProduct 100 = .ok (.iadd, 1) := by decide +kernel
theorem dRG_addProduct_101 : decode c_RG_addProduct 101 = .ok (.aload_n 0, 1) := by decide +kernel
theorem dRG_addProduct_102 : decode c_RG_addProduct 102 = .ok (.getfield 7, 3) := by decide +kernel
theorem dRG_addProduct_105 : decode c_RG_addProduct 105 = .ok (.iload 5, 2) := by decide +kernel
theorem dRG_addProduct_107 : decode c_RG_addProduct 107 = .ok (.isub, 1) := by decide +kernel
theorem dRG_addProduct_108 : decode c_RG_addProduct 108 = .ok (.i2l, 1) := by decide +kernel
theorem dRG_addProduct_109 : decode c_RG_addProduct 109 = .ok (.invokevirtual 34, 3) := by decide +kernel
theorem dRG_addProduct_112 : decode c_RG_addProduct 112 = .ok (.iinc 4 1, 3) := by decide +kernel
theorem dRG_addProduct_115 : decode c_RG_addProduct 115 = .ok (.goto (-57), 3) := by decide +kernel
theorem dRG_addProduct_118 : decode c_RG_addProduct 118 = .ok (.return_, 1) := by decide +kernel
abbrev c_RG_add : ByteArray := prog_9_method_9_code
abbrev y_RG_add : MethodName := ⟨"LatticeKeys$Ring", "add", "([I[I)V"⟩
abbrev w_RG_add : List Cond := Cond.code y_RG_add c_RG_add 5 none :: WG
theorem dRG_add_0 : decode c_RG_add 0 = .ok (.iconst 0, 1) := by decide +kernel
theorem dRG_add_1 : decode c_RG_add 1 = .ok (.istore_n 3, 1) := by decide +kernel
theorem dRG_add_2 : decode c_RG_add 2 = .ok (.iload_n 3, 1) := by decide +kernel
theorem dRG_add_3 : decode c_RG_add 3 = .ok (.sipush 256, 3) := by decide +kernel
theorem dRG_add_6 : decode c_RG_add 6 = .ok (.if_icmp .ge 42, 3) := by decide +kernel
theorem dRG_add_9 : decode c_RG_add 9 = .ok (.aload_n 1, 1) := by decide +kernel
theorem dRG_add_10 : decode c_RG_add 10 = .ok (.iload_n 3, 1) := by decide +kernel
theorem dRG_add_11 : decode c_RG_add 11 = .ok (.iaload, 1) := by decide +kernel
theorem dRG_add_12 : decode c_RG_add 12 = .ok (.aload_n 2, 1) := by decide +kernel
theorem dRG_add_13 : decode c_RG_add 13 = .ok (.iload_n 3, 1) := by decide +kernel
theorem dRG_add_14 : decode c_RG_add 14 = .ok (.iaload, 1) := by decide +kernel
theorem dRG_add_15 : decode c_RG_add 15 = .ok (.iadd, 1) := by decide +kernel
theorem dRG_add_16 : decode c_RG_add 16 = .ok (.istore 4, 2) := by decide +kernel
theorem dRG_add_18 : decode c_RG_add 18 = .ok (.aload_n 1, 1) := by decide +kernel
theorem dRG_add_19 : decode c_RG_add 19 = .ok (.iload_n 3, 1) := by decide +kernel
theorem dRG_add_20 : decode c_RG_add 20 = .ok (.iload 4, 2) := by decide +kernel
theorem dRG_add_22 : decode c_RG_add 22 = .ok (.aload_n 0, 1) := by decide +kernel
theorem dRG_add_23 : decode c_RG_add 23 = .ok (.getfield 7, 3) := by decide +kernel
theorem dRG_add_26 : decode c_RG_add 26 = .ok (.if_icmp .lt 13, 3) := by decide +kernel
theorem dRG_add_29 : decode c_RG_add 29 = .ok (.iload 4, 2) := by decide +kernel
theorem dRG_add_31 : decode c_RG_add 31 = .ok (.aload_n 0, 1) := by decide +kernel
theorem dRG_add_32 : decode c_RG_add 32 = .ok (.getfield 7, 3) := by decide +kernel
theorem dRG_add_35 : decode c_RG_add 35 = .ok (.isub, 1) := by decide +kernel
theorem dRG_add_36 : decode c_RG_add 36 = .ok (.goto 5, 3) := by decide +kernel
theorem dRG_add_39 : decode c_RG_add 39 = .ok (.iload 4, 2) := by decide +kernel
theorem dRG_add_41 : decode c_RG_add 41 = .ok (.iastore, 1) := by decide +kernel
theorem dRG_add_42 : decode c_RG_add 42 = .ok (.iinc 3 1, 3) := by decide +kernel
theorem dRG_add_45 : decode c_RG_add 45 = .ok (.goto (-43), 3) := by decide +kernel
theorem dRG_add_48 : decode c_RG_add 48 = .ok (.return_, 1) := by decide +kernel
abbrev c_RG_subtract : ByteArray := prog_9_method_10_code
abbrev y_RG_subtract : MethodName := ⟨"LatticeKeys$Ring", "subtract", "([I[I)V"⟩
abbrev w_RG_subtract : List Cond := Cond.code y_RG_subtract c_RG_subtract 5 none :: WG
theorem dRG_subtract_0 : decode c_RG_subtract 0 = .ok (.iconst 0, 1) := by decide +kernel
theorem dRG_subtract_1 : decode c_RG_subtract 1 = .ok (.istore_n 3, 1) := by decide +kernel
theorem dRG_subtract_2 : decode c_RG_subtract 2 = .ok (.iload_n 3, 1) := by decide +kernel
theorem dRG_subtract_3 : decode c_RG_subtract 3 = .ok (.sipush 256, 3) := by decide +kernel
theorem dRG_subtract_6 : decode c_RG_subtract 6 = .ok (.if_icmp .ge 38, 3) := by decide +kernel
theorem dRG_subtract_9 : decode c_RG_subtract 9 = .ok (.aload_n 1, 1) := by decide +kernel
theorem dRG_subtract_10 : decode c_RG_subtract 10 = .ok (.iload_n 3, 1) := by decide +kernel
theorem dRG_subtract_11 : decode c_RG_subtract 11 = .ok (.iaload, 1) := by decide +kernel
theorem dRG_subtract_12 : decode c_RG_subtract 12 = .ok (.aload_n 2, 1) := by decide +kernel
theorem dRG_subtract_13 : decode c_RG_subtract 13 = .ok (.iload_n 3, 1) := by decide +kernel
theorem dRG_subtract_14 : decode c_RG_subtract 14 = .ok (.iaload, 1) := by decide +kernel
theorem dRG_subtract_15 : decode c_RG_subtract 15 = .ok (.isub, 1) := by decide +kernel
theorem dRG_subtract_16 : decode c_RG_subtract 16 = .ok (.istore 4, 2) := by decide +kernel
theorem dRG_subtract_18 : decode c_RG_subtract 18 = .ok (.aload_n 1, 1) := by decide +kernel
theorem dRG_subtract_19 : decode c_RG_subtract 19 = .ok (.iload_n 3, 1) := by decide +kernel
theorem dRG_subtract_20 : decode c_RG_subtract 20 = .ok (.iload 4, 2) := by decide +kernel
theorem dRG_subtract_22 : decode c_RG_subtract 22 = .ok (.ifCond .ge 13, 3) := by decide +kernel
theorem dRG_subtract_25 : decode c_RG_subtract 25 = .ok (.iload 4, 2) := by decide +kernel
theorem dRG_subtract_27 : decode c_RG_subtract 27 = .ok (.aload_n 0, 1) := by decide +kernel
theorem dRG_subtract_28 : decode c_RG_subtract 28 = .ok (.getfield 7, 3) := by decide +kernel
theorem dRG_subtract_31 : decode c_RG_subtract 31 = .ok (.iadd, 1) := by decide +kernel
theorem dRG_subtract_32 : decode c_RG_subtract 32 = .ok (.goto 5, 3) := by decide +kernel
theorem dRG_subtract_35 : decode c_RG_subtract 35 = .ok (.iload 4, 2) := by decide +kernel
theorem dRG_subtract_37 : decode c_RG_subtract 37 = .ok (.iastore, 1) := by decide +kernel
theorem dRG_subtract_38 : decode c_RG_subtract 38 = .ok (.iinc 3 1, 3) := by decide +kernel
theorem dRG_subtract_41 : decode c_RG_subtract 41 = .ok (.goto (-39), 3) := by decide +kernel
theorem dRG_subtract_44 : decode c_RG_subtract 44 = .ok (.return_, 1) := by decide +kernel
abbrev c_RG_flip : ByteArray := prog_9_method_11_code
abbrev y_RG_flip : MethodName := ⟨"LatticeKeys$Ring", "flip", "([II[I)V"⟩
abbrev w_RG_flip : List Cond := Cond.code y_RG_flip c_RG_flip 6 none :: WG
theorem dRG_flip_0 : decode c_RG_flip 0 = .ok (.iconst 0, 1) := by decide +kernel
theorem dRG_flip_1 : decode c_RG_flip 1 = .ok (.istore 4, 2) := by decide +kernel
theorem dRG_flip_3 : decode c_RG_flip 3 = .ok (.iload 4, 2) := by decide +kernel
theorem dRG_flip_5 : decode c_RG_flip 5 = .ok (.sipush 256, 3) := by decide +kernel
theorem dRG_flip_8 : decode c_RG_flip 8 = .ok (.if_icmp .ge 38, 3) := by decide +kernel
theorem dRG_flip_11 : decode c_RG_flip 11 = .ok (.iload_n 2, 1) := by decide +kernel
theorem dRG_flip_12 : decode c_RG_flip 12 = .ok (.aload_n 1, 1) := by decide +kernel
theorem dRG_flip_13 : decode c_RG_flip 13 = .ok (.iload 4, 2) := by decide +kernel
theorem dRG_flip_15 : decode c_RG_flip 15 = .ok (.iaload, 1) := by decide +kernel
theorem dRG_flip_16 : decode c_RG_flip 16 = .ok (.isub, 1) := by decide +kernel
theorem dRG_flip_17 : decode c_RG_flip 17 = .ok (.istore 5, 2) := by decide +kernel
theorem dRG_flip_19 : decode c_RG_flip 19 = .ok (.aload_n 3, 1) := by decide +kernel
theorem dRG_flip_20 : decode c_RG_flip 20 = .ok (.iload 4, 2) := by decide +kernel
theorem dRG_flip_22 : decode c_RG_flip 22 = .ok (.iload 5, 2) := by decide +kernel
theorem dRG_flip_24 : decode c_RG_flip 24 = .ok (.ifCond .ge 13, 3) := by decide +kernel
theorem dRG_flip_27 : decode c_RG_flip 27 = .ok (.iload 5, 2) := by decide +kernel
theorem dRG_flip_29 : decode c_RG_flip 29 = .ok (.aload_n 0, 1) := by decide +kernel
theorem dRG_flip_30 : decode c_RG_flip 30 = .ok (.getfield 7, 3) := by decide +kernel
theorem dRG_flip_33 : decode c_RG_flip 33 = .ok (.iadd, 1) := by decide +kernel
theorem dRG_flip_34 : decode c_RG_flip 34 = .ok (.goto 5, 3) := by decide +kernel
theorem dRG_flip_37 : decode c_RG_flip 37 = .ok (.iload 5, 2) := by decide +kernel
theorem dRG_flip_39 : decode c_RG_flip 39 = .ok (.iastore, 1) := by decide +kernel
theorem dRG_flip_40 : decode c_RG_flip 40 = .ok (.iinc 4 1, 3) := by decide +kernel
theorem dRG_flip_43 : decode c_RG_flip 43 = .ok (.goto (-40), 3) := by decide +kernel
theorem dRG_flip_46 : decode c_RG_flip 46 = .ok (.return_, 1) := by decide +kernel
abbrev c_RG_isShort : ByteArray := prog_9_method_12_code
abbrev y_RG_isShort : MethodName := ⟨"LatticeKeys$Ring", "isShort", "([II)Z"⟩
abbrev w_RG_isShort : List Cond := Cond.code y_RG_isShort c_RG_isShort 4 (some .boolean) :: WG
theorem dRG_isShort_0 : decode c_RG_isShort 0 = .ok (.iconst 0, 1) := by decide +kernel
theorem dRG_isShort_1 : decode c_RG_isShort 1 = .ok (.istore_n 3, 1) := by decide +kernel
theorem dRG_isShort_2 : decode c_RG_isShort 2 = .ok (.iload_n 3, 1) := by decide +kernel
theorem dRG_isShort_3 : decode c_RG_isShort 3 = .ok (.sipush 256, 3) := by decide +kernel
theorem dRG_isShort_6 : decode c_RG_isShort 6 = .ok (.if_icmp .ge 30, 3) := by decide +kernel
theorem dRG_isShort_9 : decode c_RG_isShort 9 = .ok (.aload_n 1, 1) := by decide +kernel
theorem dRG_isShort_10 : decode c_RG_isShort 10 = .ok (.iload_n 3, 1) := by decide +kernel
theorem dRG_isShort_11 : decode c_RG_isShort 11 = .ok (.iaload, 1) := by decide +kernel
theorem dRG_isShort_12 : decode c_RG_isShort 12 = .ok (.iload_n 2, 1) := by decide +kernel
theorem dRG_isShort_13 : decode c_RG_isShort 13 = .ok (.if_icmp .lt 17, 3) := by decide +kernel
theorem dRG_isShort_16 : decode c_RG_isShort 16 = .ok (.aload_n 1, 1) := by decide +kernel
theorem dRG_isShort_17 : decode c_RG_isShort 17 = .ok (.iload_n 3, 1) := by decide +kernel
theorem dRG_isShort_18 : decode c_RG_isShort 18 = .ok (.iaload, 1) := by decide +kernel
theorem dRG_isShort_19 : decode c_RG_isShort 19 = .ok (.aload_n 0, 1) := by decide +kernel
theorem dRG_isShort_20 : decode c_RG_isShort 20 = .ok (.getfield 7, 3) := by decide +kernel
theorem dRG_isShort_23 : decode c_RG_isShort 23 = .ok (.iload_n 2, 1) := by decide +kernel
theorem dRG_isShort_24 : decode c_RG_isShort 24 = .ok (.isub, 1) := by decide +kernel
theorem dRG_isShort_25 : decode c_RG_isShort 25 = .ok (.if_icmp .gt 5, 3) := by decide +kernel
theorem dRG_isShort_28 : decode c_RG_isShort 28 = .ok (.iconst 0, 1) := by decide +kernel
theorem dRG_isShort_29 : decode c_RG_isShort 29 = .ok (.ireturn, 1) := by decide +kernel
theorem dRG_isShort_30 : decode c_RG_isShort 30 = .ok (.iinc 3 1, 3) := by decide +kernel
theorem dRG_isShort_33 : decode c_RG_isShort 33 = .ok (.goto (-31), 3) := by decide +kernel
theorem dRG_isShort_36 : decode c_RG_isShort 36 = .ok (.iconst 1, 1) := by decide +kernel
theorem dRG_isShort_37 : decode c_RG_isShort 37 = .ok (.ireturn, 1) := by decide +kernel
set_option maxHeartbeats 400000 in
set_option maxRecDepth 100000 in
theorem t_RG_addPair_11 (l : Launch) (g : Gd) (sz : Nat) (T : Ty) (xs : List Nat) (pl : va_W) (hO : okx g T xs pl) (hU : uni T) (hc0 : clo T xs 0) (h0 sm f fg at_ : Nat) (rt : Int64) (k_h0 : T h0 = some (11, 0)) (k_sm : T sm = some (0, 256)) (k_f : T f = some (0, 256)) (k_fg : T fg = some (0, 256)) (h1 : at_ + 1 < 256)  : Met l y_RG_addPair w_RG_addPair ({ frames := 0, cells := 0, slots := 0, locals := 0 } : Room) (va_Pc [.ref h0, .ref sm, .ref f, .ref fg, .int (nI at_), .long rt] (pr (en g) g.1 vcl sz ([] ++ pl))) (va_Qv (fun (u : va_W) => (True) ∧ okx g T xs u) (po g.1 vcl (va_A ([] ++ pl) sz) (fun (u : va_W) => [] ++ u)) (va_A ([] ++ pl) sz)) 0 0 (va_A ([] ++ pl) sz) := by
  sorry
set_option maxHeartbeats 400000 in
set_option maxRecDepth 100000 in
theorem t_RG_addPair_12 (l : Launch) (g : Gd) (sz : Nat) (T : Ty) (xs : List Nat) (pl : va_W) (hO : okx g T xs pl) (hU : uni T) (hc0 : clo T xs 0) (h0 sm f fg at_ : Nat) (rt : Int64) (k_h0 : T h0 = some (12, 0)) (k_sm : T sm = some (0, 256)) (k_f : T f = some (0, 256)) (k_fg : T fg = some (0, 256)) (h1 : at_ + 1 < 256)  : Met l y_RG_addPair w_RG_addPair ({ frames := 0, cells := 0, slots := 0, locals := 0 } : Room) (va_Pc [.ref h0, .ref sm, .ref f, .ref fg, .int (nI at_), .long rt] (pr (en g) g.1 vcl sz ([] ++ pl))) (va_Qv (fun (u : va_W) => (True) ∧ okx g T xs u) (po g.1 vcl (va_A ([] ++ pl) sz) (fun (u : va_W) => [] ++ u)) (va_A ([] ++ pl) sz)) 0 0 (va_A ([] ++ pl) sz) := by
  sorry
set_option maxHeartbeats 400000 in
set_option maxRecDepth 100000 in
theorem t_RG_addProduct_11 (l : Launch) (g : Gd) (sz : Nat) (T : Ty) (xs : List Nat) (pl : va_W) (hO : okx g T xs pl) (hU : uni T) (hc0 : clo T xs 0) (h0 sm f fg : Nat) (k_h0 : T h0 = some (11, 0)) (k_sm : T sm = some (0, 256)) (k_f : T f = some (0, 256)) (k_fg : T fg = some (0, 256))  : Met l y_RG_addProduct w_RG_addProduct ({ frames := 1, cells := 0, slots := 0, locals := 32 } : Room) (va_Pc [.ref h0, .ref sm, .ref f, .ref fg] (pr (en g) g.1 vcl sz ([] ++ pl))) (va_Qv (fun (u : va_W) => (True) ∧ okx g T xs u) (po g.1 vcl (va_A ([] ++ pl) sz) (fun (u : va_W) => [] ++ u)) (va_A ([] ++ pl) sz)) 0 0 (va_A ([] ++ pl) sz) := by
  sorry
set_option maxHeartbeats 400000 in
set_option maxRecDepth 100000 in
theorem t_RG_addProduct_12 (l : Launch) (g : Gd) (sz : Nat) (T : Ty) (xs : List Nat) (pl : va_W) (hO : okx g T xs pl) (hU : uni T) (hc0 : clo T xs 0) (h0 sm f fg : Nat) (k_h0 : T h0 = some (12, 0)) (k_sm : T sm = some (0, 256)) (k_f : T f = some (0, 256)) (k_fg : T fg = some (0, 256))  : Met l y_RG_addProduct w_RG_addProduct ({ frames := 0, cells := 0, slots := 0, locals := 0 } : Room) (va_Pc [.ref h0, .ref sm, .ref f, .ref fg] (pr (en g) g.1 vcl sz ([] ++ pl))) (va_Qv (fun (u : va_W) => (True) ∧ okx g T xs u) (po g.1 vcl (va_A ([] ++ pl) sz) (fun (u : va_W) => [] ++ u)) (va_A ([] ++ pl) sz)) 0 0 (va_A ([] ++ pl) sz) := by
  sorry
set_option maxHeartbeats 400000 in
set_option maxRecDepth 100000 in
theorem t_RG_add_11 (l : Launch) (g : Gd) (sz : Nat) (T : Ty) (xs : List Nat) (pl : va_W) (hO : okx g T xs pl) (hU : uni T) (hc0 : clo T xs 0) (h0 f fg : Nat) (k_h0 : T h0 = some (11, 0)) (k_f : T f = some (0, 256)) (k_fg : T fg = some (0, 256))  : Met l y_RG_add w_RG_add ({ frames := 0, cells := 0, slots := 0, locals := 0 } : Room) (va_Pc [.ref h0, .ref f, .ref fg] (pr (en g) g.1 vcl sz ([] ++ pl))) (va_Qv (fun (u : va_W) => (True) ∧ okx g T xs u) (po g.1 vcl (va_A ([] ++ pl) sz) (fun (u : va_W) => [] ++ u)) (va_A ([] ++ pl) sz)) 0 0 (va_A ([] ++ pl) sz) := by
  sorry
set_option maxHeartbeats 400000 in
set_option maxRecDepth 100000 in
theorem t_RG_add_12 (l : Launch) (g : Gd) (sz : Nat) (T : Ty) (xs : List Nat) (pl : va_W) (hO : okx g T xs pl) (hU : uni T) (hc0 : clo T xs 0) (h0 f fg : Nat) (k_h0 : T h0 = some (12, 0)) (k_f : T f = some (0, 256)) (k_fg : T fg = some (0, 256))  : Met l y_RG_add w_RG_add ({ frames := 0, cells := 0, slots := 0, locals := 0 } : Room) (va_Pc [.ref h0, .ref f, .ref fg] (pr (en g) g.1 vcl sz ([] ++ pl))) (va_Qv (fun (u : va_W) => (True) ∧ okx g T xs u) (po g.1 vcl (va_A ([] ++ pl) sz) (fun (u : va_W) => [] ++ u)) (va_A ([] ++ pl) sz)) 0 0 (va_A ([] ++ pl) sz) := by
  sorry
set_option maxHeartbeats 400000 in
set_option maxRecDepth 100000 in
theorem t_RG_subtract_11 (l : Launch) (g : Gd) (sz : Nat) (T : Ty) (xs : List Nat) (pl : va_W) (hO : okx g T xs pl) (hU : uni T) (hc0 : clo T xs 0) (h0 f fg : Nat) (k_h0 : T h0 = some (11, 0)) (k_f : T f = some (0, 256)) (k_fg : T fg = some (0, 256))  : Met l y_RG_subtract w_RG_subtract ({ frames := 0, cells := 0, slots := 0, locals := 0 } : Room) (va_Pc [.ref h0, .ref f, .ref fg] (pr (en g) g.1 vcl sz ([] ++ pl))) (va_Qv (fun (u : va_W) => (True) ∧ okx g T xs u) (po g.1 vcl (va_A ([] ++ pl) sz) (fun (u : va_W) => [] ++ u)) (va_A ([] ++ pl) sz)) 0 0 (va_A ([] ++ pl) sz) := by
  sorry
set_option maxHeartbeats 400000 in
set_option maxRecDepth 100000 in
theorem t_RG_subtract_12 (l : Launch) (g : Gd) (sz : Nat) (T : Ty) (xs : List Nat) (pl : va_W) (hO : okx g T xs pl) (hU : uni T) (hc0 : clo T xs 0) (h0 f fg : Nat) (k_h0 : T h0 = some (12, 0)) (k_f : T f = some (0, 256)) (k_fg : T fg = some (0, 256))  : Met l y_RG_subtract w_RG_subtract ({ frames := 0, cells := 0, slots := 0, locals := 0 } : Room) (va_Pc [.ref h0, .ref f, .ref fg] (pr (en g) g.1 vcl sz ([] ++ pl))) (va_Qv (fun (u : va_W) => (True) ∧ okx g T xs u) (po g.1 vcl (va_A ([] ++ pl) sz) (fun (u : va_W) => [] ++ u)) (va_A ([] ++ pl) sz)) 0 0 (va_A ([] ++ pl) sz) := by
  sorry
set_option maxHeartbeats 400000 in
set_option maxRecDepth 100000 in
theorem t_RG_flip_11 (l : Launch) (g : Gd) (sz : Nat) (T : Ty) (xs : List Nat) (pl : va_W) (hO : okx g T xs pl) (hU : uni T) (hc0 : clo T xs 0) (h0 f fg : Nat) (tp : Int32) (k_h0 : T h0 = some (11, 0)) (k_f : T f = some (0, 256)) (k_fg : T fg = some (0, 256))  : Met l y_RG_flip w_RG_flip ({ frames := 0, cells := 0, slots := 0, locals := 0 } : Room) (va_Pc [.ref h0, .ref f, .int tp, .ref fg] (pr (en g) g.1 vcl sz ([] ++ pl))) (va_Qv (fun (u : va_W) => (True) ∧ okx g T xs u) (po g.1 vcl (va_A ([] ++ pl) sz) (fun (u : va_W) => [] ++ u)) (va_A ([] ++ pl) sz)) 0 0 (va_A ([] ++ pl) sz) := by
  sorry
set_option maxHeartbeats 400000 in
set_option maxRecDepth 100000 in
theorem t_RG_flip_12 (l : Launch) (g : Gd) (sz : Nat) (T : Ty) (xs : List Nat) (pl : va_W) (hO : okx g T xs pl) (hU : uni T) (hc0 : clo T xs 0) (h0 f fg : Nat) (tp : Int32) (k_h0 : T h0 = some (12, 0)) (k_f : T f = some (0, 256)) (k_fg : T fg = some (0, 256))  : Met l y_RG_flip w_RG_flip ({ frames := 0, cells := 0, slots := 0, locals := 0 } : Room) (va_Pc [.ref h0, .ref f, .int tp, .ref fg] (pr (en g) g.1 vcl sz ([] ++ pl))) (va_Qv (fun (u : va_W) => (True) ∧ okx g T xs u) (po g.1 vcl (va_A ([] ++ pl) sz) (fun (u : va_W) => [] ++ u)) (va_A ([] ++ pl) sz)) 0 0 (va_A ([] ++ pl) sz) := by
  sorry
set_option maxHeartbeats 400000 in
set_option maxRecDepth 100000 in
theorem t_RG_isShort_11 (l : Launch) (g : Gd) (sz : Nat) (T : Ty) (xs : List Nat) (pl : va_W) (hO : okx g T xs pl) (hU : uni T) (hc0 : clo T xs 0) (h0 f : Nat) (bd : Int32) (k_h0 : T h0 = some (11, 0)) (k_f : T f = some (0, 256))  : Met l y_RG_isShort w_RG_isShort ({ frames := 0, cells := 0, slots := 0, locals := 0 } : Room) (va_Pc [.ref h0, .ref f, .int bd] (pr (en g) g.1 vcl sz ([] ++ pl))) (va_Qi (fun (r : Int32) (u : va_W) => (r = nI 0 ∨ r = nI 1) ∧ okx g T xs u) (po g.1 vcl (va_A ([] ++ pl) sz) (fun (u : va_W) => [] ++ u)) (va_A ([] ++ pl) sz)) 0 0 (va_A ([] ++ pl) sz) := by
  sorry
set_option maxHeartbeats 400000 in
set_option maxRecDepth 100000 in
theorem t_RG_isShort_12 (l : Launch) (g : Gd) (sz : Nat) (T : Ty) (xs : List Nat) (pl : va_W) (hO : okx g T xs pl) (hU : uni T) (hc0 : clo T xs 0) (h0 f : Nat) (bd : Int32) (k_h0 : T h0 = some (12, 0)) (k_f : T f = some (0, 256))  : Met l y_RG_isShort w_RG_isShort ({ frames := 0, cells := 0, slots := 0, locals := 0 } : Room) (va_Pc [.ref h0, .ref f, .int bd] (pr (en g) g.1 vcl sz ([] ++ pl))) (va_Qi (fun (r : Int32) (u : va_W) => (r = nI 0 ∨ r = nI 1) ∧ okx g T xs u) (po g.1 vcl (va_A ([] ++ pl) sz) (fun (u : va_W) => [] ++ u)) (va_A ([] ++ pl) sz)) 0 0 (va_A ([] ++ pl) sz) := by
  sorry
