set_option linter.all false
abbrev c_MR_root : ByteArray := prog_14_method_2_code
abbrev y_MR_root : MethodName := ⟨"LatticeKeysModel$Ring", "root", "(I)J"⟩
abbrev w_MR_root : List Cond := Cond.code y_MR_root c_MR_root 2 (some .long) :: WG
theorem dMR_root_0 : decode c_MR_root 0 = .ok (.aload_n 0, 1) := by decide +kernel
theorem dMR_root_1 : decode c_MR_root 1 = .ok (.getfield 20, 3) := by decide +kernel
theorem dMR_root_4 : decode c_MR_root 4 = .ok (.aload_n 0, 1) := by decide +kernel
theorem dMR_root_5 : decode c_MR_root 5 = .ok (.getfield 24, 3) := by decide +kernel
theorem dMR_root_8 : decode c_MR_root 8 = .ok (.iload_n 1, 1) := by decide +kernel
theorem dMR_root_9 : decode c_MR_root 9 = .ok (.iaload, 1) := by decide +kernel
theorem dMR_root_10 : decode c_MR_root 10 = .ok (.laload, 1) := by decide +kernel
theorem dMR_root_11 : decode c_MR_root 11 = .ok (.lreturn, 1) := by decide +kernel
abbrev c_MR_forth : ByteArray := prog_14_method_3_code
abbrev y_MR_forth : MethodName := ⟨"LatticeKeysModel$Ring", "forth", "([I[III)V"⟩
abbrev w_MR_forth : List Cond := Cond.code y_MR_forth c_MR_forth 10 none :: WG
theorem dMR_forth_0 : decode c_MR_forth 0 = .ok (.iconst 0, 1) := by decide +kernel
theorem dMR_forth_1 : decode c_MR_forth 1 = .ok (.istore 5, 2) := by decide +kernel
theorem dMR_forth_3 : decode c_MR_forth 3 = .ok (.iload 5, 2) := by decide +kernel
theorem dMR_forth_5 : decode c_MR_forth 5 = .ok (.aload_n 0, 1) := by decide +kernel
theorem dMR_forth_6 : decode c_MR_forth 6 = .ok (.getfield 17, 3) := by decide +kernel
theorem dMR_forth_9 : decode c_MR_forth 9 = .ok (.if_icmp .ge 95, 3) := by decide +kernel
theorem dMR_forth_12 : decode c_MR_forth 12 = .ok (.lconst 0, 1) := by decide +kernel
theorem dMR_forth_13 : decode c_MR_forth 13 = .ok (.lstore 6, 2) := by decide +kernel
theorem dMR_forth_15 : decode c_MR_forth 15 = .ok (.iconst 0, 1) := by decide +kernel
theorem dMR_forth_16 : decode c_MR_forth 16 = .ok (.istore 8, 2) := by decide +kernel
theorem dMR_forth_18 : decode c_MR_forth 18 = .ok (.iconst 0, 1) := by decide +kernel
theorem dMR_forth_19 : decode c_MR_forth 19 = .ok (.istore 9, 2) := by decide +kernel
theorem dMR_forth_21 : decode c_MR_forth 21 = .ok (.iload 9, 2) := by decide +kernel
theorem dMR_forth_23 : decode c_MR_forth 23 = .ok (.aload_n 0, 1) := by decide +kernel
theorem dMR_forth_24 : decode c_MR_forth 24 = .ok (.getfield 17, 3) := by decide +kernel
theorem dMR_forth_27 : decode c_MR_forth 27 = .ok (.if_icmp .ge 53, 3) := by decide +kernel
theorem dMR_forth_30 : decode c_MR_forth 30 = .ok (.lload 6, 2) := by decide +kernel
theorem dMR_forth_32 : decode c_MR_forth 32 = .ok (.aload_n 1, 1) := by decide +kernel
theorem dMR_forth_33 : decode c_MR_forth 33 = .ok (.iload_n 3, 1) := by decide +kernel
theorem dMR_forth_34 : decode c_MR_forth 34 = .ok (.iload 9, 2) := by decide +kernel
theorem dMR_forth_36 : decode c_MR_forth 36 = .ok (.imul, 1) := by decide +kernel
theorem dMR_forth_37 : decode c_MR_forth 37 = .ok (.iload 4, 2) := by decide +kernel
theorem dMR_forth_39 : decode c_MR_forth 39 = .ok (.iadd, 1) := by decide +kernel
theorem dMR_forth_40 : decode c_MR_forth 40 = .ok (.iaload, 1) := by decide +kernel
theorem dMR_forth_41 : decode c_MR_forth 41 = .ok (.i2l, 1) := by decide +kernel
theorem dMR_forth_42 : decode c_MR_forth 42 = .ok (.aload_n 0, 1) := by decide +kernel
theorem dMR_forth_43 : decode c_MR_forth 43 = .ok (.getfield 20, 3) := by decide +kernel
theorem dMR_forth_46 : decode c_MR_forth 46 = .ok (.iload 8, 2) := by decide +kernel
theorem dMR_forth_48 : decode c_MR_forth 48 = .ok (.laload, 1) := by decide +kernel
theorem dMR_forth_49 : decode c_MR_forth 49 = .ok (.lmul, 1) := by decide +kernel
theorem dMR_forth_50 : decode c_MR_forth 50 = .ok (.ladd, 1) := by decide +kernel
theorem dMR_forth_51 : decode c_MR_forth 51 = .ok (.lstore 6, 2) := by decide +kernel
theorem dMR_forth_53 : decode c_MR_forth 53 = .ok (.iload 8, 2) := by decide +kernel
theorem dMR_forth_55 : decode c_MR_forth 55 = .ok (.aload_n 0, 1) := by decide +kernel
theorem dMR_forth_56 : decode c_MR_forth 56 = .ok (.getfield 24, 3) := by decide +kernel
theorem dMR_forth_59 : decode c_MR_forth 59 = .ok (.iload 5, 2) := by decide +kernel
theorem dMR_forth_61 : decode c_MR_forth 61 = .ok (.iaload, 1) := by decide +kernel
theorem dMR_forth_62 : decode c_MR_forth 62 = .ok (.iadd, 1) := by decide +kernel
theorem dMR_forth_63 : decode c_MR_forth 63 = .ok (.iconst 2, 1) := by decide +kernel
theorem dMR_forth_64 : decode c_MR_forth 64 = .ok (.aload_n 0, 1) := by decide +kernel
theorem dMR_forth_65 : decode c_MR_forth 65 = .ok (.getfield 17, 3) := by decide +kernel
theorem dMR_forth_68 : decode c_MR_forth 68 = .ok (.imul, 1) := by decide +kernel
theorem dMR_forth_69 : decode c_MR_forth 69 = .ok (.iconst 1, 1) := by decide +kernel
theorem dMR_forth_70 : decode c_MR_forth 70 = .ok (.isub, 1) := by decide +kernel
theorem dMR_forth_71 : decode c_MR_forth 71 = .ok (.iand, 1) := by decide +kernel
theorem dMR_forth_72 : decode c_MR_forth 72 = .ok (.istore 8, 2) := by decide +kernel
theorem dMR_forth_74 : decode c_MR_forth 74 = .ok (.iinc 9 1, 3) := by decide +kernel
theorem dMR_forth_77 : decode c_MR_forth 77 = .ok (.goto (-56), 3) := by decide +kernel
theorem dMR_forth_80 : decode c_MR_forth 80 = .ok (.aload_n 2, 1) := by decide +kernel
theorem dMR_forth_81 : decode c_MR_forth 81 = .ok (.iload_n 3, 1) := by decide +kernel
theorem dMR_forth_82 : decode c_MR_forth 82 = .ok (.iload 5, 2) := by decide +kernel
theorem dMR_forth_84 : decode c_MR_forth 84 = .ok (.imul, 1) := by decide +kernel
theorem dMR_forth_85 : decode c_MR_forth 85 = .ok (.iload 4, 2) := by decide +kernel
theorem dMR_forth_87 : decode c_MR_forth 87 = .ok (.iadd, 1) := by decide +kernel
theorem dMR_forth_88 : decode c_MR_forth 88 = .ok (.lload 6, 2) := by decide +kernel
theorem dMR_forth_90 : decode c_MR_forth 90 = .ok (.aload_n 0, 1) := by decide +kernel
theorem dMR_forth_91 : decode c_MR_forth 91 = .ok (.getfield 13, 3) := by decide +kernel
theorem dMR_forth_94 : decode c_MR_forth 94 = .ok (.i2l, 1) := by decide +kernel
theorem dMR_forth_95 : decode c_MR_forth 95 = .ok (.lrem, 1) := by decide +kernel
theorem dMR_forth_96 : decode c_MR_forth 96 = .ok (.l2i, 1) := by decide +kernel
theorem dMR_forth_97 : decode c_MR_forth 97 = .ok (.iastore, 1) := by decide +kernel
theorem dMR_forth_98 : decode c_MR_forth 98 = .ok (.iinc 5 1, 3) := by decide +kernel
theorem dMR_forth_101 : decode c_MR_forth 101 = .ok (.goto (-98), 3) := by decide +kernel
theorem dMR_forth_104 : decode c_MR_forth 104 = .ok (.return_, 1) := by decide +kernel
abbrev c_MR_back : ByteArray := prog_14_method_4_code
abbrev y_MR_back : MethodName := ⟨"LatticeKeysModel$Ring", "back", "([I[III)V"⟩
abbrev w_MR_back : List Cond := Cond.code y_MR_back c_MR_back 9 none :: WG
theorem dMR_back_0 : decode c_MR_back 0 = .ok (.iconst 0, 1) := by decide +kernel
theorem dMR_back_1 : decode c_MR_back 1 = .ok (.istore 5, 2) := by decide +kernel
theorem dMR_back_3 : decode c_MR_back 3 = .ok (.iload 5, 2) := by decide +kernel
theorem dMR_back_5 : decode c_MR_back 5 = .ok (.aload_n 0, 1) := by decide +kernel
theorem dMR_back_6 : decode c_MR_back 6 = .ok (.getfield 17, 3) := by decide +kernel
theorem dMR_back_9 : decode c_MR_back 9 = .ok (.if_icmp .ge 100, 3) := by decide +kernel
theorem dMR_back_12 : decode c_MR_back 12 = .ok (.lconst 0, 1) := by decide +kernel
theorem dMR_back_13 : decode c_MR_back 13 = .ok (.lstore 6, 2) := by decide +kernel
theorem dMR_back_15 : decode c_MR_back 15 = .ok (.iconst 0, 1) := by decide +kernel
theorem dMR_back_16 : decode c_MR_back 16 = .ok (.istore 8, 2) := by decide +kernel
theorem dMR_back_18 : decode c_MR_back 18 = .ok (.iload 8, 2) := by decide +kernel
theorem dMR_back_20 : decode c_MR_back 20 = .ok (.aload_n 0, 1) := by decide +kernel
theorem dMR_back_21 : decode c_MR_back 21 = .ok (.getfield 17, 3) := by decide +kernel
theorem dMR_back_24 : decode c_MR_back 24 = .ok (.if_icmp .ge 50, 3) := by decide +kernel
theorem dMR_back_27 : decode c_MR_back 27 = .ok (.lload 6, 2) := by decide +kernel
theorem dMR_back_29 : decode c_MR_back 29 = .ok (.aload_n 1, 1) := by decide +kernel
theorem dMR_back_30 : decode c_MR_back 30 = .ok (.iload_n 3, 1) := by decide +kernel
theorem dMR_back_31 : decode c_MR_back 31 = .ok (.iload 8, 2) := by decide +kernel
theorem dMR_back_33 : decode c_MR_back 33 = .ok (.imul, 1) := by decide +kernel
theorem dMR_back_34 : decode c_MR_back 34 = .ok (.iload 4, 2) := by decide +kernel
theorem dMR_back_36 : decode c_MR_back 36 = .ok (.iadd, 1) := by decide +kernel
theorem dMR_back_37 : decode c_MR_back 37 = .ok (.iaload, 1) := by decide +kernel
theorem dMR_back_38 : decode c_MR_back 38 = .ok (.i2l, 1) := by decide +kernel
theorem dMR_back_39 : decode c_MR_back 39 = .ok (.aload_n 0, 1) := by decide +kernel
theorem dMR_back_40 : decode c_MR_back 40 = .ok (.getfield 20, 3) := by decide +kernel
theorem dMR_back_43 : decode c_MR_back 43 = .ok (.aload_n 0, 1) := by decide +kernel
theorem dMR_back_44 : decode c_MR_back 44 = .ok (.getfield 24, 3) := by decide +kernel
theorem dMR_back_47 : decode c_MR_back 47 = .ok (.iload 8, 2) := by decide +kernel
theorem dMR_back_49 : decode c_MR_back 49 = .ok (.iaload, 1) := by decide +kernel
theorem dMR_back_50 : decode c_MR_back 50 = .ok (.ineg, 1) := by decide +kernel
theorem dMR_back_51 : decode c_MR_back 51 = .ok (.iload 5, 2) := by decide +kernel
theorem dMR_back_53 : decode c_MR_back 53 = .ok (.imul, 1) := by decide +kernel
theorem dMR_back_54 : decode c_MR_back 54 = .ok (.iconst 2, 1) := by decide +kernel
theorem dMR_back_55 : decode c_MR_back 55 = .ok (.aload_n 0, 1) := by decide +kernel
theorem dMR_back_56 : decode c_MR_back 56 = .ok (.getfield 17, 3) := by decide +kernel
theorem dMR_back_59 : decode c_MR_back 59 = .ok (.imul, 1) := by decide +kernel
theorem dMR_back_60 : decode c_MR_back 60 = .ok (.iconst 1, 1) := by decide +kernel
theorem dMR_back_61 : decode c_MR_back 61 = .ok (.isub, 1) := by decide +kernel
theorem dMR_back_62 : decode c_MR_back 62 = .ok (.iand, 1) := by decide +kernel
theorem dMR_back_63 : decode c_MR_back 63 = .ok (.laload, 1) := by decide +kernel
theorem dMR_back_64 : decode c_MR_back 64 = .ok (.lmul, 1) := by decide +kernel
theorem dMR_back_65 : decode c_MR_back 65 = .ok (.ladd, 1) := by decide +kernel
theorem dMR_back_66 : decode c_MR_back 66 = .ok (.lstore 6, 2) := by decide +kernel
theorem dMR_back_68 : decode c_MR_back 68 = .ok (.iinc 8 1, 3) := by decide +kernel
theorem dMR_back_71 : decode c_MR_back 71 = .ok (.goto (-53), 3) := by decide +kernel
theorem dMR_back_74 : decode c_MR_back 74 = .ok (.aload_n 2, 1) := by decide +kernel
theorem dMR_back_75 : decode c_MR_back 75 = .ok (.iload_n 3, 1) := by decide +kernel
theorem dMR_back_76 : decode c_MR_back 76 = .ok (.iload 5, 2) := by decide +kernel
theorem dMR_back_78 : decode c_MR_back 78 = .ok (.imul, 1) := by decide +kernel
theorem dMR_back_79 : decode c_MR_back 79 = .ok (.iload 4, 2) := by decide +kernel
theorem dMR_back_81 : decode c_MR_back 81 = .ok (.iadd, 1) := by decide +kernel
theorem dMR_back_82 : decode c_MR_back 82 = .ok (.lload 6, 2) := by decide +kernel
theorem dMR_back_84 : decode c_MR_back 84 = .ok (.aload_n 0, 1) := by decide +kernel
theorem dMR_back_85 : decode c_MR_back 85 = .ok (.getfield 13, 3) := by decide +kernel
theorem dMR_back_88 : decode c_MR_back 88 = .ok (.i2l, 1) := by decide +kernel
theorem dMR_back_89 : decode c_MR_back 89 = .ok (.lrem, 1) := by decide +kernel
theorem dMR_back_90 : decode c_MR_back 90 = .ok (.aload_n 0, 1) := by decide +kernel
theorem dMR_back_91 : decode c_MR_back 91 = .ok (.getfield 7, 3) := by decide +kernel
theorem dMR_back_94 : decode c_MR_back 94 = .ok (.lmul, 1) := by decide +kernel
theorem dMR_back_95 : decode c_MR_back 95 = .ok (.aload_n 0, 1) := by decide +kernel
theorem dMR_back_96 : decode c_MR_back 96 = .ok (.getfield 13, 3) := by decide +kernel
theorem dMR_back_99 : decode c_MR_back 99 = .ok (.i2l, 1) := by decide +kernel
theorem dMR_back_100 : decode c_MR_back 100 = .ok (.lrem, 1) := by decide +kernel
theorem dMR_back_101 : decode c_MR_back 101 = .ok (.l2i, 1) := by decide +kernel
theorem dMR_back_102 : decode c_MR_back 102 = .ok (.iastore, 1) := by decide +kernel
theorem dMR_back_103 : decode c_MR_back 103 = .ok (.iinc 5 1, 3) := by decide +kernel
theorem dMR_back_106 : decode c_MR_back 106 = .ok (.goto (-103), 3) := by decide +kernel
theorem dMR_back_109 : decode c_MR_back 109 = .ok (.return_, 1) := by decide +kernel
abbrev c_M_pack : ByteArray := prog_12_method_1_code
abbrev y_M_pack : MethodName := ⟨"LatticeKeysModel", "pack", "([BIII)V"⟩
abbrev w_M_pack : List Cond := Cond.code y_M_pack c_M_pack 7 none :: WG
theorem dM_pack_0 : decode c_M_pack 0 = .ok (.iconst 0, 1) := by decide +kernel
theorem dM_pack_1 : decode c_M_pack 1 = .ok (.istore 4, 2) := by decide +kernel
theorem dM_pack_3 : decode c_M_pack 3 = .ok (.iload 4, 2) := by decide +kernel
theorem dM_pack_5 : decode c_M_pack 5 = .ok (.iload_n 2, 1) := by decide +kernel
theorem dM_pack_6 : decode c_M_pack 6 = .ok (.if_icmp .ge 67, 3) := by decide +kernel
theorem dM_pack_9 : decode c_M_pack 9 = .ok (.iload_n 1, 1) := by decide +kernel
theorem dM_pack_10 : decode c_M_pack 10 = .ok (.iload 4, 2) := by decide +kernel
theorem dM_pack_12 : decode c_M_pack 12 = .ok (.iadd, 1) := by decide +kernel
theorem dM_pack_13 : decode c_M_pack 13 = .ok (.istore 5, 2) := by decide +kernel
theorem dM_pack_15 : decode c_M_pack 15 = .ok (.iconst 1, 1) := by decide +kernel
theorem dM_pack_16 : decode c_M_pack 16 = .ok (.iload 5, 2) := by decide +kernel
theorem dM_pack_18 : decode c_M_pack 18 = .ok (.bipush 8, 2) := by decide +kernel
theorem dM_pack_20 : decode c_M_pack 20 = .ok (.irem, 1) := by decide +kernel
theorem dM_pack_21 : decode c_M_pack 21 = .ok (.ishl, 1) := by decide +kernel
theorem dM_pack_22 : decode c_M_pack 22 = .ok (.istore 6, 2) := by decide +kernel
theorem dM_pack_24 : decode c_M_pack 24 = .ok (.iload_n 3, 1) := by decide +kernel
theorem dM_pack_25 : decode c_M_pack 25 = .ok (.iload 4, 2) := by decide +kernel
theorem dM_pack_27 : decode c_M_pack 27 = .ok (.ishr, 1) := by decide +kernel
theorem dM_pack_28 : decode c_M_pack 28 = .ok (.iconst 1, 1) := by decide +kernel
theorem dM_pack_29 : decode c_M_pack 29 = .ok (.iand, 1) := by decide +kernel
theorem dM_pack_30 : decode c_M_pack 30 = .ok (.iconst 1, 1) := by decide +kernel
theorem dM_pack_31 : decode c_M_pack 31 = .ok (.if_icmp .ne 20, 3) := by decide +kernel
theorem dM_pack_34 : decode c_M_pack 34 = .ok (.aload_n 0, 1) := by decide +kernel
theorem dM_pack_35 : decode c_M_pack 35 = .ok (.iload 5, 2) := by decide +kernel
theorem dM_pack_37 : decode c_M_pack 37 = .ok (.bipush 8, 2) := by decide +kernel
theorem dM_pack_39 : decode c_M_pack 39 = .ok (.idiv, 1) := by decide +kernel
theorem dM_pack_40 : decode c_M_pack 40 = .ok (.dup2, 1) := by decide +kernel
theorem dM_pack_41 : decode c_M_pack 41 = .ok (.baload, 1) := by decide +kernel
theorem dM_pack_42 : decode c_M_pack 42 = .ok (.iload 6, 2) := by decide +kernel
theorem dM_pack_44 : decode c_M_pack 44 = .ok (.i2b, 1) := by decide +kernel
theorem dM_pack_45 : decode c_M_pack 45 = .ok (.ior, 1) := by decide +kernel
theorem dM_pack_46 : decode c_M_pack 46 = .ok (.i2b, 1) := by decide +kernel
theorem dM_pack_47 : decode c_M_pack 47 = .ok (.bastore, 1) := by decide +kernel
theorem dM_pack_48 : decode c_M_pack 48 = .ok (.goto 19, 3) := by decide +kernel
theorem dM_pack_51 : decode c_M_pack 51 = .ok (.aload_n 0, 1) := by decide +kernel
theorem dM_pack_52 : decode c_M_pack 52 = .ok (.iload 5, 2) := by decide +kernel
theorem dM_pack_54 : decode c_M_pack 54 = .ok (.bipush 8, 2) := by decide +kernel
theorem dM_pack_56 : decode c_M_pack 56 = .ok (.idiv, 1) := by decide +kernel
theorem dM_pack_57 : decode c_M_pack 57 = .ok (.dup2, 1) := by decide +kernel
theorem dM_pack_58 : decode c_M_pack 58 = .ok (.baload, 1) := by decide +kernel
theorem dM_pack_59 : decode c_M_pack 59 = .ok (.iload 6, 2) := by decide +kernel
theorem dM_pack_61 : decode c_M_pack 61 = .ok (.iconst (-1), 1) := by decide +kernel
theorem dM_pack_62 : decode c_M_pack 62 = .ok (.ixor, 1) := by decide +kernel
theorem dM_pack_63 : decode c_M_pack 63 = .ok (.i2b, 1) := by decide +kernel
theorem dM_pack_64 : decode c_M_pack 64 = .ok (.iand, 1) := by decide +kernel
theorem dM_pack_65 : decode c_M_pack 65 = .ok (.i2b, 1) := by decide +kernel
theorem dM_pack_66 : decode c_M_pack 66 = .ok (.bastore, 1) := by decide +kernel
theorem dM_pack_67 : decode c_M_pack 67 = .ok (.iinc 4 1, 3) := by decide +kernel
theorem dM_pack_70 : decode c_M_pack 70 = .ok (.goto (-67), 3) := by decide +kernel
theorem dM_pack_73 : decode c_M_pack 73 = .ok (.return_, 1) := by decide +kernel
abbrev c_M_unpack : ByteArray := prog_12_method_2_code
abbrev y_M_unpack : MethodName := ⟨"LatticeKeysModel", "unpack", "([BII)I"⟩
abbrev w_M_unpack : List Cond := Cond.code y_M_unpack c_M_unpack 5 (some .int) :: WG
theorem dM_unpack_0 : decode c_M_unpack 0 = .ok (.iconst 0, 1) := by decide +kernel
theorem dM_unpack_1 : decode c_M_unpack 1 = .ok (.istore_n 3, 1) := by decide +kernel
theorem dM_unpack_2 : decode c_M_unpack 2 = .ok (.iload_n 2, 1) := by decide +kernel
theorem dM_unpack_3 : decode c_M_unpack 3 = .ok (.iconst 1, 1) := by decide +kernel
theorem dM_unpack_4 : decode c_M_unpack 4 = .ok (.isub, 1) := by decide +kernel
theorem dM_unpack_5 : decode c_M_unpack 5 = .ok (.istore 4, 2) := by decide +kernel
theorem dM_unpack_7 : decode c_M_unpack 7 = .ok (.iload 4, 2) := by decide +kernel
theorem dM_unpack_9 : decode c_M_unpack 9 = .ok (.ifCond .lt 33, 3) := by decide +kernel
theorem dM_unpack_12 : decode c_M_unpack 12 = .ok (.iconst 2, 1) := by decide +kernel
theorem dM_unpack_13 : decode c_M_unpack 13 = .ok (.iload_n 3, 1) := by decide +kernel
theorem dM_unpack_14 : decode c_M_unpack 14 = .ok (.imul, 1) := by decide +kernel
theorem dM_unpack_15 : decode c_M_unpack 15 = .ok (.aload_n 0, 1) := by decide +kernel
theorem dM_unpack_16 : decode c_M_unpack 16 = .ok (.iload_n 1, 1) := by decide +kernel
theorem dM_unpack_17 : decode c_M_unpack 17 = .ok (.iload 4, 2) := by decide +kernel
theorem dM_unpack_19 : decode c_M_unpack 19 = .ok (.iadd, 1) := by decide +kernel
theorem dM_unpack_20 : decode c_M_unpack 20 = .ok (.bipush 8, 2) := by decide +kernel
theorem dM_unpack_22 : decode c_M_unpack 22 = .ok (.idiv, 1) := by decide +kernel
theorem dM_unpack_23 : decode c_M_unpack 23 = .ok (.baload, 1) := by decide +kernel
theorem dM_unpack_24 : decode c_M_unpack 24 = .ok (.iload_n 1, 1) := by decide +kernel
theorem dM_unpack_25 : decode c_M_unpack 25 = .ok (.iload 4, 2) := by decide +kernel
theorem dM_unpack_27 : decode c_M_unpack 27 = .ok (.iadd, 1) := by decide +kernel
theorem dM_unpack_28 : decode c_M_unpack 28 = .ok (.bipush 8, 2) := by decide +kernel
theorem dM_unpack_30 : decode c_M_unpack 30 = .ok (.irem, 1) := by decide +kernel
theorem dM_unpack_31 : decode c_M_unpack 31 = .ok (.ishr, 1) := by decide +kernel
theorem dM_unpack_32 : decode c_M_unpack 32 = .ok (.iconst 1, 1) := by decide +kernel
theorem dM_unpack_33 : decode c_M_unpack 33 = .ok (.iand, 1) := by decide +kernel
theorem dM_unpack_34 : decode c_M_unpack 34 = .ok (.iadd, 1) := by decide +kernel
theorem dM_unpack_35 : decode c_M_unpack 35 = .ok (.istore_n 3, 1) := by decide +kernel
theorem dM_unpack_36 : decode c_M_unpack 36 = .ok (.iinc 4 (-1), 3) := by decide +kernel
theorem dM_unpack_39 : decode c_M_unpack 39 = .ok (.goto (-32), 3) := by decide +kernel
theorem dM_unpack_42 : decode c_M_unpack 42 = .ok (.iload_n 3, 1) := by decide +kernel
theorem dM_unpack_43 : decode c_M_unpack 43 = .ok (.ireturn, 1) := by decide +kernel
def M_MR_root (k : Nat) : Prop := (0 : Nat) = 1
noncomputable def F_MR_root (ix : Nat) (s : Sto) : Int64 × Sto := ((ctL 1 (ct3.getD ix 0)), s)
set_option maxHeartbeats 400000 in
set_option maxRecDepth 100000 in
theorem N_MR_root (l : Launch) (g : Gd) (sz : Nat) (T : TyN) (s : Sto) (pl : va_W) (hO : okn g T s pl) (hU : inj T) (h0 : Nat) (ix : Nat) (k_h0 : T h0 = some 178) (h1 : ix < 128)  : Met l y_MR_root w_MR_root ({ frames := 0, cells := 0, slots := 0, locals := 0 } : Room) (va_Pc [.ref h0, .int (nI ix)] (pr (en g) g.1 vcl sz ([] ++ pl))) (va_Ql (fun (r : Int64) (u : (Int64 × Sto) × va_W) => (u.1 = F_MR_root ix s ∧ r = u.1.1 ∧ frm (M_MR_root) s u.1.2 ∧ True) ∧ okn g T u.1.2 u.2) (po g.1 vcl (va_A ([] ++ pl) sz) (fun (u : (Int64 × Sto) × va_W) => [] ++ u.2)) (va_A ([] ++ pl) sz)) 0 0 (va_A ([] ++ pl) sz) := by
  refine mc_entry (cc := c_MR_root) (maxL := 2) (ret := (some .long)) (by decide) rfl (Nat.le_of_ble_eq_true rfl) ?_
  intro p e s0 m args below meth c ls F hr hlk hnm hsz hP hD hE hA hl
  obtain ⟨hx, hb, hml, hown, hts⟩ := id F
  have hK := hE.1
  generalize va_A ([] ++ pl) sz = A at hD hE hA ⊢
  have hS : va_S A s0.heap s0.heap [] := va_S.rf
  have hl : lv_has ls 2 [(0, .ref h0), (1, .int (nI ix))] := hl
  have hR : F_MR_root ix s = F_MR_root ix s := rfl
  have hF : frm (M_MR_root) s s := frm_rf
  refine lv_aload_n hx hb dMR_root_0 rfl (lv_at hl 0 rfl) ?_
  refine nw_get (C := "LatticeKeysModel$Ring") (TT := T_MR) (N := 5) hx hb hts (wg_ft i_MR) hown hK hO k_h0 (kn := 178) (ci := 10) (fl := [(1, 3329), (1, 128), (3, 179), (3, 180), (4, 3303)]) rfl hP rfl 2 (by decide) (hts _ (wg_t kw_1364)) (fun _ h9 => h9) (cd := (3, 179)) rfl dMR_root_1 (fun v21 hv21 => ?_)
  obtain ⟨r21, rfl, kr21⟩ := (show ∃ r : Nat, v21 = .ref r ∧ T r = some 179 from hv21)
  refine lv_aload_n hx hb dMR_root_4 rfl (lv_at hl 0 rfl) ?_
  refine nw_get (C := "LatticeKeysModel$Ring") (TT := T_MR) (N := 5) hx hb hts (wg_ft i_MR) hown hK hO k_h0 (kn := 178) (ci := 10) (fl := [(1, 3329), (1, 128), (3, 179), (3, 180), (4, 3303)]) rfl hP rfl 3 (by decide) (hts _ (wg_t kw_1365)) (fun _ h9 => h9) (cd := (3, 180)) rfl dMR_root_5 (fun v22 hv22 => ?_)
  obtain ⟨r22, rfl, kr22⟩ := (show ∃ r : Nat, v22 = .ref r ∧ T r = some 180 from hv22)
  refine lv_iload_n hx hb dMR_root_8 rfl (lv_at hl 1 rfl) ?_
  refine nw_ialdT hx hb hK hO kr22 (k := 180) (d := 3) rfl hP (by omega) (by omega) dMR_root_9 ?_
  refine mi_as (show ctI 3 ix = nI (ct3.getD ix 0) from rfl) ?_
  have hct := ct3_lt ix (by omega)
  refine nw_laldT hx hb hK hO kr21 (k := 179) (d := 1) rfl hP (by omega) (by omega) dMR_root_10 ?_
  exact mp_lret hx hb hr hlk hP hD hS (((ctL 1 (ct3.getD ix 0)), s), pl) ⟨⟨hR.symm, rfl, hF, trivial⟩, hO⟩ [] rfl rfl rfl (by omega) (by omega) dMR_root_11
def M_MR_forth_7_0 (pt : Nat) (k : Nat) : Prop := k = pt ∨ (0 : Nat) = 1
noncomputable def F_MR_forth_7_0_L1 (pf : Nat) (pt : Nat) (i21 : Nat) (kk : Nat → Sto → Sto) : Nat → Nat → Nat → Int64 → Sto → Sto
  | 0, i22, ex21, y21, s22 => bnd (sI s22 pt ((2 * i21) + 0) ((y21 - y21 / ((nI 3329).toInt64) * ((nI 3329).toInt64)).toInt32)) fun s23 => kk (i21 + 1) s23
  | n22 + 1, i22, ex21, y21, s22 => bnd ((y21 + (((s22.1 pf ((2 * i22) + 0)).toInt64) * (ctL 1 ex21)))) fun y22 => bnd ((((nI ex21) + (ctI 3 i21)) &&& nI 255).toNatClampNeg) fun z21 => F_MR_forth_7_0_L1 pf pt i21 kk n22 (i22 + 1) z21 y22 s22
noncomputable def F_MR_forth_7_0_L0 (pf : Nat) (pt : Nat) : Nat → Nat → Sto → Sto
  | 0, i21, s21 => s21
  | n21 + 1, i21, s21 => F_MR_forth_7_0_L1 pf pt i21 (F_MR_forth_7_0_L0 pf pt n21) 128 0 0 0 s21
noncomputable def F_MR_forth_7_0 (pf : Nat) (pt : Nat) (s : Sto) : Sto := F_MR_forth_7_0_L0 pf pt 128 0 s
set_option maxHeartbeats 400000 in
set_option maxRecDepth 100000 in
theorem N_MR_forth_7_0 (l : Launch) (g : Gd) (sz : Nat) (T : TyN) (s : Sto) (pl : va_W) (hO : okn g T s pl) (hU : inj T) (h0 f to : Nat) (pf : Nat) (pt : Nat) (k_h0 : T h0 = some 178) (k_f : T f = some pf) (n_f : nsp pf = (0, 256, [])) (k_to : T to = some pt) (n_to : nsp pt = (0, 256, []))  : Met l y_MR_forth w_MR_forth ({ frames := 0, cells := 0, slots := 0, locals := 0 } : Room) (va_Pc [.ref h0, .ref f, .ref to, .int (nI 2), .int (nI 0)] (pr (en g) g.1 vcl sz ([] ++ pl))) (va_Qv (fun (u : (Sto) × va_W) => (u.1 = F_MR_forth_7_0 pf pt s ∧ frm (M_MR_forth_7_0 pt) s u.1 ∧ True) ∧ okn g T u.1 u.2) (po g.1 vcl (va_A ([] ++ pl) sz) (fun (u : (Sto) × va_W) => [] ++ u.2)) (va_A ([] ++ pl) sz)) 0 0 (va_A ([] ++ pl) sz) := by
  refine mc_entry (cc := c_MR_forth) (maxL := 10) (ret := none) (by decide) rfl (Nat.le_of_ble_eq_true rfl) ?_
  intro p e s0 m args below meth c ls F hr hlk hnm hsz hP hD hE hA hl
  obtain ⟨hx, hb, hml, hown, hts⟩ := id F
  have hK := hE.1
  generalize va_A ([] ++ pl) sz = A at hD hE hA ⊢
  have hS : va_S A s0.heap s0.heap [] := va_S.rf
  have hl : lv_has ls 10 [(0, .ref h0), (1, .ref f), (2, .ref to), (3, .int (nI 2)), (4, .int (nI 0))] := hl
  have hR : F_MR_forth_7_0 pf pt s = F_MR_forth_7_0 pf pt s := rfl
  have hF : frm (M_MR_forth_7_0 pt) s s := frm_rf
  refine lv_iconst (v := nI 0) hx hb dMR_forth_0 (by decide) ?_
  refine lv_istore (lv' := [(5, .int (nI 0)), (0, .ref h0), (1, .ref f), (2, .ref to), (3, .int (nI 2)), (4, .int (nI 0))]) hx hb dMR_forth_1 hl (by decide) rfl (fun ls hl => ?_)
  have lp21 : ∀ (n21 : Nat) (i21 : Nat) (s21 : Sto) (pl : va_W) (ls : Array Slot) (H : Heap) (locs : List Loc), n21 + i21 = 128 → frm (M_MR_forth_7_0 pt) s s21 → F_MR_forth_7_0 pf pt s = F_MR_forth_7_0_L0 pf pt n21 i21 s21 → lv_has ls 10 [(5, .int (nI i21)), (0, .ref h0), (1, .ref f), (2, .ref to), (3, .int (nI 2)), (4, .int (nI 0))] → okn g T s21 pl → va_P g.1 vcl ([] ++ pl) H → va_D A ([] ++ pl) → va_S A s0.heap H locs → W p l e ({ frames := 0, cells := 0, slots := 0, locals := 0 } : Room) s0 m args below meth c H locs 0 0 (MQ below (va_Qv (fun (u : (Sto) × va_W) => (u.1 = F_MR_forth_7_0 pf pt s ∧ frm (M_MR_forth_7_0 pt) s u.1 ∧ True) ∧ okn g T u.1 u.2) (po g.1 vcl A (fun (u : (Sto) × va_W) => [] ++ u.2)) A) args s0 0 0 A) (F0 m 3 ls []) := by
    intro n21
    induction n21 with
    | zero =>
      intro i21 s21 pl ls H locs hm21 hF hR hl hO hP hD hS
      refine lv_iload hx hb dMR_forth_3 (lv_at hl 0 rfl) ?_
      refine lv_aload_n hx hb dMR_forth_5 rfl (lv_at hl 1 rfl) ?_
      refine nw_get (C := "LatticeKeysModel$Ring") (TT := T_MR) (N := 5) hx hb hts (wg_ft i_MR) hown hK hO k_h0 (kn := 178) (ci := 10) (fl := [(1, 3329), (1, 128), (3, 179), (3, 180), (4, 3303)]) rfl hP rfl 1 (by decide) (hts _ (wg_t kw_1363)) (fun _ h9 => h9) (cd := (1, 128)) rfl dMR_forth_6 (fun v21 hv21 => ?_)
      obtain rfl := (show v21 = .int (nI 128) from hv21)
      refine mi_ge (tgt := 104) hx hb dMR_forth_9 (by decide) (by omega) (by omega) (fun h21 => ?_) (fun h21 => absurd h21 (by omega))
      exact mp_vret hx hb hr hlk hP hD hS (s21, pl) ⟨⟨hR.symm, hF, trivial⟩, hO⟩ [] rfl rfl rfl (by omega) (by omega) dMR_forth_104
    | succ n21 ih21 =>
      intro i21 s21 pl ls H locs hm21 hF hR hl hO hP hD hS
      refine lv_iload hx hb dMR_forth_3 (lv_at hl 0 rfl) ?_
      refine lv_aload_n hx hb dMR_forth_5 rfl (lv_at hl 1 rfl) ?_
      refine nw_get (C := "LatticeKeysModel$Ring") (TT := T_MR) (N := 5) hx hb hts (wg_ft i_MR) hown hK hO k_h0 (kn := 178) (ci := 10) (fl := [(1, 3329), (1, 128), (3, 179), (3, 180), (4, 3303)]) rfl hP rfl 1 (by decide) (hts _ (wg_t kw_1363)) (fun _ h9 => h9) (cd := (1, 128)) rfl dMR_forth_6 (fun v22 hv22 => ?_)
      obtain rfl := (show v22 = .int (nI 128) from hv22)
      refine mi_ge (tgt := 104) hx hb dMR_forth_9 (by decide) (by omega) (by omega) (fun h22 => absurd h22 (by omega)) (fun h22 => ?_)
      refine lv_lconst (v := 0) hx hb dMR_forth_12 (by decide) ?_
      refine lv_lstore (lv' := [(6, .long 0), (5, .int (nI i21)), (0, .ref h0), (1, .ref f), (2, .ref to), (3, .int (nI 2)), (4, .int (nI 0))]) hx hb dMR_forth_13 hl (by decide) rfl (fun ls hl => ?_)
      refine lv_iconst (v := nI 0) hx hb dMR_forth_15 (by decide) ?_
      refine lv_istore (lv' := [(8, .int (nI 0)), (6, .long 0), (5, .int (nI i21)), (0, .ref h0), (1, .ref f), (2, .ref to), (3, .int (nI 2)), (4, .int (nI 0))]) hx hb dMR_forth_16 hl (by decide) rfl (fun ls hl => ?_)
      refine lv_iconst (v := nI 0) hx hb dMR_forth_18 (by decide) ?_
      refine lv_istore (lv' := [(9, .int (nI 0)), (8, .int (nI 0)), (6, .long 0), (5, .int (nI i21)), (0, .ref h0), (1, .ref f), (2, .ref to), (3, .int (nI 2)), (4, .int (nI 0))]) hx hb dMR_forth_19 hl (by decide) rfl (fun ls hl => ?_)
      have lp22 : ∀ (n22 : Nat) (i22 : Nat) (ex21 : Nat) (y21 : Int64) (s22 : Sto) (pl : va_W) (ls : Array Slot) (H : Heap) (locs : List Loc), n22 + i22 = 128 → (ex21 < 256) → frm (M_MR_forth_7_0 pt) s s22 → F_MR_forth_7_0 pf pt s = F_MR_forth_7_0_L1 pf pt i21 (F_MR_forth_7_0_L0 pf pt n21) n22 i22 ex21 y21 s22 → lv_has ls 10 [(9, .int (nI i22)), (8, .int (nI ex21)), (6, .long y21), (5, .int (nI i21)), (0, .ref h0), (1, .ref f), (2, .ref to), (3, .int (nI 2)), (4, .int (nI 0))] → okn g T s22 pl → va_P g.1 vcl ([] ++ pl) H → va_D A ([] ++ pl) → va_S A s0.heap H locs → W p l e ({ frames := 0, cells := 0, slots := 0, locals := 0 } : Room) s0 m args below meth c H locs 0 0 (MQ below (va_Qv (fun (u : (Sto) × va_W) => (u.1 = F_MR_forth_7_0 pf pt s ∧ frm (M_MR_forth_7_0 pt) s u.1 ∧ True) ∧ okn g T u.1 u.2) (po g.1 vcl A (fun (u : (Sto) × va_W) => [] ++ u.2)) A) args s0 0 0 A) (F0 m 21 ls []) := by
        intro n22
        induction n22 with
        | zero =>
          intro i22 ex21 y21 s22 pl ls H locs hm22 hi21 hF hR hl hO hP hD hS
          refine lv_iload hx hb dMR_forth_21 (lv_at hl 0 rfl) ?_
          refine lv_aload_n hx hb dMR_forth_23 rfl (lv_at hl 4 rfl) ?_
          refine nw_get (C := "LatticeKeysModel$Ring") (TT := T_MR) (N := 5) hx hb hts (wg_ft i_MR) hown hK hO k_h0 (kn := 178) (ci := 10) (fl := [(1, 3329), (1, 128), (3, 179), (3, 180), (4, 3303)]) rfl hP rfl 1 (by decide) (hts _ (wg_t kw_1363)) (fun _ h9 => h9) (cd := (1, 128)) rfl dMR_forth_24 (fun v23 hv23 => ?_)
          obtain rfl := (show v23 = .int (nI 128) from hv23)
          refine mi_ge (tgt := 80) hx hb dMR_forth_27 (by decide) (by omega) (by omega) (fun h23 => ?_) (fun h23 => absurd h23 (by omega))
          refine lv_aload_n hx hb dMR_forth_80 rfl (lv_at hl 6 rfl) ?_
          refine lv_iload_n hx hb dMR_forth_81 rfl (lv_at hl 7 rfl) ?_
          refine lv_iload hx hb dMR_forth_82 (lv_at hl 3 rfl) ?_
          refine mi_imul hx hb dMR_forth_84 ?_
          refine lv_iload hx hb dMR_forth_85 (lv_at hl 8 rfl) ?_
          refine mi_iadd hx hb dMR_forth_87 ?_
          refine lv_lload hx hb dMR_forth_88 (lv_at hl 2 rfl) ?_
          refine lv_aload_n hx hb dMR_forth_90 rfl (lv_at hl 4 rfl) ?_
          refine nw_get (C := "LatticeKeysModel$Ring") (TT := T_MR) (N := 5) hx hb hts (wg_ft i_MR) hown hK hO k_h0 (kn := 178) (ci := 10) (fl := [(1, 3329), (1, 128), (3, 179), (3, 180), (4, 3303)]) rfl hP rfl 0 (by decide) (hts _ (wg_t kw_1362)) (fun _ h9 => h9) (cd := (1, 3329)) rfl dMR_forth_91 (fun v24 hv24 => ?_)
          obtain rfl := (show v24 = .int (nI 3329) from hv24)
          refine lv_i2l hx hb dMR_forth_94 rfl ?_
          refine lv_lrem hx hb dMR_forth_95 (by decide) ?_
          refine lv_l2i hx hb dMR_forth_96 rfl ?_
          refine nw_iast hx hb hK hO hU k_to (k := pt) n_to hP hD hS (by omega) (by omega) dMR_forth_97 (fun s23 pl H locs es21 hO hP hD hS => ?_)
          replace hR := bnd_step hR es21
          have hF := frm_sI hF es21 (by unfold M_MR_forth_7_0; omega)
          refine mi_iinc (k := 3) (x := i21) (d := 1) (y := i21 + 1) (lv' := [(5, .int (nI (i21 + 1))), (9, .int (nI i22)), (8, .int (nI ex21)), (6, .long y21), (0, .ref h0), (1, .ref f), (2, .ref to), (3, .int (nI 2)), (4, .int (nI 0))]) hx hb dMR_forth_98 hl rfl (by decide) rfl (by decide) rfl (fun ls hl => ?_)
          refine lv_goto (tgt := 3) hx hb dMR_forth_101 (by decide) ?_
          exact ih21 (i21 + 1) s23 pl ls H locs (by omega) hF hR (lv_sub hl [0, 4, 5, 6, 7, 8] rfl) hO hP hD hS
        | succ n22 ih22 =>
          intro i22 ex21 y21 s22 pl ls H locs hm22 hi21 hF hR hl hO hP hD hS
          refine lv_iload hx hb dMR_forth_21 (lv_at hl 0 rfl) ?_
          refine lv_aload_n hx hb dMR_forth_23 rfl (lv_at hl 4 rfl) ?_
          refine nw_get (C := "LatticeKeysModel$Ring") (TT := T_MR) (N := 5) hx hb hts (wg_ft i_MR) hown hK hO k_h0 (kn := 178) (ci := 10) (fl := [(1, 3329), (1, 128), (3, 179), (3, 180), (4, 3303)]) rfl hP rfl 1 (by decide) (hts _ (wg_t kw_1363)) (fun _ h9 => h9) (cd := (1, 128)) rfl dMR_forth_24 (fun v25 hv25 => ?_)
          obtain rfl := (show v25 = .int (nI 128) from hv25)
          refine mi_ge (tgt := 80) hx hb dMR_forth_27 (by decide) (by omega) (by omega) (fun h24 => absurd h24 (by omega)) (fun h24 => ?_)
          refine lv_lload hx hb dMR_forth_30 (lv_at hl 2 rfl) ?_
          refine lv_aload_n hx hb dMR_forth_32 rfl (lv_at hl 5 rfl) ?_
          refine lv_iload_n hx hb dMR_forth_33 rfl (lv_at hl 7 rfl) ?_
          refine lv_iload hx hb dMR_forth_34 (lv_at hl 0 rfl) ?_
          refine mi_imul hx hb dMR_forth_36 ?_
          refine lv_iload hx hb dMR_forth_37 (lv_at hl 8 rfl) ?_
          refine mi_iadd hx hb dMR_forth_39 ?_
          refine nw_iald hx hb hK hO k_f (k := pf) n_f hP (by omega) (by omega) dMR_forth_40 ?_
          refine lv_i2l hx hb dMR_forth_41 rfl ?_
          refine lv_aload_n hx hb dMR_forth_42 rfl (lv_at hl 4 rfl) ?_
          refine nw_get (C := "LatticeKeysModel$Ring") (TT := T_MR) (N := 5) hx hb hts (wg_ft i_MR) hown hK hO k_h0 (kn := 178) (ci := 10) (fl := [(1, 3329), (1, 128), (3, 179), (3, 180), (4, 3303)]) rfl hP rfl 2 (by decide) (hts _ (wg_t kw_1364)) (fun _ h9 => h9) (cd := (3, 179)) rfl dMR_forth_43 (fun v26 hv26 => ?_)
          obtain ⟨r21, rfl, kr21⟩ := (show ∃ r : Nat, v26 = .ref r ∧ T r = some 179 from hv26)
          refine lv_iload hx hb dMR_forth_46 (lv_at hl 1 rfl) ?_
          refine nw_laldT hx hb hK hO kr21 (k := 179) (d := 1) rfl hP (by omega) (by omega) dMR_forth_48 ?_
          refine lv_lmul hx hb dMR_forth_49 ?_
          refine lv_ladd hx hb dMR_forth_50 ?_
          refine ml_eqv (fun y22 ez21 => ?_)
          replace hR := bnd_step hR ez21
          refine lv_lstore (lv' := [(6, .long y22), (9, .int (nI i22)), (8, .int (nI ex21)), (5, .int (nI i21)), (0, .ref h0), (1, .ref f), (2, .ref to), (3, .int (nI 2)), (4, .int (nI 0))]) hx hb dMR_forth_51 hl (by decide) rfl (fun ls hl => ?_)
          refine lv_iload hx hb dMR_forth_53 (lv_at hl 2 rfl) ?_
          refine lv_aload_n hx hb dMR_forth_55 rfl (lv_at hl 4 rfl) ?_
          refine nw_get (C := "LatticeKeysModel$Ring") (TT := T_MR) (N := 5) hx hb hts (wg_ft i_MR) hown hK hO k_h0 (kn := 178) (ci := 10) (fl := [(1, 3329), (1, 128), (3, 179), (3, 180), (4, 3303)]) rfl hP rfl 3 (by decide) (hts _ (wg_t kw_1365)) (fun _ h9 => h9) (cd := (3, 180)) rfl dMR_forth_56 (fun v27 hv27 => ?_)
          obtain ⟨r22, rfl, kr22⟩ := (show ∃ r : Nat, v27 = .ref r ∧ T r = some 180 from hv27)
          refine lv_iload hx hb dMR_forth_59 (lv_at hl 3 rfl) ?_
          refine nw_ialdT hx hb hK hO kr22 (k := 180) (d := 3) rfl hP (by omega) (by omega) dMR_forth_61 ?_
          refine lv_iadd hx hb dMR_forth_62 ?_
          refine lv_iconst (v := nI 2) hx hb dMR_forth_63 (by decide) ?_
          refine lv_aload_n hx hb dMR_forth_64 rfl (lv_at hl 4 rfl) ?_
          refine nw_get (C := "LatticeKeysModel$Ring") (TT := T_MR) (N := 5) hx hb hts (wg_ft i_MR) hown hK hO k_h0 (kn := 178) (ci := 10) (fl := [(1, 3329), (1, 128), (3, 179), (3, 180), (4, 3303)]) rfl hP rfl 1 (by decide) (hts _ (wg_t kw_1363)) (fun _ h9 => h9) (cd := (1, 128)) rfl dMR_forth_65 (fun v28 hv28 => ?_)
          obtain rfl := (show v28 = .int (nI 128) from hv28)
          refine mi_imul hx hb dMR_forth_68 ?_
          refine mi_as (show nI (2 * 128) = nI 256 from rfl) ?_
          refine lv_iconst (v := nI 1) hx hb dMR_forth_69 (by decide) ?_
          refine mi_isub hx hb dMR_forth_70 (by omega) ?_
          refine mi_as (show nI (256 - 1) = nI 255 from rfl) ?_
          refine mi_iandT hx hb 8 dMR_forth_71 (by decide) (by decide) (fun z21 ez22 hz21 => ?_)
          have hz21 : z21 < 256 := hz21
          replace hR := bnd_step hR ez22
          refine lv_istore (lv' := [(8, .int (nI z21)), (6, .long y22), (9, .int (nI i22)), (5, .int (nI i21)), (0, .ref h0), (1, .ref f), (2, .ref to), (3, .int (nI 2)), (4, .int (nI 0))]) hx hb dMR_forth_72 hl (by decide) rfl (fun ls hl => ?_)
          refine mi_iinc (k := 2) (x := i22) (d := 1) (y := i22 + 1) (lv' := [(9, .int (nI (i22 + 1))), (8, .int (nI z21)), (6, .long y22), (5, .int (nI i21)), (0, .ref h0), (1, .ref f), (2, .ref to), (3, .int (nI 2)), (4, .int (nI 0))]) hx hb dMR_forth_74 hl rfl (by decide) rfl (by decide) rfl (fun ls hl => ?_)
          refine lv_goto (tgt := 21) hx hb dMR_forth_77 (by decide) ?_
          exact ih22 (i22 + 1) z21 y22 s22 pl ls H locs (by omega) (by omega) hF hR (lv_sub hl [0, 1, 2, 3, 4, 5, 6, 7, 8] rfl) hO hP hD hS
      exact lp22 128 0 0 0 s21 pl ls _ _ (by omega) (by omega) hF hR (lv_sub hl [0, 1, 2, 3, 4, 5, 6, 7, 8] rfl) hO hP hD hS
  exact lp21 128 0 s pl ls _ _ (by omega) hF hR (lv_sub hl [0, 1, 2, 3, 4, 5] rfl) hO hP hD hS
def M_MR_forth_7_1 (pt : Nat) (k : Nat) : Prop := k = pt ∨ (0 : Nat) = 1
noncomputable def F_MR_forth_7_1_L1 (pf : Nat) (pt : Nat) (i21 : Nat) (kk : Nat → Sto → Sto) : Nat → Nat → Nat → Int64 → Sto → Sto
  | 0, i22, ex21, y21, s22 => bnd (sI s22 pt ((2 * i21) + 1) ((y21 - y21 / ((nI 3329).toInt64) * ((nI 3329).toInt64)).toInt32)) fun s23 => kk (i21 + 1) s23
  | n22 + 1, i22, ex21, y21, s22 => bnd ((y21 + (((s22.1 pf ((2 * i22) + 1)).toInt64) * (ctL 1 ex21)))) fun y22 => bnd ((((nI ex21) + (ctI 3 i21)) &&& nI 255).toNatClampNeg) fun z21 => F_MR_forth_7_1_L1 pf pt i21 kk n22 (i22 + 1) z21 y22 s22
noncomputable def F_MR_forth_7_1_L0 (pf : Nat) (pt : Nat) : Nat → Nat → Sto → Sto
  | 0, i21, s21 => s21
  | n21 + 1, i21, s21 => F_MR_forth_7_1_L1 pf pt i21 (F_MR_forth_7_1_L0 pf pt n21) 128 0 0 0 s21
noncomputable def F_MR_forth_7_1 (pf : Nat) (pt : Nat) (s : Sto) : Sto := F_MR_forth_7_1_L0 pf pt 128 0 s
set_option maxHeartbeats 400000 in
set_option maxRecDepth 100000 in
theorem N_MR_forth_7_1 (l : Launch) (g : Gd) (sz : Nat) (T : TyN) (s : Sto) (pl : va_W) (hO : okn g T s pl) (hU : inj T) (h0 f to : Nat) (pf : Nat) (pt : Nat) (k_h0 : T h0 = some 178) (k_f : T f = some pf) (n_f : nsp pf = (0, 256, [])) (k_to : T to = some pt) (n_to : nsp pt = (0, 256, []))  : Met l y_MR_forth w_MR_forth ({ frames := 0, cells := 0, slots := 0, locals := 0 } : Room) (va_Pc [.ref h0, .ref f, .ref to, .int (nI 2), .int (nI 1)] (pr (en g) g.1 vcl sz ([] ++ pl))) (va_Qv (fun (u : (Sto) × va_W) => (u.1 = F_MR_forth_7_1 pf pt s ∧ frm (M_MR_forth_7_1 pt) s u.1 ∧ True) ∧ okn g T u.1 u.2) (po g.1 vcl (va_A ([] ++ pl) sz) (fun (u : (Sto) × va_W) => [] ++ u.2)) (va_A ([] ++ pl) sz)) 0 0 (va_A ([] ++ pl) sz) := by
  refine mc_entry (cc := c_MR_forth) (maxL := 10) (ret := none) (by decide) rfl (Nat.le_of_ble_eq_true rfl) ?_
  intro p e s0 m args below meth c ls F hr hlk hnm hsz hP hD hE hA hl
  obtain ⟨hx, hb, hml, hown, hts⟩ := id F
  have hK := hE.1
  generalize va_A ([] ++ pl) sz = A at hD hE hA ⊢
  have hS : va_S A s0.heap s0.heap [] := va_S.rf
  have hl : lv_has ls 10 [(0, .ref h0), (1, .ref f), (2, .ref to), (3, .int (nI 2)), (4, .int (nI 1))] := hl
  have hR : F_MR_forth_7_1 pf pt s = F_MR_forth_7_1 pf pt s := rfl
  have hF : frm (M_MR_forth_7_1 pt) s s := frm_rf
  refine lv_iconst (v := nI 0) hx hb dMR_forth_0 (by decide) ?_
  refine lv_istore (lv' := [(5, .int (nI 0)), (0, .ref h0), (1, .ref f), (2, .ref to), (3, .int (nI 2)), (4, .int (nI 1))]) hx hb dMR_forth_1 hl (by decide) rfl (fun ls hl => ?_)
  have lp21 : ∀ (n21 : Nat) (i21 : Nat) (s21 : Sto) (pl : va_W) (ls : Array Slot) (H : Heap) (locs : List Loc), n21 + i21 = 128 → frm (M_MR_forth_7_1 pt) s s21 → F_MR_forth_7_1 pf pt s = F_MR_forth_7_1_L0 pf pt n21 i21 s21 → lv_has ls 10 [(5, .int (nI i21)), (0, .ref h0), (1, .ref f), (2, .ref to), (3, .int (nI 2)), (4, .int (nI 1))] → okn g T s21 pl → va_P g.1 vcl ([] ++ pl) H → va_D A ([] ++ pl) → va_S A s0.heap H locs → W p l e ({ frames := 0, cells := 0, slots := 0, locals := 0 } : Room) s0 m args below meth c H locs 0 0 (MQ below (va_Qv (fun (u : (Sto) × va_W) => (u.1 = F_MR_forth_7_1 pf pt s ∧ frm (M_MR_forth_7_1 pt) s u.1 ∧ True) ∧ okn g T u.1 u.2) (po g.1 vcl A (fun (u : (Sto) × va_W) => [] ++ u.2)) A) args s0 0 0 A) (F0 m 3 ls []) := by
    intro n21
    induction n21 with
    | zero =>
      intro i21 s21 pl ls H locs hm21 hF hR hl hO hP hD hS
      refine lv_iload hx hb dMR_forth_3 (lv_at hl 0 rfl) ?_
      refine lv_aload_n hx hb dMR_forth_5 rfl (lv_at hl 1 rfl) ?_
      refine nw_get (C := "LatticeKeysModel$Ring") (TT := T_MR) (N := 5) hx hb hts (wg_ft i_MR) hown hK hO k_h0 (kn := 178) (ci := 10) (fl := [(1, 3329), (1, 128), (3, 179), (3, 180), (4, 3303)]) rfl hP rfl 1 (by decide) (hts _ (wg_t kw_1363)) (fun _ h9 => h9) (cd := (1, 128)) rfl dMR_forth_6 (fun v21 hv21 => ?_)
      obtain rfl := (show v21 = .int (nI 128) from hv21)
      refine mi_ge (tgt := 104) hx hb dMR_forth_9 (by decide) (by omega) (by omega) (fun h21 => ?_) (fun h21 => absurd h21 (by omega))
      exact mp_vret hx hb hr hlk hP hD hS (s21, pl) ⟨⟨hR.symm, hF, trivial⟩, hO⟩ [] rfl rfl rfl (by omega) (by omega) dMR_forth_104
    | succ n21 ih21 =>
      intro i21 s21 pl ls H locs hm21 hF hR hl hO hP hD hS
      refine lv_iload hx hb dMR_forth_3 (lv_at hl 0 rfl) ?_
      refine lv_aload_n hx hb dMR_forth_5 rfl (lv_at hl 1 rfl) ?_
      refine nw_get (C := "LatticeKeysModel$Ring") (TT := T_MR) (N := 5) hx hb hts (wg_ft i_MR) hown hK hO k_h0 (kn := 178) (ci := 10) (fl := [(1, 3329), (1, 128), (3, 179), (3, 180), (4, 3303)]) rfl hP rfl 1 (by decide) (hts _ (wg_t kw_1363)) (fun _ h9 => h9) (cd := (1, 128)) rfl dMR_forth_6 (fun v22 hv22 => ?_)
      obtain rfl := (show v22 = .int (nI 128) from hv22)
      refine mi_ge (tgt := 104) hx hb dMR_forth_9 (by decide) (by omega) (by omega) (fun h22 => absurd h22 (by omega)) (fun h22 => ?_)
      refine lv_lconst (v := 0) hx hb dMR_forth_12 (by decide) ?_
      refine lv_lstore (lv' := [(6, .long 0), (5, .int (nI i21)), (0, .ref h0), (1, .ref f), (2, .ref to), (3, .int (nI 2)), (4, .int (nI 1))]) hx hb dMR_forth_13 hl (by decide) rfl (fun ls hl => ?_)
      refine lv_iconst (v := nI 0) hx hb dMR_forth_15 (by decide) ?_
      refine lv_istore (lv' := [(8, .int (nI 0)), (6, .long 0), (5, .int (nI i21)), (0, .ref h0), (1, .ref f), (2, .ref to), (3, .int (nI 2)), (4, .int (nI 1))]) hx hb dMR_forth_16 hl (by decide) rfl (fun ls hl => ?_)
      refine lv_iconst (v := nI 0) hx hb dMR_forth_18 (by decide) ?_
      refine lv_istore (lv' := [(9, .int (nI 0)), (8, .int (nI 0)), (6, .long 0), (5, .int (nI i21)), (0, .ref h0), (1, .ref f), (2, .ref to), (3, .int (nI 2)), (4, .int (nI 1))]) hx hb dMR_forth_19 hl (by decide) rfl (fun ls hl => ?_)
      have lp22 : ∀ (n22 : Nat) (i22 : Nat) (ex21 : Nat) (y21 : Int64) (s22 : Sto) (pl : va_W) (ls : Array Slot) (H : Heap) (locs : List Loc), n22 + i22 = 128 → (ex21 < 256) → frm (M_MR_forth_7_1 pt) s s22 → F_MR_forth_7_1 pf pt s = F_MR_forth_7_1_L1 pf pt i21 (F_MR_forth_7_1_L0 pf pt n21) n22 i22 ex21 y21 s22 → lv_has ls 10 [(9, .int (nI i22)), (8, .int (nI ex21)), (6, .long y21), (5, .int (nI i21)), (0, .ref h0), (1, .ref f), (2, .ref to), (3, .int (nI 2)), (4, .int (nI 1))] → okn g T s22 pl → va_P g.1 vcl ([] ++ pl) H → va_D A ([] ++ pl) → va_S A s0.heap H locs → W p l e ({ frames := 0, cells := 0, slots := 0, locals := 0 } : Room) s0 m args below meth c H locs 0 0 (MQ below (va_Qv (fun (u : (Sto) × va_W) => (u.1 = F_MR_forth_7_1 pf pt s ∧ frm (M_MR_forth_7_1 pt) s u.1 ∧ True) ∧ okn g T u.1 u.2) (po g.1 vcl A (fun (u : (Sto) × va_W) => [] ++ u.2)) A) args s0 0 0 A) (F0 m 21 ls []) := by
        intro n22
        induction n22 with
        | zero =>
          intro i22 ex21 y21 s22 pl ls H locs hm22 hi21 hF hR hl hO hP hD hS
          refine lv_iload hx hb dMR_forth_21 (lv_at hl 0 rfl) ?_
          refine lv_aload_n hx hb dMR_forth_23 rfl (lv_at hl 4 rfl) ?_
          refine nw_get (C := "LatticeKeysModel$Ring") (TT := T_MR) (N := 5) hx hb hts (wg_ft i_MR) hown hK hO k_h0 (kn := 178) (ci := 10) (fl := [(1, 3329), (1, 128), (3, 179), (3, 180), (4, 3303)]) rfl hP rfl 1 (by decide) (hts _ (wg_t kw_1363)) (fun _ h9 => h9) (cd := (1, 128)) rfl dMR_forth_24 (fun v23 hv23 => ?_)
          obtain rfl := (show v23 = .int (nI 128) from hv23)
          refine mi_ge (tgt := 80) hx hb dMR_forth_27 (by decide) (by omega) (by omega) (fun h23 => ?_) (fun h23 => absurd h23 (by omega))
          refine lv_aload_n hx hb dMR_forth_80 rfl (lv_at hl 6 rfl) ?_
          refine lv_iload_n hx hb dMR_forth_81 rfl (lv_at hl 7 rfl) ?_
          refine lv_iload hx hb dMR_forth_82 (lv_at hl 3 rfl) ?_
          refine mi_imul hx hb dMR_forth_84 ?_
          refine lv_iload hx hb dMR_forth_85 (lv_at hl 8 rfl) ?_
          refine mi_iadd hx hb dMR_forth_87 ?_
          refine lv_lload hx hb dMR_forth_88 (lv_at hl 2 rfl) ?_
          refine lv_aload_n hx hb dMR_forth_90 rfl (lv_at hl 4 rfl) ?_
          refine nw_get (C := "LatticeKeysModel$Ring") (TT := T_MR) (N := 5) hx hb hts (wg_ft i_MR) hown hK hO k_h0 (kn := 178) (ci := 10) (fl := [(1, 3329), (1, 128), (3, 179), (3, 180), (4, 3303)]) rfl hP rfl 0 (by decide) (hts _ (wg_t kw_1362)) (fun _ h9 => h9) (cd := (1, 3329)) rfl dMR_forth_91 (fun v24 hv24 => ?_)
          obtain rfl := (show v24 = .int (nI 3329) from hv24)
          refine lv_i2l hx hb dMR_forth_94 rfl ?_
          refine lv_lrem hx hb dMR_forth_95 (by decide) ?_
          refine lv_l2i hx hb dMR_forth_96 rfl ?_
          refine nw_iast hx hb hK hO hU k_to (k := pt) n_to hP hD hS (by omega) (by omega) dMR_forth_97 (fun s23 pl H locs es21 hO hP hD hS => ?_)
          replace hR := bnd_step hR es21
          have hF := frm_sI hF es21 (by unfold M_MR_forth_7_1; omega)
          refine mi_iinc (k := 3) (x := i21) (d := 1) (y := i21 + 1) (lv' := [(5, .int (nI (i21 + 1))), (9, .int (nI i22)), (8, .int (nI ex21)), (6, .long y21), (0, .ref h0), (1, .ref f), (2, .ref to), (3, .int (nI 2)), (4, .int (nI 1))]) hx hb dMR_forth_98 hl rfl (by decide) rfl (by decide) rfl (fun ls hl => ?_)
          refine lv_goto (tgt := 3) hx hb dMR_forth_101 (by decide) ?_
          exact ih21 (i21 + 1) s23 pl ls H locs (by omega) hF hR (lv_sub hl [0, 4, 5, 6, 7, 8] rfl) hO hP hD hS
        | succ n22 ih22 =>
          intro i22 ex21 y21 s22 pl ls H locs hm22 hi21 hF hR hl hO hP hD hS
          refine lv_iload hx hb dMR_forth_21 (lv_at hl 0 rfl) ?_
          refine lv_aload_n hx hb dMR_forth_23 rfl (lv_at hl 4 rfl) ?_
          refine nw_get (C := "LatticeKeysModel$Ring") (TT := T_MR) (N := 5) hx hb hts (wg_ft i_MR) hown hK hO k_h0 (kn := 178) (ci := 10) (fl := [(1, 3329), (1, 128), (3, 179), (3, 180), (4, 3303)]) rfl hP rfl 1 (by decide) (hts _ (wg_t kw_1363)) (fun _ h9 => h9) (cd := (1, 128)) rfl dMR_forth_24 (fun v25 hv25 => ?_)
          obtain rfl := (show v25 = .int (nI 128) from hv25)
          refine mi_ge (tgt := 80) hx hb dMR_forth_27 (by decide) (by omega) (by omega) (fun h24 => absurd h24 (by omega)) (fun h24 => ?_)
          refine lv_lload hx hb dMR_forth_30 (lv_at hl 2 rfl) ?_
          refine lv_aload_n hx hb dMR_forth_32 rfl (lv_at hl 5 rfl) ?_
          refine lv_iload_n hx hb dMR_forth_33 rfl (lv_at hl 7 rfl) ?_
          refine lv_iload hx hb dMR_forth_34 (lv_at hl 0 rfl) ?_
          refine mi_imul hx hb dMR_forth_36 ?_
          refine lv_iload hx hb dMR_forth_37 (lv_at hl 8 rfl) ?_
          refine mi_iadd hx hb dMR_forth_39 ?_
          refine nw_iald hx hb hK hO k_f (k := pf) n_f hP (by omega) (by omega) dMR_forth_40 ?_
          refine lv_i2l hx hb dMR_forth_41 rfl ?_
          refine lv_aload_n hx hb dMR_forth_42 rfl (lv_at hl 4 rfl) ?_
          refine nw_get (C := "LatticeKeysModel$Ring") (TT := T_MR) (N := 5) hx hb hts (wg_ft i_MR) hown hK hO k_h0 (kn := 178) (ci := 10) (fl := [(1, 3329), (1, 128), (3, 179), (3, 180), (4, 3303)]) rfl hP rfl 2 (by decide) (hts _ (wg_t kw_1364)) (fun _ h9 => h9) (cd := (3, 179)) rfl dMR_forth_43 (fun v26 hv26 => ?_)
          obtain ⟨r21, rfl, kr21⟩ := (show ∃ r : Nat, v26 = .ref r ∧ T r = some 179 from hv26)
          refine lv_iload hx hb dMR_forth_46 (lv_at hl 1 rfl) ?_
          refine nw_laldT hx hb hK hO kr21 (k := 179) (d := 1) rfl hP (by omega) (by omega) dMR_forth_48 ?_
          refine lv_lmul hx hb dMR_forth_49 ?_
          refine lv_ladd hx hb dMR_forth_50 ?_
          refine ml_eqv (fun y22 ez21 => ?_)
          replace hR := bnd_step hR ez21
          refine lv_lstore (lv' := [(6, .long y22), (9, .int (nI i22)), (8, .int (nI ex21)), (5, .int (nI i21)), (0, .ref h0), (1, .ref f), (2, .ref to), (3, .int (nI 2)), (4, .int (nI 1))]) hx hb dMR_forth_51 hl (by decide) rfl (fun ls hl => ?_)
          refine lv_iload hx hb dMR_forth_53 (lv_at hl 2 rfl) ?_
          refine lv_aload_n hx hb dMR_forth_55 rfl (lv_at hl 4 rfl) ?_
          refine nw_get (C := "LatticeKeysModel$Ring") (TT := T_MR) (N := 5) hx hb hts (wg_ft i_MR) hown hK hO k_h0 (kn := 178) (ci := 10) (fl := [(1, 3329), (1, 128), (3, 179), (3, 180), (4, 3303)]) rfl hP rfl 3 (by decide) (hts _ (wg_t kw_1365)) (fun _ h9 => h9) (cd := (3, 180)) rfl dMR_forth_56 (fun v27 hv27 => ?_)
          obtain ⟨r22, rfl, kr22⟩ := (show ∃ r : Nat, v27 = .ref r ∧ T r = some 180 from hv27)
          refine lv_iload hx hb dMR_forth_59 (lv_at hl 3 rfl) ?_
          refine nw_ialdT hx hb hK hO kr22 (k := 180) (d := 3) rfl hP (by omega) (by omega) dMR_forth_61 ?_
          refine lv_iadd hx hb dMR_forth_62 ?_
          refine lv_iconst (v := nI 2) hx hb dMR_forth_63 (by decide) ?_
          refine lv_aload_n hx hb dMR_forth_64 rfl (lv_at hl 4 rfl) ?_
          refine nw_get (C := "LatticeKeysModel$Ring") (TT := T_MR) (N := 5) hx hb hts (wg_ft i_MR) hown hK hO k_h0 (kn := 178) (ci := 10) (fl := [(1, 3329), (1, 128), (3, 179), (3, 180), (4, 3303)]) rfl hP rfl 1 (by decide) (hts _ (wg_t kw_1363)) (fun _ h9 => h9) (cd := (1, 128)) rfl dMR_forth_65 (fun v28 hv28 => ?_)
          obtain rfl := (show v28 = .int (nI 128) from hv28)
          refine mi_imul hx hb dMR_forth_68 ?_
          refine mi_as (show nI (2 * 128) = nI 256 from rfl) ?_
          refine lv_iconst (v := nI 1) hx hb dMR_forth_69 (by decide) ?_
          refine mi_isub hx hb dMR_forth_70 (by omega) ?_
          refine mi_as (show nI (256 - 1) = nI 255 from rfl) ?_
          refine mi_iandT hx hb 8 dMR_forth_71 (by decide) (by decide) (fun z21 ez22 hz21 => ?_)
          have hz21 : z21 < 256 := hz21
          replace hR := bnd_step hR ez22
          refine lv_istore (lv' := [(8, .int (nI z21)), (6, .long y22), (9, .int (nI i22)), (5, .int (nI i21)), (0, .ref h0), (1, .ref f), (2, .ref to), (3, .int (nI 2)), (4, .int (nI 1))]) hx hb dMR_forth_72 hl (by decide) rfl (fun ls hl => ?_)
          refine mi_iinc (k := 2) (x := i22) (d := 1) (y := i22 + 1) (lv' := [(9, .int (nI (i22 + 1))), (8, .int (nI z21)), (6, .long y22), (5, .int (nI i21)), (0, .ref h0), (1, .ref f), (2, .ref to), (3, .int (nI 2)), (4, .int (nI 1))]) hx hb dMR_forth_74 hl rfl (by decide) rfl (by decide) rfl (fun ls hl => ?_)
          refine lv_goto (tgt := 21) hx hb dMR_forth_77 (by decide) ?_
          exact ih22 (i22 + 1) z21 y22 s22 pl ls H locs (by omega) (by omega) hF hR (lv_sub hl [0, 1, 2, 3, 4, 5, 6, 7, 8] rfl) hO hP hD hS
      exact lp22 128 0 0 0 s21 pl ls _ _ (by omega) (by omega) hF hR (lv_sub hl [0, 1, 2, 3, 4, 5, 6, 7, 8] rfl) hO hP hD hS
  exact lp21 128 0 s pl ls _ _ (by omega) hF hR (lv_sub hl [0, 1, 2, 3, 4, 5] rfl) hO hP hD hS
def M_MR_forth_8_0 (pt : Nat) (k : Nat) : Prop := k = pt ∨ (0 : Nat) = 1
noncomputable def F_MR_forth_8_0_L1 (pf : Nat) (pt : Nat) (i21 : Nat) (kk : Nat → Sto → Sto) : Nat → Nat → Nat → Int64 → Sto → Sto
  | 0, i22, ex21, y21, s22 => bnd (sI s22 pt ((1 * i21) + 0) ((y21 - y21 / ((nI 8380417).toInt64) * ((nI 8380417).toInt64)).toInt32)) fun s23 => kk (i21 + 1) s23
  | n22 + 1, i22, ex21, y21, s22 => bnd ((y21 + (((s22.1 pf ((1 * i22) + 0)).toInt64) * (ctL 2 ex21)))) fun y22 => bnd ((((nI ex21) + (ctI 4 i21)) &&& nI 511).toNatClampNeg) fun z21 => F_MR_forth_8_0_L1 pf pt i21 kk n22 (i22 + 1) z21 y22 s22
noncomputable def F_MR_forth_8_0_L0 (pf : Nat) (pt : Nat) : Nat → Nat → Sto → Sto
  | 0, i21, s21 => s21
  | n21 + 1, i21, s21 => F_MR_forth_8_0_L1 pf pt i21 (F_MR_forth_8_0_L0 pf pt n21) 256 0 0 0 s21
noncomputable def F_MR_forth_8_0 (pf : Nat) (pt : Nat) (s : Sto) : Sto := F_MR_forth_8_0_L0 pf pt 256 0 s
set_option maxHeartbeats 400000 in
set_option maxRecDepth 100000 in
theorem N_MR_forth_8_0 (l : Launch) (g : Gd) (sz : Nat) (T : TyN) (s : Sto) (pl : va_W) (hO : okn g T s pl) (hU : inj T) (h0 f to : Nat) (pf : Nat) (pt : Nat) (k_h0 : T h0 = some 181) (k_f : T f = some pf) (n_f : nsp pf = (0, 256, [])) (k_to : T to = some pt) (n_to : nsp pt = (0, 256, []))  : Met l y_MR_forth w_MR_forth ({ frames := 0, cells := 0, slots := 0, locals := 0 } : Room) (va_Pc [.ref h0, .ref f, .ref to, .int (nI 1), .int (nI 0)] (pr (en g) g.1 vcl sz ([] ++ pl))) (va_Qv (fun (u : (Sto) × va_W) => (u.1 = F_MR_forth_8_0 pf pt s ∧ frm (M_MR_forth_8_0 pt) s u.1 ∧ True) ∧ okn g T u.1 u.2) (po g.1 vcl (va_A ([] ++ pl) sz) (fun (u : (Sto) × va_W) => [] ++ u.2)) (va_A ([] ++ pl) sz)) 0 0 (va_A ([] ++ pl) sz) := by
  refine mc_entry (cc := c_MR_forth) (maxL := 10) (ret := none) (by decide) rfl (Nat.le_of_ble_eq_true rfl) ?_
  intro p e s0 m args below meth c ls F hr hlk hnm hsz hP hD hE hA hl
  obtain ⟨hx, hb, hml, hown, hts⟩ := id F
  have hK := hE.1
  generalize va_A ([] ++ pl) sz = A at hD hE hA ⊢
  have hS : va_S A s0.heap s0.heap [] := va_S.rf
  have hl : lv_has ls 10 [(0, .ref h0), (1, .ref f), (2, .ref to), (3, .int (nI 1)), (4, .int (nI 0))] := hl
  have hR : F_MR_forth_8_0 pf pt s = F_MR_forth_8_0 pf pt s := rfl
  have hF : frm (M_MR_forth_8_0 pt) s s := frm_rf
  refine lv_iconst (v := nI 0) hx hb dMR_forth_0 (by decide) ?_
  refine lv_istore (lv' := [(5, .int (nI 0)), (0, .ref h0), (1, .ref f), (2, .ref to), (3, .int (nI 1)), (4, .int (nI 0))]) hx hb dMR_forth_1 hl (by decide) rfl (fun ls hl => ?_)
  have lp21 : ∀ (n21 : Nat) (i21 : Nat) (s21 : Sto) (pl : va_W) (ls : Array Slot) (H : Heap) (locs : List Loc), n21 + i21 = 256 → frm (M_MR_forth_8_0 pt) s s21 → F_MR_forth_8_0 pf pt s = F_MR_forth_8_0_L0 pf pt n21 i21 s21 → lv_has ls 10 [(5, .int (nI i21)), (0, .ref h0), (1, .ref f), (2, .ref to), (3, .int (nI 1)), (4, .int (nI 0))] → okn g T s21 pl → va_P g.1 vcl ([] ++ pl) H → va_D A ([] ++ pl) → va_S A s0.heap H locs → W p l e ({ frames := 0, cells := 0, slots := 0, locals := 0 } : Room) s0 m args below meth c H locs 0 0 (MQ below (va_Qv (fun (u : (Sto) × va_W) => (u.1 = F_MR_forth_8_0 pf pt s ∧ frm (M_MR_forth_8_0 pt) s u.1 ∧ True) ∧ okn g T u.1 u.2) (po g.1 vcl A (fun (u : (Sto) × va_W) => [] ++ u.2)) A) args s0 0 0 A) (F0 m 3 ls []) := by
    intro n21
    induction n21 with
    | zero =>
      intro i21 s21 pl ls H locs hm21 hF hR hl hO hP hD hS
      refine lv_iload hx hb dMR_forth_3 (lv_at hl 0 rfl) ?_
      refine lv_aload_n hx hb dMR_forth_5 rfl (lv_at hl 1 rfl) ?_
      refine nw_get (C := "LatticeKeysModel$Ring") (TT := T_MR) (N := 5) hx hb hts (wg_ft i_MR) hown hK hO k_h0 (kn := 181) (ci := 10) (fl := [(1, 8380417), (1, 256), (3, 182), (3, 183), (4, 8347681)]) rfl hP rfl 1 (by decide) (hts _ (wg_t kw_1363)) (fun _ h9 => h9) (cd := (1, 256)) rfl dMR_forth_6 (fun v21 hv21 => ?_)
      obtain rfl := (show v21 = .int (nI 256) from hv21)
      refine mi_ge (tgt := 104) hx hb dMR_forth_9 (by decide) (by omega) (by omega) (fun h21 => ?_) (fun h21 => absurd h21 (by omega))
      exact mp_vret hx hb hr hlk hP hD hS (s21, pl) ⟨⟨hR.symm, hF, trivial⟩, hO⟩ [] rfl rfl rfl (by omega) (by omega) dMR_forth_104
    | succ n21 ih21 =>
      intro i21 s21 pl ls H locs hm21 hF hR hl hO hP hD hS
      refine lv_iload hx hb dMR_forth_3 (lv_at hl 0 rfl) ?_
      refine lv_aload_n hx hb dMR_forth_5 rfl (lv_at hl 1 rfl) ?_
      refine nw_get (C := "LatticeKeysModel$Ring") (TT := T_MR) (N := 5) hx hb hts (wg_ft i_MR) hown hK hO k_h0 (kn := 181) (ci := 10) (fl := [(1, 8380417), (1, 256), (3, 182), (3, 183), (4, 8347681)]) rfl hP rfl 1 (by decide) (hts _ (wg_t kw_1363)) (fun _ h9 => h9) (cd := (1, 256)) rfl dMR_forth_6 (fun v22 hv22 => ?_)
      obtain rfl := (show v22 = .int (nI 256) from hv22)
      refine mi_ge (tgt := 104) hx hb dMR_forth_9 (by decide) (by omega) (by omega) (fun h22 => absurd h22 (by omega)) (fun h22 => ?_)
      refine lv_lconst (v := 0) hx hb dMR_forth_12 (by decide) ?_
      refine lv_lstore (lv' := [(6, .long 0), (5, .int (nI i21)), (0, .ref h0), (1, .ref f), (2, .ref to), (3, .int (nI 1)), (4, .int (nI 0))]) hx hb dMR_forth_13 hl (by decide) rfl (fun ls hl => ?_)
      refine lv_iconst (v := nI 0) hx hb dMR_forth_15 (by decide) ?_
      refine lv_istore (lv' := [(8, .int (nI 0)), (6, .long 0), (5, .int (nI i21)), (0, .ref h0), (1, .ref f), (2, .ref to), (3, .int (nI 1)), (4, .int (nI 0))]) hx hb dMR_forth_16 hl (by decide) rfl (fun ls hl => ?_)
      refine lv_iconst (v := nI 0) hx hb dMR_forth_18 (by decide) ?_
      refine lv_istore (lv' := [(9, .int (nI 0)), (8, .int (nI 0)), (6, .long 0), (5, .int (nI i21)), (0, .ref h0), (1, .ref f), (2, .ref to), (3, .int (nI 1)), (4, .int (nI 0))]) hx hb dMR_forth_19 hl (by decide) rfl (fun ls hl => ?_)
      have lp22 : ∀ (n22 : Nat) (i22 : Nat) (ex21 : Nat) (y21 : Int64) (s22 : Sto) (pl : va_W) (ls : Array Slot) (H : Heap) (locs : List Loc), n22 + i22 = 256 → (ex21 < 512) → frm (M_MR_forth_8_0 pt) s s22 → F_MR_forth_8_0 pf pt s = F_MR_forth_8_0_L1 pf pt i21 (F_MR_forth_8_0_L0 pf pt n21) n22 i22 ex21 y21 s22 → lv_has ls 10 [(9, .int (nI i22)), (8, .int (nI ex21)), (6, .long y21), (5, .int (nI i21)), (0, .ref h0), (1, .ref f), (2, .ref to), (3, .int (nI 1)), (4, .int (nI 0))] → okn g T s22 pl → va_P g.1 vcl ([] ++ pl) H → va_D A ([] ++ pl) → va_S A s0.heap H locs → W p l e ({ frames := 0, cells := 0, slots := 0, locals := 0 } : Room) s0 m args below meth c H locs 0 0 (MQ below (va_Qv (fun (u : (Sto) × va_W) => (u.1 = F_MR_forth_8_0 pf pt s ∧ frm (M_MR_forth_8_0 pt) s u.1 ∧ True) ∧ okn g T u.1 u.2) (po g.1 vcl A (fun (u : (Sto) × va_W) => [] ++ u.2)) A) args s0 0 0 A) (F0 m 21 ls []) := by
        intro n22
        induction n22 with
        | zero =>
          intro i22 ex21 y21 s22 pl ls H locs hm22 hi21 hF hR hl hO hP hD hS
          refine lv_iload hx hb dMR_forth_21 (lv_at hl 0 rfl) ?_
          refine lv_aload_n hx hb dMR_forth_23 rfl (lv_at hl 4 rfl) ?_
          refine nw_get (C := "LatticeKeysModel$Ring") (TT := T_MR) (N := 5) hx hb hts (wg_ft i_MR) hown hK hO k_h0 (kn := 181) (ci := 10) (fl := [(1, 8380417), (1, 256), (3, 182), (3, 183), (4, 8347681)]) rfl hP rfl 1 (by decide) (hts _ (wg_t kw_1363)) (fun _ h9 => h9) (cd := (1, 256)) rfl dMR_forth_24 (fun v23 hv23 => ?_)
          obtain rfl := (show v23 = .int (nI 256) from hv23)
          refine mi_ge (tgt := 80) hx hb dMR_forth_27 (by decide) (by omega) (by omega) (fun h23 => ?_) (fun h23 => absurd h23 (by omega))
          refine lv_aload_n hx hb dMR_forth_80 rfl (lv_at hl 6 rfl) ?_
          refine lv_iload_n hx hb dMR_forth_81 rfl (lv_at hl 7 rfl) ?_
          refine lv_iload hx hb dMR_forth_82 (lv_at hl 3 rfl) ?_
          refine mi_imul hx hb dMR_forth_84 ?_
          refine lv_iload hx hb dMR_forth_85 (lv_at hl 8 rfl) ?_
          refine mi_iadd hx hb dMR_forth_87 ?_
          refine lv_lload hx hb dMR_forth_88 (lv_at hl 2 rfl) ?_
          refine lv_aload_n hx hb dMR_forth_90 rfl (lv_at hl 4 rfl) ?_
          refine nw_get (C := "LatticeKeysModel$Ring") (TT := T_MR) (N := 5) hx hb hts (wg_ft i_MR) hown hK hO k_h0 (kn := 181) (ci := 10) (fl := [(1, 8380417), (1, 256), (3, 182), (3, 183), (4, 8347681)]) rfl hP rfl 0 (by decide) (hts _ (wg_t kw_1362)) (fun _ h9 => h9) (cd := (1, 8380417)) rfl dMR_forth_91 (fun v24 hv24 => ?_)
          obtain rfl := (show v24 = .int (nI 8380417) from hv24)
          refine lv_i2l hx hb dMR_forth_94 rfl ?_
          refine lv_lrem hx hb dMR_forth_95 (by decide) ?_
          refine lv_l2i hx hb dMR_forth_96 rfl ?_
          refine nw_iast hx hb hK hO hU k_to (k := pt) n_to hP hD hS (by omega) (by omega) dMR_forth_97 (fun s23 pl H locs es21 hO hP hD hS => ?_)
          replace hR := bnd_step hR es21
          have hF := frm_sI hF es21 (by unfold M_MR_forth_8_0; omega)
          refine mi_iinc (k := 3) (x := i21) (d := 1) (y := i21 + 1) (lv' := [(5, .int (nI (i21 + 1))), (9, .int (nI i22)), (8, .int (nI ex21)), (6, .long y21), (0, .ref h0), (1, .ref f), (2, .ref to), (3, .int (nI 1)), (4, .int (nI 0))]) hx hb dMR_forth_98 hl rfl (by decide) rfl (by decide) rfl (fun ls hl => ?_)
          refine lv_goto (tgt := 3) hx hb dMR_forth_101 (by decide) ?_
          exact ih21 (i21 + 1) s23 pl ls H locs (by omega) hF hR (lv_sub hl [0, 4, 5, 6, 7, 8] rfl) hO hP hD hS
        | succ n22 ih22 =>
          intro i22 ex21 y21 s22 pl ls H locs hm22 hi21 hF hR hl hO hP hD hS
          refine lv_iload hx hb dMR_forth_21 (lv_at hl 0 rfl) ?_
          refine lv_aload_n hx hb dMR_forth_23 rfl (lv_at hl 4 rfl) ?_
          refine nw_get (C := "LatticeKeysModel$Ring") (TT := T_MR) (N := 5) hx hb hts (wg_ft i_MR) hown hK hO k_h0 (kn := 181) (ci := 10) (fl := [(1, 8380417), (1, 256), (3, 182), (3, 183), (4, 8347681)]) rfl hP rfl 1 (by decide) (hts _ (wg_t kw_1363)) (fun _ h9 => h9) (cd := (1, 256)) rfl dMR_forth_24 (fun v25 hv25 => ?_)
          obtain rfl := (show v25 = .int (nI 256) from hv25)
          refine mi_ge (tgt := 80) hx hb dMR_forth_27 (by decide) (by omega) (by omega) (fun h24 => absurd h24 (by omega)) (fun h24 => ?_)
          refine lv_lload hx hb dMR_forth_30 (lv_at hl 2 rfl) ?_
          refine lv_aload_n hx hb dMR_forth_32 rfl (lv_at hl 5 rfl) ?_
          refine lv_iload_n hx hb dMR_forth_33 rfl (lv_at hl 7 rfl) ?_
          refine lv_iload hx hb dMR_forth_34 (lv_at hl 0 rfl) ?_
          refine mi_imul hx hb dMR_forth_36 ?_
          refine lv_iload hx hb dMR_forth_37 (lv_at hl 8 rfl) ?_
          refine mi_iadd hx hb dMR_forth_39 ?_
          refine nw_iald hx hb hK hO k_f (k := pf) n_f hP (by omega) (by omega) dMR_forth_40 ?_
          refine lv_i2l hx hb dMR_forth_41 rfl ?_
          refine lv_aload_n hx hb dMR_forth_42 rfl (lv_at hl 4 rfl) ?_
          refine nw_get (C := "LatticeKeysModel$Ring") (TT := T_MR) (N := 5) hx hb hts (wg_ft i_MR) hown hK hO k_h0 (kn := 181) (ci := 10) (fl := [(1, 8380417), (1, 256), (3, 182), (3, 183), (4, 8347681)]) rfl hP rfl 2 (by decide) (hts _ (wg_t kw_1364)) (fun _ h9 => h9) (cd := (3, 182)) rfl dMR_forth_43 (fun v26 hv26 => ?_)
          obtain ⟨r21, rfl, kr21⟩ := (show ∃ r : Nat, v26 = .ref r ∧ T r = some 182 from hv26)
          refine lv_iload hx hb dMR_forth_46 (lv_at hl 1 rfl) ?_
          refine nw_laldT hx hb hK hO kr21 (k := 182) (d := 2) rfl hP (by omega) (by omega) dMR_forth_48 ?_
          refine lv_lmul hx hb dMR_forth_49 ?_
          refine lv_ladd hx hb dMR_forth_50 ?_
          refine ml_eqv (fun y22 ez21 => ?_)
          replace hR := bnd_step hR ez21
          refine lv_lstore (lv' := [(6, .long y22), (9, .int (nI i22)), (8, .int (nI ex21)), (5, .int (nI i21)), (0, .ref h0), (1, .ref f), (2, .ref to), (3, .int (nI 1)), (4, .int (nI 0))]) hx hb dMR_forth_51 hl (by decide) rfl (fun ls hl => ?_)
          refine lv_iload hx hb dMR_forth_53 (lv_at hl 2 rfl) ?_
          refine lv_aload_n hx hb dMR_forth_55 rfl (lv_at hl 4 rfl) ?_
          refine nw_get (C := "LatticeKeysModel$Ring") (TT := T_MR) (N := 5) hx hb hts (wg_ft i_MR) hown hK hO k_h0 (kn := 181) (ci := 10) (fl := [(1, 8380417), (1, 256), (3, 182), (3, 183), (4, 8347681)]) rfl hP rfl 3 (by decide) (hts _ (wg_t kw_1365)) (fun _ h9 => h9) (cd := (3, 183)) rfl dMR_forth_56 (fun v27 hv27 => ?_)
          obtain ⟨r22, rfl, kr22⟩ := (show ∃ r : Nat, v27 = .ref r ∧ T r = some 183 from hv27)
          refine lv_iload hx hb dMR_forth_59 (lv_at hl 3 rfl) ?_
          refine nw_ialdT hx hb hK hO kr22 (k := 183) (d := 4) rfl hP (by omega) (by omega) dMR_forth_61 ?_
          refine lv_iadd hx hb dMR_forth_62 ?_
          refine lv_iconst (v := nI 2) hx hb dMR_forth_63 (by decide) ?_
          refine lv_aload_n hx hb dMR_forth_64 rfl (lv_at hl 4 rfl) ?_
          refine nw_get (C := "LatticeKeysModel$Ring") (TT := T_MR) (N := 5) hx hb hts (wg_ft i_MR) hown hK hO k_h0 (kn := 181) (ci := 10) (fl := [(1, 8380417), (1, 256), (3, 182), (3, 183), (4, 8347681)]) rfl hP rfl 1 (by decide) (hts _ (wg_t kw_1363)) (fun _ h9 => h9) (cd := (1, 256)) rfl dMR_forth_65 (fun v28 hv28 => ?_)
          obtain rfl := (show v28 = .int (nI 256) from hv28)
          refine mi_imul hx hb dMR_forth_68 ?_
          refine mi_as (show nI (2 * 256) = nI 512 from rfl) ?_
          refine lv_iconst (v := nI 1) hx hb dMR_forth_69 (by decide) ?_
          refine mi_isub hx hb dMR_forth_70 (by omega) ?_
          refine mi_as (show nI (512 - 1) = nI 511 from rfl) ?_
          refine mi_iandT hx hb 9 dMR_forth_71 (by decide) (by decide) (fun z21 ez22 hz21 => ?_)
          have hz21 : z21 < 512 := hz21
          replace hR := bnd_step hR ez22
          refine lv_istore (lv' := [(8, .int (nI z21)), (6, .long y22), (9, .int (nI i22)), (5, .int (nI i21)), (0, .ref h0), (1, .ref f), (2, .ref to), (3, .int (nI 1)), (4, .int (nI 0))]) hx hb dMR_forth_72 hl (by decide) rfl (fun ls hl => ?_)
          refine mi_iinc (k := 2) (x := i22) (d := 1) (y := i22 + 1) (lv' := [(9, .int (nI (i22 + 1))), (8, .int (nI z21)), (6, .long y22), (5, .int (nI i21)), (0, .ref h0), (1, .ref f), (2, .ref to), (3, .int (nI 1)), (4, .int (nI 0))]) hx hb dMR_forth_74 hl rfl (by decide) rfl (by decide) rfl (fun ls hl => ?_)
          refine lv_goto (tgt := 21) hx hb dMR_forth_77 (by decide) ?_
          exact ih22 (i22 + 1) z21 y22 s22 pl ls H locs (by omega) (by omega) hF hR (lv_sub hl [0, 1, 2, 3, 4, 5, 6, 7, 8] rfl) hO hP hD hS
      exact lp22 256 0 0 0 s21 pl ls _ _ (by omega) (by omega) hF hR (lv_sub hl [0, 1, 2, 3, 4, 5, 6, 7, 8] rfl) hO hP hD hS
  exact lp21 256 0 s pl ls _ _ (by omega) hF hR (lv_sub hl [0, 1, 2, 3, 4, 5] rfl) hO hP hD hS
def M_MR_back_7_0 (pt : Nat) (k : Nat) : Prop := k = pt ∨ (0 : Nat) = 1
noncomputable def F_MR_back_7_0_L1 (pf : Nat) (pt : Nat) (i21 : Nat) (kk : Nat → Sto → Sto) : Nat → Nat → Int64 → Sto → Sto
  | 0, i22, y21, s22 => bnd (sI s22 pt ((2 * i21) + 0) ((((y21 - y21 / ((nI 3329).toInt64) * ((nI 3329).toInt64)) * (Int64.ofNat 3303)) - ((y21 - y21 / ((nI 3329).toInt64) * ((nI 3329).toInt64)) * (Int64.ofNat 3303)) / ((nI 3329).toInt64) * ((nI 3329).toInt64)).toInt32)) fun s23 => kk (i21 + 1) s23
  | n22 + 1, i22, y21, s22 => bnd ((((-(ctI 3 i22)) * (nI i21)) &&& nI 255).toNatClampNeg) fun z21 => bnd ((y21 + (((s22.1 pf ((2 * i22) + 0)).toInt64) * (ctL 1 z21)))) fun y22 => F_MR_back_7_0_L1 pf pt i21 kk n22 (i22 + 1) y22 s22
noncomputable def F_MR_back_7_0_L0 (pf : Nat) (pt : Nat) : Nat → Nat → Sto → Sto
  | 0, i21, s21 => s21
  | n21 + 1, i21, s21 => F_MR_back_7_0_L1 pf pt i21 (F_MR_back_7_0_L0 pf pt n21) 128 0 0 s21
noncomputable def F_MR_back_7_0 (pf : Nat) (pt : Nat) (s : Sto) : Sto := F_MR_back_7_0_L0 pf pt 128 0 s
set_option maxHeartbeats 400000 in
set_option maxRecDepth 100000 in
theorem N_MR_back_7_0 (l : Launch) (g : Gd) (sz : Nat) (T : TyN) (s : Sto) (pl : va_W) (hO : okn g T s pl) (hU : inj T) (h0 f to : Nat) (pf : Nat) (pt : Nat) (k_h0 : T h0 = some 178) (k_f : T f = some pf) (n_f : nsp pf = (0, 256, [])) (k_to : T to = some pt) (n_to : nsp pt = (0, 256, []))  : Met l y_MR_back w_MR_back ({ frames := 0, cells := 0, slots := 0, locals := 0 } : Room) (va_Pc [.ref h0, .ref f, .ref to, .int (nI 2), .int (nI 0)] (pr (en g) g.1 vcl sz ([] ++ pl))) (va_Qv (fun (u : (Sto) × va_W) => (u.1 = F_MR_back_7_0 pf pt s ∧ frm (M_MR_back_7_0 pt) s u.1 ∧ True) ∧ okn g T u.1 u.2) (po g.1 vcl (va_A ([] ++ pl) sz) (fun (u : (Sto) × va_W) => [] ++ u.2)) (va_A ([] ++ pl) sz)) 0 0 (va_A ([] ++ pl) sz) := by
  refine mc_entry (cc := c_MR_back) (maxL := 9) (ret := none) (by decide) rfl (Nat.le_of_ble_eq_true rfl) ?_
  intro p e s0 m args below meth c ls F hr hlk hnm hsz hP hD hE hA hl
  obtain ⟨hx, hb, hml, hown, hts⟩ := id F
  have hK := hE.1
  generalize va_A ([] ++ pl) sz = A at hD hE hA ⊢
  have hS : va_S A s0.heap s0.heap [] := va_S.rf
  have hl : lv_has ls 9 [(0, .ref h0), (1, .ref f), (2, .ref to), (3, .int (nI 2)), (4, .int (nI 0))] := hl
  have hR : F_MR_back_7_0 pf pt s = F_MR_back_7_0 pf pt s := rfl
  have hF : frm (M_MR_back_7_0 pt) s s := frm_rf
  refine lv_iconst (v := nI 0) hx hb dMR_back_0 (by decide) ?_
  refine lv_istore (lv' := [(5, .int (nI 0)), (0, .ref h0), (1, .ref f), (2, .ref to), (3, .int (nI 2)), (4, .int (nI 0))]) hx hb dMR_back_1 hl (by decide) rfl (fun ls hl => ?_)
  have lp21 : ∀ (n21 : Nat) (i21 : Nat) (s21 : Sto) (pl : va_W) (ls : Array Slot) (H : Heap) (locs : List Loc), n21 + i21 = 128 → frm (M_MR_back_7_0 pt) s s21 → F_MR_back_7_0 pf pt s = F_MR_back_7_0_L0 pf pt n21 i21 s21 → lv_has ls 9 [(5, .int (nI i21)), (0, .ref h0), (1, .ref f), (2, .ref to), (3, .int (nI 2)), (4, .int (nI 0))] → okn g T s21 pl → va_P g.1 vcl ([] ++ pl) H → va_D A ([] ++ pl) → va_S A s0.heap H locs → W p l e ({ frames := 0, cells := 0, slots := 0, locals := 0 } : Room) s0 m args below meth c H locs 0 0 (MQ below (va_Qv (fun (u : (Sto) × va_W) => (u.1 = F_MR_back_7_0 pf pt s ∧ frm (M_MR_back_7_0 pt) s u.1 ∧ True) ∧ okn g T u.1 u.2) (po g.1 vcl A (fun (u : (Sto) × va_W) => [] ++ u.2)) A) args s0 0 0 A) (F0 m 3 ls []) := by
    intro n21
    induction n21 with
    | zero =>
      intro i21 s21 pl ls H locs hm21 hF hR hl hO hP hD hS
      refine lv_iload hx hb dMR_back_3 (lv_at hl 0 rfl) ?_
      refine lv_aload_n hx hb dMR_back_5 rfl (lv_at hl 1 rfl) ?_
      refine nw_get (C := "LatticeKeysModel$Ring") (TT := T_MR) (N := 5) hx hb hts (wg_ft i_MR) hown hK hO k_h0 (kn := 178) (ci := 10) (fl := [(1, 3329), (1, 128), (3, 179), (3, 180), (4, 3303)]) rfl hP rfl 1 (by decide) (hts _ (wg_t kw_1363)) (fun _ h9 => h9) (cd := (1, 128)) rfl dMR_back_6 (fun v21 hv21 => ?_)
      obtain rfl := (show v21 = .int (nI 128) from hv21)
      refine mi_ge (tgt := 109) hx hb dMR_back_9 (by decide) (by omega) (by omega) (fun h21 => ?_) (fun h21 => absurd h21 (by omega))
      exact mp_vret hx hb hr hlk hP hD hS (s21, pl) ⟨⟨hR.symm, hF, trivial⟩, hO⟩ [] rfl rfl rfl (by omega) (by omega) dMR_back_109
    | succ n21 ih21 =>
      intro i21 s21 pl ls H locs hm21 hF hR hl hO hP hD hS
      refine lv_iload hx hb dMR_back_3 (lv_at hl 0 rfl) ?_
      refine lv_aload_n hx hb dMR_back_5 rfl (lv_at hl 1 rfl) ?_
      refine nw_get (C := "LatticeKeysModel$Ring") (TT := T_MR) (N := 5) hx hb hts (wg_ft i_MR) hown hK hO k_h0 (kn := 178) (ci := 10) (fl := [(1, 3329), (1, 128), (3, 179), (3, 180), (4, 3303)]) rfl hP rfl 1 (by decide) (hts _ (wg_t kw_1363)) (fun _ h9 => h9) (cd := (1, 128)) rfl dMR_back_6 (fun v22 hv22 => ?_)
      obtain rfl := (show v22 = .int (nI 128) from hv22)
      refine mi_ge (tgt := 109) hx hb dMR_back_9 (by decide) (by omega) (by omega) (fun h22 => absurd h22 (by omega)) (fun h22 => ?_)
      refine lv_lconst (v := 0) hx hb dMR_back_12 (by decide) ?_
      refine lv_lstore (lv' := [(6, .long 0), (5, .int (nI i21)), (0, .ref h0), (1, .ref f), (2, .ref to), (3, .int (nI 2)), (4, .int (nI 0))]) hx hb dMR_back_13 hl (by decide) rfl (fun ls hl => ?_)
      refine lv_iconst (v := nI 0) hx hb dMR_back_15 (by decide) ?_
      refine lv_istore (lv' := [(8, .int (nI 0)), (6, .long 0), (5, .int (nI i21)), (0, .ref h0), (1, .ref f), (2, .ref to), (3, .int (nI 2)), (4, .int (nI 0))]) hx hb dMR_back_16 hl (by decide) rfl (fun ls hl => ?_)
      have lp22 : ∀ (n22 : Nat) (i22 : Nat) (y21 : Int64) (s22 : Sto) (pl : va_W) (ls : Array Slot) (H : Heap) (locs : List Loc), n22 + i22 = 128 → frm (M_MR_back_7_0 pt) s s22 → F_MR_back_7_0 pf pt s = F_MR_back_7_0_L1 pf pt i21 (F_MR_back_7_0_L0 pf pt n21) n22 i22 y21 s22 → lv_has ls 9 [(8, .int (nI i22)), (6, .long y21), (5, .int (nI i21)), (0, .ref h0), (1, .ref f), (2, .ref to), (3, .int (nI 2)), (4, .int (nI 0))] → okn g T s22 pl → va_P g.1 vcl ([] ++ pl) H → va_D A ([] ++ pl) → va_S A s0.heap H locs → W p l e ({ frames := 0, cells := 0, slots := 0, locals := 0 } : Room) s0 m args below meth c H locs 0 0 (MQ below (va_Qv (fun (u : (Sto) × va_W) => (u.1 = F_MR_back_7_0 pf pt s ∧ frm (M_MR_back_7_0 pt) s u.1 ∧ True) ∧ okn g T u.1 u.2) (po g.1 vcl A (fun (u : (Sto) × va_W) => [] ++ u.2)) A) args s0 0 0 A) (F0 m 18 ls []) := by
        intro n22
        induction n22 with
        | zero =>
          intro i22 y21 s22 pl ls H locs hm22 hF hR hl hO hP hD hS
          refine lv_iload hx hb dMR_back_18 (lv_at hl 0 rfl) ?_
          refine lv_aload_n hx hb dMR_back_20 rfl (lv_at hl 3 rfl) ?_
          refine nw_get (C := "LatticeKeysModel$Ring") (TT := T_MR) (N := 5) hx hb hts (wg_ft i_MR) hown hK hO k_h0 (kn := 178) (ci := 10) (fl := [(1, 3329), (1, 128), (3, 179), (3, 180), (4, 3303)]) rfl hP rfl 1 (by decide) (hts _ (wg_t kw_1363)) (fun _ h9 => h9) (cd := (1, 128)) rfl dMR_back_21 (fun v23 hv23 => ?_)
          obtain rfl := (show v23 = .int (nI 128) from hv23)
          refine mi_ge (tgt := 74) hx hb dMR_back_24 (by decide) (by omega) (by omega) (fun h23 => ?_) (fun h23 => absurd h23 (by omega))
          refine lv_aload_n hx hb dMR_back_74 rfl (lv_at hl 5 rfl) ?_
          refine lv_iload_n hx hb dMR_back_75 rfl (lv_at hl 6 rfl) ?_
          refine lv_iload hx hb dMR_back_76 (lv_at hl 2 rfl) ?_
          refine mi_imul hx hb dMR_back_78 ?_
          refine lv_iload hx hb dMR_back_79 (lv_at hl 7 rfl) ?_
          refine mi_iadd hx hb dMR_back_81 ?_
          refine lv_lload hx hb dMR_back_82 (lv_at hl 1 rfl) ?_
          refine lv_aload_n hx hb dMR_back_84 rfl (lv_at hl 3 rfl) ?_
          refine nw_get (C := "LatticeKeysModel$Ring") (TT := T_MR) (N := 5) hx hb hts (wg_ft i_MR) hown hK hO k_h0 (kn := 178) (ci := 10) (fl := [(1, 3329), (1, 128), (3, 179), (3, 180), (4, 3303)]) rfl hP rfl 0 (by decide) (hts _ (wg_t kw_1362)) (fun _ h9 => h9) (cd := (1, 3329)) rfl dMR_back_85 (fun v24 hv24 => ?_)
          obtain rfl := (show v24 = .int (nI 3329) from hv24)
          refine lv_i2l hx hb dMR_back_88 rfl ?_
          refine lv_lrem hx hb dMR_back_89 (by decide) ?_
          refine lv_aload_n hx hb dMR_back_90 rfl (lv_at hl 3 rfl) ?_
          refine nw_get (C := "LatticeKeysModel$Ring") (TT := T_MR) (N := 5) hx hb hts (wg_ft i_MR) hown hK hO k_h0 (kn := 178) (ci := 10) (fl := [(1, 3329), (1, 128), (3, 179), (3, 180), (4, 3303)]) rfl hP rfl 4 (by decide) (hts _ (wg_t kw_1366)) (fun _ h9 => h9) (cd := (4, 3303)) rfl dMR_back_91 (fun v25 hv25 => ?_)
          obtain rfl := (show v25 = .long (Int64.ofNat 3303) from hv25)
          refine lv_lmul hx hb dMR_back_94 ?_
          refine lv_aload_n hx hb dMR_back_95 rfl (lv_at hl 3 rfl) ?_
          refine nw_get (C := "LatticeKeysModel$Ring") (TT := T_MR) (N := 5) hx hb hts (wg_ft i_MR) hown hK hO k_h0 (kn := 178) (ci := 10) (fl := [(1, 3329), (1, 128), (3, 179), (3, 180), (4, 3303)]) rfl hP rfl 0 (by decide) (hts _ (wg_t kw_1362)) (fun _ h9 => h9) (cd := (1, 3329)) rfl dMR_back_96 (fun v26 hv26 => ?_)
          obtain rfl := (show v26 = .int (nI 3329) from hv26)
          refine lv_i2l hx hb dMR_back_99 rfl ?_
          refine lv_lrem hx hb dMR_back_100 (by decide) ?_
          refine lv_l2i hx hb dMR_back_101 rfl ?_
          refine nw_iast hx hb hK hO hU k_to (k := pt) n_to hP hD hS (by omega) (by omega) dMR_back_102 (fun s23 pl H locs es21 hO hP hD hS => ?_)
          replace hR := bnd_step hR es21
          have hF := frm_sI hF es21 (by unfold M_MR_back_7_0; omega)
          refine mi_iinc (k := 2) (x := i21) (d := 1) (y := i21 + 1) (lv' := [(5, .int (nI (i21 + 1))), (8, .int (nI i22)), (6, .long y21), (0, .ref h0), (1, .ref f), (2, .ref to), (3, .int (nI 2)), (4, .int (nI 0))]) hx hb dMR_back_103 hl rfl (by decide) rfl (by decide) rfl (fun ls hl => ?_)
          refine lv_goto (tgt := 3) hx hb dMR_back_106 (by decide) ?_
          exact ih21 (i21 + 1) s23 pl ls H locs (by omega) hF hR (lv_sub hl [0, 3, 4, 5, 6, 7] rfl) hO hP hD hS
        | succ n22 ih22 =>
          intro i22 y21 s22 pl ls H locs hm22 hF hR hl hO hP hD hS
          refine lv_iload hx hb dMR_back_18 (lv_at hl 0 rfl) ?_
          refine lv_aload_n hx hb dMR_back_20 rfl (lv_at hl 3 rfl) ?_
          refine nw_get (C := "LatticeKeysModel$Ring") (TT := T_MR) (N := 5) hx hb hts (wg_ft i_MR) hown hK hO k_h0 (kn := 178) (ci := 10) (fl := [(1, 3329), (1, 128), (3, 179), (3, 180), (4, 3303)]) rfl hP rfl 1 (by decide) (hts _ (wg_t kw_1363)) (fun _ h9 => h9) (cd := (1, 128)) rfl dMR_back_21 (fun v27 hv27 => ?_)
          obtain rfl := (show v27 = .int (nI 128) from hv27)
          refine mi_ge (tgt := 74) hx hb dMR_back_24 (by decide) (by omega) (by omega) (fun h24 => absurd h24 (by omega)) (fun h24 => ?_)
          refine lv_lload hx hb dMR_back_27 (lv_at hl 1 rfl) ?_
          refine lv_aload_n hx hb dMR_back_29 rfl (lv_at hl 4 rfl) ?_
          refine lv_iload_n hx hb dMR_back_30 rfl (lv_at hl 6 rfl) ?_
          refine lv_iload hx hb dMR_back_31 (lv_at hl 0 rfl) ?_
          refine mi_imul hx hb dMR_back_33 ?_
          refine lv_iload hx hb dMR_back_34 (lv_at hl 7 rfl) ?_
          refine mi_iadd hx hb dMR_back_36 ?_
          refine nw_iald hx hb hK hO k_f (k := pf) n_f hP (by omega) (by omega) dMR_back_37 ?_
          refine lv_i2l hx hb dMR_back_38 rfl ?_
          refine lv_aload_n hx hb dMR_back_39 rfl (lv_at hl 3 rfl) ?_
          refine nw_get (C := "LatticeKeysModel$Ring") (TT := T_MR) (N := 5) hx hb hts (wg_ft i_MR) hown hK hO k_h0 (kn := 178) (ci := 10) (fl := [(1, 3329), (1, 128), (3, 179), (3, 180), (4, 3303)]) rfl hP rfl 2 (by decide) (hts _ (wg_t kw_1364)) (fun _ h9 => h9) (cd := (3, 179)) rfl dMR_back_40 (fun v28 hv28 => ?_)
          obtain ⟨r21, rfl, kr21⟩ := (show ∃ r : Nat, v28 = .ref r ∧ T r = some 179 from hv28)
          refine lv_aload_n hx hb dMR_back_43 rfl (lv_at hl 3 rfl) ?_
          refine nw_get (C := "LatticeKeysModel$Ring") (TT := T_MR) (N := 5) hx hb hts (wg_ft i_MR) hown hK hO k_h0 (kn := 178) (ci := 10) (fl := [(1, 3329), (1, 128), (3, 179), (3, 180), (4, 3303)]) rfl hP rfl 3 (by decide) (hts _ (wg_t kw_1365)) (fun _ h9 => h9) (cd := (3, 180)) rfl dMR_back_44 (fun v29 hv29 => ?_)
          obtain ⟨r22, rfl, kr22⟩ := (show ∃ r : Nat, v29 = .ref r ∧ T r = some 180 from hv29)
          refine lv_iload hx hb dMR_back_47 (lv_at hl 0 rfl) ?_
          refine nw_ialdT hx hb hK hO kr22 (k := 180) (d := 3) rfl hP (by omega) (by omega) dMR_back_49 ?_
          refine lv_ineg hx hb dMR_back_50 ?_
          refine lv_iload hx hb dMR_back_51 (lv_at hl 2 rfl) ?_
          refine lv_imul hx hb dMR_back_53 ?_
          refine lv_iconst (v := nI 2) hx hb dMR_back_54 (by decide) ?_
          refine lv_aload_n hx hb dMR_back_55 rfl (lv_at hl 3 rfl) ?_
          refine nw_get (C := "LatticeKeysModel$Ring") (TT := T_MR) (N := 5) hx hb hts (wg_ft i_MR) hown hK hO k_h0 (kn := 178) (ci := 10) (fl := [(1, 3329), (1, 128), (3, 179), (3, 180), (4, 3303)]) rfl hP rfl 1 (by decide) (hts _ (wg_t kw_1363)) (fun _ h9 => h9) (cd := (1, 128)) rfl dMR_back_56 (fun v30 hv30 => ?_)
          obtain rfl := (show v30 = .int (nI 128) from hv30)
          refine mi_imul hx hb dMR_back_59 ?_
          refine mi_as (show nI (2 * 128) = nI 256 from rfl) ?_
          refine lv_iconst (v := nI 1) hx hb dMR_back_60 (by decide) ?_
          refine mi_isub hx hb dMR_back_61 (by omega) ?_
          refine mi_as (show nI (256 - 1) = nI 255 from rfl) ?_
          refine mi_iandT hx hb 8 dMR_back_62 (by decide) (by decide) (fun z21 ez21 hz21 => ?_)
          have hz21 : z21 < 256 := hz21
          replace hR := bnd_step hR ez21
          refine nw_laldT hx hb hK hO kr21 (k := 179) (d := 1) rfl hP (by omega) (by omega) dMR_back_63 ?_
          refine lv_lmul hx hb dMR_back_64 ?_
          refine lv_ladd hx hb dMR_back_65 ?_
          refine ml_eqv (fun y22 ez22 => ?_)
          replace hR := bnd_step hR ez22
          refine lv_lstore (lv' := [(6, .long y22), (8, .int (nI i22)), (5, .int (nI i21)), (0, .ref h0), (1, .ref f), (2, .ref to), (3, .int (nI 2)), (4, .int (nI 0))]) hx hb dMR_back_66 hl (by decide) rfl (fun ls hl => ?_)
          refine mi_iinc (k := 1) (x := i22) (d := 1) (y := i22 + 1) (lv' := [(8, .int (nI (i22 + 1))), (6, .long y22), (5, .int (nI i21)), (0, .ref h0), (1, .ref f), (2, .ref to), (3, .int (nI 2)), (4, .int (nI 0))]) hx hb dMR_back_68 hl rfl (by decide) rfl (by decide) rfl (fun ls hl => ?_)
          refine lv_goto (tgt := 18) hx hb dMR_back_71 (by decide) ?_
          exact ih22 (i22 + 1) y22 s22 pl ls H locs (by omega) hF hR (lv_sub hl [0, 1, 2, 3, 4, 5, 6, 7] rfl) hO hP hD hS
      exact lp22 128 0 0 s21 pl ls _ _ (by omega) hF hR (lv_sub hl [0, 1, 2, 3, 4, 5, 6, 7] rfl) hO hP hD hS
  exact lp21 128 0 s pl ls _ _ (by omega) hF hR (lv_sub hl [0, 1, 2, 3, 4, 5] rfl) hO hP hD hS
def M_MR_back_7_1 (pt : Nat) (k : Nat) : Prop := k = pt ∨ (0 : Nat) = 1
noncomputable def F_MR_back_7_1_L1 (pf : Nat) (pt : Nat) (i21 : Nat) (kk : Nat → Sto → Sto) : Nat → Nat → Int64 → Sto → Sto
  | 0, i22, y21, s22 => bnd (sI s22 pt ((2 * i21) + 1) ((((y21 - y21 / ((nI 3329).toInt64) * ((nI 3329).toInt64)) * (Int64.ofNat 3303)) - ((y21 - y21 / ((nI 3329).toInt64) * ((nI 3329).toInt64)) * (Int64.ofNat 3303)) / ((nI 3329).toInt64) * ((nI 3329).toInt64)).toInt32)) fun s23 => kk (i21 + 1) s23
  | n22 + 1, i22, y21, s22 => bnd ((((-(ctI 3 i22)) * (nI i21)) &&& nI 255).toNatClampNeg) fun z21 => bnd ((y21 + (((s22.1 pf ((2 * i22) + 1)).toInt64) * (ctL 1 z21)))) fun y22 => F_MR_back_7_1_L1 pf pt i21 kk n22 (i22 + 1) y22 s22
noncomputable def F_MR_back_7_1_L0 (pf : Nat) (pt : Nat) : Nat → Nat → Sto → Sto
  | 0, i21, s21 => s21
  | n21 + 1, i21, s21 => F_MR_back_7_1_L1 pf pt i21 (F_MR_back_7_1_L0 pf pt n21) 128 0 0 s21
noncomputable def F_MR_back_7_1 (pf : Nat) (pt : Nat) (s : Sto) : Sto := F_MR_back_7_1_L0 pf pt 128 0 s
set_option maxHeartbeats 400000 in
set_option maxRecDepth 100000 in
theorem N_MR_back_7_1 (l : Launch) (g : Gd) (sz : Nat) (T : TyN) (s : Sto) (pl : va_W) (hO : okn g T s pl) (hU : inj T) (h0 f to : Nat) (pf : Nat) (pt : Nat) (k_h0 : T h0 = some 178) (k_f : T f = some pf) (n_f : nsp pf = (0, 256, [])) (k_to : T to = some pt) (n_to : nsp pt = (0, 256, []))  : Met l y_MR_back w_MR_back ({ frames := 0, cells := 0, slots := 0, locals := 0 } : Room) (va_Pc [.ref h0, .ref f, .ref to, .int (nI 2), .int (nI 1)] (pr (en g) g.1 vcl sz ([] ++ pl))) (va_Qv (fun (u : (Sto) × va_W) => (u.1 = F_MR_back_7_1 pf pt s ∧ frm (M_MR_back_7_1 pt) s u.1 ∧ True) ∧ okn g T u.1 u.2) (po g.1 vcl (va_A ([] ++ pl) sz) (fun (u : (Sto) × va_W) => [] ++ u.2)) (va_A ([] ++ pl) sz)) 0 0 (va_A ([] ++ pl) sz) := by
  refine mc_entry (cc := c_MR_back) (maxL := 9) (ret := none) (by decide) rfl (Nat.le_of_ble_eq_true rfl) ?_
  intro p e s0 m args below meth c ls F hr hlk hnm hsz hP hD hE hA hl
  obtain ⟨hx, hb, hml, hown, hts⟩ := id F
  have hK := hE.1
  generalize va_A ([] ++ pl) sz = A at hD hE hA ⊢
  have hS : va_S A s0.heap s0.heap [] := va_S.rf
  have hl : lv_has ls 9 [(0, .ref h0), (1, .ref f), (2, .ref to), (3, .int (nI 2)), (4, .int (nI 1))] := hl
  have hR : F_MR_back_7_1 pf pt s = F_MR_back_7_1 pf pt s := rfl
  have hF : frm (M_MR_back_7_1 pt) s s := frm_rf
  refine lv_iconst (v := nI 0) hx hb dMR_back_0 (by decide) ?_
  refine lv_istore (lv' := [(5, .int (nI 0)), (0, .ref h0), (1, .ref f), (2, .ref to), (3, .int (nI 2)), (4, .int (nI 1))]) hx hb dMR_back_1 hl (by decide) rfl (fun ls hl => ?_)
  have lp21 : ∀ (n21 : Nat) (i21 : Nat) (s21 : Sto) (pl : va_W) (ls : Array Slot) (H : Heap) (locs : List Loc), n21 + i21 = 128 → frm (M_MR_back_7_1 pt) s s21 → F_MR_back_7_1 pf pt s = F_MR_back_7_1_L0 pf pt n21 i21 s21 → lv_has ls 9 [(5, .int (nI i21)), (0, .ref h0), (1, .ref f), (2, .ref to), (3, .int (nI 2)), (4, .int (nI 1))] → okn g T s21 pl → va_P g.1 vcl ([] ++ pl) H → va_D A ([] ++ pl) → va_S A s0.heap H locs → W p l e ({ frames := 0, cells := 0, slots := 0, locals := 0 } : Room) s0 m args below meth c H locs 0 0 (MQ below (va_Qv (fun (u : (Sto) × va_W) => (u.1 = F_MR_back_7_1 pf pt s ∧ frm (M_MR_back_7_1 pt) s u.1 ∧ True) ∧ okn g T u.1 u.2) (po g.1 vcl A (fun (u : (Sto) × va_W) => [] ++ u.2)) A) args s0 0 0 A) (F0 m 3 ls []) := by
    intro n21
    induction n21 with
    | zero =>
      intro i21 s21 pl ls H locs hm21 hF hR hl hO hP hD hS
      refine lv_iload hx hb dMR_back_3 (lv_at hl 0 rfl) ?_
      refine lv_aload_n hx hb dMR_back_5 rfl (lv_at hl 1 rfl) ?_
      refine nw_get (C := "LatticeKeysModel$Ring") (TT := T_MR) (N := 5) hx hb hts (wg_ft i_MR) hown hK hO k_h0 (kn := 178) (ci := 10) (fl := [(1, 3329), (1, 128), (3, 179), (3, 180), (4, 3303)]) rfl hP rfl 1 (by decide) (hts _ (wg_t kw_1363)) (fun _ h9 => h9) (cd := (1, 128)) rfl dMR_back_6 (fun v21 hv21 => ?_)
      obtain rfl := (show v21 = .int (nI 128) from hv21)
      refine mi_ge (tgt := 109) hx hb dMR_back_9 (by decide) (by omega) (by omega) (fun h21 => ?_) (fun h21 => absurd h21 (by omega))
      exact mp_vret hx hb hr hlk hP hD hS (s21, pl) ⟨⟨hR.symm, hF, trivial⟩, hO⟩ [] rfl rfl rfl (by omega) (by omega) dMR_back_109
    | succ n21 ih21 =>
      intro i21 s21 pl ls H locs hm21 hF hR hl hO hP hD hS
      refine lv_iload hx hb dMR_back_3 (lv_at hl 0 rfl) ?_
      refine lv_aload_n hx hb dMR_back_5 rfl (lv_at hl 1 rfl) ?_
      refine nw_get (C := "LatticeKeysModel$Ring") (TT := T_MR) (N := 5) hx hb hts (wg_ft i_MR) hown hK hO k_h0 (kn := 178) (ci := 10) (fl := [(1, 3329), (1, 128), (3, 179), (3, 180), (4, 3303)]) rfl hP rfl 1 (by decide) (hts _ (wg_t kw_1363)) (fun _ h9 => h9) (cd := (1, 128)) rfl dMR_back_6 (fun v22 hv22 => ?_)
      obtain rfl := (show v22 = .int (nI 128) from hv22)
      refine mi_ge (tgt := 109) hx hb dMR_back_9 (by decide) (by omega) (by omega) (fun h22 => absurd h22 (by omega)) (fun h22 => ?_)
      refine lv_lconst (v := 0) hx hb dMR_back_12 (by decide) ?_
      refine lv_lstore (lv' := [(6, .long 0), (5, .int (nI i21)), (0, .ref h0), (1, .ref f), (2, .ref to), (3, .int (nI 2)), (4, .int (nI 1))]) hx hb dMR_back_13 hl (by decide) rfl (fun ls hl => ?_)
      refine lv_iconst (v := nI 0) hx hb dMR_back_15 (by decide) ?_
      refine lv_istore (lv' := [(8, .int (nI 0)), (6, .long 0), (5, .int (nI i21)), (0, .ref h0), (1, .ref f), (2, .ref to), (3, .int (nI 2)), (4, .int (nI 1))]) hx hb dMR_back_16 hl (by decide) rfl (fun ls hl => ?_)
      have lp22 : ∀ (n22 : Nat) (i22 : Nat) (y21 : Int64) (s22 : Sto) (pl : va_W) (ls : Array Slot) (H : Heap) (locs : List Loc), n22 + i22 = 128 → frm (M_MR_back_7_1 pt) s s22 → F_MR_back_7_1 pf pt s = F_MR_back_7_1_L1 pf pt i21 (F_MR_back_7_1_L0 pf pt n21) n22 i22 y21 s22 → lv_has ls 9 [(8, .int (nI i22)), (6, .long y21), (5, .int (nI i21)), (0, .ref h0), (1, .ref f), (2, .ref to), (3, .int (nI 2)), (4, .int (nI 1))] → okn g T s22 pl → va_P g.1 vcl ([] ++ pl) H → va_D A ([] ++ pl) → va_S A s0.heap H locs → W p l e ({ frames := 0, cells := 0, slots := 0, locals := 0 } : Room) s0 m args below meth c H locs 0 0 (MQ below (va_Qv (fun (u : (Sto) × va_W) => (u.1 = F_MR_back_7_1 pf pt s ∧ frm (M_MR_back_7_1 pt) s u.1 ∧ True) ∧ okn g T u.1 u.2) (po g.1 vcl A (fun (u : (Sto) × va_W) => [] ++ u.2)) A) args s0 0 0 A) (F0 m 18 ls []) := by
        intro n22
        induction n22 with
        | zero =>
          intro i22 y21 s22 pl ls H locs hm22 hF hR hl hO hP hD hS
          refine lv_iload hx hb dMR_back_18 (lv_at hl 0 rfl) ?_
          refine lv_aload_n hx hb dMR_back_20 rfl (lv_at hl 3 rfl) ?_
          refine nw_get (C := "LatticeKeysModel$Ring") (TT := T_MR) (N := 5) hx hb hts (wg_ft i_MR) hown hK hO k_h0 (kn := 178) (ci := 10) (fl := [(1, 3329), (1, 128), (3, 179), (3, 180), (4, 3303)]) rfl hP rfl 1 (by decide) (hts _ (wg_t kw_1363)) (fun _ h9 => h9) (cd := (1, 128)) rfl dMR_back_21 (fun v23 hv23 => ?_)
          obtain rfl := (show v23 = .int (nI 128) from hv23)
          refine mi_ge (tgt := 74) hx hb dMR_back_24 (by decide) (by omega) (by omega) (fun h23 => ?_) (fun h23 => absurd h23 (by omega))
          refine lv_aload_n hx hb dMR_back_74 rfl (lv_at hl 5 rfl) ?_
          refine lv_iload_n hx hb dMR_back_75 rfl (lv_at hl 6 rfl) ?_
          refine lv_iload hx hb dMR_back_76 (lv_at hl 2 rfl) ?_
          refine mi_imul hx hb dMR_back_78 ?_
          refine lv_iload hx hb dMR_back_79 (lv_at hl 7 rfl) ?_
          refine mi_iadd hx hb dMR_back_81 ?_
          refine lv_lload hx hb dMR_back_82 (lv_at hl 1 rfl) ?_
          refine lv_aload_n hx hb dMR_back_84 rfl (lv_at hl 3 rfl) ?_
          refine nw_get (C := "LatticeKeysModel$Ring") (TT := T_MR) (N := 5) hx hb hts (wg_ft i_MR) hown hK hO k_h0 (kn := 178) (ci := 10) (fl := [(1, 3329), (1, 128), (3, 179), (3, 180), (4, 3303)]) rfl hP rfl 0 (by decide) (hts _ (wg_t kw_1362)) (fun _ h9 => h9) (cd := (1, 3329)) rfl dMR_back_85 (fun v24 hv24 => ?_)
          obtain rfl := (show v24 = .int (nI 3329) from hv24)
          refine lv_i2l hx hb dMR_back_88 rfl ?_
          refine lv_lrem hx hb dMR_back_89 (by decide) ?_
          refine lv_aload_n hx hb dMR_back_90 rfl (lv_at hl 3 rfl) ?_
          refine nw_get (C := "LatticeKeysModel$Ring") (TT := T_MR) (N := 5) hx hb hts (wg_ft i_MR) hown hK hO k_h0 (kn := 178) (ci := 10) (fl := [(1, 3329), (1, 128), (3, 179), (3, 180), (4, 3303)]) rfl hP rfl 4 (by decide) (hts _ (wg_t kw_1366)) (fun _ h9 => h9) (cd := (4, 3303)) rfl dMR_back_91 (fun v25 hv25 => ?_)
          obtain rfl := (show v25 = .long (Int64.ofNat 3303) from hv25)
          refine lv_lmul hx hb dMR_back_94 ?_
          refine lv_aload_n hx hb dMR_back_95 rfl (lv_at hl 3 rfl) ?_
          refine nw_get (C := "LatticeKeysModel$Ring") (TT := T_MR) (N := 5) hx hb hts (wg_ft i_MR) hown hK hO k_h0 (kn := 178) (ci := 10) (fl := [(1, 3329), (1, 128), (3, 179), (3, 180), (4, 3303)]) rfl hP rfl 0 (by decide) (hts _ (wg_t kw_1362)) (fun _ h9 => h9) (cd := (1, 3329)) rfl dMR_back_96 (fun v26 hv26 => ?_)
          obtain rfl := (show v26 = .int (nI 3329) from hv26)
          refine lv_i2l hx hb dMR_back_99 rfl ?_
          refine lv_lrem hx hb dMR_back_100 (by decide) ?_
          refine lv_l2i hx hb dMR_back_101 rfl ?_
          refine nw_iast hx hb hK hO hU k_to (k := pt) n_to hP hD hS (by omega) (by omega) dMR_back_102 (fun s23 pl H locs es21 hO hP hD hS => ?_)
          replace hR := bnd_step hR es21
          have hF := frm_sI hF es21 (by unfold M_MR_back_7_1; omega)
          refine mi_iinc (k := 2) (x := i21) (d := 1) (y := i21 + 1) (lv' := [(5, .int (nI (i21 + 1))), (8, .int (nI i22)), (6, .long y21), (0, .ref h0), (1, .ref f), (2, .ref to), (3, .int (nI 2)), (4, .int (nI 1))]) hx hb dMR_back_103 hl rfl (by decide) rfl (by decide) rfl (fun ls hl => ?_)
          refine lv_goto (tgt := 3) hx hb dMR_back_106 (by decide) ?_
          exact ih21 (i21 + 1) s23 pl ls H locs (by omega) hF hR (lv_sub hl [0, 3, 4, 5, 6, 7] rfl) hO hP hD hS
        | succ n22 ih22 =>
          intro i22 y21 s22 pl ls H locs hm22 hF hR hl hO hP hD hS
          refine lv_iload hx hb dMR_back_18 (lv_at hl 0 rfl) ?_
          refine lv_aload_n hx hb dMR_back_20 rfl (lv_at hl 3 rfl) ?_
          refine nw_get (C := "LatticeKeysModel$Ring") (TT := T_MR) (N := 5) hx hb hts (wg_ft i_MR) hown hK hO k_h0 (kn := 178) (ci := 10) (fl := [(1, 3329), (1, 128), (3, 179), (3, 180), (4, 3303)]) rfl hP rfl 1 (by decide) (hts _ (wg_t kw_1363)) (fun _ h9 => h9) (cd := (1, 128)) rfl dMR_back_21 (fun v27 hv27 => ?_)
          obtain rfl := (show v27 = .int (nI 128) from hv27)
          refine mi_ge (tgt := 74) hx hb dMR_back_24 (by decide) (by omega) (by omega) (fun h24 => absurd h24 (by omega)) (fun h24 => ?_)
          refine lv_lload hx hb dMR_back_27 (lv_at hl 1 rfl) ?_
          refine lv_aload_n hx hb dMR_back_29 rfl (lv_at hl 4 rfl) ?_
          refine lv_iload_n hx hb dMR_back_30 rfl (lv_at hl 6 rfl) ?_
          refine lv_iload hx hb dMR_back_31 (lv_at hl 0 rfl) ?_
          refine mi_imul hx hb dMR_back_33 ?_
          refine lv_iload hx hb dMR_back_34 (lv_at hl 7 rfl) ?_
          refine mi_iadd hx hb dMR_back_36 ?_
          refine nw_iald hx hb hK hO k_f (k := pf) n_f hP (by omega) (by omega) dMR_back_37 ?_
          refine lv_i2l hx hb dMR_back_38 rfl ?_
          refine lv_aload_n hx hb dMR_back_39 rfl (lv_at hl 3 rfl) ?_
          refine nw_get (C := "LatticeKeysModel$Ring") (TT := T_MR) (N := 5) hx hb hts (wg_ft i_MR) hown hK hO k_h0 (kn := 178) (ci := 10) (fl := [(1, 3329), (1, 128), (3, 179), (3, 180), (4, 3303)]) rfl hP rfl 2 (by decide) (hts _ (wg_t kw_1364)) (fun _ h9 => h9) (cd := (3, 179)) rfl dMR_back_40 (fun v28 hv28 => ?_)
          obtain ⟨r21, rfl, kr21⟩ := (show ∃ r : Nat, v28 = .ref r ∧ T r = some 179 from hv28)
          refine lv_aload_n hx hb dMR_back_43 rfl (lv_at hl 3 rfl) ?_
          refine nw_get (C := "LatticeKeysModel$Ring") (TT := T_MR) (N := 5) hx hb hts (wg_ft i_MR) hown hK hO k_h0 (kn := 178) (ci := 10) (fl := [(1, 3329), (1, 128), (3, 179), (3, 180), (4, 3303)]) rfl hP rfl 3 (by decide) (hts _ (wg_t kw_1365)) (fun _ h9 => h9) (cd := (3, 180)) rfl dMR_back_44 (fun v29 hv29 => ?_)
          obtain ⟨r22, rfl, kr22⟩ := (show ∃ r : Nat, v29 = .ref r ∧ T r = some 180 from hv29)
          refine lv_iload hx hb dMR_back_47 (lv_at hl 0 rfl) ?_
          refine nw_ialdT hx hb hK hO kr22 (k := 180) (d := 3) rfl hP (by omega) (by omega) dMR_back_49 ?_
          refine lv_ineg hx hb dMR_back_50 ?_
          refine lv_iload hx hb dMR_back_51 (lv_at hl 2 rfl) ?_
          refine lv_imul hx hb dMR_back_53 ?_
          refine lv_iconst (v := nI 2) hx hb dMR_back_54 (by decide) ?_
          refine lv_aload_n hx hb dMR_back_55 rfl (lv_at hl 3 rfl) ?_
          refine nw_get (C := "LatticeKeysModel$Ring") (TT := T_MR) (N := 5) hx hb hts (wg_ft i_MR) hown hK hO k_h0 (kn := 178) (ci := 10) (fl := [(1, 3329), (1, 128), (3, 179), (3, 180), (4, 3303)]) rfl hP rfl 1 (by decide) (hts _ (wg_t kw_1363)) (fun _ h9 => h9) (cd := (1, 128)) rfl dMR_back_56 (fun v30 hv30 => ?_)
          obtain rfl := (show v30 = .int (nI 128) from hv30)
          refine mi_imul hx hb dMR_back_59 ?_
          refine mi_as (show nI (2 * 128) = nI 256 from rfl) ?_
          refine lv_iconst (v := nI 1) hx hb dMR_back_60 (by decide) ?_
          refine mi_isub hx hb dMR_back_61 (by omega) ?_
          refine mi_as (show nI (256 - 1) = nI 255 from rfl) ?_
          refine mi_iandT hx hb 8 dMR_back_62 (by decide) (by decide) (fun z21 ez21 hz21 => ?_)
          have hz21 : z21 < 256 := hz21
          replace hR := bnd_step hR ez21
          refine nw_laldT hx hb hK hO kr21 (k := 179) (d := 1) rfl hP (by omega) (by omega) dMR_back_63 ?_
          refine lv_lmul hx hb dMR_back_64 ?_
          refine lv_ladd hx hb dMR_back_65 ?_
          refine ml_eqv (fun y22 ez22 => ?_)
          replace hR := bnd_step hR ez22
          refine lv_lstore (lv' := [(6, .long y22), (8, .int (nI i22)), (5, .int (nI i21)), (0, .ref h0), (1, .ref f), (2, .ref to), (3, .int (nI 2)), (4, .int (nI 1))]) hx hb dMR_back_66 hl (by decide) rfl (fun ls hl => ?_)
          refine mi_iinc (k := 1) (x := i22) (d := 1) (y := i22 + 1) (lv' := [(8, .int (nI (i22 + 1))), (6, .long y22), (5, .int (nI i21)), (0, .ref h0), (1, .ref f), (2, .ref to), (3, .int (nI 2)), (4, .int (nI 1))]) hx hb dMR_back_68 hl rfl (by decide) rfl (by decide) rfl (fun ls hl => ?_)
          refine lv_goto (tgt := 18) hx hb dMR_back_71 (by decide) ?_
          exact ih22 (i22 + 1) y22 s22 pl ls H locs (by omega) hF hR (lv_sub hl [0, 1, 2, 3, 4, 5, 6, 7] rfl) hO hP hD hS
      exact lp22 128 0 0 s21 pl ls _ _ (by omega) hF hR (lv_sub hl [0, 1, 2, 3, 4, 5, 6, 7] rfl) hO hP hD hS
  exact lp21 128 0 s pl ls _ _ (by omega) hF hR (lv_sub hl [0, 1, 2, 3, 4, 5] rfl) hO hP hD hS
def M_MR_back_8_0 (pt : Nat) (k : Nat) : Prop := k = pt ∨ (0 : Nat) = 1
noncomputable def F_MR_back_8_0_L1 (pf : Nat) (pt : Nat) (i21 : Nat) (kk : Nat → Sto → Sto) : Nat → Nat → Int64 → Sto → Sto
  | 0, i22, y21, s22 => bnd (sI s22 pt ((1 * i21) + 0) ((((y21 - y21 / ((nI 8380417).toInt64) * ((nI 8380417).toInt64)) * (Int64.ofNat 8347681)) - ((y21 - y21 / ((nI 8380417).toInt64) * ((nI 8380417).toInt64)) * (Int64.ofNat 8347681)) / ((nI 8380417).toInt64) * ((nI 8380417).toInt64)).toInt32)) fun s23 => kk (i21 + 1) s23
  | n22 + 1, i22, y21, s22 => bnd ((((-(ctI 4 i22)) * (nI i21)) &&& nI 511).toNatClampNeg) fun z21 => bnd ((y21 + (((s22.1 pf ((1 * i22) + 0)).toInt64) * (ctL 2 z21)))) fun y22 => F_MR_back_8_0_L1 pf pt i21 kk n22 (i22 + 1) y22 s22
noncomputable def F_MR_back_8_0_L0 (pf : Nat) (pt : Nat) : Nat → Nat → Sto → Sto
  | 0, i21, s21 => s21
  | n21 + 1, i21, s21 => F_MR_back_8_0_L1 pf pt i21 (F_MR_back_8_0_L0 pf pt n21) 256 0 0 s21
noncomputable def F_MR_back_8_0 (pf : Nat) (pt : Nat) (s : Sto) : Sto := F_MR_back_8_0_L0 pf pt 256 0 s
set_option maxHeartbeats 400000 in
set_option maxRecDepth 100000 in
theorem N_MR_back_8_0 (l : Launch) (g : Gd) (sz : Nat) (T : TyN) (s : Sto) (pl : va_W) (hO : okn g T s pl) (hU : inj T) (h0 f to : Nat) (pf : Nat) (pt : Nat) (k_h0 : T h0 = some 181) (k_f : T f = some pf) (n_f : nsp pf = (0, 256, [])) (k_to : T to = some pt) (n_to : nsp pt = (0, 256, []))  : Met l y_MR_back w_MR_back ({ frames := 0, cells := 0, slots := 0, locals := 0 } : Room) (va_Pc [.ref h0, .ref f, .ref to, .int (nI 1), .int (nI 0)] (pr (en g) g.1 vcl sz ([] ++ pl))) (va_Qv (fun (u : (Sto) × va_W) => (u.1 = F_MR_back_8_0 pf pt s ∧ frm (M_MR_back_8_0 pt) s u.1 ∧ True) ∧ okn g T u.1 u.2) (po g.1 vcl (va_A ([] ++ pl) sz) (fun (u : (Sto) × va_W) => [] ++ u.2)) (va_A ([] ++ pl) sz)) 0 0 (va_A ([] ++ pl) sz) := by
  refine mc_entry (cc := c_MR_back) (maxL := 9) (ret := none) (by decide) rfl (Nat.le_of_ble_eq_true rfl) ?_
  intro p e s0 m args below meth c ls F hr hlk hnm hsz hP hD hE hA hl
  obtain ⟨hx, hb, hml, hown, hts⟩ := id F
  have hK := hE.1
  generalize va_A ([] ++ pl) sz = A at hD hE hA ⊢
  have hS : va_S A s0.heap s0.heap [] := va_S.rf
  have hl : lv_has ls 9 [(0, .ref h0), (1, .ref f), (2, .ref to), (3, .int (nI 1)), (4, .int (nI 0))] := hl
  have hR : F_MR_back_8_0 pf pt s = F_MR_back_8_0 pf pt s := rfl
  have hF : frm (M_MR_back_8_0 pt) s s := frm_rf
  refine lv_iconst (v := nI 0) hx hb dMR_back_0 (by decide) ?_
  refine lv_istore (lv' := [(5, .int (nI 0)), (0, .ref h0), (1, .ref f), (2, .ref to), (3, .int (nI 1)), (4, .int (nI 0))]) hx hb dMR_back_1 hl (by decide) rfl (fun ls hl => ?_)
  have lp21 : ∀ (n21 : Nat) (i21 : Nat) (s21 : Sto) (pl : va_W) (ls : Array Slot) (H : Heap) (locs : List Loc), n21 + i21 = 256 → frm (M_MR_back_8_0 pt) s s21 → F_MR_back_8_0 pf pt s = F_MR_back_8_0_L0 pf pt n21 i21 s21 → lv_has ls 9 [(5, .int (nI i21)), (0, .ref h0), (1, .ref f), (2, .ref to), (3, .int (nI 1)), (4, .int (nI 0))] → okn g T s21 pl → va_P g.1 vcl ([] ++ pl) H → va_D A ([] ++ pl) → va_S A s0.heap H locs → W p l e ({ frames := 0, cells := 0, slots := 0, locals := 0 } : Room) s0 m args below meth c H locs 0 0 (MQ below (va_Qv (fun (u : (Sto) × va_W) => (u.1 = F_MR_back_8_0 pf pt s ∧ frm (M_MR_back_8_0 pt) s u.1 ∧ True) ∧ okn g T u.1 u.2) (po g.1 vcl A (fun (u : (Sto) × va_W) => [] ++ u.2)) A) args s0 0 0 A) (F0 m 3 ls []) := by
    intro n21
    induction n21 with
    | zero =>
      intro i21 s21 pl ls H locs hm21 hF hR hl hO hP hD hS
      refine lv_iload hx hb dMR_back_3 (lv_at hl 0 rfl) ?_
      refine lv_aload_n hx hb dMR_back_5 rfl (lv_at hl 1 rfl) ?_
      refine nw_get (C := "LatticeKeysModel$Ring") (TT := T_MR) (N := 5) hx hb hts (wg_ft i_MR) hown hK hO k_h0 (kn := 181) (ci := 10) (fl := [(1, 8380417), (1, 256), (3, 182), (3, 183), (4, 8347681)]) rfl hP rfl 1 (by decide) (hts _ (wg_t kw_1363)) (fun _ h9 => h9) (cd := (1, 256)) rfl dMR_back_6 (fun v21 hv21 => ?_)
      obtain rfl := (show v21 = .int (nI 256) from hv21)
      refine mi_ge (tgt := 109) hx hb dMR_back_9 (by decide) (by omega) (by omega) (fun h21 => ?_) (fun h21 => absurd h21 (by omega))
      exact mp_vret hx hb hr hlk hP hD hS (s21, pl) ⟨⟨hR.symm, hF, trivial⟩, hO⟩ [] rfl rfl rfl (by omega) (by omega) dMR_back_109
    | succ n21 ih21 =>
      intro i21 s21 pl ls H locs hm21 hF hR hl hO hP hD hS
      refine lv_iload hx hb dMR_back_3 (lv_at hl 0 rfl) ?_
      refine lv_aload_n hx hb dMR_back_5 rfl (lv_at hl 1 rfl) ?_
      refine nw_get (C := "LatticeKeysModel$Ring") (TT := T_MR) (N := 5) hx hb hts (wg_ft i_MR) hown hK hO k_h0 (kn := 181) (ci := 10) (fl := [(1, 8380417), (1, 256), (3, 182), (3, 183), (4, 8347681)]) rfl hP rfl 1 (by decide) (hts _ (wg_t kw_1363)) (fun _ h9 => h9) (cd := (1, 256)) rfl dMR_back_6 (fun v22 hv22 => ?_)
      obtain rfl := (show v22 = .int (nI 256) from hv22)
      refine mi_ge (tgt := 109) hx hb dMR_back_9 (by decide) (by omega) (by omega) (fun h22 => absurd h22 (by omega)) (fun h22 => ?_)
      refine lv_lconst (v := 0) hx hb dMR_back_12 (by decide) ?_
      refine lv_lstore (lv' := [(6, .long 0), (5, .int (nI i21)), (0, .ref h0), (1, .ref f), (2, .ref to), (3, .int (nI 1)), (4, .int (nI 0))]) hx hb dMR_back_13 hl (by decide) rfl (fun ls hl => ?_)
      refine lv_iconst (v := nI 0) hx hb dMR_back_15 (by decide) ?_
      refine lv_istore (lv' := [(8, .int (nI 0)), (6, .long 0), (5, .int (nI i21)), (0, .ref h0), (1, .ref f), (2, .ref to), (3, .int (nI 1)), (4, .int (nI 0))]) hx hb dMR_back_16 hl (by decide) rfl (fun ls hl => ?_)
      have lp22 : ∀ (n22 : Nat) (i22 : Nat) (y21 : Int64) (s22 : Sto) (pl : va_W) (ls : Array Slot) (H : Heap) (locs : List Loc), n22 + i22 = 256 → frm (M_MR_back_8_0 pt) s s22 → F_MR_back_8_0 pf pt s = F_MR_back_8_0_L1 pf pt i21 (F_MR_back_8_0_L0 pf pt n21) n22 i22 y21 s22 → lv_has ls 9 [(8, .int (nI i22)), (6, .long y21), (5, .int (nI i21)), (0, .ref h0), (1, .ref f), (2, .ref to), (3, .int (nI 1)), (4, .int (nI 0))] → okn g T s22 pl → va_P g.1 vcl ([] ++ pl) H → va_D A ([] ++ pl) → va_S A s0.heap H locs → W p l e ({ frames := 0, cells := 0, slots := 0, locals := 0 } : Room) s0 m args below meth c H locs 0 0 (MQ below (va_Qv (fun (u : (Sto) × va_W) => (u.1 = F_MR_back_8_0 pf pt s ∧ frm (M_MR_back_8_0 pt) s u.1 ∧ True) ∧ okn g T u.1 u.2) (po g.1 vcl A (fun (u : (Sto) × va_W) => [] ++ u.2)) A) args s0 0 0 A) (F0 m 18 ls []) := by
        intro n22
        induction n22 with
        | zero =>
          intro i22 y21 s22 pl ls H locs hm22 hF hR hl hO hP hD hS
          refine lv_iload hx hb dMR_back_18 (lv_at hl 0 rfl) ?_
          refine lv_aload_n hx hb dMR_back_20 rfl (lv_at hl 3 rfl) ?_
          refine nw_get (C := "LatticeKeysModel$Ring") (TT := T_MR) (N := 5) hx hb hts (wg_ft i_MR) hown hK hO k_h0 (kn := 181) (ci := 10) (fl := [(1, 8380417), (1, 256), (3, 182), (3, 183), (4, 8347681)]) rfl hP rfl 1 (by decide) (hts _ (wg_t kw_1363)) (fun _ h9 => h9) (cd := (1, 256)) rfl dMR_back_21 (fun v23 hv23 => ?_)
          obtain rfl := (show v23 = .int (nI 256) from hv23)
          refine mi_ge (tgt := 74) hx hb dMR_back_24 (by decide) (by omega) (by omega) (fun h23 => ?_) (fun h23 => absurd h23 (by omega))
          refine lv_aload_n hx hb dMR_back_74 rfl (lv_at hl 5 rfl) ?_
          refine lv_iload_n hx hb dMR_back_75 rfl (lv_at hl 6 rfl) ?_
          refine lv_iload hx hb dMR_back_76 (lv_at hl 2 rfl) ?_
          refine mi_imul hx hb dMR_back_78 ?_
          refine lv_iload hx hb dMR_back_79 (lv_at hl 7 rfl) ?_
          refine mi_iadd hx hb dMR_back_81 ?_
          refine lv_lload hx hb dMR_back_82 (lv_at hl 1 rfl) ?_
          refine lv_aload_n hx hb dMR_back_84 rfl (lv_at hl 3 rfl) ?_
          refine nw_get (C := "LatticeKeysModel$Ring") (TT := T_MR) (N := 5) hx hb hts (wg_ft i_MR) hown hK hO k_h0 (kn := 181) (ci := 10) (fl := [(1, 8380417), (1, 256), (3, 182), (3, 183), (4, 8347681)]) rfl hP rfl 0 (by decide) (hts _ (wg_t kw_1362)) (fun _ h9 => h9) (cd := (1, 8380417)) rfl dMR_back_85 (fun v24 hv24 => ?_)
          obtain rfl := (show v24 = .int (nI 8380417) from hv24)
          refine lv_i2l hx hb dMR_back_88 rfl ?_
          refine lv_lrem hx hb dMR_back_89 (by decide) ?_
          refine lv_aload_n hx hb dMR_back_90 rfl (lv_at hl 3 rfl) ?_
          refine nw_get (C := "LatticeKeysModel$Ring") (TT := T_MR) (N := 5) hx hb hts (wg_ft i_MR) hown hK hO k_h0 (kn := 181) (ci := 10) (fl := [(1, 8380417), (1, 256), (3, 182), (3, 183), (4, 8347681)]) rfl hP rfl 4 (by decide) (hts _ (wg_t kw_1366)) (fun _ h9 => h9) (cd := (4, 8347681)) rfl dMR_back_91 (fun v25 hv25 => ?_)
          obtain rfl := (show v25 = .long (Int64.ofNat 8347681) from hv25)
          refine lv_lmul hx hb dMR_back_94 ?_
          refine lv_aload_n hx hb dMR_back_95 rfl (lv_at hl 3 rfl) ?_
          refine nw_get (C := "LatticeKeysModel$Ring") (TT := T_MR) (N := 5) hx hb hts (wg_ft i_MR) hown hK hO k_h0 (kn := 181) (ci := 10) (fl := [(1, 8380417), (1, 256), (3, 182), (3, 183), (4, 8347681)]) rfl hP rfl 0 (by decide) (hts _ (wg_t kw_1362)) (fun _ h9 => h9) (cd := (1, 8380417)) rfl dMR_back_96 (fun v26 hv26 => ?_)
          obtain rfl := (show v26 = .int (nI 8380417) from hv26)
          refine lv_i2l hx hb dMR_back_99 rfl ?_
          refine lv_lrem hx hb dMR_back_100 (by decide) ?_
          refine lv_l2i hx hb dMR_back_101 rfl ?_
          refine nw_iast hx hb hK hO hU k_to (k := pt) n_to hP hD hS (by omega) (by omega) dMR_back_102 (fun s23 pl H locs es21 hO hP hD hS => ?_)
          replace hR := bnd_step hR es21
          have hF := frm_sI hF es21 (by unfold M_MR_back_8_0; omega)
          refine mi_iinc (k := 2) (x := i21) (d := 1) (y := i21 + 1) (lv' := [(5, .int (nI (i21 + 1))), (8, .int (nI i22)), (6, .long y21), (0, .ref h0), (1, .ref f), (2, .ref to), (3, .int (nI 1)), (4, .int (nI 0))]) hx hb dMR_back_103 hl rfl (by decide) rfl (by decide) rfl (fun ls hl => ?_)
          refine lv_goto (tgt := 3) hx hb dMR_back_106 (by decide) ?_
          exact ih21 (i21 + 1) s23 pl ls H locs (by omega) hF hR (lv_sub hl [0, 3, 4, 5, 6, 7] rfl) hO hP hD hS
        | succ n22 ih22 =>
          intro i22 y21 s22 pl ls H locs hm22 hF hR hl hO hP hD hS
          refine lv_iload hx hb dMR_back_18 (lv_at hl 0 rfl) ?_
          refine lv_aload_n hx hb dMR_back_20 rfl (lv_at hl 3 rfl) ?_
          refine nw_get (C := "LatticeKeysModel$Ring") (TT := T_MR) (N := 5) hx hb hts (wg_ft i_MR) hown hK hO k_h0 (kn := 181) (ci := 10) (fl := [(1, 8380417), (1, 256), (3, 182), (3, 183), (4, 8347681)]) rfl hP rfl 1 (by decide) (hts _ (wg_t kw_1363)) (fun _ h9 => h9) (cd := (1, 256)) rfl dMR_back_21 (fun v27 hv27 => ?_)
          obtain rfl := (show v27 = .int (nI 256) from hv27)
          refine mi_ge (tgt := 74) hx hb dMR_back_24 (by decide) (by omega) (by omega) (fun h24 => absurd h24 (by omega)) (fun h24 => ?_)
          refine lv_lload hx hb dMR_back_27 (lv_at hl 1 rfl) ?_
          refine lv_aload_n hx hb dMR_back_29 rfl (lv_at hl 4 rfl) ?_
          refine lv_iload_n hx hb dMR_back_30 rfl (lv_at hl 6 rfl) ?_
          refine lv_iload hx hb dMR_back_31 (lv_at hl 0 rfl) ?_
          refine mi_imul hx hb dMR_back_33 ?_
          refine lv_iload hx hb dMR_back_34 (lv_at hl 7 rfl) ?_
          refine mi_iadd hx hb dMR_back_36 ?_
          refine nw_iald hx hb hK hO k_f (k := pf) n_f hP (by omega) (by omega) dMR_back_37 ?_
          refine lv_i2l hx hb dMR_back_38 rfl ?_
          refine lv_aload_n hx hb dMR_back_39 rfl (lv_at hl 3 rfl) ?_
          refine nw_get (C := "LatticeKeysModel$Ring") (TT := T_MR) (N := 5) hx hb hts (wg_ft i_MR) hown hK hO k_h0 (kn := 181) (ci := 10) (fl := [(1, 8380417), (1, 256), (3, 182), (3, 183), (4, 8347681)]) rfl hP rfl 2 (by decide) (hts _ (wg_t kw_1364)) (fun _ h9 => h9) (cd := (3, 182)) rfl dMR_back_40 (fun v28 hv28 => ?_)
          obtain ⟨r21, rfl, kr21⟩ := (show ∃ r : Nat, v28 = .ref r ∧ T r = some 182 from hv28)
          refine lv_aload_n hx hb dMR_back_43 rfl (lv_at hl 3 rfl) ?_
          refine nw_get (C := "LatticeKeysModel$Ring") (TT := T_MR) (N := 5) hx hb hts (wg_ft i_MR) hown hK hO k_h0 (kn := 181) (ci := 10) (fl := [(1, 8380417), (1, 256), (3, 182), (3, 183), (4, 8347681)]) rfl hP rfl 3 (by decide) (hts _ (wg_t kw_1365)) (fun _ h9 => h9) (cd := (3, 183)) rfl dMR_back_44 (fun v29 hv29 => ?_)
          obtain ⟨r22, rfl, kr22⟩ := (show ∃ r : Nat, v29 = .ref r ∧ T r = some 183 from hv29)
          refine lv_iload hx hb dMR_back_47 (lv_at hl 0 rfl) ?_
          refine nw_ialdT hx hb hK hO kr22 (k := 183) (d := 4) rfl hP (by omega) (by omega) dMR_back_49 ?_
          refine lv_ineg hx hb dMR_back_50 ?_
          refine lv_iload hx hb dMR_back_51 (lv_at hl 2 rfl) ?_
          refine lv_imul hx hb dMR_back_53 ?_
          refine lv_iconst (v := nI 2) hx hb dMR_back_54 (by decide) ?_
          refine lv_aload_n hx hb dMR_back_55 rfl (lv_at hl 3 rfl) ?_
          refine nw_get (C := "LatticeKeysModel$Ring") (TT := T_MR) (N := 5) hx hb hts (wg_ft i_MR) hown hK hO k_h0 (kn := 181) (ci := 10) (fl := [(1, 8380417), (1, 256), (3, 182), (3, 183), (4, 8347681)]) rfl hP rfl 1 (by decide) (hts _ (wg_t kw_1363)) (fun _ h9 => h9) (cd := (1, 256)) rfl dMR_back_56 (fun v30 hv30 => ?_)
          obtain rfl := (show v30 = .int (nI 256) from hv30)
          refine mi_imul hx hb dMR_back_59 ?_
          refine mi_as (show nI (2 * 256) = nI 512 from rfl) ?_
          refine lv_iconst (v := nI 1) hx hb dMR_back_60 (by decide) ?_
          refine mi_isub hx hb dMR_back_61 (by omega) ?_
          refine mi_as (show nI (512 - 1) = nI 511 from rfl) ?_
          refine mi_iandT hx hb 9 dMR_back_62 (by decide) (by decide) (fun z21 ez21 hz21 => ?_)
          have hz21 : z21 < 512 := hz21
          replace hR := bnd_step hR ez21
          refine nw_laldT hx hb hK hO kr21 (k := 182) (d := 2) rfl hP (by omega) (by omega) dMR_back_63 ?_
          refine lv_lmul hx hb dMR_back_64 ?_
          refine lv_ladd hx hb dMR_back_65 ?_
          refine ml_eqv (fun y22 ez22 => ?_)
          replace hR := bnd_step hR ez22
          refine lv_lstore (lv' := [(6, .long y22), (8, .int (nI i22)), (5, .int (nI i21)), (0, .ref h0), (1, .ref f), (2, .ref to), (3, .int (nI 1)), (4, .int (nI 0))]) hx hb dMR_back_66 hl (by decide) rfl (fun ls hl => ?_)
          refine mi_iinc (k := 1) (x := i22) (d := 1) (y := i22 + 1) (lv' := [(8, .int (nI (i22 + 1))), (6, .long y22), (5, .int (nI i21)), (0, .ref h0), (1, .ref f), (2, .ref to), (3, .int (nI 1)), (4, .int (nI 0))]) hx hb dMR_back_68 hl rfl (by decide) rfl (by decide) rfl (fun ls hl => ?_)
          refine lv_goto (tgt := 18) hx hb dMR_back_71 (by decide) ?_
          exact ih22 (i22 + 1) y22 s22 pl ls H locs (by omega) hF hR (lv_sub hl [0, 1, 2, 3, 4, 5, 6, 7] rfl) hO hP hD hS
      exact lp22 256 0 0 s21 pl ls _ _ (by omega) hF hR (lv_sub hl [0, 1, 2, 3, 4, 5, 6, 7] rfl) hO hP hD hS
  exact lp21 256 0 s pl ls _ _ (by omega) hF hR (lv_sub hl [0, 1, 2, 3, 4, 5] rfl) hO hP hD hS
def M_M_pack (pt : Nat) (k : Nat) : Prop := k = pt ∨ (0 : Nat) = 1
noncomputable def F_M_pack_L0 (pt : Nat) (bt : Nat) (v : Int32) : Nat → Nat → Sto → Sto
  | 0, i21, s21 => s21
  | n21 + 1, i21, s21 => bnd (((nI 1) <<< ((nI ((bt + i21) % 8)) &&& 31))) fun z21 => if ((v >>> ((nI i21) &&& 31)) &&& (nI 1)) = (nI 1) then bnd (sB s21 pt ((bt + i21) / 8) (((s21.1 pt ((bt + i21) / 8)) ||| (z21.toInt8.toInt32)).toInt8.toInt32)) fun s23 => F_M_pack_L0 pt bt v n21 (i21 + 1) s23 else bnd (sB s21 pt ((bt + i21) / 8) (((s21.1 pt ((bt + i21) / 8)) &&& ((z21 ^^^ (-1)).toInt8.toInt32)).toInt8.toInt32)) fun s22 => F_M_pack_L0 pt bt v n21 (i21 + 1) s22
noncomputable def F_M_pack (pt : Nat) (n : Nat) (bt : Nat) (bs : Nat) (v : Int32) (s : Sto) : Sto := F_M_pack_L0 pt bt v bs 0 s
set_option maxHeartbeats 8000000 in
set_option maxRecDepth 100000 in
theorem N_M_pack (l : Launch) (g : Gd) (sz : Nat) (T : TyN) (s : Sto) (pl : va_W) (hO : okn g T s pl) (hU : inj T) (to : Nat) (pt : Nat) (n : Nat) (bt : Nat) (bs : Nat) (v : Int32) (k_to : T to = some pt) (n_to : nsp pt = (1, n, [])) (h1 : bt + bs ≤ 8 * n) (h2 : n < 65536)  : Met l y_M_pack w_M_pack ({ frames := 0, cells := 0, slots := 0, locals := 0 } : Room) (va_Pc [.ref to, .int (nI bt), .int (nI bs), .int v] (pr (en g) g.1 vcl sz ([] ++ pl))) (va_Qv (fun (u : (Sto) × va_W) => (u.1 = F_M_pack pt n bt bs v s ∧ frm (M_M_pack pt) s u.1 ∧ True) ∧ okn g T u.1 u.2) (po g.1 vcl (va_A ([] ++ pl) sz) (fun (u : (Sto) × va_W) => [] ++ u.2)) (va_A ([] ++ pl) sz)) 0 0 (va_A ([] ++ pl) sz) := by
  refine mc_entry (cc := c_M_pack) (maxL := 7) (ret := none) (by decide) rfl (Nat.le_of_ble_eq_true rfl) ?_
  intro p e s0 m args below meth c ls F hr hlk hnm hsz hP hD hE hA hl
  obtain ⟨hx, hb, hml, hown, hts⟩ := id F
  have hK := hE.1
  generalize va_A ([] ++ pl) sz = A at hD hE hA ⊢
  have hS : va_S A s0.heap s0.heap [] := va_S.rf
  have hl : lv_has ls 7 [(0, .ref to), (1, .int (nI bt)), (2, .int (nI bs)), (3, .int v)] := hl
  have hR : F_M_pack pt n bt bs v s = F_M_pack pt n bt bs v s := rfl
  have hF : frm (M_M_pack pt) s s := frm_rf
  refine lv_iconst (v := nI 0) hx hb dM_pack_0 (by decide) ?_
  refine lv_istore (lv' := [(4, .int (nI 0)), (0, .ref to), (1, .int (nI bt)), (2, .int (nI bs)), (3, .int v)]) hx hb dM_pack_1 hl (by decide) rfl (fun ls hl => ?_)
  have lp21 : ∀ (n21 : Nat) (i21 : Nat) (s21 : Sto) (pl : va_W) (ls : Array Slot) (H : Heap) (locs : List Loc), n21 + i21 = bs → frm (M_M_pack pt) s s21 → F_M_pack pt n bt bs v s = F_M_pack_L0 pt bt v n21 i21 s21 → lv_has ls 7 [(4, .int (nI i21)), (0, .ref to), (1, .int (nI bt)), (2, .int (nI bs)), (3, .int v)] → okn g T s21 pl → va_P g.1 vcl ([] ++ pl) H → va_D A ([] ++ pl) → va_S A s0.heap H locs → W p l e ({ frames := 0, cells := 0, slots := 0, locals := 0 } : Room) s0 m args below meth c H locs 0 0 (MQ below (va_Qv (fun (u : (Sto) × va_W) => (u.1 = F_M_pack pt n bt bs v s ∧ frm (M_M_pack pt) s u.1 ∧ True) ∧ okn g T u.1 u.2) (po g.1 vcl A (fun (u : (Sto) × va_W) => [] ++ u.2)) A) args s0 0 0 A) (F0 m 3 ls []) := by
    intro n21
    induction n21 with
    | zero =>
      intro i21 s21 pl ls H locs hm21 hF hR hl hO hP hD hS
      refine lv_iload hx hb dM_pack_3 (lv_at hl 0 rfl) ?_
      refine lv_iload_n hx hb dM_pack_5 rfl (lv_at hl 3 rfl) ?_
      refine mi_ge (tgt := 73) hx hb dM_pack_6 (by decide) (by omega) (by omega) (fun h21 => ?_) (fun h21 => absurd h21 (by omega))
      exact mp_vret hx hb hr hlk hP hD hS (s21, pl) ⟨⟨hR.symm, hF, trivial⟩, hO⟩ [] rfl rfl rfl (by omega) (by omega) dM_pack_73
    | succ n21 ih21 =>
      intro i21 s21 pl ls H locs hm21 hF hR hl hO hP hD hS
      refine lv_iload hx hb dM_pack_3 (lv_at hl 0 rfl) ?_
      refine lv_iload_n hx hb dM_pack_5 rfl (lv_at hl 3 rfl) ?_
      refine mi_ge (tgt := 73) hx hb dM_pack_6 (by decide) (by omega) (by omega) (fun h22 => absurd h22 (by omega)) (fun h22 => ?_)
      refine lv_iload_n hx hb dM_pack_9 rfl (lv_at hl 2 rfl) ?_
      refine lv_iload hx hb dM_pack_10 (lv_at hl 0 rfl) ?_
      refine mi_iadd hx hb dM_pack_12 ?_
      refine lv_istore (lv' := [(5, .int (nI (bt + i21))), (4, .int (nI i21)), (0, .ref to), (1, .int (nI bt)), (2, .int (nI bs)), (3, .int v)]) hx hb dM_pack_13 hl (by decide) rfl (fun ls hl => ?_)
      refine lv_iconst (v := nI 1) hx hb dM_pack_15 (by decide) ?_
      refine lv_iload hx hb dM_pack_16 (lv_at hl 0 rfl) ?_
      refine lv_bipush (v := nI 8) hx hb dM_pack_18 (by decide) ?_
      refine mi_irem hx hb dM_pack_20 (by omega) (by omega) (by omega) ?_
      refine lv_ishl hx hb dM_pack_21 ?_
      refine mi_eqv (fun z21 ez21 => ?_)
      replace hR := bnd_step hR ez21
      refine lv_istore (lv' := [(6, .int z21), (5, .int (nI (bt + i21))), (4, .int (nI i21)), (0, .ref to), (1, .int (nI bt)), (2, .int (nI bs)), (3, .int v)]) hx hb dM_pack_22 hl (by decide) rfl (fun ls hl => ?_)
      refine lv_iload_n hx hb dM_pack_24 rfl (lv_at hl 6 rfl) ?_
      refine lv_iload hx hb dM_pack_25 (lv_at hl 2 rfl) ?_
      refine lv_ishr hx hb dM_pack_27 ?_
      refine lv_iconst (v := nI 1) hx hb dM_pack_28 (by decide) ?_
      refine lv_iand hx hb dM_pack_29 ?_
      refine lv_iconst (v := nI 1) hx hb dM_pack_30 (by decide) ?_
      refine lv_icmp_ne (tgt := 51) hx hb dM_pack_31 (by decide) (fun h23 => ?_) (fun h23 => ?_)
      · replace hR := hR.trans (if_neg h23)
        refine lv_aload_n hx hb dM_pack_51 rfl (lv_at hl 3 rfl) ?_
        refine lv_iload hx hb dM_pack_52 (lv_at hl 1 rfl) ?_
        refine lv_bipush (v := nI 8) hx hb dM_pack_54 (by decide) ?_
        refine mi_idiv hx hb dM_pack_56 (by omega) (by omega) (by omega) ?_
        refine lv_dup2_11 hx hb dM_pack_57 rfl rfl ?_
        refine nw_bald hx hb hK hO k_to (k := pt) n_to hP (by omega) (by omega) dM_pack_58 ?_
        refine lv_iload hx hb dM_pack_59 (lv_at hl 0 rfl) ?_
        refine lv_iconst (v := (-1)) hx hb dM_pack_61 (by decide) ?_
        refine lv_ixor hx hb dM_pack_62 ?_
        refine lv_i2b hx hb dM_pack_63 rfl ?_
        refine lv_iand hx hb dM_pack_64 ?_
        refine lv_i2b hx hb dM_pack_65 rfl ?_
        refine nw_bast hx hb hK hO hU k_to (k := pt) n_to hP hD hS (by omega) (by omega) dM_pack_66 (fun s22 pl H locs es21 hO hP hD hS => ?_)
        replace hR := bnd_step hR es21
        have hF := frm_sB hF es21 (by unfold M_M_pack; omega)
        refine mi_iinc (k := 2) (x := i21) (d := 1) (y := i21 + 1) (lv' := [(4, .int (nI (i21 + 1))), (6, .int z21), (5, .int (nI (bt + i21))), (0, .ref to), (1, .int (nI bt)), (2, .int (nI bs)), (3, .int v)]) hx hb dM_pack_67 hl rfl (by decide) rfl (by decide) rfl (fun ls hl => ?_)
        refine lv_goto (tgt := 3) hx hb dM_pack_70 (by decide) ?_
        exact ih21 (i21 + 1) s22 pl ls H locs (by omega) hF hR (lv_sub hl [0, 3, 4, 5, 6] rfl) hO hP hD hS
      · replace hR := hR.trans (if_pos h23)
        refine lv_aload_n hx hb dM_pack_34 rfl (lv_at hl 3 rfl) ?_
        refine lv_iload hx hb dM_pack_35 (lv_at hl 1 rfl) ?_
        refine lv_bipush (v := nI 8) hx hb dM_pack_37 (by decide) ?_
        refine mi_idiv hx hb dM_pack_39 (by omega) (by omega) (by omega) ?_
        refine lv_dup2_11 hx hb dM_pack_40 rfl rfl ?_
        refine nw_bald hx hb hK hO k_to (k := pt) n_to hP (by omega) (by omega) dM_pack_41 ?_
        refine lv_iload hx hb dM_pack_42 (lv_at hl 0 rfl) ?_
        refine lv_i2b hx hb dM_pack_44 rfl ?_
        refine lv_ior hx hb dM_pack_45 ?_
        refine lv_i2b hx hb dM_pack_46 rfl ?_
        refine nw_bast hx hb hK hO hU k_to (k := pt) n_to hP hD hS (by omega) (by omega) dM_pack_47 (fun s23 pl H locs es22 hO hP hD hS => ?_)
        replace hR := bnd_step hR es22
        have hF := frm_sB hF es22 (by unfold M_M_pack; omega)
        refine lv_goto (tgt := 67) hx hb dM_pack_48 (by decide) ?_
        refine mi_iinc (k := 2) (x := i21) (d := 1) (y := i21 + 1) (lv' := [(4, .int (nI (i21 + 1))), (6, .int z21), (5, .int (nI (bt + i21))), (0, .ref to), (1, .int (nI bt)), (2, .int (nI bs)), (3, .int v)]) hx hb dM_pack_67 hl rfl (by decide) rfl (by decide) rfl (fun ls hl => ?_)
        refine lv_goto (tgt := 3) hx hb dM_pack_70 (by decide) ?_
        exact ih21 (i21 + 1) s23 pl ls H locs (by omega) hF hR (lv_sub hl [0, 3, 4, 5, 6] rfl) hO hP hD hS
  exact lp21 bs 0 s pl ls _ _ (by omega) hF hR (lv_sub hl [0, 1, 2, 3, 4] rfl) hO hP hD hS
def M_M_unpack (k : Nat) : Prop := (0 : Nat) = 1
noncomputable def F_M_unpack_L0 (pr_ : Nat) (bt : Nat) : Nat → Int32 → Sto → Int32 × Sto
  | 0, z21, s21 => (z21, s21)
  | n21 + 1, z21, s21 => bnd ((((nI 2) * z21) + (((s21.1 pr_ ((bt + n21) / 8)) >>> ((nI ((bt + n21) % 8)) &&& 31)) &&& (nI 1)))) fun z22 => F_M_unpack_L0 pr_ bt n21 z22 s21
noncomputable def F_M_unpack (pr_ : Nat) (n : Nat) (bt : Nat) (bs : Nat) (s : Sto) : Int32 × Sto := F_M_unpack_L0 pr_ bt bs (nI 0) s
set_option maxHeartbeats 8000000 in
set_option maxRecDepth 100000 in
theorem N_M_unpack (l : Launch) (g : Gd) (sz : Nat) (T : TyN) (s : Sto) (pl : va_W) (hO : okn g T s pl) (hU : inj T) (fr : Nat) (pr_ : Nat) (n : Nat) (bt : Nat) (bs : Nat) (k_fr : T fr = some pr_) (n_fr : nsp pr_ = (1, n, [])) (h1 : bt + bs ≤ 8 * n) (h2 : n < 65536) (h3 : 0 < bs)  : Met l y_M_unpack w_M_unpack ({ frames := 0, cells := 0, slots := 0, locals := 0 } : Room) (va_Pc [.ref fr, .int (nI bt), .int (nI bs)] (pr (en g) g.1 vcl sz ([] ++ pl))) (va_Qi (fun (r : Int32) (u : (Int32 × Sto) × va_W) => (u.1 = F_M_unpack pr_ n bt bs s ∧ r = u.1.1 ∧ frm (M_M_unpack) s u.1.2 ∧ True) ∧ okn g T u.1.2 u.2) (po g.1 vcl (va_A ([] ++ pl) sz) (fun (u : (Int32 × Sto) × va_W) => [] ++ u.2)) (va_A ([] ++ pl) sz)) 0 0 (va_A ([] ++ pl) sz) := by
  refine mc_entry (cc := c_M_unpack) (maxL := 5) (ret := (some .int)) (by decide) rfl (Nat.le_of_ble_eq_true rfl) ?_
  intro p e s0 m args below meth c ls F hr hlk hnm hsz hP hD hE hA hl
  obtain ⟨hx, hb, hml, hown, hts⟩ := id F
  have hK := hE.1
  generalize va_A ([] ++ pl) sz = A at hD hE hA ⊢
  have hS : va_S A s0.heap s0.heap [] := va_S.rf
  have hl : lv_has ls 5 [(0, .ref fr), (1, .int (nI bt)), (2, .int (nI bs))] := hl
  have hR : F_M_unpack pr_ n bt bs s = F_M_unpack pr_ n bt bs s := rfl
  have hF : frm (M_M_unpack) s s := frm_rf
  refine lv_iconst (v := nI 0) hx hb dM_unpack_0 (by decide) ?_
  refine lv_istore_n (lv' := [(3, .int (nI 0)), (0, .ref fr), (1, .int (nI bt)), (2, .int (nI bs))]) hx hb dM_unpack_1 rfl hl (by decide) rfl (fun ls hl => ?_)
  refine lv_iload_n hx hb dM_unpack_2 rfl (lv_at hl 3 rfl) ?_
  refine lv_iconst (v := nI 1) hx hb dM_unpack_3 (by decide) ?_
  refine lv_isub hx hb dM_unpack_4 ?_
  refine mi_as (show nI bs - nI 1 = nI bs - 1 from rfl) ?_
  refine lv_istore (lv' := [(4, .int (nI bs - 1)), (3, .int (nI 0)), (0, .ref fr), (1, .int (nI bt)), (2, .int (nI bs))]) hx hb dM_unpack_5 hl (by decide) rfl (fun ls hl => ?_)
  have lp21 : ∀ (n21 : Nat) (z21 : Int32) (s21 : Sto) (pl : va_W) (ls : Array Slot) (H : Heap) (locs : List Loc), n21 ≤ bs → frm (M_M_unpack) s s21 → F_M_unpack pr_ n bt bs s = F_M_unpack_L0 pr_ bt n21 z21 s21 → lv_has ls 5 [(4, .int (nI n21 - 1)), (3, .int z21), (0, .ref fr), (1, .int (nI bt))] → okn g T s21 pl → va_P g.1 vcl ([] ++ pl) H → va_D A ([] ++ pl) → va_S A s0.heap H locs → W p l e ({ frames := 0, cells := 0, slots := 0, locals := 0 } : Room) s0 m args below meth c H locs 0 0 (MQ below (va_Qi (fun (r : Int32) (u : (Int32 × Sto) × va_W) => (u.1 = F_M_unpack pr_ n bt bs s ∧ r = u.1.1 ∧ frm (M_M_unpack) s u.1.2 ∧ True) ∧ okn g T u.1.2 u.2) (po g.1 vcl A (fun (u : (Int32 × Sto) × va_W) => [] ++ u.2)) A) args s0 0 0 A) (F0 m 7 ls []) := by
    intro n21
    induction n21 with
    | zero =>
      intro z21 s21 pl ls H locs hm21 hF hR hl hO hP hD hS
      refine lv_iload hx hb dM_unpack_7 (lv_at hl 0 rfl) ?_
      refine lv_if_lt (tgt := 42) hx hb dM_unpack_9 (by decide) (fun h21 => ?_) (fun h21 => absurd h21 (by decide))
      refine lv_iload_n hx hb dM_unpack_42 rfl (lv_at hl 1 rfl) ?_
      exact mp_iret hx hb hr hlk hP hD hS ((z21, s21), pl) ⟨⟨hR.symm, rfl, hF, trivial⟩, hO⟩ [] rfl rfl rfl (by omega) (by omega) dM_unpack_43
    | succ n21 ih21 =>
      intro z21 s21 pl ls H locs hm21 hF hR hl hO hP hD hS
      rw [nI_dn] at hl
      refine lv_iload hx hb dM_unpack_7 (lv_at hl 0 rfl) ?_
      refine lv_if_lt (tgt := 42) hx hb dM_unpack_9 (by decide) (fun h22 => absurd h22 (nI_pos (by omega))) (fun h22 => ?_)
      refine lv_iconst (v := nI 2) hx hb dM_unpack_12 (by decide) ?_
      refine lv_iload_n hx hb dM_unpack_13 rfl (lv_at hl 1 rfl) ?_
      refine lv_imul hx hb dM_unpack_14 ?_
      refine lv_aload_n hx hb dM_unpack_15 rfl (lv_at hl 2 rfl) ?_
      refine lv_iload_n hx hb dM_unpack_16 rfl (lv_at hl 3 rfl) ?_
      refine lv_iload hx hb dM_unpack_17 (lv_at hl 0 rfl) ?_
      refine mi_iadd hx hb dM_unpack_19 ?_
      refine lv_bipush (v := nI 8) hx hb dM_unpack_20 (by decide) ?_
      refine mi_idiv hx hb dM_unpack_22 (by omega) (by omega) (by omega) ?_
      refine nw_bald hx hb hK hO k_fr (k := pr_) n_fr hP (by omega) (by omega) dM_unpack_23 ?_
      refine lv_iload_n hx hb dM_unpack_24 rfl (lv_at hl 3 rfl) ?_
      refine lv_iload hx hb dM_unpack_25 (lv_at hl 0 rfl) ?_
      refine mi_iadd hx hb dM_unpack_27 ?_
      refine lv_bipush (v := nI 8) hx hb dM_unpack_28 (by decide) ?_
      refine mi_irem hx hb dM_unpack_30 (by omega) (by omega) (by omega) ?_
      refine lv_ishr hx hb dM_unpack_31 ?_
      refine lv_iconst (v := nI 1) hx hb dM_unpack_32 (by decide) ?_
      refine lv_iand hx hb dM_unpack_33 ?_
      refine lv_iadd hx hb dM_unpack_34 ?_
      refine mi_eqv (fun z22 ez21 => ?_)
      replace hR := bnd_step hR ez21
      refine lv_istore_n (lv' := [(3, .int z22), (4, .int (nI n21)), (0, .ref fr), (1, .int (nI bt))]) hx hb dM_unpack_35 rfl hl (by decide) rfl (fun ls hl => ?_)
      refine lv_iinc (k := 1) (v := nI n21 - 1) (lv' := [(4, .int (nI n21 - 1)), (3, .int z22), (0, .ref fr), (1, .int (nI bt))]) hx hb dM_unpack_36 hl rfl nI_dm (by decide) rfl (fun ls hl => ?_)
      refine lv_goto (tgt := 7) hx hb dM_unpack_39 (by decide) ?_
      exact ih21 z22 s21 pl ls H locs (by omega) hF hR (lv_sub hl [0, 1, 2, 3] rfl) hO hP hD hS
  exact lp21 bs (nI 0) s pl ls _ _ (by omega) hF hR (lv_sub hl [0, 1, 2, 3] rfl) hO hP hD hS
